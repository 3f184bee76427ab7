theorem dL_isLettered_286 : decode cL_isLettered 286 = .ok (.aload_n 1, 1) := by decide +kernel
theorem dL_isLettered_287 : decode cL_isLettered 287 = .ok (.iload 10, 2) := by decide +kernel
theorem dL_isLettered_289 : decode cL_isLettered 289 = .ok (.laload, 1) := by decide +kernel
theorem dL_isLettered_290 : decode cL_isLettered 290 = .ok (.iload 11, 2) := by decide +kernel
theorem dL_isLettered_292 : decode cL_isLettered 292 = .ok (.invokestatic 13, 3) := by decide +kernel
theorem dL_isLettered_295 : decode cL_isLettered 295 = .ok (.if_icmp .ne 18, 3) := by decide +kernel
theorem dL_isLettered_298 : decode cL_isLettered 298 = .ok (.iload 11, 2) := by decide +kernel
theorem dL_isLettered_300 : decode cL_isLettered 300 = .ok (.iconst 1, 1) := by decide +kernel
theorem dL_isLettered_301 : decode cL_isLettered 301 = .ok (.iadd, 1) := by decide +kernel
theorem dL_isLettered_302 : decode cL_isLettered 302 = .ok (.bipush 12, 2) := by decide +kernel
theorem dL_isLettered_304 : decode cL_isLettered 304 = .ok (.irem, 1) := by decide +kernel
theorem dL_isLettered_305 : decode cL_isLettered 305 = .ok (.istore 11, 2) := by decide +kernel
theorem dL_isLettered_307 : decode cL_isLettered 307 = .ok (.iinc 12 1, 3) := by decide +kernel
theorem dL_isLettered_310 : decode cL_isLettered 310 = .ok (.goto (-46), 3) := by decide +kernel
theorem dL_isLettered_313 : decode cL_isLettered 313 = .ok (.aload_n 2, 1) := by decide +kernel
theorem dL_isLettered_314 : decode cL_isLettered 314 = .ok (.iconst 4, 1) := by decide +kernel
theorem dL_isLettered_315 : decode cL_isLettered 315 = .ok (.iload 8, 2) := by decide +kernel
theorem dL_isLettered_317 : decode cL_isLettered 317 = .ok (.imul, 1) := by decide +kernel
theorem dL_isLettered_318 : decode cL_isLettered 318 = .ok (.iconst 3, 1) := by decide +kernel
theorem dL_isLettered_319 : decode cL_isLettered 319 = .ok (.iadd, 1) := by decide +kernel
theorem dL_isLettered_320 : decode cL_isLettered 320 = .ok (.iaload, 1) := by decide +kernel
theorem dL_isLettered_321 : decode cL_isLettered 321 = .ok (.iload 9, 2) := by decide +kernel
theorem dL_isLettered_323 : decode cL_isLettered 323 = .ok (.if_icmp .ne 41, 3) := by decide +kernel
theorem dL_isLettered_326 : decode cL_isLettered 326 = .ok (.aload_n 2, 1) := by decide +kernel
theorem dL_isLettered_327 : decode cL_isLettered 327 = .ok (.iconst 4, 1) := by decide +kernel
theorem dL_isLettered_328 : decode cL_isLettered 328 = .ok (.iload 10, 2) := by decide +kernel
theorem dL_isLettered_330 : decode cL_isLettered 330 = .ok (.imul, 1) := by decide +kernel
theorem dL_isLettered_331 : decode cL_isLettered 331 = .ok (.iconst 3, 1) := by decide +kernel
theorem dL_isLettered_332 : decode cL_isLettered 332 = .ok (.iadd, 1) := by decide +kernel
theorem dL_isLettered_333 : decode cL_isLettered 333 = .ok (.iaload, 1) := by decide +kernel
theorem dL_isLettered_334 : decode cL_isLettered 334 = .ok (.iload 9, 2) := by decide +kernel
theorem dL_isLettered_336 : decode cL_isLettered 336 = .ok (.if_icmp .ne 28, 3) := by decide +kernel
theorem dL_isLettered_339 : decode cL_isLettered 339 = .ok (.aload_n 1, 1) := by decide +kernel
theorem dL_isLettered_340 : decode cL_isLettered 340 = .ok (.iload 8, 2) := by decide +kernel
theorem dL_isLettered_342 : decode cL_isLettered 342 = .ok (.laload, 1) := by decide +kernel
theorem dL_isLettered_343 : decode cL_isLettered 343 = .ok (.iload 11, 2) := by decide +kernel
theorem dL_isLettered_345 : decode cL_isLettered 345 = .ok (.invokestatic 13, 3) := by decide +kernel
theorem dL_isLettered_348 : decode cL_isLettered 348 = .ok (.aload_n 1, 1) := by decide +kernel
theorem dL_isLettered_349 : decode cL_isLettered 349 = .ok (.iload 10, 2) := by decide +kernel
theorem dL_isLettered_351 : decode cL_isLettered 351 = .ok (.laload, 1) := by decide +kernel
theorem dL_isLettered_352 : decode cL_isLettered 352 = .ok (.iload 11, 2) := by decide +kernel
theorem dL_isLettered_354 : decode cL_isLettered 354 = .ok (.invokestatic 13, 3) := by decide +kernel
theorem dL_isLettered_357 : decode cL_isLettered 357 = .ok (.if_icmp .eq 7, 3) := by decide +kernel
theorem dL_isLettered_360 : decode cL_isLettered 360 = .ok (.iconst 1, 1) := by decide +kernel
theorem dL_isLettered_361 : decode cL_isLettered 361 = .ok (.goto 4, 3) := by decide +kernel
theorem dL_isLettered_364 : decode cL_isLettered 364 = .ok (.iconst 0, 1) := by decide +kernel
theorem dL_isLettered_365 : decode cL_isLettered 365 = .ok (.istore 12, 2) := by decide +kernel
theorem dL_isLettered_367 : decode cL_isLettered 367 = .ok (.aload 5, 2) := by decide +kernel
theorem dL_isLettered_369 : decode cL_isLettered 369 = .ok (.iconst 3, 1) := by decide +kernel
theorem dL_isLettered_370 : decode cL_isLettered 370 = .ok (.iaload, 1) := by decide +kernel
theorem dL_isLettered_371 : decode cL_isLettered 371 = .ok (.bipush 40, 2) := by decide +kernel
theorem dL_isLettered_373 : decode cL_isLettered 373 = .ok (.if_icmp .ne 10, 3) := by decide +kernel
theorem dL_isLettered_376 : decode cL_isLettered 376 = .ok (.iload 12, 2) := by decide +kernel
theorem dL_isLettered_378 : decode cL_isLettered 378 = .ok (.ifCond .eq 5, 3) := by decide +kernel
theorem dL_isLettered_381 : decode cL_isLettered 381 = .ok (.iconst 1, 1) := by decide +kernel
theorem dL_isLettered_382 : decode cL_isLettered 382 = .ok (.ireturn, 1) := by decide +kernel
theorem dL_isLettered_383 : decode cL_isLettered 383 = .ok (.iload 12, 2) := by decide +kernel
theorem dL_isLettered_385 : decode cL_isLettered 385 = .ok (.ifCond .eq 84, 3) := by decide +kernel
theorem dL_isLettered_388 : decode cL_isLettered 388 = .ok (.aload_n 3, 1) := by decide +kernel
theorem dL_isLettered_389 : decode cL_isLettered 389 = .ok (.aload 5, 2) := by decide +kernel
theorem dL_isLettered_391 : decode cL_isLettered 391 = .ok (.iconst 3, 1) := by decide +kernel
theorem dL_isLettered_392 : decode cL_isLettered 392 = .ok (.iaload, 1) := by decide +kernel
theorem dL_isLettered_393 : decode cL_isLettered 393 = .ok (.bipush 100, 2) := by decide +kernel
theorem dL_isLettered_395 : decode cL_isLettered 395 = .ok (.iload 11, 2) := by decide +kernel
theorem dL_isLettered_397 : decode cL_isLettered 397 = .ok (.invokestatic 45, 3) := by decide +kernel
theorem dL_isLettered_400 : decode cL_isLettered 400 = .ok (.imul, 1) := by decide +kernel
theorem dL_isLettered_401 : decode cL_isLettered 401 = .ok (.bipush 10, 2) := by decide +kernel
theorem dL_isLettered_403 : decode cL_isLettered 403 = .ok (.aload_n 1, 1) := by decide +kernel
theorem dL_isLettered_404 : decode cL_isLettered 404 = .ok (.iload 8, 2) := by decide +kernel
theorem dL_isLettered_406 : decode cL_isLettered 406 = .ok (.laload, 1) := by decide +kernel
theorem dL_isLettered_407 : decode cL_isLettered 407 = .ok (.iload 11, 2) := by decide +kernel
theorem dL_isLettered_409 : decode cL_isLettered 409 = .ok (.invokestatic 13, 3) := by decide +kernel
theorem dL_isLettered_412 : decode cL_isLettered 412 = .ok (.imul, 1) := by decide +kernel
theorem dL_isLettered_413 : decode cL_isLettered 413 = .ok (.iadd, 1) := by decide +kernel
theorem dL_isLettered_414 : decode cL_isLettered 414 = .ok (.aload_n 1, 1) := by decide +kernel
theorem dL_isLettered_415 : decode cL_isLettered 415 = .ok (.iload 10, 2) := by decide +kernel
theorem dL_isLettered_417 : decode cL_isLettered 417 = .ok (.laload, 1) := by decide +kernel
theorem dL_isLettered_418 : decode cL_isLettered 418 = .ok (.iload 11, 2) := by decide +kernel
theorem dL_isLettered_420 : decode cL_isLettered 420 = .ok (.invokestatic 13, 3) := by decide +kernel
theorem dL_isLettered_423 : decode cL_isLettered 423 = .ok (.iadd, 1) := by decide +kernel
theorem dL_isLettered_424 : decode cL_isLettered 424 = .ok (.iastore, 1) := by decide +kernel
theorem dL_isLettered_425 : decode cL_isLettered 425 = .ok (.aload_n 1, 1) := by decide +kernel
theorem dL_isLettered_426 : decode cL_isLettered 426 = .ok (.iload 8, 2) := by decide +kernel
theorem dL_isLettered_428 : decode cL_isLettered 428 = .ok (.aload_n 1, 1) := by decide +kernel
theorem dL_isLettered_429 : decode cL_isLettered 429 = .ok (.iload 8, 2) := by decide +kernel
theorem dL_isLettered_431 : decode cL_isLettered 431 = .ok (.laload, 1) := by decide +kernel
theorem dL_isLettered_432 : decode cL_isLettered 432 = .ok (.iload 11, 2) := by decide +kernel
theorem dL_isLettered_434 : decode cL_isLettered 434 = .ok (.aload_n 1, 1) := by decide +kernel
theorem dL_isLettered_435 : decode cL_isLettered 435 = .ok (.iload 10, 2) := by decide +kernel
theorem dL_isLettered_437 : decode cL_isLettered 437 = .ok (.laload, 1) := by decide +kernel
theorem dL_isLettered_438 : decode cL_isLettered 438 = .ok (.iload 11, 2) := by decide +kernel
theorem dL_isLettered_440 : decode cL_isLettered 440 = .ok (.invokestatic 13, 3) := by decide +kernel
theorem dL_isLettered_443 : decode cL_isLettered 443 = .ok (.invokestatic 156, 3) := by decide +kernel
theorem dL_isLettered_446 : decode cL_isLettered 446 = .ok (.lastore, 1) := by decide +kernel
theorem dL_isLettered_447 : decode cL_isLettered 447 = .ok (.aload 4, 2) := by decide +kernel
theorem dL_isLettered_449 : decode cL_isLettered 449 = .ok (.iload 9, 2) := by decide +kernel
theorem dL_isLettered_451 : decode cL_isLettered 451 = .ok (.dup2, 1) := by decide +kernel
theorem dL_isLettered_452 : decode cL_isLettered 452 = .ok (.laload, 1) := by decide +kernel
theorem dL_isLettered_453 : decode cL_isLettered 453 = .ok (.lconst 1, 1) := by decide +kernel
theorem dL_isLettered_454 : decode cL_isLettered 454 = .ok (.aload 5, 2) := by decide +kernel
theorem dL_isLettered_456 : decode cL_isLettered 456 = .ok (.iconst 3, 1) := by decide +kernel
theorem dL_isLettered_457 : decode cL_isLettered 457 = .ok (.iaload, 1) := by decide +kernel
theorem dL_isLettered_458 : decode cL_isLettered 458 = .ok (.lshl, 1) := by decide +kernel
theorem dL_isLettered_459 : decode cL_isLettered 459 = .ok (.lor, 1) := by decide +kernel
theorem dL_isLettered_460 : decode cL_isLettered 460 = .ok (.lastore, 1) := by decide +kernel
theorem dL_isLettered_461 : decode cL_isLettered 461 = .ok (.aload 5, 2) := by decide +kernel
theorem dL_isLettered_463 : decode cL_isLettered 463 = .ok (.iconst 3, 1) := by decide +kernel
theorem dL_isLettered_464 : decode cL_isLettered 464 = .ok (.dup2, 1) := by decide +kernel
theorem dL_isLettered_465 : decode cL_isLettered 465 = .ok (.iaload, 1) := by decide +kernel
theorem dL_isLettered_466 : decode cL_isLettered 466 = .ok (.iconst 1, 1) := by decide +kernel
theorem dL_isLettered_467 : decode cL_isLettered 467 = .ok (.iadd, 1) := by decide +kernel
theorem dL_isLettered_468 : decode cL_isLettered 468 = .ok (.iastore, 1) := by decide +kernel
theorem dL_isLettered_469 : decode cL_isLettered 469 = .ok (.aload_n 0, 1) := by decide +kernel
theorem dL_isLettered_470 : decode cL_isLettered 470 = .ok (.iload 9, 2) := by decide +kernel
theorem dL_isLettered_472 : decode cL_isLettered 472 = .ok (.iload 8, 2) := by decide +kernel
theorem dL_isLettered_474 : decode cL_isLettered 474 = .ok (.iload 10, 2) := by decide +kernel
theorem dL_isLettered_476 : decode cL_isLettered 476 = .ok (.iload 11, 2) := by decide +kernel
theorem dL_isLettered_478 : decode cL_isLettered 478 = .ok (.invokestatic 45, 3) := by decide +kernel
theorem dL_isLettered_481 : decode cL_isLettered 481 = .ok (.invokestatic 163, 3) := by decide +kernel
theorem dL_isLettered_484 : decode cL_isLettered 484 = .ok (.iload 12, 2) := by decide +kernel
theorem dL_isLettered_486 : decode cL_isLettered 486 = .ok (.ifCond .eq 12, 3) := by decide +kernel
theorem dL_isLettered_489 : decode cL_isLettered 489 = .ok (.aload 5, 2) := by decide +kernel
theorem dL_isLettered_491 : decode cL_isLettered 491 = .ok (.iconst 3, 1) := by decide +kernel
theorem dL_isLettered_492 : decode cL_isLettered 492 = .ok (.iaload, 1) := by decide +kernel
theorem dL_isLettered_493 : decode cL_isLettered 493 = .ok (.iconst 1, 1) := by decide +kernel
theorem dL_isLettered_494 : decode cL_isLettered 494 = .ok (.isub, 1) := by decide +kernel
theorem dL_isLettered_495 : decode cL_isLettered 495 = .ok (.goto 5, 3) := by decide +kernel
theorem dL_isLettered_498 : decode cL_isLettered 498 = .ok (.bipush (-7), 2) := by decide +kernel
theorem dL_isLettered_500 : decode cL_isLettered 500 = .ok (.if_icmp .ne 7, 3) := by decide +kernel
theorem dL_isLettered_503 : decode cL_isLettered 503 = .ok (.iconst 1, 1) := by decide +kernel
theorem dL_isLettered_504 : decode cL_isLettered 504 = .ok (.goto 4, 3) := by decide +kernel
theorem dL_isLettered_507 : decode cL_isLettered 507 = .ok (.iconst 0, 1) := by decide +kernel
theorem dL_isLettered_508 : decode cL_isLettered 508 = .ok (.ireturn, 1) := by decide +kernel
set_option maxRecDepth 100000 in
theorem sg_acts_isCopied_wsL_isCopied_r1 : ∀ w ∈ wsL_isCopied_r1, w ∈ wsL_acts := mem_ps [5, 6, 3, 7, 8, 9, 10, 11, 12, 13, 14, 15, 16, 17, 18, 19, 20, 21, 22, 23, 24, 25, 26, 27] (by decide +kernel)
set_option maxRecDepth 100000 in
theorem sg_acts_isCopied_wsL_isCopied_r2 : ∀ w ∈ wsL_isCopied_r2, w ∈ wsL_acts := mem_ps [28, 29, 30, 31, 32, 33, 34, 35, 36, 37, 38, 39, 40, 41, 42, 43, 44, 45, 46, 47, 48, 49, 50, 51] (by decide +kernel)
set_option maxRecDepth 100000 in
theorem sg_acts_isCopied_wsL_isCopied_r3 : ∀ w ∈ wsL_isCopied_r3, w ∈ wsL_acts := mem_ps [52, 53, 54, 55, 56, 57, 58, 59, 60, 61, 62, 63, 64, 65, 66, 67, 68, 69, 70, 71, 72, 73, 74, 75] (by decide +kernel)
set_option maxRecDepth 100000 in
theorem sg_acts_isCopied_wsL_isCopied_r4 : ∀ w ∈ wsL_isCopied_r4, w ∈ wsL_acts := mem_ps [76, 77, 78, 79, 80, 81, 82, 83, 84, 85, 86, 87, 88, 89, 90, 91, 92, 93, 94, 95, 96, 97, 98, 99] (by decide +kernel)
set_option maxRecDepth 100000 in
theorem sg_acts_isCopied_wsL_isCopied_r5 : ∀ w ∈ wsL_isCopied_r5, w ∈ wsL_acts := mem_ps [100, 101, 102, 103, 104, 105, 106, 107, 108, 109, 110, 111, 112, 113, 114, 115, 116, 117, 118, 119, 120, 121, 122, 123] (by decide +kernel)
set_option maxRecDepth 100000 in
theorem sg_acts_isCopied_wsL_isCopied_r6 : ∀ w ∈ wsL_isCopied_r6, w ∈ wsL_acts := mem_ps [124, 125, 126, 127, 128, 129, 130, 131, 132, 133, 134, 135, 136, 137, 138, 139, 140, 141, 142, 143, 144, 145, 146, 147] (by decide +kernel)
set_option maxRecDepth 100000 in
theorem sg_acts_isCopied_wsL_isCopied_r7 : ∀ w ∈ wsL_isCopied_r7, w ∈ wsL_acts := mem_ps [148, 149, 150, 151, 152, 153, 154, 155, 156, 157, 158, 159, 160, 161, 162, 163, 164, 165, 166, 167, 168, 169, 170, 171] (by decide +kernel)
set_option maxRecDepth 100000 in
theorem sg_acts_isCopied_wsL_isCopied_r8 : ∀ w ∈ wsL_isCopied_r8, w ∈ wsL_acts := mem_ps [172, 173, 174, 175, 176, 177, 178, 179, 180, 181, 182, 183, 184, 185, 186, 187, 188, 189, 190, 191, 192, 193, 194, 195] (by decide +kernel)
set_option maxRecDepth 100000 in
theorem sg_acts_isCopied_wsL_isCopied_r9 : ∀ w ∈ wsL_isCopied_r9, w ∈ wsL_acts := mem_ps [196, 197, 198, 199, 200, 201, 202, 203, 204, 205, 206, 207, 208, 209, 210, 211, 212, 213, 214, 215, 216, 217, 218, 219] (by decide +kernel)
set_option maxRecDepth 100000 in
theorem sg_acts_isCopied_wsL_isCopied_r10 : ∀ w ∈ wsL_isCopied_r10, w ∈ wsL_acts := mem_ps [220, 221, 222] (by decide +kernel)
set_option maxRecDepth 100000 in
theorem sg_acts_isCopied_wsX50 : ∀ w ∈ wsX50, w ∈ wsL_acts := mem_ps [337, 338, 339, 340, 341, 342, 343] (by decide +kernel)
set_option maxRecDepth 100000 in
theorem sg_acts_isCopied_wsX10 : ∀ w ∈ wsX10, w ∈ wsL_acts := mem_ps [344, 345] (by decide +kernel)
set_option maxRecDepth 100000 in
theorem sg_acts_isCopied_wsX00 : ∀ w ∈ wsX00, w ∈ wsL_acts := mem_ps [346, 347, 348, 349, 350, 351, 352] (by decide +kernel)
set_option maxRecDepth 100000 in
theorem sg_acts_isCopied_wsJx4a65c0 : ∀ w ∈ wsJx4a65c0, w ∈ wsL_acts := mem_ps [353, 354, 355] (by decide +kernel)
set_option maxRecDepth 100000 in
theorem ggL_acts_L_isCopied : GoodIn wsL_acts wsL_isCopied := goodIn_ca (goodIn_ca (goodIn_ca (goodIn_sub (List.forall_mem_cons.mpr ⟨List.mem_of_getElem? (i := 4) rfl, List.forall_mem_append.mpr ⟨List.forall_mem_append.mpr ⟨List.forall_mem_append.mpr ⟨List.forall_mem_append.mpr ⟨List.forall_mem_append.mpr ⟨sg_acts_isCopied_wsL_isCopied_r1, List.forall_mem_append.mpr ⟨sg_acts_isCopied_wsL_isCopied_r2, List.forall_mem_append.mpr ⟨sg_acts_isCopied_wsL_isCopied_r3, List.forall_mem_append.mpr ⟨sg_acts_isCopied_wsL_isCopied_r4, List.forall_mem_append.mpr ⟨sg_acts_isCopied_wsL_isCopied_r5, List.forall_mem_append.mpr ⟨sg_acts_isCopied_wsL_isCopied_r6, List.forall_mem_append.mpr ⟨sg_acts_isCopied_wsL_isCopied_r7, List.forall_mem_append.mpr ⟨sg_acts_isCopied_wsL_isCopied_r8, List.forall_mem_append.mpr ⟨sg_acts_isCopied_wsL_isCopied_r9, sg_acts_isCopied_wsL_isCopied_r10⟩⟩⟩⟩⟩⟩⟩⟩⟩, sg_acts_isCopied_wsX50⟩, sg_acts_isCopied_wsX10⟩, sg_acts_isCopied_wsX00⟩, sg_acts_isCopied_wsJx4a65c0⟩⟩) (by decide +kernel)) (goodIn_sub (fun _ h => List.mem_cons_of_mem _ (List.mem_append_left _ (List.mem_append_left _ (List.mem_append_right _ h)))) (by decide +kernel))) (goodIn_sub (fun _ h => List.mem_cons_of_mem _ (List.mem_append_left _ (List.mem_append_right _ h))) (by decide +kernel))) (goodIn_sub (fun _ h => List.mem_cons_of_mem _ (List.mem_append_right _ h)) (by decide +kernel))
set_option maxRecDepth 20000 in
theorem gL_acts_L_isCopied : GoodIn wsL_acts (va_wsS RL 167 yL_isCopied wsL_isCopied) := goodIn_app (goodIn_of _ (by decide +kernel)) ggL_acts_L_isCopied
set_option maxRecDepth 100000 in
theorem sg_acts_isLettered_wsL_isLettered_r1 : ∀ w ∈ wsL_isLettered_r1, w ∈ wsL_acts := mem_ps [99, 100, 3, 101, 102, 219, 220, 221, 222, 226, 227, 228, 11, 229, 230, 231, 15, 232, 19, 20, 113, 233, 234, 122] (by decide +kernel)
set_option maxRecDepth 100000 in
theorem sg_acts_isLettered_wsL_isLettered_r2 : ∀ w ∈ wsL_isLettered_r2, w ∈ wsL_acts := mem_ps [123, 124, 125, 26, 27, 126, 127, 59, 60, 61, 62, 63, 64, 65, 66, 67, 68, 69, 70, 71, 72, 73, 74, 75] (by decide +kernel)
set_option maxRecDepth 100000 in
theorem sg_acts_isLettered_wsL_isLettered_r3 : ∀ w ∈ wsL_isLettered_r3, w ∈ wsL_acts := mem_ps [76, 77, 78, 79, 80, 81, 53, 54, 55, 56, 57, 58, 235, 236, 237, 238, 239, 240, 241, 242, 243, 244, 245, 246] (by decide +kernel)
set_option maxRecDepth 100000 in
theorem sg_acts_isLettered_wsL_isLettered_r4 : ∀ w ∈ wsL_isLettered_r4, w ∈ wsL_acts := mem_ps [247, 248, 249, 250, 251, 252, 253, 203, 204, 205, 206, 118, 52, 207, 208, 209, 116, 210, 211, 212, 213, 214, 136, 138] (by decide +kernel)
set_option maxRecDepth 100000 in
theorem sg_acts_isLettered_wsL_isLettered_r5 : ∀ w ∈ wsL_isLettered_r5, w ∈ wsL_acts := mem_ps [215, 216, 217, 218, 135, 82, 83, 84, 85, 86, 87, 88, 89, 90, 91, 92, 5, 6, 7, 254, 255, 256, 257, 258] (by decide +kernel)
set_option maxRecDepth 100000 in
theorem sg_acts_isLettered_wsL_isLettered_r6 : ∀ w ∈ wsL_isLettered_r6, w ∈ wsL_acts := mem_ps [259, 260, 261, 262, 263, 23, 24, 25, 264, 265, 266, 267, 132, 133, 159, 160, 161, 162, 163, 164, 165, 166, 167, 168] (by decide +kernel)
set_option maxRecDepth 100000 in
theorem sg_acts_isLettered_wsL_isLettered_r7 : ∀ w ∈ wsL_isLettered_r7, w ∈ wsL_acts := mem_ps [169, 170, 171, 172, 173, 174, 175, 176, 177, 178, 179, 180, 181, 182, 183, 184, 185, 186, 187, 188, 189, 190, 157, 191] (by decide +kernel)
set_option maxRecDepth 100000 in
theorem sg_acts_isLettered_wsL_isLettered_r8 : ∀ w ∈ wsL_isLettered_r8, w ∈ wsL_acts := mem_ps [192, 193, 194, 195, 196, 197, 198, 199, 200, 201, 202, 143, 144, 145, 268, 269, 270, 271] (by decide +kernel)
set_option maxRecDepth 100000 in
theorem sg_acts_isLettered_wsX00 : ∀ w ∈ wsX00, w ∈ wsL_acts := mem_ps [346, 347, 348, 349, 350, 351, 352] (by decide +kernel)
set_option maxRecDepth 100000 in
theorem sg_acts_isLettered_wsX50 : ∀ w ∈ wsX50, w ∈ wsL_acts := mem_ps [337, 338, 339, 340, 341, 342, 343] (by decide +kernel)
set_option maxRecDepth 100000 in
theorem sg_acts_isLettered_wsJx4a65c0 : ∀ w ∈ wsJx4a65c0, w ∈ wsL_acts := mem_ps [353, 354, 355] (by decide +kernel)
set_option maxRecDepth 100000 in
theorem sg_acts_isLettered_wsX20 : ∀ w ∈ wsX20, w ∈ wsL_acts := mem_ps [356, 357, 358, 359] (by decide +kernel)
set_option maxRecDepth 100000 in
theorem sg_acts_isLettered_wsX30 : ∀ w ∈ wsX30, w ∈ wsL_acts := mem_ps [360, 361, 362] (by decide +kernel)
set_option maxRecDepth 100000 in
theorem ggL_acts_L_isLettered : GoodIn wsL_acts wsL_isLettered := goodIn_ca (goodIn_ca (goodIn_sub (List.forall_mem_cons.mpr ⟨List.mem_of_getElem? (i := 225) rfl, List.forall_mem_append.mpr ⟨List.forall_mem_append.mpr ⟨List.forall_mem_append.mpr ⟨List.forall_mem_append.mpr ⟨List.forall_mem_append.mpr ⟨List.forall_mem_append.mpr ⟨sg_acts_isLettered_wsL_isLettered_r1, List.forall_mem_append.mpr ⟨sg_acts_isLettered_wsL_isLettered_r2, List.forall_mem_append.mpr ⟨sg_acts_isLettered_wsL_isLettered_r3, List.forall_mem_append.mpr ⟨sg_acts_isLettered_wsL_isLettered_r4, List.forall_mem_append.mpr ⟨sg_acts_isLettered_wsL_isLettered_r5, List.forall_mem_append.mpr ⟨sg_acts_isLettered_wsL_isLettered_r6, List.forall_mem_append.mpr ⟨sg_acts_isLettered_wsL_isLettered_r7, sg_acts_isLettered_wsL_isLettered_r8⟩⟩⟩⟩⟩⟩⟩, sg_acts_isLettered_wsX00⟩, sg_acts_isLettered_wsX50⟩, sg_acts_isLettered_wsJx4a65c0⟩, sg_acts_isLettered_wsX20⟩, sg_acts_isLettered_wsX30⟩⟩) (by decide +kernel)) (goodIn_sub (fun _ h => List.mem_cons_of_mem _ (List.mem_append_left _ (List.mem_append_right _ h))) (by decide +kernel))) (goodIn_sub (fun _ h => List.mem_cons_of_mem _ (List.mem_append_right _ h)) (by decide +kernel))
set_option maxRecDepth 20000 in
theorem gL_acts_L_isLettered : GoodIn wsL_acts (va_wsS RL 171 yL_isLettered wsL_isLettered) := goodIn_app (goodIn_of _ (by decide +kernel)) ggL_acts_L_isLettered
set_option maxRecDepth 20000 in
theorem ggL_acts_L_lent : GoodIn wsL_acts wsL_lent := goodIn_ca (goodIn_ca (goodIn_ca (goodIn_r _ [274, 11, 275, 276, 277, 15, 278, 17, 18, 19, 20, 279, 113, 280, 281, 282, 283, 284, 285, 286, 53, 54, 55, 56, 26, 27, 57, 58, 59, 60, 61, 62, 63, 64, 65, 66, 67, 68, 69, 70, 71, 72, 73, 74, 75, 76, 77, 78, 79, 80, 81, 122, 123, 124, 125, 126, 127, 287, 288, 289, 290, 132, 133, 291, 292, 293, 294, 295, 296, 159, 160, 161, 162, 163, 164, 165, 166, 167, 168, 169, 170, 171, 172, 173, 174, 175, 176, 177, 178, 91, 88, 92, 179, 180, 181, 182, 183, 184, 185, 186, 187, 188, 189, 190, 157, 191, 192, 193, 194, 195, 196, 197, 198, 199, 200, 201, 87, 89, 202, 143, 144, 145, 297, 298, 299, 238, 300, 301, 236, 237, 239, 240, 302, 269, 270, 271, 346, 347, 348, 349, 350, 351, 352, 356, 357, 358, 359, 337, 338, 339, 340, 341, 342, 343, 363, 364, 365, 366, 367, 368, 353, 354, 355] (by decide +kernel) (by decide +kernel)) (goodIn_sub (fun _ h => List.mem_cons_of_mem _ (List.mem_append_left _ (List.mem_append_left _ (List.mem_append_right _ h)))) (by decide +kernel))) (goodIn_sub (fun _ h => List.mem_cons_of_mem _ (List.mem_append_left _ (List.mem_append_right _ h))) (by decide +kernel))) (goodIn_sub (fun _ h => List.mem_cons_of_mem _ (List.mem_append_right _ h)) (by decide +kernel))
set_option maxRecDepth 20000 in
theorem gL_acts_L_lent : GoodIn wsL_acts (va_wsS RL 175 yL_lent wsL_lent) := goodIn_app (goodIn_of _ (by decide +kernel)) ggL_acts_L_lent
set_option maxRecDepth 20000 in
theorem ggL_acts_L_late : GoodIn wsL_acts wsL_late := goodIn_r _ [305] (by decide +kernel) (by decide +kernel)
set_option maxRecDepth 20000 in
theorem gL_acts_L_late : GoodIn wsL_acts (va_wsS RL 107 yL_late wsL_late) := goodIn_app (goodIn_of _ (by decide +kernel)) ggL_acts_L_late
set_option maxRecDepth 20000 in
theorem ggL_acts_L_given : GoodIn wsL_acts wsL_given := goodIn_ca (goodIn_ca (goodIn_r _ [308, 11, 309, 310, 311, 15, 312, 19, 20, 313, 314, 315, 279, 285, 316, 286, 317, 280, 113, 318, 319, 320, 321, 26, 27, 281, 322, 59, 60, 61, 62, 63, 64, 65, 66, 67, 68, 69, 70, 71, 72, 73, 74, 75, 76, 77, 78, 79, 80, 81, 323, 324, 325, 284, 326, 296, 327, 328, 329, 330, 295, 331, 91, 88, 92, 332, 297, 298, 299, 238, 300, 301, 236, 237, 239, 240, 302, 269, 270, 271, 363, 364, 365, 366, 367, 368, 346, 347, 348, 349, 350, 351, 352, 337, 338, 339, 340, 341, 342, 343, 356, 357, 358, 359, 353, 354, 355] (by decide +kernel) (by decide +kernel)) (goodIn_sub (fun _ h => List.mem_cons_of_mem _ (List.mem_append_left _ (List.mem_append_right _ h))) (by decide +kernel))) (goodIn_sub (fun _ h => List.mem_cons_of_mem _ (List.mem_append_right _ h)) (by decide +kernel))
set_option maxRecDepth 20000 in
theorem gL_acts_L_given : GoodIn wsL_acts (va_wsS RL 178 yL_given wsL_given) := goodIn_app (goodIn_of _ (by decide +kernel)) ggL_acts_L_given
set_option maxRecDepth 20000 in
theorem ggL_acts_X5_pass : GoodIn wsL_acts wsX5_pass := goodIn_ca (goodIn_ca (goodIn_r _ [336, 17, 18, 19, 20, 285, 337, 338, 339, 340, 341, 342, 343] (by decide +kernel) (by decide +kernel)) (goodIn_sub (fun _ h => List.mem_cons_of_mem _ (List.mem_append_left _ (List.mem_append_left _ (List.mem_append_right _ h)))) (by decide +kernel))) (goodIn_sub (fun _ h => List.mem_cons_of_mem _ (List.mem_append_left _ (List.mem_append_right _ h))) (by decide +kernel))
set_option maxRecDepth 20000 in
theorem gL_acts_X5_pass : GoodIn wsL_acts (wsV RL 181 RX5 yX5_pass wsX5_pass) := goodIn_app (goodIn_of _ (by decide +kernel)) ggL_acts_X5_pass
theorem dL_acts_0 : decode cL_acts 0 = .ok (.iload 10, 2) := by decide +kernel
theorem dL_acts_2 : decode cL_acts 2 = .ok (.bipush 9, 2) := by decide +kernel
theorem dL_acts_4 : decode cL_acts 4 = .ok (.if_icmp .ge 19, 3) := by decide +kernel
theorem dL_acts_7 : decode cL_acts 7 = .ok (.aload_n 0, 1) := by decide +kernel
theorem dL_acts_8 : decode cL_acts 8 = .ok (.aload_n 1, 1) := by decide +kernel
theorem dL_acts_9 : decode cL_acts 9 = .ok (.aload_n 2, 1) := by decide +kernel
theorem dL_acts_10 : decode cL_acts 10 = .ok (.aload_n 3, 1) := by decide +kernel
theorem dL_acts_11 : decode cL_acts 11 = .ok (.aload 8, 2) := by decide +kernel
theorem dL_acts_13 : decode cL_acts 13 = .ok (.aload 9, 2) := by decide +kernel
theorem dL_acts_15 : decode cL_acts 15 = .ok (.iload 10, 2) := by decide +kernel
theorem dL_acts_17 : decode cL_acts 17 = .ok (.iload 11, 2) := by decide +kernel
theorem dL_acts_19 : decode cL_acts 19 = .ok (.invokestatic 167, 3) := by decide +kernel
theorem dL_acts_22 : decode cL_acts 22 = .ok (.ireturn, 1) := by decide +kernel
theorem dL_acts_23 : decode cL_acts 23 = .ok (.iload 10, 2) := by decide +kernel
theorem dL_acts_25 : decode cL_acts 25 = .ok (.bipush 14, 2) := by decide +kernel
theorem dL_acts_27 : decode cL_acts 27 = .ok (.if_icmp .ge 23, 3) := by decide +kernel
theorem dL_acts_30 : decode cL_acts 30 = .ok (.aload_n 0, 1) := by decide +kernel
theorem dL_acts_31 : decode cL_acts 31 = .ok (.aload_n 1, 1) := by decide +kernel
theorem dL_acts_32 : decode cL_acts 32 = .ok (.aload_n 2, 1) := by decide +kernel
theorem dL_acts_33 : decode cL_acts 33 = .ok (.aload 4, 2) := by decide +kernel
theorem dL_acts_35 : decode cL_acts 35 = .ok (.aload 5, 2) := by decide +kernel
theorem dL_acts_37 : decode cL_acts 37 = .ok (.aload 9, 2) := by decide +kernel
theorem dL_acts_39 : decode cL_acts 39 = .ok (.iload 10, 2) := by decide +kernel
theorem dL_acts_41 : decode cL_acts 41 = .ok (.bipush 9, 2) := by decide +kernel
theorem dL_acts_43 : decode cL_acts 43 = .ok (.isub, 1) := by decide +kernel
theorem dL_acts_44 : decode cL_acts 44 = .ok (.iload 11, 2) := by decide +kernel
theorem dL_acts_46 : decode cL_acts 46 = .ok (.invokestatic 171, 3) := by decide +kernel
theorem dL_acts_49 : decode cL_acts 49 = .ok (.ireturn, 1) := by decide +kernel
theorem dL_acts_50 : decode cL_acts 50 = .ok (.iload 10, 2) := by decide +kernel
theorem dL_acts_52 : decode cL_acts 52 = .ok (.bipush 17, 2) := by decide +kernel
theorem dL_acts_54 : decode cL_acts 54 = .ok (.if_icmp .ge 267, 3) := by decide +kernel
theorem dL_acts_57 : decode cL_acts 57 = .ok (.aload 9, 2) := by decide +kernel
theorem dL_acts_59 : decode cL_acts 59 = .ok (.iconst 4, 1) := by decide +kernel
theorem dL_acts_60 : decode cL_acts 60 = .ok (.iaload, 1) := by decide +kernel
theorem dL_acts_61 : decode cL_acts 61 = .ok (.bipush 10, 2) := by decide +kernel
theorem dL_acts_63 : decode cL_acts 63 = .ok (.if_icmp .ge 258, 3) := by decide +kernel
theorem dL_acts_66 : decode cL_acts 66 = .ok (.iload 11, 2) := by decide +kernel
theorem dL_acts_68 : decode cL_acts 68 = .ok (.aload 9, 2) := by decide +kernel
theorem dL_acts_70 : decode cL_acts 70 = .ok (.iconst 0, 1) := by decide +kernel
theorem dL_acts_71 : decode cL_acts 71 = .ok (.iaload, 1) := by decide +kernel
theorem dL_acts_72 : decode cL_acts 72 = .ok (.irem, 1) := by decide +kernel
theorem dL_acts_73 : decode cL_acts 73 = .ok (.istore 12, 2) := by decide +kernel
theorem dL_acts_75 : decode cL_acts 75 = .ok (.iload 11, 2) := by decide +kernel
theorem dL_acts_77 : decode cL_acts 77 = .ok (.bipush 16, 2) := by decide +kernel
theorem dL_acts_79 : decode cL_acts 79 = .ok (.idiv, 1) := by decide +kernel
theorem dL_acts_80 : decode cL_acts 80 = .ok (.iconst 5, 1) := by decide +kernel
theorem dL_acts_81 : decode cL_acts 81 = .ok (.irem, 1) := by decide +kernel
theorem dL_acts_82 : decode cL_acts 82 = .ok (.istore 13, 2) := by decide +kernel
theorem dL_acts_84 : decode cL_acts 84 = .ok (.iconst 1, 1) := by decide +kernel
theorem dL_acts_85 : decode cL_acts 85 = .ok (.iload 11, 2) := by decide +kernel
theorem dL_acts_87 : decode cL_acts 87 = .ok (.bipush 80, 2) := by decide +kernel
theorem dL_acts_89 : decode cL_acts 89 = .ok (.idiv, 1) := by decide +kernel
theorem dL_acts_90 : decode cL_acts 90 = .ok (.bipush 30, 2) := by decide +kernel
theorem dL_acts_92 : decode cL_acts 92 = .ok (.irem, 1) := by decide +kernel
theorem dL_acts_93 : decode cL_acts 93 = .ok (.iadd, 1) := by decide +kernel
theorem dL_acts_94 : decode cL_acts 94 = .ok (.istore 14, 2) := by decide +kernel
theorem dL_acts_96 : decode cL_acts 96 = .ok (.iload 11, 2) := by decide +kernel
theorem dL_acts_98 : decode cL_acts 98 = .ok (.sipush 2400, 3) := by decide +kernel
theorem dL_acts_101 : decode cL_acts 101 = .ok (.idiv, 1) := by decide +kernel
theorem dL_acts_102 : decode cL_acts 102 = .ok (.bipush 51, 2) := by decide +kernel
theorem dL_acts_104 : decode cL_acts 104 = .ok (.irem, 1) := by decide +kernel
theorem dL_acts_105 : decode cL_acts 105 = .ok (.istore 15, 2) := by decide +kernel
theorem dL_acts_107 : decode cL_acts 107 = .ok (.aload_n 2, 1) := by decide +kernel
theorem dL_acts_108 : decode cL_acts 108 = .ok (.iconst 4, 1) := by decide +kernel
theorem dL_acts_109 : decode cL_acts 109 = .ok (.iload 12, 2) := by decide +kernel
theorem dL_acts_111 : decode cL_acts 111 = .ok (.imul, 1) := by decide +kernel
theorem dL_acts_112 : decode cL_acts 112 = .ok (.iconst 2, 1) := by decide +kernel
theorem dL_acts_113 : decode cL_acts 113 = .ok (.iadd, 1) := by decide +kernel
theorem dL_acts_114 : decode cL_acts 114 = .ok (.iaload, 1) := by decide +kernel
theorem dL_acts_115 : decode cL_acts 115 = .ok (.iload 13, 2) := by decide +kernel
theorem dL_acts_117 : decode cL_acts 117 = .ok (.if_icmp .eq 36, 3) := by decide +kernel
theorem dL_acts_120 : decode cL_acts 120 = .ok (.aload_n 2, 1) := by decide +kernel
theorem dL_acts_121 : decode cL_acts 121 = .ok (.iconst 4, 1) := by decide +kernel
theorem dL_acts_122 : decode cL_acts 122 = .ok (.iload 12, 2) := by decide +kernel
theorem dL_acts_124 : decode cL_acts 124 = .ok (.imul, 1) := by decide +kernel
theorem dL_acts_125 : decode cL_acts 125 = .ok (.iconst 3, 1) := by decide +kernel
theorem dL_acts_126 : decode cL_acts 126 = .ok (.iadd, 1) := by decide +kernel
theorem dL_acts_127 : decode cL_acts 127 = .ok (.iaload, 1) := by decide +kernel
theorem dL_acts_128 : decode cL_acts 128 = .ok (.aload_n 2, 1) := by decide +kernel
theorem dL_acts_129 : decode cL_acts 129 = .ok (.iconst 4, 1) := by decide +kernel
theorem dL_acts_130 : decode cL_acts 130 = .ok (.iload 12, 2) := by decide +kernel
theorem dL_acts_132 : decode cL_acts 132 = .ok (.imul, 1) := by decide +kernel
theorem dL_acts_133 : decode cL_acts 133 = .ok (.iconst 2, 1) := by decide +kernel
theorem dL_acts_134 : decode cL_acts 134 = .ok (.iadd, 1) := by decide +kernel
theorem dL_acts_135 : decode cL_acts 135 = .ok (.iaload, 1) := by decide +kernel
theorem dL_acts_136 : decode cL_acts 136 = .ok (.if_icmp .ne 17, 3) := by decide +kernel
theorem dL_acts_139 : decode cL_acts 139 = .ok (.aload 7, 2) := by decide +kernel
theorem dL_acts_141 : decode cL_acts 141 = .ok (.iload 13, 2) := by decide +kernel
theorem dL_acts_143 : decode cL_acts 143 = .ok (.iaload, 1) := by decide +kernel
theorem dL_acts_144 : decode cL_acts 144 = .ok (.iload 15, 2) := by decide +kernel
theorem dL_acts_146 : decode cL_acts 146 = .ok (.if_icmp .lt 7, 3) := by decide +kernel
theorem dL_acts_149 : decode cL_acts 149 = .ok (.iconst 1, 1) := by decide +kernel
theorem dL_acts_150 : decode cL_acts 150 = .ok (.goto 4, 3) := by decide +kernel
theorem dL_acts_153 : decode cL_acts 153 = .ok (.iconst 0, 1) := by decide +kernel
theorem dL_acts_154 : decode cL_acts 154 = .ok (.istore 16, 2) := by decide +kernel
theorem dL_acts_156 : decode cL_acts 156 = .ok (.iload 16, 2) := by decide +kernel
theorem dL_acts_158 : decode cL_acts 158 = .ok (.ifCond .eq 126, 3) := by decide +kernel
theorem dL_acts_161 : decode cL_acts 161 = .ok (.bipush 6, 2) := by decide +kernel
theorem dL_acts_163 : decode cL_acts 163 = .ok (.aload 9, 2) := by decide +kernel
theorem dL_acts_165 : decode cL_acts 165 = .ok (.iconst 4, 1) := by decide +kernel
theorem dL_acts_166 : decode cL_acts 166 = .ok (.iaload, 1) := by decide +kernel
theorem dL_acts_167 : decode cL_acts 167 = .ok (.imul, 1) := by decide +kernel
theorem dL_acts_168 : decode cL_acts 168 = .ok (.istore 17, 2) := by decide +kernel
theorem dL_acts_170 : decode cL_acts 170 = .ok (.aload 6, 2) := by decide +kernel
theorem dL_acts_172 : decode cL_acts 172 = .ok (.iload 17, 2) := by decide +kernel
theorem dL_acts_174 : decode cL_acts 174 = .ok (.iload 12, 2) := by decide +kernel
theorem dL_acts_176 : decode cL_acts 176 = .ok (.iastore, 1) := by decide +kernel
theorem dL_acts_177 : decode cL_acts 177 = .ok (.aload 6, 2) := by decide +kernel
theorem dL_acts_179 : decode cL_acts 179 = .ok (.iload 17, 2) := by decide +kernel
theorem dL_acts_181 : decode cL_acts 181 = .ok (.iconst 1, 1) := by decide +kernel
theorem dL_acts_182 : decode cL_acts 182 = .ok (.iadd, 1) := by decide +kernel
theorem dL_acts_183 : decode cL_acts 183 = .ok (.iload 13, 2) := by decide +kernel
theorem dL_acts_185 : decode cL_acts 185 = .ok (.iastore, 1) := by decide +kernel
theorem dL_acts_186 : decode cL_acts 186 = .ok (.aload 6, 2) := by decide +kernel
theorem dL_acts_188 : decode cL_acts 188 = .ok (.iload 17, 2) := by decide +kernel
theorem dL_acts_190 : decode cL_acts 190 = .ok (.iconst 2, 1) := by decide +kernel
theorem dL_acts_191 : decode cL_acts 191 = .ok (.iadd, 1) := by decide +kernel
theorem dL_acts_192 : decode cL_acts 192 = .ok (.aload 9, 2) := by decide +kernel
theorem dL_acts_194 : decode cL_acts 194 = .ok (.iconst 2, 1) := by decide +kernel
theorem dL_acts_195 : decode cL_acts 195 = .ok (.iaload, 1) := by decide +kernel
theorem dL_acts_196 : decode cL_acts 196 = .ok (.iload 14, 2) := by decide +kernel
theorem dL_acts_198 : decode cL_acts 198 = .ok (.iadd, 1) := by decide +kernel
theorem dL_acts_199 : decode cL_acts 199 = .ok (.iastore, 1) := by decide +kernel
theorem dL_acts_200 : decode cL_acts 200 = .ok (.aload 6, 2) := by decide +kernel
theorem dL_acts_202 : decode cL_acts 202 = .ok (.iload 17, 2) := by decide +kernel
theorem dL_acts_204 : decode cL_acts 204 = .ok (.iconst 3, 1) := by decide +kernel
theorem dL_acts_205 : decode cL_acts 205 = .ok (.iadd, 1) := by decide +kernel
theorem dL_acts_206 : decode cL_acts 206 = .ok (.iload 15, 2) := by decide +kernel
theorem dL_acts_208 : decode cL_acts 208 = .ok (.iastore, 1) := by decide +kernel
theorem dL_acts_209 : decode cL_acts 209 = .ok (.aload 6, 2) := by decide +kernel
theorem dL_acts_211 : decode cL_acts 211 = .ok (.iload 17, 2) := by decide +kernel
theorem dL_acts_213 : decode cL_acts 213 = .ok (.iconst 4, 1) := by decide +kernel
theorem dL_acts_214 : decode cL_acts 214 = .ok (.iadd, 1) := by decide +kernel
theorem dL_acts_215 : decode cL_acts 215 = .ok (.iconst 0, 1) := by decide +kernel
theorem dL_acts_216 : decode cL_acts 216 = .ok (.iastore, 1) := by decide +kernel
theorem dL_acts_217 : decode cL_acts 217 = .ok (.aload 6, 2) := by decide +kernel
theorem dL_acts_219 : decode cL_acts 219 = .ok (.iload 17, 2) := by decide +kernel
theorem dL_acts_221 : decode cL_acts 221 = .ok (.iconst 5, 1) := by decide +kernel
theorem dL_acts_222 : decode cL_acts 222 = .ok (.iadd, 1) := by decide +kernel
theorem dL_acts_223 : decode cL_acts 223 = .ok (.iconst 0, 1) := by decide +kernel
theorem dL_acts_224 : decode cL_acts 224 = .ok (.iastore, 1) := by decide +kernel
theorem dL_acts_225 : decode cL_acts 225 = .ok (.aload 7, 2) := by decide +kernel
theorem dL_acts_227 : decode cL_acts 227 = .ok (.iload 13, 2) := by decide +kernel
theorem dL_acts_229 : decode cL_acts 229 = .ok (.dup2, 1) := by decide +kernel
theorem dL_acts_230 : decode cL_acts 230 = .ok (.iaload, 1) := by decide +kernel
theorem dL_acts_231 : decode cL_acts 231 = .ok (.iload 15, 2) := by decide +kernel
theorem dL_acts_233 : decode cL_acts 233 = .ok (.isub, 1) := by decide +kernel
theorem dL_acts_234 : decode cL_acts 234 = .ok (.iastore, 1) := by decide +kernel
theorem dL_acts_235 : decode cL_acts 235 = .ok (.aload 7, 2) := by decide +kernel
theorem dL_acts_237 : decode cL_acts 237 = .ok (.iconst 5, 1) := by decide +kernel
theorem dL_acts_238 : decode cL_acts 238 = .ok (.iload 13, 2) := by decide +kernel
theorem dL_acts_240 : decode cL_acts 240 = .ok (.iadd, 1) := by decide +kernel
theorem dL_acts_241 : decode cL_acts 241 = .ok (.dup2, 1) := by decide +kernel
theorem dL_acts_242 : decode cL_acts 242 = .ok (.iaload, 1) := by decide +kernel
theorem dL_acts_243 : decode cL_acts 243 = .ok (.iload 15, 2) := by decide +kernel
theorem dL_acts_245 : decode cL_acts 245 = .ok (.iadd, 1) := by decide +kernel
theorem dL_acts_246 : decode cL_acts 246 = .ok (.iastore, 1) := by decide +kernel
theorem dL_acts_247 : decode cL_acts 247 = .ok (.aload_n 2, 1) := by decide +kernel
theorem dL_acts_248 : decode cL_acts 248 = .ok (.iconst 4, 1) := by decide +kernel
theorem dL_acts_249 : decode cL_acts 249 = .ok (.iload 12, 2) := by decide +kernel
theorem dL_acts_251 : decode cL_acts 251 = .ok (.imul, 1) := by decide +kernel
theorem dL_acts_252 : decode cL_acts 252 = .ok (.iconst 3, 1) := by decide +kernel
theorem dL_acts_253 : decode cL_acts 253 = .ok (.iadd, 1) := by decide +kernel
theorem dL_acts_254 : decode cL_acts 254 = .ok (.iload 13, 2) := by decide +kernel
theorem dL_acts_256 : decode cL_acts 256 = .ok (.iastore, 1) := by decide +kernel
theorem dL_acts_257 : decode cL_acts 257 = .ok (.aload 5, 2) := by decide +kernel
theorem dL_acts_259 : decode cL_acts 259 = .ok (.iload 13, 2) := by decide +kernel
theorem dL_acts_261 : decode cL_acts 261 = .ok (.dup2, 1) := by decide +kernel
theorem dL_acts_262 : decode cL_acts 262 = .ok (.laload, 1) := by decide +kernel
theorem dL_acts_263 : decode cL_acts 263 = .ok (.aload 5, 2) := by decide +kernel
theorem dL_acts_265 : decode cL_acts 265 = .ok (.aload_n 2, 1) := by decide +kernel
theorem dL_acts_266 : decode cL_acts 266 = .ok (.iconst 4, 1) := by decide +kernel
theorem dL_acts_267 : decode cL_acts 267 = .ok (.iload 12, 2) := by decide +kernel
theorem dL_acts_269 : decode cL_acts 269 = .ok (.imul, 1) := by decide +kernel
theorem dL_acts_270 : decode cL_acts 270 = .ok (.iconst 2, 1) := by decide +kernel
theorem dL_acts_271 : decode cL_acts 271 = .ok (.iadd, 1) := by decide +kernel
theorem dL_acts_272 : decode cL_acts 272 = .ok (.iaload, 1) := by decide +kernel
theorem dL_acts_273 : decode cL_acts 273 = .ok (.laload, 1) := by decide +kernel
theorem dL_acts_274 : decode cL_acts 274 = .ok (.lor, 1) := by decide +kernel
theorem dL_acts_275 : decode cL_acts 275 = .ok (.lastore, 1) := by decide +kernel
theorem dL_acts_276 : decode cL_acts 276 = .ok (.aload 9, 2) := by decide +kernel
theorem dL_acts_278 : decode cL_acts 278 = .ok (.iconst 4, 1) := by decide +kernel
theorem dL_acts_279 : decode cL_acts 279 = .ok (.dup2, 1) := by decide +kernel
theorem dL_acts_280 : decode cL_acts 280 = .ok (.iaload, 1) := by decide +kernel
theorem dL_acts_281 : decode cL_acts 281 = .ok (.iconst 1, 1) := by decide +kernel
theorem dL_acts_282 : decode cL_acts 282 = .ok (.iadd, 1) := by decide +kernel
theorem dL_acts_283 : decode cL_acts 283 = .ok (.iastore, 1) := by decide +kernel
theorem dL_acts_284 : decode cL_acts 284 = .ok (.aload_n 0, 1) := by decide +kernel
theorem dL_acts_285 : decode cL_acts 285 = .ok (.iload 12, 2) := by decide +kernel
theorem dL_acts_287 : decode cL_acts 287 = .ok (.iload 13, 2) := by decide +kernel
theorem dL_acts_289 : decode cL_acts 289 = .ok (.iload 14, 2) := by decide +kernel
theorem dL_acts_291 : decode cL_acts 291 = .ok (.iload 15, 2) := by decide +kernel
theorem dL_acts_293 : decode cL_acts 293 = .ok (.invokestatic 175, 3) := by decide +kernel
theorem dL_acts_296 : decode cL_acts 296 = .ok (.iload 16, 2) := by decide +kernel
theorem dL_acts_298 : decode cL_acts 298 = .ok (.ifCond .eq 12, 3) := by decide +kernel
theorem dL_acts_301 : decode cL_acts 301 = .ok (.aload 9, 2) := by decide +kernel
theorem dL_acts_303 : decode cL_acts 303 = .ok (.iconst 4, 1) := by decide +kernel
theorem dL_acts_304 : decode cL_acts 304 = .ok (.iaload, 1) := by decide +kernel
theorem dL_acts_305 : decode cL_acts 305 = .ok (.iconst 1, 1) := by decide +kernel
theorem dL_acts_306 : decode cL_acts 306 = .ok (.isub, 1) := by decide +kernel
theorem dL_acts_307 : decode cL_acts 307 = .ok (.goto 5, 3) := by decide +kernel
theorem dL_acts_310 : decode cL_acts 310 = .ok (.bipush (-7), 2) := by decide +kernel
theorem dL_acts_312 : decode cL_acts 312 = .ok (.if_icmp .ne 7, 3) := by decide +kernel
theorem dL_acts_315 : decode cL_acts 315 = .ok (.iconst 1, 1) := by decide +kernel
theorem dL_acts_316 : decode cL_acts 316 = .ok (.goto 4, 3) := by decide +kernel
theorem dL_acts_319 : decode cL_acts 319 = .ok (.iconst 0, 1) := by decide +kernel
theorem dL_acts_320 : decode cL_acts 320 = .ok (.ireturn, 1) := by decide +kernel
theorem dL_acts_321 : decode cL_acts 321 = .ok (.iload 10, 2) := by decide +kernel
theorem dL_acts_323 : decode cL_acts 323 = .ok (.bipush 19, 2) := by decide +kernel
theorem dL_acts_325 : decode cL_acts 325 = .ok (.if_icmp .ge 243, 3) := by decide +kernel
theorem dL_acts_328 : decode cL_acts 328 = .ok (.aload 9, 2) := by decide +kernel
theorem dL_acts_330 : decode cL_acts 330 = .ok (.iconst 4, 1) := by decide +kernel
theorem dL_acts_331 : decode cL_acts 331 = .ok (.iaload, 1) := by decide +kernel
theorem dL_acts_332 : decode cL_acts 332 = .ok (.ifCond .le 236, 3) := by decide +kernel
theorem dL_acts_335 : decode cL_acts 335 = .ok (.iload 11, 2) := by decide +kernel
theorem dL_acts_337 : decode cL_acts 337 = .ok (.iconst 3, 1) := by decide +kernel
theorem dL_acts_338 : decode cL_acts 338 = .ok (.idiv, 1) := by decide +kernel
theorem dL_acts_339 : decode cL_acts 339 = .ok (.aload 9, 2) := by decide +kernel
theorem dL_acts_341 : decode cL_acts 341 = .ok (.iconst 4, 1) := by decide +kernel
theorem dL_acts_342 : decode cL_acts 342 = .ok (.iaload, 1) := by decide +kernel
theorem dL_acts_343 : decode cL_acts 343 = .ok (.irem, 1) := by decide +kernel
theorem dL_acts_344 : decode cL_acts 344 = .ok (.istore 12, 2) := by decide +kernel
theorem dL_acts_346 : decode cL_acts 346 = .ok (.bipush 6, 2) := by decide +kernel
theorem dL_acts_348 : decode cL_acts 348 = .ok (.iload 12, 2) := by decide +kernel
theorem dL_acts_350 : decode cL_acts 350 = .ok (.imul, 1) := by decide +kernel
theorem dL_acts_351 : decode cL_acts 351 = .ok (.istore 13, 2) := by decide +kernel
theorem dL_acts_353 : decode cL_acts 353 = .ok (.aload 6, 2) := by decide +kernel
theorem dL_acts_355 : decode cL_acts 355 = .ok (.iload 13, 2) := by decide +kernel
theorem dL_acts_357 : decode cL_acts 357 = .ok (.iconst 1, 1) := by decide +kernel
theorem dL_acts_358 : decode cL_acts 358 = .ok (.iadd, 1) := by decide +kernel
theorem dL_acts_359 : decode cL_acts 359 = .ok (.iaload, 1) := by decide +kernel
theorem dL_acts_360 : decode cL_acts 360 = .ok (.istore 14, 2) := by decide +kernel
theorem dL_acts_362 : decode cL_acts 362 = .ok (.aload_n 2, 1) := by decide +kernel
theorem dL_acts_363 : decode cL_acts 363 = .ok (.iconst 4, 1) := by decide +kernel
theorem dL_acts_364 : decode cL_acts 364 = .ok (.aload 6, 2) := by decide +kernel
theorem dL_acts_366 : decode cL_acts 366 = .ok (.iload 13, 2) := by decide +kernel
theorem dL_acts_368 : decode cL_acts 368 = .ok (.iaload, 1) := by decide +kernel
theorem dL_acts_369 : decode cL_acts 369 = .ok (.imul, 1) := by decide +kernel
theorem dL_acts_370 : decode cL_acts 370 = .ok (.iconst 2, 1) := by decide +kernel
theorem dL_acts_371 : decode cL_acts 371 = .ok (.iadd, 1) := by decide +kernel
theorem dL_acts_372 : decode cL_acts 372 = .ok (.iaload, 1) := by decide +kernel
theorem dL_acts_373 : decode cL_acts 373 = .ok (.istore 15, 2) := by decide +kernel
theorem dL_acts_375 : decode cL_acts 375 = .ok (.aload 6, 2) := by decide +kernel
theorem dL_acts_377 : decode cL_acts 377 = .ok (.aload 9, 2) := by decide +kernel
theorem dL_acts_379 : decode cL_acts 379 = .ok (.iload 12, 2) := by decide +kernel
theorem dL_acts_381 : decode cL_acts 381 = .ok (.invokestatic 107, 3) := by decide +kernel
theorem dL_acts_384 : decode cL_acts 384 = .ok (.istore 16, 2) := by decide +kernel
theorem dL_acts_386 : decode cL_acts 386 = .ok (.iload 16, 2) := by decide +kernel
theorem dL_acts_388 : decode cL_acts 388 = .ok (.ifCond .ne 7, 3) := by decide +kernel
theorem dL_acts_391 : decode cL_acts 391 = .ok (.iconst 0, 1) := by decide +kernel
theorem dL_acts_392 : decode cL_acts 392 = .ok (.goto 37, 3) := by decide +kernel
theorem dL_acts_395 : decode cL_acts 395 = .ok (.iload 16, 2) := by decide +kernel
theorem dL_acts_397 : decode cL_acts 397 = .ok (.bipush 10, 2) := by decide +kernel
theorem dL_acts_399 : decode cL_acts 399 = .ok (.if_icmp .le 13, 3) := by decide +kernel
theorem dL_acts_402 : decode cL_acts 402 = .ok (.aload 6, 2) := by decide +kernel
theorem dL_acts_404 : decode cL_acts 404 = .ok (.iload 13, 2) := by decide +kernel
theorem dL_acts_406 : decode cL_acts 406 = .ok (.iconst 3, 1) := by decide +kernel
theorem dL_acts_407 : decode cL_acts 407 = .ok (.iadd, 1) := by decide +kernel
theorem dL_acts_408 : decode cL_acts 408 = .ok (.iaload, 1) := by decide +kernel
theorem dL_acts_409 : decode cL_acts 409 = .ok (.goto 20, 3) := by decide +kernel
theorem dL_acts_412 : decode cL_acts 412 = .ok (.aload 6, 2) := by decide +kernel
theorem dL_acts_414 : decode cL_acts 414 = .ok (.iload 13, 2) := by decide +kernel
theorem dL_acts_416 : decode cL_acts 416 = .ok (.iconst 3, 1) := by decide +kernel
theorem dL_acts_417 : decode cL_acts 417 = .ok (.iadd, 1) := by decide +kernel
theorem dL_acts_418 : decode cL_acts 418 = .ok (.iaload, 1) := by decide +kernel
theorem dL_acts_419 : decode cL_acts 419 = .ok (.aload 6, 2) := by decide +kernel
theorem dL_acts_421 : decode cL_acts 421 = .ok (.iload 13, 2) := by decide +kernel
theorem dL_acts_423 : decode cL_acts 423 = .ok (.iconst 3, 1) := by decide +kernel
theorem dL_acts_424 : decode cL_acts 424 = .ok (.iadd, 1) := by decide +kernel
theorem dL_acts_425 : decode cL_acts 425 = .ok (.iaload, 1) := by decide +kernel
theorem dL_acts_426 : decode cL_acts 426 = .ok (.iconst 2, 1) := by decide +kernel
theorem dL_acts_427 : decode cL_acts 427 = .ok (.idiv, 1) := by decide +kernel
theorem dL_acts_428 : decode cL_acts 428 = .ok (.isub, 1) := by decide +kernel
theorem dL_acts_429 : decode cL_acts 429 = .ok (.istore 17, 2) := by decide +kernel
theorem dL_acts_431 : decode cL_acts 431 = .ok (.aload 6, 2) := by decide +kernel
theorem dL_acts_433 : decode cL_acts 433 = .ok (.iload 13, 2) := by decide +kernel
theorem dL_acts_435 : decode cL_acts 435 = .ok (.iconst 5, 1) := by decide +kernel
theorem dL_acts_436 : decode cL_acts 436 = .ok (.iadd, 1) := by decide +kernel
theorem dL_acts_437 : decode cL_acts 437 = .ok (.iaload, 1) := by decide +kernel
theorem dL_acts_438 : decode cL_acts 438 = .ok (.ifCond .ne 7, 3) := by decide +kernel
theorem dL_acts_441 : decode cL_acts 441 = .ok (.iconst 1, 1) := by decide +kernel
theorem dL_acts_442 : decode cL_acts 442 = .ok (.goto 4, 3) := by decide +kernel
theorem dL_acts_445 : decode cL_acts 445 = .ok (.iconst 0, 1) := by decide +kernel
theorem dL_acts_446 : decode cL_acts 446 = .ok (.istore 18, 2) := by decide +kernel
theorem dL_acts_448 : decode cL_acts 448 = .ok (.iload 18, 2) := by decide +kernel
theorem dL_acts_450 : decode cL_acts 450 = .ok (.ifCond .eq 91, 3) := by decide +kernel
theorem dL_acts_453 : decode cL_acts 453 = .ok (.aload 6, 2) := by decide +kernel
theorem dL_acts_455 : decode cL_acts 455 = .ok (.iload 13, 2) := by decide +kernel
theorem dL_acts_457 : decode cL_acts 457 = .ok (.iconst 4, 1) := by decide +kernel
theorem dL_acts_458 : decode cL_acts 458 = .ok (.iadd, 1) := by decide +kernel
theorem dL_acts_459 : decode cL_acts 459 = .ok (.iload 16, 2) := by decide +kernel
theorem dL_acts_461 : decode cL_acts 461 = .ok (.iastore, 1) := by decide +kernel
theorem dL_acts_462 : decode cL_acts 462 = .ok (.aload 6, 2) := by decide +kernel
theorem dL_acts_464 : decode cL_acts 464 = .ok (.iload 13, 2) := by decide +kernel
theorem dL_acts_466 : decode cL_acts 466 = .ok (.iconst 5, 1) := by decide +kernel
theorem dL_acts_467 : decode cL_acts 467 = .ok (.iadd, 1) := by decide +kernel
theorem dL_acts_468 : decode cL_acts 468 = .ok (.iconst 1, 1) := by decide +kernel
theorem dL_acts_469 : decode cL_acts 469 = .ok (.iastore, 1) := by decide +kernel
theorem dL_acts_470 : decode cL_acts 470 = .ok (.aload 7, 2) := by decide +kernel
theorem dL_acts_472 : decode cL_acts 472 = .ok (.iconst 5, 1) := by decide +kernel
theorem dL_acts_473 : decode cL_acts 473 = .ok (.iload 14, 2) := by decide +kernel
theorem dL_acts_475 : decode cL_acts 475 = .ok (.iadd, 1) := by decide +kernel
theorem dL_acts_476 : decode cL_acts 476 = .ok (.dup2, 1) := by decide +kernel
theorem dL_acts_477 : decode cL_acts 477 = .ok (.iaload, 1) := by decide +kernel
theorem dL_acts_478 : decode cL_acts 478 = .ok (.aload 6, 2) := by decide +kernel
theorem dL_acts_480 : decode cL_acts 480 = .ok (.iload 13, 2) := by decide +kernel
theorem dL_acts_482 : decode cL_acts 482 = .ok (.iconst 3, 1) := by decide +kernel
theorem dL_acts_483 : decode cL_acts 483 = .ok (.iadd, 1) := by decide +kernel
theorem dL_acts_484 : decode cL_acts 484 = .ok (.iaload, 1) := by decide +kernel
theorem dL_acts_485 : decode cL_acts 485 = .ok (.isub, 1) := by decide +kernel
theorem dL_acts_486 : decode cL_acts 486 = .ok (.iastore, 1) := by decide +kernel
theorem dL_acts_487 : decode cL_acts 487 = .ok (.aload 7, 2) := by decide +kernel
theorem dL_acts_489 : decode cL_acts 489 = .ok (.iload 14, 2) := by decide +kernel
theorem dL_acts_491 : decode cL_acts 491 = .ok (.dup2, 1) := by decide +kernel
theorem dL_acts_492 : decode cL_acts 492 = .ok (.iaload, 1) := by decide +kernel
theorem dL_acts_493 : decode cL_acts 493 = .ok (.aload 6, 2) := by decide +kernel
theorem dL_acts_495 : decode cL_acts 495 = .ok (.iload 13, 2) := by decide +kernel
theorem dL_acts_497 : decode cL_acts 497 = .ok (.iconst 3, 1) := by decide +kernel
theorem dL_acts_498 : decode cL_acts 498 = .ok (.iadd, 1) := by decide +kernel
theorem dL_acts_499 : decode cL_acts 499 = .ok (.iaload, 1) := by decide +kernel
theorem dL_acts_500 : decode cL_acts 500 = .ok (.iload 17, 2) := by decide +kernel
theorem dL_acts_502 : decode cL_acts 502 = .ok (.isub, 1) := by decide +kernel
theorem dL_acts_503 : decode cL_acts 503 = .ok (.iadd, 1) := by decide +kernel
theorem dL_acts_504 : decode cL_acts 504 = .ok (.iastore, 1) := by decide +kernel
theorem dL_acts_505 : decode cL_acts 505 = .ok (.aload 7, 2) := by decide +kernel
theorem dL_acts_507 : decode cL_acts 507 = .ok (.iload 15, 2) := by decide +kernel
theorem dL_acts_509 : decode cL_acts 509 = .ok (.dup2, 1) := by decide +kernel
theorem dL_acts_510 : decode cL_acts 510 = .ok (.iaload, 1) := by decide +kernel
theorem dL_acts_511 : decode cL_acts 511 = .ok (.iload 17, 2) := by decide +kernel
theorem dL_acts_513 : decode cL_acts 513 = .ok (.iadd, 1) := by decide +kernel
theorem dL_acts_514 : decode cL_acts 514 = .ok (.iastore, 1) := by decide +kernel
theorem dL_acts_515 : decode cL_acts 515 = .ok (.aload_n 2, 1) := by decide +kernel
theorem dL_acts_516 : decode cL_acts 516 = .ok (.iconst 4, 1) := by decide +kernel
theorem dL_acts_517 : decode cL_acts 517 = .ok (.aload 6, 2) := by decide +kernel
theorem dL_acts_519 : decode cL_acts 519 = .ok (.iload 13, 2) := by decide +kernel
theorem dL_acts_521 : decode cL_acts 521 = .ok (.iaload, 1) := by decide +kernel
theorem dL_acts_522 : decode cL_acts 522 = .ok (.imul, 1) := by decide +kernel
theorem dL_acts_523 : decode cL_acts 523 = .ok (.iconst 3, 1) := by decide +kernel
theorem dL_acts_524 : decode cL_acts 524 = .ok (.iadd, 1) := by decide +kernel
theorem dL_acts_525 : decode cL_acts 525 = .ok (.iload 15, 2) := by decide +kernel
theorem dL_acts_527 : decode cL_acts 527 = .ok (.iastore, 1) := by decide +kernel
theorem dL_acts_528 : decode cL_acts 528 = .ok (.aload 5, 2) := by decide +kernel
theorem dL_acts_530 : decode cL_acts 530 = .ok (.iload 15, 2) := by decide +kernel
theorem dL_acts_532 : decode cL_acts 532 = .ok (.dup2, 1) := by decide +kernel
theorem dL_acts_533 : decode cL_acts 533 = .ok (.laload, 1) := by decide +kernel
theorem dL_acts_534 : decode cL_acts 534 = .ok (.aload 5, 2) := by decide +kernel
theorem dL_acts_536 : decode cL_acts 536 = .ok (.iload 14, 2) := by decide +kernel
theorem dL_acts_538 : decode cL_acts 538 = .ok (.laload, 1) := by decide +kernel
theorem dL_acts_539 : decode cL_acts 539 = .ok (.lor, 1) := by decide +kernel
theorem dL_acts_540 : decode cL_acts 540 = .ok (.lastore, 1) := by decide +kernel
theorem dL_acts_541 : decode cL_acts 541 = .ok (.aload_n 0, 1) := by decide +kernel
theorem dL_acts_542 : decode cL_acts 542 = .ok (.iload 12, 2) := by decide +kernel
theorem dL_acts_544 : decode cL_acts 544 = .ok (.invokestatic 178, 3) := by decide +kernel
theorem dL_acts_547 : decode cL_acts 547 = .ok (.iload 18, 2) := by decide +kernel
theorem dL_acts_549 : decode cL_acts 549 = .ok (.ifCond .eq 8, 3) := by decide +kernel
theorem dL_acts_552 : decode cL_acts 552 = .ok (.iload 17, 2) := by decide +kernel
theorem dL_acts_554 : decode cL_acts 554 = .ok (.goto 5, 3) := by decide +kernel
theorem dL_acts_557 : decode cL_acts 557 = .ok (.bipush (-7), 2) := by decide +kernel
theorem dL_acts_559 : decode cL_acts 559 = .ok (.if_icmp .ne 7, 3) := by decide +kernel
theorem dL_acts_562 : decode cL_acts 562 = .ok (.iconst 1, 1) := by decide +kernel
theorem dL_acts_563 : decode cL_acts 563 = .ok (.goto 4, 3) := by decide +kernel
theorem dL_acts_566 : decode cL_acts 566 = .ok (.iconst 0, 1) := by decide +kernel
theorem dL_acts_567 : decode cL_acts 567 = .ok (.ireturn, 1) := by decide +kernel
theorem dL_acts_568 : decode cL_acts 568 = .ok (.iconst 1, 1) := by decide +kernel
theorem dL_acts_569 : decode cL_acts 569 = .ok (.iload 11, 2) := by decide +kernel
theorem dL_acts_571 : decode cL_acts 571 = .ok (.bipush 12, 2) := by decide +kernel
theorem dL_acts_573 : decode cL_acts 573 = .ok (.irem, 1) := by decide +kernel
theorem dL_acts_574 : decode cL_acts 574 = .ok (.iadd, 1) := by decide +kernel
theorem dL_acts_575 : decode cL_acts 575 = .ok (.istore 12, 2) := by decide +kernel
theorem dL_acts_577 : decode cL_acts 577 = .ok (.aload 9, 2) := by decide +kernel
theorem dL_acts_579 : decode cL_acts 579 = .ok (.iconst 2, 1) := by decide +kernel
theorem dL_acts_580 : decode cL_acts 580 = .ok (.dup2, 1) := by decide +kernel
theorem dL_acts_581 : decode cL_acts 581 = .ok (.iaload, 1) := by decide +kernel
theorem dL_acts_582 : decode cL_acts 582 = .ok (.iload 12, 2) := by decide +kernel
theorem dL_acts_584 : decode cL_acts 584 = .ok (.iadd, 1) := by decide +kernel
theorem dL_acts_585 : decode cL_acts 585 = .ok (.iastore, 1) := by decide +kernel
theorem dL_acts_586 : decode cL_acts 586 = .ok (.aload_n 0, 1) := by decide +kernel
theorem dL_acts_587 : decode cL_acts 587 = .ok (.iload 12, 2) := by decide +kernel
theorem dL_acts_589 : decode cL_acts 589 = .ok (.invokevirtual 181, 3) := by decide +kernel
theorem dL_acts_592 : decode cL_acts 592 = .ok (.aload 9, 2) := by decide +kernel
theorem dL_acts_594 : decode cL_acts 594 = .ok (.iconst 2, 1) := by decide +kernel
theorem dL_acts_595 : decode cL_acts 595 = .ok (.iaload, 1) := by decide +kernel
theorem dL_acts_596 : decode cL_acts 596 = .ok (.if_icmp .ne 7, 3) := by decide +kernel
theorem dL_acts_599 : decode cL_acts 599 = .ok (.iconst 1, 1) := by decide +kernel
theorem dL_acts_600 : decode cL_acts 600 = .ok (.goto 4, 3) := by decide +kernel
theorem dL_acts_603 : decode cL_acts 603 = .ok (.iconst 0, 1) := by decide +kernel
theorem dL_acts_604 : decode cL_acts 604 = .ok (.ireturn, 1) := by decide +kernel
set_option maxRecDepth 20000 in
theorem ggL_holds_X5_init : GoodIn wsL_holds wsX5_init := goodIn_r _ [9, 10, 11, 12, 13, 14, 15, 16, 17, 18, 19, 5, 20, 21, 22, 23, 24, 25, 26, 27, 28, 29, 30, 31, 32, 33, 34, 35, 36, 37, 38, 39, 40, 41, 42, 43, 44, 45, 46, 47, 48, 49, 50, 51, 52, 53, 54, 55, 56, 57, 58, 59, 60, 61, 62, 63, 64, 65, 66, 67, 68, 69, 70, 71, 72, 73, 74, 75, 76, 77, 78, 79, 80, 81, 82, 83, 84, 85, 86, 87, 88, 89, 90, 91, 92, 93, 94, 95, 96, 97, 98, 99, 100, 101, 102, 103, 104, 105, 106, 107, 108, 109, 110, 111, 112, 113, 114, 115, 116, 117, 118, 119, 120, 121, 122, 123, 124, 125, 126, 127, 128, 129, 553, 554, 555, 546, 547, 548, 549, 550, 551, 552, 556, 557, 558, 559, 560, 561, 562, 563, 564, 565, 566, 567, 568] (by decide +kernel) (by decide +kernel)
set_option maxRecDepth 20000 in
theorem gL_holds_X5_init : GoodIn wsL_holds (wsX5_init) := ggL_holds_X5_init
set_option maxRecDepth 20000 in
theorem ggL_holds_L_from : GoodIn wsL_holds wsL_from := goodIn_r _ [133, 134, 135] (by decide +kernel) (by decide +kernel)
set_option maxRecDepth 20000 in
theorem gL_holds_L_from : GoodIn wsL_holds (va_wsS RL 186 yL_from wsL_from) := goodIn_app (goodIn_of _ (by decide +kernel)) ggL_holds_L_from
set_option maxRecDepth 100000 in
theorem sg_holds_acts_wsL_acts_r1 : ∀ w ∈ wsL_acts_r1, w ∈ wsL_holds := List.forall_mem_cons.mpr ⟨List.mem_of_getElem? (i := 139) (by decide +kernel), List.forall_mem_cons.mpr ⟨List.mem_of_getElem? (i := 140) (by decide +kernel), List.forall_mem_cons.mpr ⟨List.mem_of_getElem? (i := 132) (by decide +kernel), List.forall_mem_cons.mpr ⟨List.mem_of_getElem? (i := 141) rfl, List.forall_mem_cons.mpr ⟨List.mem_of_getElem? (i := 142) (by decide +kernel), List.forall_mem_cons.mpr ⟨List.mem_of_getElem? (i := 143) (by decide +kernel), List.forall_mem_cons.mpr ⟨List.mem_of_getElem? (i := 144) (by decide +kernel), List.forall_mem_cons.mpr ⟨List.mem_of_getElem? (i := 145) (by decide +kernel), List.forall_mem_cons.mpr ⟨List.mem_of_getElem? (i := 146) (by decide +kernel), List.forall_mem_cons.mpr ⟨List.mem_of_getElem? (i := 147) (by decide +kernel), List.forall_mem_cons.mpr ⟨List.mem_of_getElem? (i := 148) (by decide +kernel), List.forall_mem_cons.mpr ⟨List.mem_of_getElem? (i := 149) (by decide +kernel), List.forall_mem_cons.mpr ⟨List.mem_of_getElem? (i := 150) (by decide +kernel), List.forall_mem_cons.mpr ⟨List.mem_of_getElem? (i := 151) (by decide +kernel), List.forall_mem_cons.mpr ⟨List.mem_of_getElem? (i := 3) (by decide +kernel), List.forall_mem_cons.mpr ⟨List.mem_of_getElem? (i := 152) (by decide +kernel), List.forall_mem_cons.mpr ⟨List.mem_of_getElem? (i := 153) (by decide +kernel), List.forall_mem_cons.mpr ⟨List.mem_of_getElem? (i := 154) (by decide +kernel), List.forall_mem_cons.mpr ⟨List.mem_of_getElem? (i := 155) (by decide +kernel), List.forall_mem_cons.mpr ⟨List.mem_of_getElem? (i := 156) (by decide +kernel), List.forall_mem_cons.mpr ⟨List.mem_of_getElem? (i := 24) (by decide +kernel), List.forall_mem_cons.mpr ⟨List.mem_of_getElem? (i := 157) (by decide +kernel), List.forall_mem_cons.mpr ⟨List.mem_of_getElem? (i := 158) (by decide +kernel), List.forall_mem_cons.mpr ⟨List.mem_of_getElem? (i := 159) (by decide +kernel), fun _ h => absurd h List.not_mem_nil⟩⟩⟩⟩⟩⟩⟩⟩⟩⟩⟩⟩⟩⟩⟩⟩⟩⟩⟩⟩⟩⟩⟩⟩
set_option maxRecDepth 100000 in
theorem sg_holds_acts_wsL_acts_r2 : ∀ w ∈ wsL_acts_r2, w ∈ wsL_holds := mem_ps [160, 161, 162, 163, 164, 165, 23, 166, 52, 167, 168, 169, 170, 51, 171, 172, 173, 174, 175, 176, 177, 178, 179, 180] (by decide +kernel)
set_option maxRecDepth 100000 in
theorem sg_holds_acts_wsL_acts_r3 : ∀ w ∈ wsL_acts_r3, w ∈ wsL_holds := mem_ps [181, 182, 183, 184, 185, 186, 187, 188, 17, 189, 190, 191, 192, 15, 193, 72, 194, 195, 196, 197, 198, 199, 200, 201] (by decide +kernel)
set_option maxRecDepth 100000 in
theorem sg_holds_acts_wsL_acts_r4 : ∀ w ∈ wsL_acts_r4, w ∈ wsL_holds := mem_ps [202, 203, 204, 205, 206, 207, 208, 209, 36, 210, 211, 212, 213, 214, 112, 87, 113, 215, 86, 88, 216, 217, 218, 219] (by decide +kernel)
set_option maxRecDepth 100000 in
theorem sg_holds_acts_wsL_acts_r5 : ∀ w ∈ wsL_acts_r5, w ∈ wsL_holds := mem_ps [220, 221, 222, 223, 224, 225, 226, 227, 228, 229, 230, 231, 232, 233, 234, 235, 236, 29, 30, 31, 20, 237, 238, 239] (by decide +kernel)
set_option maxRecDepth 100000 in
theorem sg_holds_acts_wsL_acts_r6 : ∀ w ∈ wsL_acts_r6, w ∈ wsL_holds := mem_ps [240, 241, 242, 243, 244, 16, 245, 118, 119, 120, 121, 11, 12, 5, 122, 123, 124, 125, 126, 127, 128, 129, 115, 116] (by decide +kernel)
set_option maxRecDepth 100000 in
theorem sg_holds_acts_wsL_acts_r7 : ∀ w ∈ wsL_acts_r7, w ∈ wsL_holds := mem_ps [117, 246, 247, 248, 249, 250, 251, 252, 253, 254, 53, 54, 55, 56, 66, 67, 68, 69, 70, 71, 73, 74, 75, 76] (by decide +kernel)
set_option maxRecDepth 100000 in
theorem sg_holds_acts_wsL_acts_r8 : ∀ w ∈ wsL_acts_r8, w ∈ wsL_holds := mem_ps [77, 78, 79, 80, 81, 82, 83, 84, 35, 85, 89, 90, 91, 92, 93, 94, 95, 96, 97, 98, 99, 100, 101, 102] (by decide +kernel)
set_option maxRecDepth 100000 in
theorem sg_holds_acts_wsL_acts_r9 : ∀ w ∈ wsL_acts_r9, w ∈ wsL_holds := mem_ps [103, 104, 105, 106, 107, 108, 109, 110, 111, 114, 255, 256, 257, 258, 259, 260, 261, 262, 263, 264, 265, 266, 267, 268] (by decide +kernel)
set_option maxRecDepth 100000 in
theorem sg_holds_acts_wsL_acts_r10 : ∀ w ∈ wsL_acts_r10, w ∈ wsL_holds := List.forall_mem_cons.mpr ⟨List.mem_of_getElem? (i := 269) (by decide +kernel), List.forall_mem_cons.mpr ⟨List.mem_of_getElem? (i := 270) (by decide +kernel), List.forall_mem_cons.mpr ⟨List.mem_of_getElem? (i := 271) (by decide +kernel), List.forall_mem_cons.mpr ⟨List.mem_of_getElem? (i := 272) (by decide +kernel), List.forall_mem_cons.mpr ⟨List.mem_of_getElem? (i := 273) (by decide +kernel), List.forall_mem_cons.mpr ⟨List.mem_of_getElem? (i := 274) (by decide +kernel), List.forall_mem_cons.mpr ⟨List.mem_of_getElem? (i := 275) (by decide +kernel), List.forall_mem_cons.mpr ⟨List.mem_of_getElem? (i := 276) (by decide +kernel), List.forall_mem_cons.mpr ⟨List.mem_of_getElem? (i := 277) rfl, List.forall_mem_cons.mpr ⟨List.mem_of_getElem? (i := 278) (by decide +kernel), List.forall_mem_cons.mpr ⟨List.mem_of_getElem? (i := 279) (by decide +kernel), List.forall_mem_cons.mpr ⟨List.mem_of_getElem? (i := 280) (by decide +kernel), List.forall_mem_cons.mpr ⟨List.mem_of_getElem? (i := 281) (by decide +kernel), List.forall_mem_cons.mpr ⟨List.mem_of_getElem? (i := 282) (by decide +kernel), List.forall_mem_cons.mpr ⟨List.mem_of_getElem? (i := 283) (by decide +kernel), List.forall_mem_cons.mpr ⟨List.mem_of_getElem? (i := 284) (by decide +kernel), List.forall_mem_cons.mpr ⟨List.mem_of_getElem? (i := 18) (by decide +kernel), List.forall_mem_cons.mpr ⟨List.mem_of_getElem? (i := 285) (by decide +kernel), List.forall_mem_cons.mpr ⟨List.mem_of_getElem? (i := 286) (by decide +kernel), List.forall_mem_cons.mpr ⟨List.mem_of_getElem? (i := 287) (by decide +kernel), List.forall_mem_cons.mpr ⟨List.mem_of_getElem? (i := 288) (by decide +kernel), List.forall_mem_cons.mpr ⟨List.mem_of_getElem? (i := 28) (by decide +kernel), List.forall_mem_cons.mpr ⟨List.mem_of_getElem? (i := 289) (by decide +kernel), List.forall_mem_cons.mpr ⟨List.mem_of_getElem? (i := 62) (by decide +kernel), fun _ h => absurd h List.not_mem_nil⟩⟩⟩⟩⟩⟩⟩⟩⟩⟩⟩⟩⟩⟩⟩⟩⟩⟩⟩⟩⟩⟩⟩⟩
set_option maxRecDepth 100000 in
theorem sg_holds_acts_wsL_acts_r11 : ∀ w ∈ wsL_acts_r11, w ∈ wsL_holds := mem_ps [290, 291, 292, 293, 294, 295, 296, 297, 298, 299, 300, 301, 302, 303, 304, 305, 306, 307, 308, 309, 310, 311, 312, 313] (by decide +kernel)
set_option maxRecDepth 100000 in
theorem sg_holds_acts_wsL_acts_r12 : ∀ w ∈ wsL_acts_r12, w ∈ wsL_holds := mem_ps [314, 315, 316, 317, 318, 319, 320, 321, 322, 323, 324, 325, 326, 327, 328, 329, 19, 330, 331, 332, 25, 333, 334, 335] (by decide +kernel)
set_option maxRecDepth 100000 in
theorem sg_holds_acts_wsL_acts_r13 : ∀ w ∈ wsL_acts_r13, w ∈ wsL_holds := mem_ps [336, 337, 338, 339, 340, 341, 342, 343, 344, 345, 346, 347, 348, 349, 350, 351, 352, 353, 354, 355, 356, 357, 358, 359] (by decide +kernel)
set_option maxRecDepth 100000 in
theorem sg_holds_acts_wsL_acts_r14 : ∀ w ∈ wsL_acts_r14, w ∈ wsL_holds := mem_ps [360, 361, 362, 363, 364, 365, 366, 367, 368, 369, 370, 371, 372, 373, 374, 375, 376, 377, 378, 379, 380, 381, 382, 383] (by decide +kernel)
set_option maxRecDepth 100000 in
theorem sg_holds_acts_wsX50 : ∀ w ∈ wsX50, w ∈ wsL_holds := mem_ps [546, 547, 548, 549, 550, 551, 552] (by decide +kernel)
set_option maxRecDepth 100000 in
theorem sg_holds_acts_wsX10 : ∀ w ∈ wsX10, w ∈ wsL_holds := mem_ps [556, 557] (by decide +kernel)
set_option maxRecDepth 100000 in
theorem sg_holds_acts_wsX00 : ∀ w ∈ wsX00, w ∈ wsL_holds := mem_ps [562, 563, 564, 565, 566, 567, 568] (by decide +kernel)
set_option maxRecDepth 100000 in
theorem sg_holds_acts_wsJx4a65c0 : ∀ w ∈ wsJx4a65c0, w ∈ wsL_holds := mem_ps [553, 554, 555] (by decide +kernel)
set_option maxRecDepth 100000 in
theorem sg_holds_acts_wsX20 : ∀ w ∈ wsX20, w ∈ wsL_holds := mem_ps [558, 559, 560, 561] (by decide +kernel)
set_option maxRecDepth 100000 in
theorem sg_holds_acts_wsX30 : ∀ w ∈ wsX30, w ∈ wsL_holds := mem_ps [569, 570, 571] (by decide +kernel)
set_option maxRecDepth 100000 in
theorem sg_holds_acts_wsX40 : ∀ w ∈ wsX40, w ∈ wsL_holds := mem_ps [572, 573, 574, 575, 576, 577] (by decide +kernel)
set_option maxRecDepth 100000 in
theorem ggL_holds_L_acts : GoodIn wsL_holds wsL_acts := goodIn_ca (goodIn_ca (goodIn_ca (goodIn_sub (List.forall_mem_cons.mpr ⟨List.mem_of_getElem? (i := 138) rfl, List.forall_mem_append.mpr ⟨List.forall_mem_append.mpr ⟨List.forall_mem_append.mpr ⟨List.forall_mem_append.mpr ⟨List.forall_mem_append.mpr ⟨List.forall_mem_append.mpr ⟨List.forall_mem_append.mpr ⟨List.forall_mem_append.mpr ⟨sg_holds_acts_wsL_acts_r1, List.forall_mem_append.mpr ⟨sg_holds_acts_wsL_acts_r2, List.forall_mem_append.mpr ⟨sg_holds_acts_wsL_acts_r3, List.forall_mem_append.mpr ⟨sg_holds_acts_wsL_acts_r4, List.forall_mem_append.mpr ⟨sg_holds_acts_wsL_acts_r5, List.forall_mem_append.mpr ⟨sg_holds_acts_wsL_acts_r6, List.forall_mem_append.mpr ⟨sg_holds_acts_wsL_acts_r7, List.forall_mem_append.mpr ⟨sg_holds_acts_wsL_acts_r8, List.forall_mem_append.mpr ⟨sg_holds_acts_wsL_acts_r9, List.forall_mem_append.mpr ⟨sg_holds_acts_wsL_acts_r10, List.forall_mem_append.mpr ⟨sg_holds_acts_wsL_acts_r11, List.forall_mem_append.mpr ⟨sg_holds_acts_wsL_acts_r12, List.forall_mem_append.mpr ⟨sg_holds_acts_wsL_acts_r13, sg_holds_acts_wsL_acts_r14⟩⟩⟩⟩⟩⟩⟩⟩⟩⟩⟩⟩⟩, sg_holds_acts_wsX50⟩, sg_holds_acts_wsX10⟩, sg_holds_acts_wsX00⟩, sg_holds_acts_wsJx4a65c0⟩, sg_holds_acts_wsX20⟩, sg_holds_acts_wsX30⟩, sg_holds_acts_wsX40⟩⟩) (by decide +kernel)) (goodIn_sub (fun _ h => List.mem_cons_of_mem _ (List.mem_append_left _ (List.mem_append_left _ (List.mem_append_right _ h)))) (by decide +kernel))) (goodIn_sub (fun _ h => List.mem_cons_of_mem _ (List.mem_append_left _ (List.mem_append_right _ h))) (by decide +kernel))) (goodIn_sub (fun _ h => List.mem_cons_of_mem _ (List.mem_append_right _ h)) (by decide +kernel))
set_option maxRecDepth 20000 in
theorem gL_holds_L_acts : GoodIn wsL_holds (va_wsS RL 190 yL_acts wsL_acts) := goodIn_app (goodIn_of _ (by decide +kernel)) ggL_holds_L_acts
set_option maxRecDepth 100000 in
theorem sg_holds_areCopies_wsL_areCopies_r1 : ∀ w ∈ wsL_areCopies_r1, w ∈ wsL_holds := mem_ps [387, 388, 389, 3, 390, 17, 190, 191, 192, 15, 193, 72, 216, 217, 132, 218, 219, 220, 221, 222, 223, 224, 225, 226] (by decide +kernel)
set_option maxRecDepth 100000 in
theorem sg_holds_areCopies_wsL_areCopies_r2 : ∀ w ∈ wsL_areCopies_r2, w ∈ wsL_holds := mem_ps [227, 228, 391, 392, 393, 394, 395, 396, 142, 143, 144, 397, 398, 399, 400, 310, 185, 186, 187, 188, 161, 162, 189, 194] (by decide +kernel)
set_option maxRecDepth 100000 in
theorem sg_holds_areCopies_wsL_areCopies_r3 : ∀ w ∈ wsL_areCopies_r3, w ∈ wsL_holds := mem_ps [195, 196, 197, 198, 199, 200, 201, 202, 203, 204, 205, 206, 207, 208, 209, 36, 158, 159, 160, 401, 402, 403, 404, 405] (by decide +kernel)
set_option maxRecDepth 100000 in
theorem sg_holds_areCopies_wsL_areCopies_r4 : ∀ w ∈ wsL_areCopies_r4, w ∈ wsL_holds := mem_ps [406, 407, 31, 408, 267, 268, 269, 270, 122, 409, 410, 411, 412, 413, 414, 415, 416, 417, 236, 418, 419, 420, 421, 422] (by decide +kernel)
set_option maxRecDepth 100000 in
theorem sg_holds_areCopies_wsL_areCopies_r5 : ∀ w ∈ wsL_areCopies_r5, w ∈ wsL_holds := mem_ps [328, 423, 424, 425, 426, 427, 264, 265, 266, 123, 125, 428, 429, 430, 237, 431, 432, 433, 434, 184, 435, 436, 437, 438] (by decide +kernel)
set_option maxRecDepth 100000 in
theorem sg_holds_areCopies_wsL_areCopies_r6 : ∀ w ∈ wsL_areCopies_r6, w ∈ wsL_holds := mem_ps [439, 440, 441, 442, 443, 444, 445, 446, 447, 448, 449, 450, 451, 452, 453, 454, 455, 456, 457, 458, 459, 460, 461, 462] (by decide +kernel)
set_option maxRecDepth 100000 in
theorem sg_holds_areCopies_wsL_areCopies_r7 : ∀ w ∈ wsL_areCopies_r7, w ∈ wsL_holds := mem_ps [463, 464, 465, 466, 467, 468, 469, 470, 471, 472, 473, 474, 475, 476, 477, 182, 478, 479, 480, 481, 482, 483, 484, 153] (by decide +kernel)
set_option maxRecDepth 100000 in
theorem sg_holds_areCopies_wsL_areCopies_r8 : ∀ w ∈ wsL_areCopies_r8, w ∈ wsL_holds := mem_ps [154, 485, 486, 487, 488, 489, 490, 491, 492, 493, 494, 495] (by decide +kernel)
set_option maxRecDepth 100000 in
theorem sg_holds_areCopies_wsX50 : ∀ w ∈ wsX50, w ∈ wsL_holds := mem_ps [546, 547, 548, 549, 550, 551, 552] (by decide +kernel)
set_option maxRecDepth 100000 in
theorem sg_holds_areCopies_wsJx4a65c0 : ∀ w ∈ wsJx4a65c0, w ∈ wsL_holds := mem_ps [553, 554, 555] (by decide +kernel)
set_option maxRecDepth 100000 in
theorem sg_holds_areCopies_wsX00 : ∀ w ∈ wsX00, w ∈ wsL_holds := mem_ps [562, 563, 564, 565, 566, 567, 568] (by decide +kernel)
set_option maxRecDepth 100000 in
theorem sg_holds_areCopies_wsX20 : ∀ w ∈ wsX20, w ∈ wsL_holds := mem_ps [558, 559, 560, 561] (by decide +kernel)
set_option maxRecDepth 100000 in
theorem ggL_holds_L_areCopies : GoodIn wsL_holds wsL_areCopies := goodIn_ca (goodIn_ca (goodIn_sub (List.forall_mem_cons.mpr ⟨List.mem_of_getElem? (i := 386) rfl, List.forall_mem_append.mpr ⟨List.forall_mem_append.mpr ⟨List.forall_mem_append.mpr ⟨List.forall_mem_append.mpr ⟨List.forall_mem_append.mpr ⟨sg_holds_areCopies_wsL_areCopies_r1, List.forall_mem_append.mpr ⟨sg_holds_areCopies_wsL_areCopies_r2, List.forall_mem_append.mpr ⟨sg_holds_areCopies_wsL_areCopies_r3, List.forall_mem_append.mpr ⟨sg_holds_areCopies_wsL_areCopies_r4, List.forall_mem_append.mpr ⟨sg_holds_areCopies_wsL_areCopies_r5, List.forall_mem_append.mpr ⟨sg_holds_areCopies_wsL_areCopies_r6, List.forall_mem_append.mpr ⟨sg_holds_areCopies_wsL_areCopies_r7, sg_holds_areCopies_wsL_areCopies_r8⟩⟩⟩⟩⟩⟩⟩, sg_holds_areCopies_wsX50⟩, sg_holds_areCopies_wsJx4a65c0⟩, sg_holds_areCopies_wsX00⟩, sg_holds_areCopies_wsX20⟩⟩) (by decide +kernel)) (goodIn_sub (fun _ h => List.mem_cons_of_mem _ (List.mem_append_right _ h)) (by decide +kernel))) (goodIn_sub (fun _ h => List.mem_cons_of_mem _ (List.mem_append_left _ (List.mem_append_left _ (List.mem_append_right _ h)))) (by decide +kernel))
set_option maxRecDepth 20000 in
theorem gL_holds_L_areCopies : GoodIn wsL_holds (va_wsS RL 194 yL_areCopies wsL_areCopies) := goodIn_app (goodIn_of _ (by decide +kernel)) ggL_holds_L_areCopies
set_option maxRecDepth 20000 in
theorem ggL_holds_L_areLoans : GoodIn wsL_holds wsL_areLoans := goodIn_ca (goodIn_r _ [498, 499, 500, 501, 3, 502, 25, 503, 504, 505, 506, 18, 190, 191, 192, 15, 193, 72, 507, 508, 509, 510, 19, 511, 512, 513, 514, 285, 515, 516, 517, 518, 519, 520, 521, 161, 162, 194, 195, 196, 197, 198, 199, 200, 201, 202, 203, 204, 205, 206, 207, 208, 209, 36, 522, 523, 524, 525, 241, 242, 243, 244, 16, 245, 286, 287, 288, 28, 289, 62, 526, 527, 528, 529, 360, 365, 366, 367, 368, 369, 530, 531, 532, 533, 363, 379, 375, 376, 332, 377, 342, 378, 86, 87, 88, 350, 351, 132, 352, 534, 535, 536, 537, 20, 238, 239, 240, 538, 539, 540, 541, 329, 542, 543, 544, 545, 333, 546, 547, 548, 549, 550, 551, 552, 553, 554, 555, 569, 570, 571, 558, 559, 560, 561, 572, 573, 574, 575, 576, 577] (by decide +kernel) (by decide +kernel)) (goodIn_sub (fun _ h => List.mem_cons_of_mem _ (List.mem_append_right _ h)) (by decide +kernel))
set_option maxRecDepth 20000 in
theorem gL_holds_L_areLoans : GoodIn wsL_holds (va_wsS RL 198 yL_areLoans wsL_areLoans) := goodIn_app (goodIn_of _ (by decide +kernel)) ggL_holds_L_areLoans
theorem dL_holds_0 : decode cL_holds 0 = .ok (.new 28, 3) := by decide +kernel
theorem dL_holds_3 : decode cL_holds 3 = .ok (.dup, 1) := by decide +kernel
theorem dL_holds_4 : decode cL_holds 4 = .ok (.invokespecial 184, 3) := by decide +kernel
theorem dL_holds_7 : decode cL_holds 7 = .ok (.astore_n 1, 1) := by decide +kernel
theorem dL_holds_8 : decode cL_holds 8 = .ok (.bipush 16, 2) := by decide +kernel
theorem dL_holds_10 : decode cL_holds 10 = .ok (.newarray .long, 2) := by decide +kernel
theorem dL_holds_12 : decode cL_holds 12 = .ok (.astore_n 2, 1) := by decide +kernel
theorem dL_holds_13 : decode cL_holds 13 = .ok (.bipush 64, 2) := by decide +kernel
theorem dL_holds_15 : decode cL_holds 15 = .ok (.newarray .int, 2) := by decide +kernel
theorem dL_holds_17 : decode cL_holds 17 = .ok (.astore_n 3, 1) := by decide +kernel
theorem dL_holds_18 : decode cL_holds 18 = .ok (.bipush 12, 2) := by decide +kernel
theorem dL_holds_20 : decode cL_holds 20 = .ok (.newarray .int, 2) := by decide +kernel
theorem dL_holds_22 : decode cL_holds 22 = .ok (.astore 4, 2) := by decide +kernel
theorem dL_holds_24 : decode cL_holds 24 = .ok (.bipush 40, 2) := by decide +kernel
theorem dL_holds_26 : decode cL_holds 26 = .ok (.newarray .int, 2) := by decide +kernel
theorem dL_holds_28 : decode cL_holds 28 = .ok (.astore 5, 2) := by decide +kernel
theorem dL_holds_30 : decode cL_holds 30 = .ok (.iconst 5, 1) := by decide +kernel
theorem dL_holds_31 : decode cL_holds 31 = .ok (.newarray .long, 2) := by decide +kernel
theorem dL_holds_33 : decode cL_holds 33 = .ok (.astore 6, 2) := by decide +kernel
theorem dL_holds_35 : decode cL_holds 35 = .ok (.bipush 60, 2) := by decide +kernel
theorem dL_holds_37 : decode cL_holds 37 = .ok (.newarray .int, 2) := by decide +kernel
theorem dL_holds_39 : decode cL_holds 39 = .ok (.astore 7, 2) := by decide +kernel
theorem dL_holds_41 : decode cL_holds 41 = .ok (.bipush 10, 2) := by decide +kernel
theorem dL_holds_43 : decode cL_holds 43 = .ok (.newarray .int, 2) := by decide +kernel
theorem dL_holds_45 : decode cL_holds 45 = .ok (.astore 8, 2) := by decide +kernel
theorem dL_holds_47 : decode cL_holds 47 = .ok (.bipush 6, 2) := by decide +kernel
theorem dL_holds_49 : decode cL_holds 49 = .ok (.newarray .int, 2) := by decide +kernel
theorem dL_holds_51 : decode cL_holds 51 = .ok (.astore 9, 2) := by decide +kernel
theorem dL_holds_53 : decode cL_holds 53 = .ok (.iconst 5, 1) := by decide +kernel
theorem dL_holds_54 : decode cL_holds 54 = .ok (.newarray .int, 2) := by decide +kernel
theorem dL_holds_56 : decode cL_holds 56 = .ok (.astore 10, 2) := by decide +kernel
theorem dL_holds_58 : decode cL_holds 58 = .ok (.iconst 1, 1) := by decide +kernel
theorem dL_holds_59 : decode cL_holds 59 = .ok (.istore 11, 2) := by decide +kernel
theorem dL_holds_61 : decode cL_holds 61 = .ok (.aload_n 3, 1) := by decide +kernel
theorem dL_holds_62 : decode cL_holds 62 = .ok (.iconst 0, 1) := by decide +kernel
theorem dL_holds_63 : decode cL_holds 63 = .ok (.iconst (-1), 1) := by decide +kernel
theorem dL_holds_64 : decode cL_holds 64 = .ok (.iastore, 1) := by decide +kernel
theorem dL_holds_65 : decode cL_holds 65 = .ok (.aload 10, 2) := by decide +kernel
theorem dL_holds_67 : decode cL_holds 67 = .ok (.iconst 0, 1) := by decide +kernel
theorem dL_holds_68 : decode cL_holds 68 = .ok (.iconst 1, 1) := by decide +kernel
theorem dL_holds_69 : decode cL_holds 69 = .ok (.iastore, 1) := by decide +kernel
theorem dL_holds_70 : decode cL_holds 70 = .ok (.iconst 0, 1) := by decide +kernel
theorem dL_holds_71 : decode cL_holds 71 = .ok (.istore 12, 2) := by decide +kernel
theorem dL_holds_73 : decode cL_holds 73 = .ok (.iload 12, 2) := by decide +kernel
theorem dL_holds_75 : decode cL_holds 75 = .ok (.bipush 12, 2) := by decide +kernel
theorem dL_holds_77 : decode cL_holds 77 = .ok (.if_icmp .ge 24, 3) := by decide +kernel
theorem dL_holds_80 : decode cL_holds 80 = .ok (.aload 4, 2) := by decide +kernel
theorem dL_holds_82 : decode cL_holds 82 = .ok (.iload 12, 2) := by decide +kernel
theorem dL_holds_84 : decode cL_holds 84 = .ok (.iconst (-1), 1) := by decide +kernel
theorem dL_holds_85 : decode cL_holds 85 = .ok (.iastore, 1) := by decide +kernel
theorem dL_holds_86 : decode cL_holds 86 = .ok (.aload 8, 2) := by decide +kernel
theorem dL_holds_88 : decode cL_holds 88 = .ok (.iload 12, 2) := by decide +kernel
theorem dL_holds_90 : decode cL_holds 90 = .ok (.iconst 5, 1) := by decide +kernel
theorem dL_holds_91 : decode cL_holds 91 = .ok (.irem, 1) := by decide +kernel
theorem dL_holds_92 : decode cL_holds 92 = .ok (.bipush 100, 2) := by decide +kernel
theorem dL_holds_94 : decode cL_holds 94 = .ok (.iastore, 1) := by decide +kernel
theorem dL_holds_95 : decode cL_holds 95 = .ok (.iinc 12 1, 3) := by decide +kernel
theorem dL_holds_98 : decode cL_holds 98 = .ok (.goto (-25), 3) := by decide +kernel
theorem dL_holds_101 : decode cL_holds 101 = .ok (.iconst 0, 1) := by decide +kernel
theorem dL_holds_102 : decode cL_holds 102 = .ok (.istore 12, 2) := by decide +kernel
theorem dL_holds_104 : decode cL_holds 104 = .ok (.iload 12, 2) := by decide +kernel
theorem dL_holds_106 : decode cL_holds 106 = .ok (.bipush 120, 2) := by decide +kernel
theorem dL_holds_108 : decode cL_holds 108 = .ok (.if_icmp .ge 142, 3) := by decide +kernel
theorem dL_holds_111 : decode cL_holds 111 = .ok (.iload 11, 2) := by decide +kernel
theorem dL_holds_113 : decode cL_holds 113 = .ok (.ifCond .eq 137, 3) := by decide +kernel
theorem dL_holds_116 : decode cL_holds 116 = .ok (.aload_n 0, 1) := by decide +kernel
theorem dL_holds_117 : decode cL_holds 117 = .ok (.iconst 2, 1) := by decide +kernel
theorem dL_holds_118 : decode cL_holds 118 = .ok (.iload 12, 2) := by decide +kernel
theorem dL_holds_120 : decode cL_holds 120 = .ok (.imul, 1) := by decide +kernel
theorem dL_holds_121 : decode cL_holds 121 = .ok (.iconst 1, 1) := by decide +kernel
theorem dL_holds_122 : decode cL_holds 122 = .ok (.iadd, 1) := by decide +kernel
theorem dL_holds_123 : decode cL_holds 123 = .ok (.ldc 185, 2) := by decide +kernel
theorem dL_holds_125 : decode cL_holds 125 = .ok (.invokestatic 186, 3) := by decide +kernel
theorem dL_holds_128 : decode cL_holds 128 = .ok (.istore 13, 2) := by decide +kernel
theorem dL_holds_130 : decode cL_holds 130 = .ok (.aload_n 1, 1) := by decide +kernel
theorem dL_holds_131 : decode cL_holds 131 = .ok (.aload_n 2, 1) := by decide +kernel
theorem dL_holds_132 : decode cL_holds 132 = .ok (.aload_n 3, 1) := by decide +kernel
theorem dL_holds_133 : decode cL_holds 133 = .ok (.aload 4, 2) := by decide +kernel
theorem dL_holds_135 : decode cL_holds 135 = .ok (.aload 5, 2) := by decide +kernel
theorem dL_holds_137 : decode cL_holds 137 = .ok (.aload 6, 2) := by decide +kernel
theorem dL_holds_139 : decode cL_holds 139 = .ok (.aload 7, 2) := by decide +kernel
theorem dL_holds_141 : decode cL_holds 141 = .ok (.aload 8, 2) := by decide +kernel
theorem dL_holds_143 : decode cL_holds 143 = .ok (.aload 9, 2) := by decide +kernel
theorem dL_holds_145 : decode cL_holds 145 = .ok (.aload 10, 2) := by decide +kernel
theorem dL_holds_147 : decode cL_holds 147 = .ok (.iload 12, 2) := by decide +kernel
theorem dL_holds_149 : decode cL_holds 149 = .ok (.iconst 3, 1) := by decide +kernel
theorem dL_holds_150 : decode cL_holds 150 = .ok (.if_icmp .ge 7, 3) := by decide +kernel
theorem dL_holds_153 : decode cL_holds 153 = .ok (.iconst 0, 1) := by decide +kernel
theorem dL_holds_154 : decode cL_holds 154 = .ok (.goto 23, 3) := by decide +kernel
theorem dL_holds_157 : decode cL_holds 157 = .ok (.iload 12, 2) := by decide +kernel
theorem dL_holds_159 : decode cL_holds 159 = .ok (.iconst 5, 1) := by decide +kernel
theorem dL_holds_160 : decode cL_holds 160 = .ok (.if_icmp .ge 7, 3) := by decide +kernel
theorem dL_holds_163 : decode cL_holds 163 = .ok (.iconst 5, 1) := by decide +kernel
theorem dL_holds_164 : decode cL_holds 164 = .ok (.goto 13, 3) := by decide +kernel
theorem dL_holds_167 : decode cL_holds 167 = .ok (.aload_n 0, 1) := by decide +kernel
theorem dL_holds_168 : decode cL_holds 168 = .ok (.iconst 2, 1) := by decide +kernel
theorem dL_holds_169 : decode cL_holds 169 = .ok (.iload 12, 2) := by decide +kernel
theorem dL_holds_171 : decode cL_holds 171 = .ok (.imul, 1) := by decide +kernel
theorem dL_holds_172 : decode cL_holds 172 = .ok (.bipush 20, 2) := by decide +kernel
theorem dL_holds_174 : decode cL_holds 174 = .ok (.invokestatic 186, 3) := by decide +kernel
theorem dL_holds_177 : decode cL_holds 177 = .ok (.iload 13, 2) := by decide +kernel
theorem dL_holds_179 : decode cL_holds 179 = .ok (.invokestatic 190, 3) := by decide +kernel
theorem dL_holds_182 : decode cL_holds 182 = .ok (.ifCond .eq 59, 3) := by decide +kernel
theorem dL_holds_185 : decode cL_holds 185 = .ok (.iload 12, 2) := by decide +kernel
theorem dL_holds_187 : decode cL_holds 187 = .ok (.bipush 8, 2) := by decide +kernel
theorem dL_holds_189 : decode cL_holds 189 = .ok (.irem, 1) := by decide +kernel
theorem dL_holds_190 : decode cL_holds 190 = .ok (.bipush 7, 2) := by decide +kernel
theorem dL_holds_192 : decode cL_holds 192 = .ok (.if_icmp .lt 16, 3) := by decide +kernel
theorem dL_holds_195 : decode cL_holds 195 = .ok (.aload_n 1, 1) := by decide +kernel
theorem dL_holds_196 : decode cL_holds 196 = .ok (.aload_n 2, 1) := by decide +kernel
theorem dL_holds_197 : decode cL_holds 197 = .ok (.aload_n 3, 1) := by decide +kernel
theorem dL_holds_198 : decode cL_holds 198 = .ok (.aload 10, 2) := by decide +kernel
theorem dL_holds_200 : decode cL_holds 200 = .ok (.iload 13, 2) := by decide +kernel
theorem dL_holds_202 : decode cL_holds 202 = .ok (.invokestatic 194, 3) := by decide +kernel
theorem dL_holds_205 : decode cL_holds 205 = .ok (.ifCond .eq 36, 3) := by decide +kernel
theorem dL_holds_208 : decode cL_holds 208 = .ok (.iload 12, 2) := by decide +kernel
theorem dL_holds_210 : decode cL_holds 210 = .ok (.iconst 4, 1) := by decide +kernel
theorem dL_holds_211 : decode cL_holds 211 = .ok (.irem, 1) := by decide +kernel
theorem dL_holds_212 : decode cL_holds 212 = .ok (.iconst 3, 1) := by decide +kernel
theorem dL_holds_213 : decode cL_holds 213 = .ok (.if_icmp .lt 24, 3) := by decide +kernel
theorem dL_holds_216 : decode cL_holds 216 = .ok (.aload_n 1, 1) := by decide +kernel
theorem dL_holds_217 : decode cL_holds 217 = .ok (.aload 5, 2) := by decide +kernel
theorem dL_holds_219 : decode cL_holds 219 = .ok (.aload 6, 2) := by decide +kernel
theorem dL_holds_221 : decode cL_holds 221 = .ok (.aload 7, 2) := by decide +kernel
theorem dL_holds_223 : decode cL_holds 223 = .ok (.aload 8, 2) := by decide +kernel
theorem dL_holds_225 : decode cL_holds 225 = .ok (.aload 9, 2) := by decide +kernel
theorem dL_holds_227 : decode cL_holds 227 = .ok (.aload 10, 2) := by decide +kernel
theorem dL_holds_229 : decode cL_holds 229 = .ok (.iload 13, 2) := by decide +kernel
theorem dL_holds_231 : decode cL_holds 231 = .ok (.invokestatic 198, 3) := by decide +kernel
theorem dL_holds_234 : decode cL_holds 234 = .ok (.ifCond .eq 7, 3) := by decide +kernel
theorem dL_holds_237 : decode cL_holds 237 = .ok (.iconst 1, 1) := by decide +kernel
theorem dL_holds_238 : decode cL_holds 238 = .ok (.goto 4, 3) := by decide +kernel
theorem dL_holds_241 : decode cL_holds 241 = .ok (.iconst 0, 1) := by decide +kernel
theorem dL_holds_242 : decode cL_holds 242 = .ok (.istore 11, 2) := by decide +kernel
theorem dL_holds_244 : decode cL_holds 244 = .ok (.iinc 12 1, 3) := by decide +kernel
theorem dL_holds_247 : decode cL_holds 247 = .ok (.goto (-143), 3) := by decide +kernel
theorem dL_holds_250 : decode cL_holds 250 = .ok (.iload 11, 2) := by decide +kernel
theorem dL_holds_252 : decode cL_holds 252 = .ok (.ifCond .eq 39, 3) := by decide +kernel
theorem dL_holds_255 : decode cL_holds 255 = .ok (.aload_n 1, 1) := by decide +kernel
theorem dL_holds_256 : decode cL_holds 256 = .ok (.aload_n 2, 1) := by decide +kernel
theorem dL_holds_257 : decode cL_holds 257 = .ok (.aload_n 3, 1) := by decide +kernel
theorem dL_holds_258 : decode cL_holds 258 = .ok (.aload 10, 2) := by decide +kernel
theorem dL_holds_260 : decode cL_holds 260 = .ok (.iconst 3, 1) := by decide +kernel
theorem dL_holds_261 : decode cL_holds 261 = .ok (.invokestatic 194, 3) := by decide +kernel
theorem dL_holds_264 : decode cL_holds 264 = .ok (.ifCond .eq 27, 3) := by decide +kernel
theorem dL_holds_267 : decode cL_holds 267 = .ok (.aload_n 1, 1) := by decide +kernel
theorem dL_holds_268 : decode cL_holds 268 = .ok (.aload 5, 2) := by decide +kernel
theorem dL_holds_270 : decode cL_holds 270 = .ok (.aload 6, 2) := by decide +kernel
theorem dL_holds_272 : decode cL_holds 272 = .ok (.aload 7, 2) := by decide +kernel
theorem dL_holds_274 : decode cL_holds 274 = .ok (.aload 8, 2) := by decide +kernel
theorem dL_holds_276 : decode cL_holds 276 = .ok (.aload 9, 2) := by decide +kernel
theorem dL_holds_278 : decode cL_holds 278 = .ok (.aload 10, 2) := by decide +kernel
theorem dL_holds_280 : decode cL_holds 280 = .ok (.iconst 2, 1) := by decide +kernel
theorem dL_holds_281 : decode cL_holds 281 = .ok (.invokestatic 198, 3) := by decide +kernel
theorem dL_holds_284 : decode cL_holds 284 = .ok (.ifCond .eq 7, 3) := by decide +kernel
theorem dL_holds_287 : decode cL_holds 287 = .ok (.iconst 1, 1) := by decide +kernel
theorem dL_holds_288 : decode cL_holds 288 = .ok (.goto 4, 3) := by decide +kernel
theorem dL_holds_291 : decode cL_holds 291 = .ok (.iconst 0, 1) := by decide +kernel
theorem dL_holds_292 : decode cL_holds 292 = .ok (.ireturn, 1) := by decide +kernel
set_option maxRecDepth 100000 in
theorem sg_isHeld_holds_wsL_holds_r1 : ∀ w ∈ wsL_holds_r1, w ∈ wsL_isHeld := mem_ps [6, 7, 8, 9, 10, 11, 12, 13, 14, 15, 16, 17, 18, 19, 20, 21, 22, 23, 24, 25, 26, 27, 28, 29] (by decide +kernel)
set_option maxRecDepth 100000 in
theorem sg_isHeld_holds_wsL_holds_r2 : ∀ w ∈ wsL_holds_r2, w ∈ wsL_isHeld := mem_ps [30, 31, 32, 33, 34, 35, 36, 37, 38, 39, 40, 41, 42, 43, 44, 45, 46, 47, 48, 49, 50, 51, 52, 53] (by decide +kernel)
set_option maxRecDepth 100000 in
theorem sg_isHeld_holds_wsL_holds_r3 : ∀ w ∈ wsL_holds_r3, w ∈ wsL_isHeld := mem_ps [54, 55, 56, 57, 58, 59, 60, 61, 62, 63, 64, 65, 66, 67, 68, 69, 70, 71, 72, 73, 74, 75, 76, 77] (by decide +kernel)
set_option maxRecDepth 100000 in
theorem sg_isHeld_holds_wsL_holds_r4 : ∀ w ∈ wsL_holds_r4, w ∈ wsL_isHeld := mem_ps [78, 79, 80, 81, 82, 83, 84, 85, 86, 87, 88, 89, 90, 91, 92, 93, 94, 95, 96, 97, 98, 99, 100, 101] (by decide +kernel)
set_option maxRecDepth 100000 in
theorem sg_isHeld_holds_wsL_holds_r5 : ∀ w ∈ wsL_holds_r5, w ∈ wsL_isHeld := mem_ps [102, 103, 104, 105, 106, 107, 108, 109, 110, 111, 112, 113, 114, 115, 116, 117, 118, 119, 120, 121, 122, 123, 124, 125] (by decide +kernel)
set_option maxRecDepth 100000 in
theorem sg_isHeld_holds_wsL_holds_r6 : ∀ w ∈ wsL_holds_r6, w ∈ wsL_isHeld := List.forall_mem_cons.mpr ⟨List.mem_of_getElem? (i := 126) (by decide +kernel), List.forall_mem_cons.mpr ⟨List.mem_of_getElem? (i := 127) (by decide +kernel), List.forall_mem_cons.mpr ⟨List.mem_of_getElem? (i := 128) (by decide +kernel), List.forall_mem_cons.mpr ⟨List.mem_of_getElem? (i := 129) (by decide +kernel), List.forall_mem_cons.mpr ⟨List.mem_of_getElem? (i := 130) (by decide +kernel), List.forall_mem_cons.mpr ⟨List.mem_of_getElem? (i := 131) (by decide +kernel), List.forall_mem_cons.mpr ⟨List.mem_of_getElem? (i := 132) (by decide +kernel), List.forall_mem_cons.mpr ⟨List.mem_of_getElem? (i := 133) (by decide +kernel), List.forall_mem_cons.mpr ⟨List.mem_of_getElem? (i := 134) (by decide +kernel), List.forall_mem_cons.mpr ⟨List.mem_of_getElem? (i := 135) (by decide +kernel), List.forall_mem_cons.mpr ⟨List.mem_of_getElem? (i := 136) (by decide +kernel), List.forall_mem_cons.mpr ⟨List.mem_of_getElem? (i := 4) (by decide +kernel), List.forall_mem_cons.mpr ⟨List.mem_of_getElem? (i := 137) (by decide +kernel), List.forall_mem_cons.mpr ⟨List.mem_of_getElem? (i := 138) (by decide +kernel), List.forall_mem_cons.mpr ⟨List.mem_of_getElem? (i := 139) (by decide +kernel), List.forall_mem_cons.mpr ⟨List.mem_of_getElem? (i := 140) (by decide +kernel), List.forall_mem_cons.mpr ⟨List.mem_of_getElem? (i := 141) (by decide +kernel), List.forall_mem_cons.mpr ⟨List.mem_of_getElem? (i := 142) rfl, List.forall_mem_cons.mpr ⟨List.mem_of_getElem? (i := 143) (by decide +kernel), List.forall_mem_cons.mpr ⟨List.mem_of_getElem? (i := 144) (by decide +kernel), List.forall_mem_cons.mpr ⟨List.mem_of_getElem? (i := 145) rfl, List.forall_mem_cons.mpr ⟨List.mem_of_getElem? (i := 146) (by decide +kernel), List.forall_mem_cons.mpr ⟨List.mem_of_getElem? (i := 147) (by decide +kernel), List.forall_mem_cons.mpr ⟨List.mem_of_getElem? (i := 148) (by decide +kernel), fun _ h => absurd h List.not_mem_nil⟩⟩⟩⟩⟩⟩⟩⟩⟩⟩⟩⟩⟩⟩⟩⟩⟩⟩⟩⟩⟩⟩⟩⟩
set_option maxRecDepth 100000 in
theorem sg_isHeld_holds_wsL_holds_r7 : ∀ w ∈ wsL_holds_r7, w ∈ wsL_isHeld := mem_ps [149, 150, 151, 152, 153, 154, 155, 156, 157, 158, 159, 160, 161, 162, 163, 164, 165, 166, 167, 168, 169, 170, 171, 172] (by decide +kernel)
set_option maxRecDepth 100000 in
theorem sg_isHeld_holds_wsL_holds_r8 : ∀ w ∈ wsL_holds_r8, w ∈ wsL_isHeld := mem_ps [173, 174, 175, 176, 177, 178, 179, 180, 181, 182, 183, 184, 185, 186, 187, 188, 189, 190, 191, 192, 193, 194, 195, 196] (by decide +kernel)
set_option maxRecDepth 100000 in
theorem sg_isHeld_holds_wsL_holds_r9 : ∀ w ∈ wsL_holds_r9, w ∈ wsL_isHeld := mem_ps [197, 198, 199, 200, 201, 202, 203, 204, 205, 206, 207, 208, 209, 210, 211, 212, 213, 214, 215, 216, 217, 218, 219, 220] (by decide +kernel)
set_option maxRecDepth 100000 in
theorem sg_isHeld_holds_wsL_holds_r10 : ∀ w ∈ wsL_holds_r10, w ∈ wsL_isHeld := mem_ps [221, 222, 223, 224, 225, 226, 227, 228, 229, 230, 231, 232, 233, 234, 235, 236, 237, 238, 239, 240, 241, 242, 243, 244] (by decide +kernel)
set_option maxRecDepth 100000 in
theorem sg_isHeld_holds_wsL_holds_r11 : ∀ w ∈ wsL_holds_r11, w ∈ wsL_isHeld := mem_ps [245, 246, 247, 248, 249, 250, 251, 252, 253, 254, 255, 256, 257, 258, 259, 260, 261, 262, 263, 264, 265, 266, 267, 268] (by decide +kernel)
set_option maxRecDepth 100000 in
theorem sg_isHeld_holds_wsL_holds_r12 : ∀ w ∈ wsL_holds_r12, w ∈ wsL_isHeld := List.forall_mem_cons.mpr ⟨List.mem_of_getElem? (i := 269) (by decide +kernel), List.forall_mem_cons.mpr ⟨List.mem_of_getElem? (i := 270) (by decide +kernel), List.forall_mem_cons.mpr ⟨List.mem_of_getElem? (i := 271) (by decide +kernel), List.forall_mem_cons.mpr ⟨List.mem_of_getElem? (i := 272) (by decide +kernel), List.forall_mem_cons.mpr ⟨List.mem_of_getElem? (i := 273) (by decide +kernel), List.forall_mem_cons.mpr ⟨List.mem_of_getElem? (i := 274) (by decide +kernel), List.forall_mem_cons.mpr ⟨List.mem_of_getElem? (i := 275) (by decide +kernel), List.forall_mem_cons.mpr ⟨List.mem_of_getElem? (i := 276) (by decide +kernel), List.forall_mem_cons.mpr ⟨List.mem_of_getElem? (i := 277) (by decide +kernel), List.forall_mem_cons.mpr ⟨List.mem_of_getElem? (i := 278) (by decide +kernel), List.forall_mem_cons.mpr ⟨List.mem_of_getElem? (i := 279) (by decide +kernel), List.forall_mem_cons.mpr ⟨List.mem_of_getElem? (i := 280) (by decide +kernel), List.forall_mem_cons.mpr ⟨List.mem_of_getElem? (i := 281) rfl, List.forall_mem_cons.mpr ⟨List.mem_of_getElem? (i := 282) (by decide +kernel), List.forall_mem_cons.mpr ⟨List.mem_of_getElem? (i := 283) (by decide +kernel), List.forall_mem_cons.mpr ⟨List.mem_of_getElem? (i := 284) (by decide +kernel), List.forall_mem_cons.mpr ⟨List.mem_of_getElem? (i := 285) (by decide +kernel), List.forall_mem_cons.mpr ⟨List.mem_of_getElem? (i := 286) (by decide +kernel), List.forall_mem_cons.mpr ⟨List.mem_of_getElem? (i := 287) (by decide +kernel), List.forall_mem_cons.mpr ⟨List.mem_of_getElem? (i := 288) (by decide +kernel), List.forall_mem_cons.mpr ⟨List.mem_of_getElem? (i := 289) (by decide +kernel), List.forall_mem_cons.mpr ⟨List.mem_of_getElem? (i := 290) (by decide +kernel), List.forall_mem_cons.mpr ⟨List.mem_of_getElem? (i := 291) (by decide +kernel), List.forall_mem_cons.mpr ⟨List.mem_of_getElem? (i := 292) (by decide +kernel), fun _ h => absurd h List.not_mem_nil⟩⟩⟩⟩⟩⟩⟩⟩⟩⟩⟩⟩⟩⟩⟩⟩⟩⟩⟩⟩⟩⟩⟩⟩
set_option maxRecDepth 100000 in
theorem sg_isHeld_holds_wsL_holds_r13 : ∀ w ∈ wsL_holds_r13, w ∈ wsL_isHeld := mem_ps [293, 294, 295, 296, 297, 298, 299, 300, 301, 302, 303, 304, 305, 306, 307, 308, 309, 310, 311, 312, 313, 314, 315, 316] (by decide +kernel)
set_option maxRecDepth 100000 in
theorem sg_isHeld_holds_wsL_holds_r14 : ∀ w ∈ wsL_holds_r14, w ∈ wsL_isHeld := mem_ps [317, 318, 319, 320, 321, 322, 323, 324, 325, 326, 327, 328, 329, 330, 331, 332, 333, 334, 335, 336, 337, 338, 339, 340] (by decide +kernel)
set_option maxRecDepth 100000 in
theorem sg_isHeld_holds_wsL_holds_r15 : ∀ w ∈ wsL_holds_r15, w ∈ wsL_isHeld := mem_ps [341, 342, 343, 344, 345, 346, 347, 348, 349, 350, 351, 352, 353, 354, 355, 356, 357, 358, 359, 360, 361, 362, 363, 364] (by decide +kernel)
set_option maxRecDepth 100000 in
theorem sg_isHeld_holds_wsL_holds_r16 : ∀ w ∈ wsL_holds_r16, w ∈ wsL_isHeld := mem_ps [365, 366, 367, 368, 369, 370, 371, 372, 373, 374, 375, 376, 377, 378, 379, 380, 381, 382, 383, 384, 385, 386, 387, 388] (by decide +kernel)
set_option maxRecDepth 100000 in
theorem sg_isHeld_holds_wsL_holds_r17 : ∀ w ∈ wsL_holds_r17, w ∈ wsL_isHeld := List.forall_mem_cons.mpr ⟨List.mem_of_getElem? (i := 389) (by decide +kernel), List.forall_mem_cons.mpr ⟨List.mem_of_getElem? (i := 390) rfl, List.forall_mem_cons.mpr ⟨List.mem_of_getElem? (i := 391) (by decide +kernel), List.forall_mem_cons.mpr ⟨List.mem_of_getElem? (i := 392) (by decide +kernel), List.forall_mem_cons.mpr ⟨List.mem_of_getElem? (i := 393) (by decide +kernel), List.forall_mem_cons.mpr ⟨List.mem_of_getElem? (i := 394) (by decide +kernel), List.forall_mem_cons.mpr ⟨List.mem_of_getElem? (i := 395) (by decide +kernel), List.forall_mem_cons.mpr ⟨List.mem_of_getElem? (i := 396) (by decide +kernel), List.forall_mem_cons.mpr ⟨List.mem_of_getElem? (i := 397) (by decide +kernel), List.forall_mem_cons.mpr ⟨List.mem_of_getElem? (i := 398) (by decide +kernel), List.forall_mem_cons.mpr ⟨List.mem_of_getElem? (i := 399) (by decide +kernel), List.forall_mem_cons.mpr ⟨List.mem_of_getElem? (i := 400) (by decide +kernel), List.forall_mem_cons.mpr ⟨List.mem_of_getElem? (i := 401) (by decide +kernel), List.forall_mem_cons.mpr ⟨List.mem_of_getElem? (i := 402) (by decide +kernel), List.forall_mem_cons.mpr ⟨List.mem_of_getElem? (i := 403) (by decide +kernel), List.forall_mem_cons.mpr ⟨List.mem_of_getElem? (i := 404) (by decide +kernel), List.forall_mem_cons.mpr ⟨List.mem_of_getElem? (i := 405) (by decide +kernel), List.forall_mem_cons.mpr ⟨List.mem_of_getElem? (i := 406) (by decide +kernel), List.forall_mem_cons.mpr ⟨List.mem_of_getElem? (i := 407) (by decide +kernel), List.forall_mem_cons.mpr ⟨List.mem_of_getElem? (i := 408) (by decide +kernel), List.forall_mem_cons.mpr ⟨List.mem_of_getElem? (i := 409) (by decide +kernel), List.forall_mem_cons.mpr ⟨List.mem_of_getElem? (i := 410) (by decide +kernel), List.forall_mem_cons.mpr ⟨List.mem_of_getElem? (i := 411) (by decide +kernel), List.forall_mem_cons.mpr ⟨List.mem_of_getElem? (i := 412) (by decide +kernel), fun _ h => absurd h List.not_mem_nil⟩⟩⟩⟩⟩⟩⟩⟩⟩⟩⟩⟩⟩⟩⟩⟩⟩⟩⟩⟩⟩⟩⟩⟩
set_option maxRecDepth 100000 in
theorem sg_isHeld_holds_wsL_holds_r18 : ∀ w ∈ wsL_holds_r18, w ∈ wsL_isHeld := mem_ps [413, 414, 415, 416, 417, 418, 419, 420, 421, 422, 423, 424, 425, 426, 427, 428, 429, 430, 431, 432, 433, 434, 435, 436] (by decide +kernel)
set_option maxRecDepth 100000 in
theorem sg_isHeld_holds_wsL_holds_r19 : ∀ w ∈ wsL_holds_r19, w ∈ wsL_isHeld := mem_ps [437, 438, 439, 440, 441, 442, 443, 444, 445, 446, 447, 448, 449, 450, 451, 452, 453, 454, 455, 456, 457, 458, 459, 460] (by decide +kernel)
set_option maxRecDepth 100000 in
theorem sg_isHeld_holds_wsL_holds_r20 : ∀ w ∈ wsL_holds_r20, w ∈ wsL_isHeld := mem_ps [461, 462, 463, 464, 465, 466, 467, 468, 469, 470, 471, 472, 473, 474, 475, 476, 477, 478, 479, 480, 481, 482, 483, 484] (by decide +kernel)
set_option maxRecDepth 100000 in
theorem sg_isHeld_holds_wsL_holds_r21 : ∀ w ∈ wsL_holds_r21, w ∈ wsL_isHeld := mem_ps [485, 486, 487, 488, 489, 490, 491, 492, 493, 494, 495, 496, 497, 498, 499, 500, 501, 502, 503, 504, 505, 506, 507, 508] (by decide +kernel)
set_option maxRecDepth 100000 in
theorem sg_isHeld_holds_wsL_holds_r22 : ∀ w ∈ wsL_holds_r22, w ∈ wsL_isHeld := mem_ps [509, 510, 511, 512, 513, 514, 515, 516, 517, 518, 519, 520, 521, 522, 523, 524, 525, 526, 527, 528, 529, 530, 531, 532] (by decide +kernel)
set_option maxRecDepth 100000 in
theorem sg_isHeld_holds_wsL_holds_r23 : ∀ w ∈ wsL_holds_r23, w ∈ wsL_isHeld := mem_ps [533, 534, 535, 536, 537, 538, 539, 540, 541, 542, 543, 544, 545, 546, 547, 548, 549] (by decide +kernel)
set_option maxRecDepth 100000 in
theorem sg_isHeld_holds_wsX50 : ∀ w ∈ wsX50, w ∈ wsL_isHeld := mem_ps [550, 551, 552, 553, 554, 555, 556] (by decide +kernel)
set_option maxRecDepth 100000 in
theorem sg_isHeld_holds_wsJx4a65c0 : ∀ w ∈ wsJx4a65c0, w ∈ wsL_isHeld := mem_ps [557, 558, 559] (by decide +kernel)
set_option maxRecDepth 100000 in
theorem sg_isHeld_holds_wsX10 : ∀ w ∈ wsX10, w ∈ wsL_isHeld := mem_ps [560, 561] (by decide +kernel)
set_option maxRecDepth 100000 in
theorem sg_isHeld_holds_wsX20 : ∀ w ∈ wsX20, w ∈ wsL_isHeld := mem_ps [562, 563, 564, 565] (by decide +kernel)
set_option maxRecDepth 100000 in
theorem sg_isHeld_holds_wsX00 : ∀ w ∈ wsX00, w ∈ wsL_isHeld := mem_ps [566, 567, 568, 569, 570, 571, 572] (by decide +kernel)
set_option maxRecDepth 100000 in
theorem sg_isHeld_holds_wsX30 : ∀ w ∈ wsX30, w ∈ wsL_isHeld := mem_ps [573, 574, 575] (by decide +kernel)
set_option maxRecDepth 100000 in
theorem sg_isHeld_holds_wsX40 : ∀ w ∈ wsX40, w ∈ wsL_isHeld := mem_ps [576, 577, 578, 579, 580, 581] (by decide +kernel)
set_option maxRecDepth 100000 in
theorem ggL_isHeld_L_holds : GoodIn wsL_isHeld wsL_holds := goodIn_ca (goodIn_ca (goodIn_ca (goodIn_sub (List.forall_mem_cons.mpr ⟨List.mem_of_getElem? (i := 5) (by decide +kernel), List.forall_mem_append.mpr ⟨List.forall_mem_append.mpr ⟨List.forall_mem_append.mpr ⟨List.forall_mem_append.mpr ⟨List.forall_mem_append.mpr ⟨List.forall_mem_append.mpr ⟨List.forall_mem_append.mpr ⟨List.forall_mem_append.mpr ⟨sg_isHeld_holds_wsL_holds_r1, List.forall_mem_append.mpr ⟨sg_isHeld_holds_wsL_holds_r2, List.forall_mem_append.mpr ⟨sg_isHeld_holds_wsL_holds_r3, List.forall_mem_append.mpr ⟨sg_isHeld_holds_wsL_holds_r4, List.forall_mem_append.mpr ⟨sg_isHeld_holds_wsL_holds_r5, List.forall_mem_append.mpr ⟨sg_isHeld_holds_wsL_holds_r6, List.forall_mem_append.mpr ⟨sg_isHeld_holds_wsL_holds_r7, List.forall_mem_append.mpr ⟨sg_isHeld_holds_wsL_holds_r8, List.forall_mem_append.mpr ⟨sg_isHeld_holds_wsL_holds_r9, List.forall_mem_append.mpr ⟨sg_isHeld_holds_wsL_holds_r10, List.forall_mem_append.mpr ⟨sg_isHeld_holds_wsL_holds_r11, List.forall_mem_append.mpr ⟨sg_isHeld_holds_wsL_holds_r12, List.forall_mem_append.mpr ⟨sg_isHeld_holds_wsL_holds_r13, List.forall_mem_append.mpr ⟨sg_isHeld_holds_wsL_holds_r14, List.forall_mem_append.mpr ⟨sg_isHeld_holds_wsL_holds_r15, List.forall_mem_append.mpr ⟨sg_isHeld_holds_wsL_holds_r16, List.forall_mem_append.mpr ⟨sg_isHeld_holds_wsL_holds_r17, List.forall_mem_append.mpr ⟨sg_isHeld_holds_wsL_holds_r18, List.forall_mem_append.mpr ⟨sg_isHeld_holds_wsL_holds_r19, List.forall_mem_append.mpr ⟨sg_isHeld_holds_wsL_holds_r20, List.forall_mem_append.mpr ⟨sg_isHeld_holds_wsL_holds_r21, List.forall_mem_append.mpr ⟨sg_isHeld_holds_wsL_holds_r22, sg_isHeld_holds_wsL_holds_r23⟩⟩⟩⟩⟩⟩⟩⟩⟩⟩⟩⟩⟩⟩⟩⟩⟩⟩⟩⟩⟩⟩, sg_isHeld_holds_wsX50⟩, sg_isHeld_holds_wsJx4a65c0⟩, sg_isHeld_holds_wsX10⟩, sg_isHeld_holds_wsX20⟩, sg_isHeld_holds_wsX00⟩, sg_isHeld_holds_wsX30⟩, sg_isHeld_holds_wsX40⟩⟩) (by decide +kernel)) (goodIn_sub (fun _ h => List.mem_cons_of_mem _ (List.mem_append_left _ (List.mem_append_left _ (List.mem_append_right _ h)))) (by decide +kernel))) (goodIn_sub (fun _ h => List.mem_cons_of_mem _ (List.mem_append_left _ (List.mem_append_right _ h))) (by decide +kernel))) (goodIn_sub (fun _ h => List.mem_cons_of_mem _ (List.mem_append_right _ h)) (by decide +kernel))
set_option maxRecDepth 20000 in
theorem gL_isHeld_L_holds : GoodIn wsL_isHeld (va_wsS RL 202 yL_holds wsL_holds) := goodIn_app (goodIn_of _ (by decide +kernel)) ggL_isHeld_L_holds
theorem dL_isHeld_0 : decode cL_isHeld 0 = .ok (.aload_n 0, 1) := by decide +kernel
theorem dL_isHeld_1 : decode cL_isHeld 1 = .ok (.invokestatic 202, 3) := by decide +kernel
theorem dL_isHeld_4 : decode cL_isHeld 4 = .ok (.ireturn, 1) := by decide +kernel
theorem dL_isHeld_5 : decode cL_isHeld 5 = .ok (.astore_n 1, 1) := by decide +kernel
theorem dL_isHeld_6 : decode cL_isHeld 6 = .ok (.iconst 0, 1) := by decide +kernel
theorem dL_isHeld_7 : decode cL_isHeld 7 = .ok (.ireturn, 1) := by decide +kernel
theorem dL_isHeld_8 : decode cL_isHeld 8 = .ok (.astore_n 1, 1) := by decide +kernel
theorem dL_isHeld_9 : decode cL_isHeld 9 = .ok (.iconst 0, 1) := by decide +kernel
theorem dL_isHeld_10 : decode cL_isHeld 10 = .ok (.ireturn, 1) := by decide +kernel
theorem dL_isHeld_11 : decode cL_isHeld 11 = .ok (.astore_n 1, 1) := by decide +kernel
theorem dL_isHeld_12 : decode cL_isHeld 12 = .ok (.iconst 0, 1) := by decide +kernel
theorem dL_isHeld_13 : decode cL_isHeld 13 = .ok (.ireturn, 1) := by decide +kernel
set_option maxRecDepth 100000 in
theorem sg_law_isHeld_wsL_isHeld_r1 : ∀ w ∈ wsL_isHeld_r1, w ∈ wsL_law := mem_ps [4, 5, 6, 2, 7, 8, 9, 10, 11, 12, 13, 14, 15, 16, 17, 18, 19, 20, 21, 22, 23, 24, 25, 26] (by decide +kernel)
set_option maxRecDepth 100000 in
theorem sg_law_isHeld_wsL_isHeld_r2 : ∀ w ∈ wsL_isHeld_r2, w ∈ wsL_law := mem_ps [27, 28, 29, 30, 31, 32, 33, 34, 35, 36, 37, 38, 39, 40, 41, 42, 43, 44, 45, 46, 47, 48, 49, 50] (by decide +kernel)
set_option maxRecDepth 100000 in
theorem sg_law_isHeld_wsL_isHeld_r3 : ∀ w ∈ wsL_isHeld_r3, w ∈ wsL_law := mem_ps [51, 52, 53, 54, 55, 56, 57, 58, 59, 60, 61, 62, 63, 64, 65, 66, 67, 68, 69, 70, 71, 72, 73, 74] (by decide +kernel)
set_option maxRecDepth 100000 in
theorem sg_law_isHeld_wsL_isHeld_r4 : ∀ w ∈ wsL_isHeld_r4, w ∈ wsL_law := mem_ps [75, 76, 77, 78, 79, 80, 81, 82, 83, 84, 85, 86, 87, 88, 89, 90, 91, 92, 93, 94, 95, 96, 97, 98] (by decide +kernel)
set_option maxRecDepth 100000 in
theorem sg_law_isHeld_wsL_isHeld_r5 : ∀ w ∈ wsL_isHeld_r5, w ∈ wsL_law := mem_ps [99, 100, 101, 102, 103, 104, 105, 106, 107, 108, 109, 110, 111, 112, 113, 114, 115, 116, 117, 118, 119, 120, 121, 122] (by decide +kernel)
set_option maxRecDepth 100000 in
theorem sg_law_isHeld_wsL_isHeld_r6 : ∀ w ∈ wsL_isHeld_r6, w ∈ wsL_law := List.forall_mem_cons.mpr ⟨List.mem_of_getElem? (i := 123) (by decide +kernel), List.forall_mem_cons.mpr ⟨List.mem_of_getElem? (i := 124) (by decide +kernel), List.forall_mem_cons.mpr ⟨List.mem_of_getElem? (i := 125) (by decide +kernel), List.forall_mem_cons.mpr ⟨List.mem_of_getElem? (i := 126) (by decide +kernel), List.forall_mem_cons.mpr ⟨List.mem_of_getElem? (i := 127) (by decide +kernel), List.forall_mem_cons.mpr ⟨List.mem_of_getElem? (i := 128) (by decide +kernel), List.forall_mem_cons.mpr ⟨List.mem_of_getElem? (i := 129) (by decide +kernel), List.forall_mem_cons.mpr ⟨List.mem_of_getElem? (i := 130) (by decide +kernel), List.forall_mem_cons.mpr ⟨List.mem_of_getElem? (i := 131) (by decide +kernel), List.forall_mem_cons.mpr ⟨List.mem_of_getElem? (i := 132) (by decide +kernel), List.forall_mem_cons.mpr ⟨List.mem_of_getElem? (i := 133) (by decide +kernel), List.forall_mem_cons.mpr ⟨List.mem_of_getElem? (i := 134) (by decide +kernel), List.forall_mem_cons.mpr ⟨List.mem_of_getElem? (i := 135) (by decide +kernel), List.forall_mem_cons.mpr ⟨List.mem_of_getElem? (i := 136) (by decide +kernel), List.forall_mem_cons.mpr ⟨List.mem_of_getElem? (i := 137) (by decide +kernel), List.forall_mem_cons.mpr ⟨List.mem_of_getElem? (i := 138) (by decide +kernel), List.forall_mem_cons.mpr ⟨List.mem_of_getElem? (i := 139) (by decide +kernel), List.forall_mem_cons.mpr ⟨List.mem_of_getElem? (i := 140) (by decide +kernel), List.forall_mem_cons.mpr ⟨List.mem_of_getElem? (i := 141) (by decide +kernel), List.forall_mem_cons.mpr ⟨List.mem_of_getElem? (i := 142) (by decide +kernel), List.forall_mem_cons.mpr ⟨List.mem_of_getElem? (i := 143) (by decide +kernel), List.forall_mem_cons.mpr ⟨List.mem_of_getElem? (i := 144) rfl, List.forall_mem_cons.mpr ⟨List.mem_of_getElem? (i := 145) (by decide +kernel), List.forall_mem_cons.mpr ⟨List.mem_of_getElem? (i := 146) (by decide +kernel), fun _ h => absurd h List.not_mem_nil⟩⟩⟩⟩⟩⟩⟩⟩⟩⟩⟩⟩⟩⟩⟩⟩⟩⟩⟩⟩⟩⟩⟩⟩
set_option maxRecDepth 100000 in
theorem sg_law_isHeld_wsL_isHeld_r7 : ∀ w ∈ wsL_isHeld_r7, w ∈ wsL_law := List.forall_mem_cons.mpr ⟨List.mem_of_getElem? (i := 147) rfl, List.forall_mem_cons.mpr ⟨List.mem_of_getElem? (i := 148) (by decide +kernel), List.forall_mem_cons.mpr ⟨List.mem_of_getElem? (i := 149) (by decide +kernel), List.forall_mem_cons.mpr ⟨List.mem_of_getElem? (i := 150) (by decide +kernel), List.forall_mem_cons.mpr ⟨List.mem_of_getElem? (i := 151) (by decide +kernel), List.forall_mem_cons.mpr ⟨List.mem_of_getElem? (i := 152) (by decide +kernel), List.forall_mem_cons.mpr ⟨List.mem_of_getElem? (i := 153) (by decide +kernel), List.forall_mem_cons.mpr ⟨List.mem_of_getElem? (i := 154) (by decide +kernel), List.forall_mem_cons.mpr ⟨List.mem_of_getElem? (i := 155) (by decide +kernel), List.forall_mem_cons.mpr ⟨List.mem_of_getElem? (i := 156) (by decide +kernel), List.forall_mem_cons.mpr ⟨List.mem_of_getElem? (i := 157) (by decide +kernel), List.forall_mem_cons.mpr ⟨List.mem_of_getElem? (i := 158) (by decide +kernel), List.forall_mem_cons.mpr ⟨List.mem_of_getElem? (i := 159) (by decide +kernel), List.forall_mem_cons.mpr ⟨List.mem_of_getElem? (i := 160) (by decide +kernel), List.forall_mem_cons.mpr ⟨List.mem_of_getElem? (i := 161) (by decide +kernel), List.forall_mem_cons.mpr ⟨List.mem_of_getElem? (i := 162) (by decide +kernel), List.forall_mem_cons.mpr ⟨List.mem_of_getElem? (i := 163) (by decide +kernel), List.forall_mem_cons.mpr ⟨List.mem_of_getElem? (i := 164) (by decide +kernel), List.forall_mem_cons.mpr ⟨List.mem_of_getElem? (i := 165) (by decide +kernel), List.forall_mem_cons.mpr ⟨List.mem_of_getElem? (i := 166) (by decide +kernel), List.forall_mem_cons.mpr ⟨List.mem_of_getElem? (i := 167) (by decide +kernel), List.forall_mem_cons.mpr ⟨List.mem_of_getElem? (i := 168) (by decide +kernel), List.forall_mem_cons.mpr ⟨List.mem_of_getElem? (i := 169) (by decide +kernel), List.forall_mem_cons.mpr ⟨List.mem_of_getElem? (i := 170) (by decide +kernel), fun _ h => absurd h List.not_mem_nil⟩⟩⟩⟩⟩⟩⟩⟩⟩⟩⟩⟩⟩⟩⟩⟩⟩⟩⟩⟩⟩⟩⟩⟩
set_option maxRecDepth 100000 in
theorem sg_law_isHeld_wsL_isHeld_r8 : ∀ w ∈ wsL_isHeld_r8, w ∈ wsL_law := mem_ps [171, 172, 173, 174, 175, 176, 177, 178, 179, 180, 181, 182, 183, 184, 185, 186, 187, 188, 189, 190, 191, 192, 193, 194] (by decide +kernel)
set_option maxRecDepth 100000 in
theorem sg_law_isHeld_wsL_isHeld_r9 : ∀ w ∈ wsL_isHeld_r9, w ∈ wsL_law := mem_ps [195, 196, 197, 198, 199, 200, 201, 202, 203, 204, 205, 206, 207, 208, 209, 210, 211, 212, 213, 214, 215, 216, 217, 218] (by decide +kernel)
set_option maxRecDepth 100000 in
theorem sg_law_isHeld_wsL_isHeld_r10 : ∀ w ∈ wsL_isHeld_r10, w ∈ wsL_law := mem_ps [219, 220, 221, 222, 223, 224, 225, 226, 227, 228, 229, 230, 231, 232, 233, 234, 235, 236, 237, 238, 239, 240, 241, 242] (by decide +kernel)
set_option maxRecDepth 100000 in
theorem sg_law_isHeld_wsL_isHeld_r11 : ∀ w ∈ wsL_isHeld_r11, w ∈ wsL_law := mem_ps [243, 244, 245, 246, 247, 248, 249, 250, 251, 252, 253, 254, 255, 256, 257, 258, 259, 260, 261, 262, 263, 264, 265, 266] (by decide +kernel)
set_option maxRecDepth 100000 in
theorem sg_law_isHeld_wsL_isHeld_r12 : ∀ w ∈ wsL_isHeld_r12, w ∈ wsL_law := List.forall_mem_cons.mpr ⟨List.mem_of_getElem? (i := 267) (by decide +kernel), List.forall_mem_cons.mpr ⟨List.mem_of_getElem? (i := 268) (by decide +kernel), List.forall_mem_cons.mpr ⟨List.mem_of_getElem? (i := 269) (by decide +kernel), List.forall_mem_cons.mpr ⟨List.mem_of_getElem? (i := 270) (by decide +kernel), List.forall_mem_cons.mpr ⟨List.mem_of_getElem? (i := 271) (by decide +kernel), List.forall_mem_cons.mpr ⟨List.mem_of_getElem? (i := 272) (by decide +kernel), List.forall_mem_cons.mpr ⟨List.mem_of_getElem? (i := 273) (by decide +kernel), List.forall_mem_cons.mpr ⟨List.mem_of_getElem? (i := 274) (by decide +kernel), List.forall_mem_cons.mpr ⟨List.mem_of_getElem? (i := 275) (by decide +kernel), List.forall_mem_cons.mpr ⟨List.mem_of_getElem? (i := 276) (by decide +kernel), List.forall_mem_cons.mpr ⟨List.mem_of_getElem? (i := 277) (by decide +kernel), List.forall_mem_cons.mpr ⟨List.mem_of_getElem? (i := 278) (by decide +kernel), List.forall_mem_cons.mpr ⟨List.mem_of_getElem? (i := 279) (by decide +kernel), List.forall_mem_cons.mpr ⟨List.mem_of_getElem? (i := 280) (by decide +kernel), List.forall_mem_cons.mpr ⟨List.mem_of_getElem? (i := 281) (by decide +kernel), List.forall_mem_cons.mpr ⟨List.mem_of_getElem? (i := 282) (by decide +kernel), List.forall_mem_cons.mpr ⟨List.mem_of_getElem? (i := 283) rfl, List.forall_mem_cons.mpr ⟨List.mem_of_getElem? (i := 284) (by decide +kernel), List.forall_mem_cons.mpr ⟨List.mem_of_getElem? (i := 285) (by decide +kernel), List.forall_mem_cons.mpr ⟨List.mem_of_getElem? (i := 286) (by decide +kernel), List.forall_mem_cons.mpr ⟨List.mem_of_getElem? (i := 287) (by decide +kernel), List.forall_mem_cons.mpr ⟨List.mem_of_getElem? (i := 288) (by decide +kernel), List.forall_mem_cons.mpr ⟨List.mem_of_getElem? (i := 289) (by decide +kernel), List.forall_mem_cons.mpr ⟨List.mem_of_getElem? (i := 290) (by decide +kernel), fun _ h => absurd h List.not_mem_nil⟩⟩⟩⟩⟩⟩⟩⟩⟩⟩⟩⟩⟩⟩⟩⟩⟩⟩⟩⟩⟩⟩⟩⟩
set_option maxRecDepth 100000 in
theorem sg_law_isHeld_wsL_isHeld_r13 : ∀ w ∈ wsL_isHeld_r13, w ∈ wsL_law := mem_ps [291, 292, 293, 294, 295, 296, 297, 298, 299, 300, 301, 302, 303, 304, 305, 306, 307, 308, 309, 310, 311, 312, 313, 314] (by decide +kernel)
set_option maxRecDepth 100000 in
theorem sg_law_isHeld_wsL_isHeld_r14 : ∀ w ∈ wsL_isHeld_r14, w ∈ wsL_law := mem_ps [315, 316, 317, 318, 319, 320, 321, 322, 323, 324, 325, 326, 327, 328, 329, 330, 331, 332, 333, 334, 335, 336, 337, 338] (by decide +kernel)
set_option maxRecDepth 100000 in
theorem sg_law_isHeld_wsL_isHeld_r15 : ∀ w ∈ wsL_isHeld_r15, w ∈ wsL_law := mem_ps [339, 340, 341, 342, 343, 344, 345, 346, 347, 348, 349, 350, 351, 352, 353, 354, 355, 356, 357, 358, 359, 360, 361, 362] (by decide +kernel)
set_option maxRecDepth 100000 in
theorem sg_law_isHeld_wsL_isHeld_r16 : ∀ w ∈ wsL_isHeld_r16, w ∈ wsL_law := mem_ps [363, 364, 365, 366, 367, 368, 369, 370, 371, 372, 373, 374, 375, 376, 377, 378, 379, 380, 381, 382, 383, 384, 385, 386] (by decide +kernel)
set_option maxRecDepth 100000 in
theorem sg_law_isHeld_wsL_isHeld_r17 : ∀ w ∈ wsL_isHeld_r17, w ∈ wsL_law := List.forall_mem_cons.mpr ⟨List.mem_of_getElem? (i := 387) (by decide +kernel), List.forall_mem_cons.mpr ⟨List.mem_of_getElem? (i := 388) (by decide +kernel), List.forall_mem_cons.mpr ⟨List.mem_of_getElem? (i := 389) (by decide +kernel), List.forall_mem_cons.mpr ⟨List.mem_of_getElem? (i := 390) (by decide +kernel), List.forall_mem_cons.mpr ⟨List.mem_of_getElem? (i := 391) (by decide +kernel), List.forall_mem_cons.mpr ⟨List.mem_of_getElem? (i := 392) rfl, List.forall_mem_cons.mpr ⟨List.mem_of_getElem? (i := 393) (by decide +kernel), List.forall_mem_cons.mpr ⟨List.mem_of_getElem? (i := 394) (by decide +kernel), List.forall_mem_cons.mpr ⟨List.mem_of_getElem? (i := 395) (by decide +kernel), List.forall_mem_cons.mpr ⟨List.mem_of_getElem? (i := 396) (by decide +kernel), List.forall_mem_cons.mpr ⟨List.mem_of_getElem? (i := 397) (by decide +kernel), List.forall_mem_cons.mpr ⟨List.mem_of_getElem? (i := 398) (by decide +kernel), List.forall_mem_cons.mpr ⟨List.mem_of_getElem? (i := 399) (by decide +kernel), List.forall_mem_cons.mpr ⟨List.mem_of_getElem? (i := 400) (by decide +kernel), List.forall_mem_cons.mpr ⟨List.mem_of_getElem? (i := 401) (by decide +kernel), List.forall_mem_cons.mpr ⟨List.mem_of_getElem? (i := 402) (by decide +kernel), List.forall_mem_cons.mpr ⟨List.mem_of_getElem? (i := 403) (by decide +kernel), List.forall_mem_cons.mpr ⟨List.mem_of_getElem? (i := 404) (by decide +kernel), List.forall_mem_cons.mpr ⟨List.mem_of_getElem? (i := 405) (by decide +kernel), List.forall_mem_cons.mpr ⟨List.mem_of_getElem? (i := 406) (by decide +kernel), List.forall_mem_cons.mpr ⟨List.mem_of_getElem? (i := 407) (by decide +kernel), List.forall_mem_cons.mpr ⟨List.mem_of_getElem? (i := 408) (by decide +kernel), List.forall_mem_cons.mpr ⟨List.mem_of_getElem? (i := 409) (by decide +kernel), List.forall_mem_cons.mpr ⟨List.mem_of_getElem? (i := 410) (by decide +kernel), fun _ h => absurd h List.not_mem_nil⟩⟩⟩⟩⟩⟩⟩⟩⟩⟩⟩⟩⟩⟩⟩⟩⟩⟩⟩⟩⟩⟩⟩⟩
set_option maxRecDepth 100000 in
theorem sg_law_isHeld_wsL_isHeld_r18 : ∀ w ∈ wsL_isHeld_r18, w ∈ wsL_law := mem_ps [411, 412, 413, 414, 415, 416, 417, 418, 419, 420, 421, 422, 423, 424, 425, 426, 427, 428, 429, 430, 431, 432, 433, 434] (by decide +kernel)
set_option maxRecDepth 100000 in
theorem sg_law_isHeld_wsL_isHeld_r19 : ∀ w ∈ wsL_isHeld_r19, w ∈ wsL_law := mem_ps [435, 436, 437, 438, 439, 440, 441, 442, 443, 444, 445, 446, 447, 448, 449, 450, 451, 452, 453, 454, 455, 456, 457, 458] (by decide +kernel)
set_option maxRecDepth 100000 in
theorem sg_law_isHeld_wsL_isHeld_r20 : ∀ w ∈ wsL_isHeld_r20, w ∈ wsL_law := mem_ps [459, 460, 461, 462, 463, 464, 465, 466, 467, 468, 469, 470, 471, 472, 473, 474, 475, 476, 477, 478, 479, 480, 481, 482] (by decide +kernel)
set_option maxRecDepth 100000 in
theorem sg_law_isHeld_wsL_isHeld_r21 : ∀ w ∈ wsL_isHeld_r21, w ∈ wsL_law := mem_ps [483, 484, 485, 486, 487, 488, 489, 490, 491, 492, 493, 494, 495, 496, 497, 498, 499, 500, 501, 502, 503, 504, 505, 506] (by decide +kernel)
set_option maxRecDepth 100000 in
theorem sg_law_isHeld_wsL_isHeld_r22 : ∀ w ∈ wsL_isHeld_r22, w ∈ wsL_law := mem_ps [507, 508, 509, 510, 511, 512, 513, 514, 515, 516, 517, 518, 519, 520, 521, 522, 523, 524, 525, 526, 527, 528, 529, 530] (by decide +kernel)
set_option maxRecDepth 100000 in
theorem sg_law_isHeld_wsL_isHeld_r23 : ∀ w ∈ wsL_isHeld_r23, w ∈ wsL_law := mem_ps [531, 532, 533, 534, 535, 536, 537, 538, 539, 540, 541, 542, 543, 544, 545, 546, 547, 548, 549, 550, 551] (by decide +kernel)
set_option maxRecDepth 100000 in
theorem sg_law_isHeld_wsX50 : ∀ w ∈ wsX50, w ∈ wsL_law := mem_ps [552, 553, 554, 555, 556, 557, 558] (by decide +kernel)
set_option maxRecDepth 100000 in
theorem sg_law_isHeld_wsJx4a65c0 : ∀ w ∈ wsJx4a65c0, w ∈ wsL_law := mem_ps [559, 560, 561] (by decide +kernel)
set_option maxRecDepth 100000 in
theorem sg_law_isHeld_wsX10 : ∀ w ∈ wsX10, w ∈ wsL_law := mem_ps [562, 563] (by decide +kernel)
set_option maxRecDepth 100000 in
theorem sg_law_isHeld_wsX20 : ∀ w ∈ wsX20, w ∈ wsL_law := mem_ps [564, 565, 566, 567] (by decide +kernel)
set_option maxRecDepth 100000 in
theorem sg_law_isHeld_wsX00 : ∀ w ∈ wsX00, w ∈ wsL_law := mem_ps [568, 569, 570, 571, 572, 573, 574] (by decide +kernel)
set_option maxRecDepth 100000 in
theorem sg_law_isHeld_wsX30 : ∀ w ∈ wsX30, w ∈ wsL_law := mem_ps [575, 576, 577] (by decide +kernel)
set_option maxRecDepth 100000 in
theorem sg_law_isHeld_wsX40 : ∀ w ∈ wsX40, w ∈ wsL_law := mem_ps [578, 579, 580, 581, 582, 583] (by decide +kernel)
set_option maxRecDepth 100000 in
theorem ggL_law_L_isHeld : GoodIn wsL_law wsL_isHeld := goodIn_ca (goodIn_ca (goodIn_ca (goodIn_sub (List.forall_mem_cons.mpr ⟨List.mem_of_getElem? (i := 3) (by decide +kernel), List.forall_mem_append.mpr ⟨List.forall_mem_append.mpr ⟨List.forall_mem_append.mpr ⟨List.forall_mem_append.mpr ⟨List.forall_mem_append.mpr ⟨List.forall_mem_append.mpr ⟨List.forall_mem_append.mpr ⟨List.forall_mem_append.mpr ⟨sg_law_isHeld_wsL_isHeld_r1, List.forall_mem_append.mpr ⟨sg_law_isHeld_wsL_isHeld_r2, List.forall_mem_append.mpr ⟨sg_law_isHeld_wsL_isHeld_r3, List.forall_mem_append.mpr ⟨sg_law_isHeld_wsL_isHeld_r4, List.forall_mem_append.mpr ⟨sg_law_isHeld_wsL_isHeld_r5, List.forall_mem_append.mpr ⟨sg_law_isHeld_wsL_isHeld_r6, List.forall_mem_append.mpr ⟨sg_law_isHeld_wsL_isHeld_r7, List.forall_mem_append.mpr ⟨sg_law_isHeld_wsL_isHeld_r8, List.forall_mem_append.mpr ⟨sg_law_isHeld_wsL_isHeld_r9, List.forall_mem_append.mpr ⟨sg_law_isHeld_wsL_isHeld_r10, List.forall_mem_append.mpr ⟨sg_law_isHeld_wsL_isHeld_r11, List.forall_mem_append.mpr ⟨sg_law_isHeld_wsL_isHeld_r12, List.forall_mem_append.mpr ⟨sg_law_isHeld_wsL_isHeld_r13, List.forall_mem_append.mpr ⟨sg_law_isHeld_wsL_isHeld_r14, List.forall_mem_append.mpr ⟨sg_law_isHeld_wsL_isHeld_r15, List.forall_mem_append.mpr ⟨sg_law_isHeld_wsL_isHeld_r16, List.forall_mem_append.mpr ⟨sg_law_isHeld_wsL_isHeld_r17, List.forall_mem_append.mpr ⟨sg_law_isHeld_wsL_isHeld_r18, List.forall_mem_append.mpr ⟨sg_law_isHeld_wsL_isHeld_r19, List.forall_mem_append.mpr ⟨sg_law_isHeld_wsL_isHeld_r20, List.forall_mem_append.mpr ⟨sg_law_isHeld_wsL_isHeld_r21, List.forall_mem_append.mpr ⟨sg_law_isHeld_wsL_isHeld_r22, sg_law_isHeld_wsL_isHeld_r23⟩⟩⟩⟩⟩⟩⟩⟩⟩⟩⟩⟩⟩⟩⟩⟩⟩⟩⟩⟩⟩⟩, sg_law_isHeld_wsX50⟩, sg_law_isHeld_wsJx4a65c0⟩, sg_law_isHeld_wsX10⟩, sg_law_isHeld_wsX20⟩, sg_law_isHeld_wsX00⟩, sg_law_isHeld_wsX30⟩, sg_law_isHeld_wsX40⟩⟩) (by decide +kernel)) (goodIn_sub (fun _ h => List.mem_append_left _ (List.mem_append_left _ (List.mem_append_right _ h))) (by decide +kernel))) (goodIn_sub (fun _ h => List.mem_append_left _ (List.mem_append_right _ h)) (by decide +kernel))) (goodIn_sub (fun _ h => List.mem_append_right _ h) (by decide +kernel))
set_option maxRecDepth 20000 in
theorem gL_law_L_isHeld : GoodIn wsL_law (va_wsS RL 210 yL_isHeld wsL_isHeld) := goodIn_app (goodIn_of _ (by decide +kernel)) ggL_law_L_isHeld
theorem dL_law_0 : decode cL_law 0 = .ok (.aload_n 0, 1) := by decide +kernel
theorem dL_law_1 : decode cL_law 1 = .ok (.invokestatic 210, 3) := by decide +kernel
theorem dL_law_4 : decode cL_law 4 = .ok (.ireturn, 1) := by decide +kernel
