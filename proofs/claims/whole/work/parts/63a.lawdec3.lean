theorem d_LW_law_352 : decode code 352 = .ok (.aload_n 1, 1) := by decide +kernel
theorem d_LW_law_353 : decode code 353 = .ok (.aload_n 0, 1) := by decide +kernel
theorem d_LW_law_354 : decode code 354 = .ok (.iload 4, 2) := by decide +kernel
theorem d_LW_law_356 : decode code 356 = .ok (.iconst 1, 1) := by decide +kernel
theorem d_LW_law_357 : decode code 357 = .ok (.iadd, 1) := by decide +kernel
theorem d_LW_law_358 : decode code 358 = .ok (.iaload, 1) := by decide +kernel
theorem d_LW_law_359 : decode code 359 = .ok (.invokevirtual 56, 3) := by decide +kernel
theorem d_LW_law_362 : decode code 362 = .ok (.aload_n 2, 1) := by decide +kernel
theorem d_LW_law_363 : decode code 363 = .ok (.aload_n 0, 1) := by decide +kernel
theorem d_LW_law_364 : decode code 364 = .ok (.iload 4, 2) := by decide +kernel
theorem d_LW_law_366 : decode code 366 = .ok (.iconst 1, 1) := by decide +kernel
theorem d_LW_law_367 : decode code 367 = .ok (.iadd, 1) := by decide +kernel
theorem d_LW_law_368 : decode code 368 = .ok (.iaload, 1) := by decide +kernel
theorem d_LW_law_369 : decode code 369 = .ok (.invokevirtual 59, 3) := by decide +kernel
theorem d_LW_law_372 : decode code 372 = .ok (.if_icmp .eq 291, 3) := by decide +kernel
theorem d_LW_law_375 : decode code 375 = .ok (.iconst 0, 1) := by decide +kernel
theorem d_LW_law_376 : decode code 376 = .ok (.ireturn, 1) := by decide +kernel
theorem d_LW_law_377 : decode code 377 = .ok (.aload_n 1, 1) := by decide +kernel
theorem d_LW_law_378 : decode code 378 = .ok (.aload_n 0, 1) := by decide +kernel
theorem d_LW_law_379 : decode code 379 = .ok (.iload 4, 2) := by decide +kernel
theorem d_LW_law_381 : decode code 381 = .ok (.iconst 1, 1) := by decide +kernel
theorem d_LW_law_382 : decode code 382 = .ok (.iadd, 1) := by decide +kernel
theorem d_LW_law_383 : decode code 383 = .ok (.iaload, 1) := by decide +kernel
theorem d_LW_law_384 : decode code 384 = .ok (.invokevirtual 60, 3) := by decide +kernel
theorem d_LW_law_387 : decode code 387 = .ok (.aload_n 2, 1) := by decide +kernel
theorem d_LW_law_388 : decode code 388 = .ok (.aload_n 0, 1) := by decide +kernel
theorem d_LW_law_389 : decode code 389 = .ok (.iload 4, 2) := by decide +kernel
theorem d_LW_law_391 : decode code 391 = .ok (.iconst 1, 1) := by decide +kernel
theorem d_LW_law_392 : decode code 392 = .ok (.iadd, 1) := by decide +kernel
theorem d_LW_law_393 : decode code 393 = .ok (.iaload, 1) := by decide +kernel
theorem d_LW_law_394 : decode code 394 = .ok (.invokevirtual 63, 3) := by decide +kernel
theorem d_LW_law_397 : decode code 397 = .ok (.if_icmp .eq 266, 3) := by decide +kernel
theorem d_LW_law_400 : decode code 400 = .ok (.iconst 0, 1) := by decide +kernel
theorem d_LW_law_401 : decode code 401 = .ok (.ireturn, 1) := by decide +kernel
theorem d_LW_law_402 : decode code 402 = .ok (.aload_n 1, 1) := by decide +kernel
theorem d_LW_law_403 : decode code 403 = .ok (.aload_n 0, 1) := by decide +kernel
theorem d_LW_law_404 : decode code 404 = .ok (.iload 4, 2) := by decide +kernel
theorem d_LW_law_406 : decode code 406 = .ok (.iconst 1, 1) := by decide +kernel
theorem d_LW_law_407 : decode code 407 = .ok (.iadd, 1) := by decide +kernel
theorem d_LW_law_408 : decode code 408 = .ok (.iaload, 1) := by decide +kernel
theorem d_LW_law_409 : decode code 409 = .ok (.aload_n 0, 1) := by decide +kernel
theorem d_LW_law_410 : decode code 410 = .ok (.iload 4, 2) := by decide +kernel
theorem d_LW_law_412 : decode code 412 = .ok (.iconst 2, 1) := by decide +kernel
theorem d_LW_law_413 : decode code 413 = .ok (.iadd, 1) := by decide +kernel
theorem d_LW_law_414 : decode code 414 = .ok (.iaload, 1) := by decide +kernel
theorem d_LW_law_415 : decode code 415 = .ok (.invokevirtual 64, 3) := by decide +kernel
theorem d_LW_law_418 : decode code 418 = .ok (.aload_n 2, 1) := by decide +kernel
theorem d_LW_law_419 : decode code 419 = .ok (.aload_n 0, 1) := by decide +kernel
theorem d_LW_law_420 : decode code 420 = .ok (.iload 4, 2) := by decide +kernel
theorem d_LW_law_422 : decode code 422 = .ok (.iconst 1, 1) := by decide +kernel
theorem d_LW_law_423 : decode code 423 = .ok (.iadd, 1) := by decide +kernel
theorem d_LW_law_424 : decode code 424 = .ok (.iaload, 1) := by decide +kernel
theorem d_LW_law_425 : decode code 425 = .ok (.aload_n 0, 1) := by decide +kernel
theorem d_LW_law_426 : decode code 426 = .ok (.iload 4, 2) := by decide +kernel
theorem d_LW_law_428 : decode code 428 = .ok (.iconst 2, 1) := by decide +kernel
theorem d_LW_law_429 : decode code 429 = .ok (.iadd, 1) := by decide +kernel
theorem d_LW_law_430 : decode code 430 = .ok (.iaload, 1) := by decide +kernel
theorem d_LW_law_431 : decode code 431 = .ok (.invokevirtual 67, 3) := by decide +kernel
theorem d_LW_law_434 : decode code 434 = .ok (.if_icmp .eq 229, 3) := by decide +kernel
theorem d_LW_law_437 : decode code 437 = .ok (.iconst 0, 1) := by decide +kernel
