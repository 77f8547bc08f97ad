theorem d_L_law_346 : decode c_L_law 346 = .ok (.iconst 1, 1) := by decide +kernel
theorem d_L_law_347 : decode c_L_law 347 = .ok (.iadd, 1) := by decide +kernel
theorem d_L_law_348 : decode c_L_law 348 = .ok (.iaload, 1) := by decide +kernel
theorem d_L_law_349 : decode c_L_law 349 = .ok (.aload_n 0, 1) := by decide +kernel
theorem d_L_law_350 : decode c_L_law 350 = .ok (.iload 4, 2) := by decide +kernel
theorem d_L_law_352 : decode c_L_law 352 = .ok (.iconst 2, 1) := by decide +kernel
theorem d_L_law_353 : decode c_L_law 353 = .ok (.iadd, 1) := by decide +kernel
theorem d_L_law_354 : decode c_L_law 354 = .ok (.iaload, 1) := by decide +kernel
theorem d_L_law_355 : decode c_L_law 355 = .ok (.invokevirtual 49, 3) := by decide +kernel
theorem d_L_law_358 : decode c_L_law 358 = .ok (.aload_n 2, 1) := by decide +kernel
theorem d_L_law_359 : decode c_L_law 359 = .ok (.aload_n 0, 1) := by decide +kernel
theorem d_L_law_360 : decode c_L_law 360 = .ok (.iload 4, 2) := by decide +kernel
theorem d_L_law_362 : decode c_L_law 362 = .ok (.iconst 1, 1) := by decide +kernel
theorem d_L_law_363 : decode c_L_law 363 = .ok (.iadd, 1) := by decide +kernel
theorem d_L_law_364 : decode c_L_law 364 = .ok (.iaload, 1) := by decide +kernel
theorem d_L_law_365 : decode c_L_law 365 = .ok (.aload_n 0, 1) := by decide +kernel
theorem d_L_law_366 : decode c_L_law 366 = .ok (.iload 4, 2) := by decide +kernel
theorem d_L_law_368 : decode c_L_law 368 = .ok (.iconst 2, 1) := by decide +kernel
theorem d_L_law_369 : decode c_L_law 369 = .ok (.iadd, 1) := by decide +kernel
theorem d_L_law_370 : decode c_L_law 370 = .ok (.iaload, 1) := by decide +kernel
theorem d_L_law_371 : decode c_L_law 371 = .ok (.invokevirtual 52, 3) := by decide +kernel
theorem d_L_law_374 : decode c_L_law 374 = .ok (.if_icmp .eq 460, 3) := by decide +kernel
theorem d_L_law_377 : decode c_L_law 377 = .ok (.iconst 0, 1) := by decide +kernel
theorem d_L_law_378 : decode c_L_law 378 = .ok (.ireturn, 1) := by decide +kernel
theorem d_L_law_379 : decode c_L_law 379 = .ok (.aload_n 1, 1) := by decide +kernel
theorem d_L_law_380 : decode c_L_law 380 = .ok (.invokevirtual 53, 3) := by decide +kernel
theorem d_L_law_383 : decode c_L_law 383 = .ok (.aload_n 2, 1) := by decide +kernel
theorem d_L_law_384 : decode c_L_law 384 = .ok (.invokevirtual 56, 3) := by decide +kernel
theorem d_L_law_387 : decode c_L_law 387 = .ok (.if_icmp .eq 447, 3) := by decide +kernel
theorem d_L_law_390 : decode c_L_law 390 = .ok (.iconst 0, 1) := by decide +kernel
theorem d_L_law_391 : decode c_L_law 391 = .ok (.ireturn, 1) := by decide +kernel
theorem d_L_law_392 : decode c_L_law 392 = .ok (.aload_n 1, 1) := by decide +kernel
theorem d_L_law_393 : decode c_L_law 393 = .ok (.aload_n 0, 1) := by decide +kernel
theorem d_L_law_394 : decode c_L_law 394 = .ok (.iload 4, 2) := by decide +kernel
theorem d_L_law_396 : decode c_L_law 396 = .ok (.iconst 1, 1) := by decide +kernel
theorem d_L_law_397 : decode c_L_law 397 = .ok (.iadd, 1) := by decide +kernel
theorem d_L_law_398 : decode c_L_law 398 = .ok (.iaload, 1) := by decide +kernel
theorem d_L_law_399 : decode c_L_law 399 = .ok (.invokevirtual 57, 3) := by decide +kernel
theorem d_L_law_402 : decode c_L_law 402 = .ok (.aload_n 2, 1) := by decide +kernel
theorem d_L_law_403 : decode c_L_law 403 = .ok (.aload_n 0, 1) := by decide +kernel
theorem d_L_law_404 : decode c_L_law 404 = .ok (.iload 4, 2) := by decide +kernel
theorem d_L_law_406 : decode c_L_law 406 = .ok (.iconst 1, 1) := by decide +kernel
theorem d_L_law_407 : decode c_L_law 407 = .ok (.iadd, 1) := by decide +kernel
theorem d_L_law_408 : decode c_L_law 408 = .ok (.iaload, 1) := by decide +kernel
theorem d_L_law_409 : decode c_L_law 409 = .ok (.invokevirtual 61, 3) := by decide +kernel
theorem d_L_law_412 : decode c_L_law 412 = .ok (.if_icmp .eq 422, 3) := by decide +kernel
theorem d_L_law_415 : decode c_L_law 415 = .ok (.iconst 0, 1) := by decide +kernel
theorem d_L_law_416 : decode c_L_law 416 = .ok (.ireturn, 1) := by decide +kernel
theorem d_L_law_417 : decode c_L_law 417 = .ok (.aload_n 1, 1) := by decide +kernel
theorem d_L_law_418 : decode c_L_law 418 = .ok (.aload_n 0, 1) := by decide +kernel
theorem d_L_law_419 : decode c_L_law 419 = .ok (.iload 4, 2) := by decide +kernel
theorem d_L_law_421 : decode c_L_law 421 = .ok (.iconst 1, 1) := by decide +kernel
theorem d_L_law_422 : decode c_L_law 422 = .ok (.iadd, 1) := by decide +kernel
theorem d_L_law_423 : decode c_L_law 423 = .ok (.iaload, 1) := by decide +kernel
theorem d_L_law_424 : decode c_L_law 424 = .ok (.aload_n 0, 1) := by decide +kernel
theorem d_L_law_425 : decode c_L_law 425 = .ok (.iload 4, 2) := by decide +kernel
theorem d_L_law_427 : decode c_L_law 427 = .ok (.iconst 2, 1) := by decide +kernel
theorem d_L_law_428 : decode c_L_law 428 = .ok (.iadd, 1) := by decide +kernel
theorem d_L_law_429 : decode c_L_law 429 = .ok (.iaload, 1) := by decide +kernel
theorem d_L_law_430 : decode c_L_law 430 = .ok (.aload_n 0, 1) := by decide +kernel
theorem d_L_law_431 : decode c_L_law 431 = .ok (.iload 4, 2) := by decide +kernel
theorem d_L_law_433 : decode c_L_law 433 = .ok (.iconst 3, 1) := by decide +kernel
theorem d_L_law_434 : decode c_L_law 434 = .ok (.iadd, 1) := by decide +kernel
theorem d_L_law_435 : decode c_L_law 435 = .ok (.iaload, 1) := by decide +kernel
theorem d_L_law_436 : decode c_L_law 436 = .ok (.invokevirtual 62, 3) := by decide +kernel
theorem d_L_law_439 : decode c_L_law 439 = .ok (.aload_n 2, 1) := by decide +kernel
theorem d_L_law_440 : decode c_L_law 440 = .ok (.aload_n 0, 1) := by decide +kernel
theorem d_L_law_441 : decode c_L_law 441 = .ok (.iload 4, 2) := by decide +kernel
theorem d_L_law_443 : decode c_L_law 443 = .ok (.iconst 1, 1) := by decide +kernel
theorem d_L_law_444 : decode c_L_law 444 = .ok (.iadd, 1) := by decide +kernel
theorem d_L_law_445 : decode c_L_law 445 = .ok (.iaload, 1) := by decide +kernel
theorem d_L_law_446 : decode c_L_law 446 = .ok (.aload_n 0, 1) := by decide +kernel
theorem d_L_law_447 : decode c_L_law 447 = .ok (.iload 4, 2) := by decide +kernel
theorem d_L_law_449 : decode c_L_law 449 = .ok (.iconst 2, 1) := by decide +kernel
theorem d_L_law_450 : decode c_L_law 450 = .ok (.iadd, 1) := by decide +kernel
theorem d_L_law_451 : decode c_L_law 451 = .ok (.iaload, 1) := by decide +kernel
theorem d_L_law_452 : decode c_L_law 452 = .ok (.aload_n 0, 1) := by decide +kernel
theorem d_L_law_453 : decode c_L_law 453 = .ok (.iload 4, 2) := by decide +kernel
theorem d_L_law_455 : decode c_L_law 455 = .ok (.iconst 3, 1) := by decide +kernel
theorem d_L_law_456 : decode c_L_law 456 = .ok (.iadd, 1) := by decide +kernel
theorem d_L_law_457 : decode c_L_law 457 = .ok (.iaload, 1) := by decide +kernel
theorem d_L_law_458 : decode c_L_law 458 = .ok (.invokevirtual 65, 3) := by decide +kernel
theorem d_L_law_461 : decode c_L_law 461 = .ok (.lcmp, 1) := by decide +kernel
theorem d_L_law_462 : decode c_L_law 462 = .ok (.ifCond .eq 372, 3) := by decide +kernel
theorem d_L_law_465 : decode c_L_law 465 = .ok (.iconst 0, 1) := by decide +kernel
theorem d_L_law_466 : decode c_L_law 466 = .ok (.ireturn, 1) := by decide +kernel
theorem d_L_law_467 : decode c_L_law 467 = .ok (.aload_n 1, 1) := by decide +kernel
theorem d_L_law_468 : decode c_L_law 468 = .ok (.aload_n 0, 1) := by decide +kernel
theorem d_L_law_469 : decode c_L_law 469 = .ok (.iload 4, 2) := by decide +kernel
theorem d_L_law_471 : decode c_L_law 471 = .ok (.iconst 1, 1) := by decide +kernel
