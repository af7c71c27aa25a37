theorem dL_law_322 : decode code 322 = .ok (.aload_n 1, 1) := by decide +kernel
theorem dL_law_323 : decode code 323 = .ok (.bipush 22, 2) := by decide +kernel
theorem dL_law_325 : decode code 325 = .ok (.iload 9, 2) := by decide +kernel
theorem dL_law_327 : decode code 327 = .ok (.iconst 0, 1) := by decide +kernel
theorem dL_law_328 : decode code 328 = .ok (.iconst 0, 1) := by decide +kernel
theorem dL_law_329 : decode code 329 = .ok (.invokestatic 194, 3) := by decide +kernel
theorem dL_law_332 : decode code 332 = .ok (.istore 12, 2) := by decide +kernel
theorem dL_law_334 : decode code 334 = .ok (.aload_n 1, 1) := by decide +kernel
theorem dL_law_335 : decode code 335 = .ok (.bipush 22, 2) := by decide +kernel
theorem dL_law_337 : decode code 337 = .ok (.iload 9, 2) := by decide +kernel
theorem dL_law_339 : decode code 339 = .ok (.iconst 3, 1) := by decide +kernel
theorem dL_law_340 : decode code 340 = .ok (.iconst 0, 1) := by decide +kernel
theorem dL_law_341 : decode code 341 = .ok (.invokestatic 194, 3) := by decide +kernel
theorem dL_law_344 : decode code 344 = .ok (.istore 13, 2) := by decide +kernel
theorem dL_law_346 : decode code 346 = .ok (.aload_n 1, 1) := by decide +kernel
theorem dL_law_347 : decode code 347 = .ok (.iconst 2, 1) := by decide +kernel
theorem dL_law_348 : decode code 348 = .ok (.iconst 3, 1) := by decide +kernel
theorem dL_law_349 : decode code 349 = .ok (.iconst 0, 1) := by decide +kernel
theorem dL_law_350 : decode code 350 = .ok (.iconst 0, 1) := by decide +kernel
theorem dL_law_351 : decode code 351 = .ok (.invokestatic 194, 3) := by decide +kernel
theorem dL_law_354 : decode code 354 = .ok (.istore 14, 2) := by decide +kernel
theorem dL_law_356 : decode code 356 = .ok (.aload_n 1, 1) := by decide +kernel
theorem dL_law_357 : decode code 357 = .ok (.iconst 2, 1) := by decide +kernel
theorem dL_law_358 : decode code 358 = .ok (.bipush 10, 2) := by decide +kernel
theorem dL_law_360 : decode code 360 = .ok (.iconst 0, 1) := by decide +kernel
theorem dL_law_361 : decode code 361 = .ok (.iconst 0, 1) := by decide +kernel
theorem dL_law_362 : decode code 362 = .ok (.invokestatic 194, 3) := by decide +kernel
theorem dL_law_365 : decode code 365 = .ok (.istore 15, 2) := by decide +kernel
theorem dL_law_367 : decode code 367 = .ok (.aload_n 1, 1) := by decide +kernel
theorem dL_law_368 : decode code 368 = .ok (.iconst 2, 1) := by decide +kernel
theorem dL_law_369 : decode code 369 = .ok (.iconst 4, 1) := by decide +kernel
theorem dL_law_370 : decode code 370 = .ok (.iconst 0, 1) := by decide +kernel
theorem dL_law_371 : decode code 371 = .ok (.iconst 0, 1) := by decide +kernel
theorem dL_law_372 : decode code 372 = .ok (.invokestatic 194, 3) := by decide +kernel
theorem dL_law_375 : decode code 375 = .ok (.istore 16, 2) := by decide +kernel
theorem dL_law_377 : decode code 377 = .ok (.iload 4, 2) := by decide +kernel
theorem dL_law_379 : decode code 379 = .ok (.ifCond .eq 182, 3) := by decide +kernel
theorem dL_law_382 : decode code 382 = .ok (.aload_n 1, 1) := by decide +kernel
theorem dL_law_383 : decode code 383 = .ok (.iconst 5, 1) := by decide +kernel
theorem dL_law_384 : decode code 384 = .ok (.iload 9, 2) := by decide +kernel
theorem dL_law_386 : decode code 386 = .ok (.iconst 1, 1) := by decide +kernel
theorem dL_law_387 : decode code 387 = .ok (.iconst 0, 1) := by decide +kernel
theorem dL_law_388 : decode code 388 = .ok (.invokestatic 194, 3) := by decide +kernel
theorem dL_law_391 : decode code 391 = .ok (.ifCond .ne 170, 3) := by decide +kernel
theorem dL_law_394 : decode code 394 = .ok (.aload_n 1, 1) := by decide +kernel
theorem dL_law_395 : decode code 395 = .ok (.bipush 14, 2) := by decide +kernel
theorem dL_law_397 : decode code 397 = .ok (.iload 9, 2) := by decide +kernel
theorem dL_law_399 : decode code 399 = .ok (.iconst 0, 1) := by decide +kernel
theorem dL_law_400 : decode code 400 = .ok (.iconst 0, 1) := by decide +kernel
theorem dL_law_401 : decode code 401 = .ok (.invokestatic 194, 3) := by decide +kernel
theorem dL_law_404 : decode code 404 = .ok (.iload 10, 2) := by decide +kernel
theorem dL_law_406 : decode code 406 = .ok (.if_icmp .ne 149, 3) := by decide +kernel
theorem dL_law_409 : decode code 409 = .ok (.aload_n 2, 1) := by decide +kernel
theorem dL_law_410 : decode code 410 = .ok (.bipush 14, 2) := by decide +kernel
theorem dL_law_412 : decode code 412 = .ok (.iload 9, 2) := by decide +kernel
theorem dL_law_414 : decode code 414 = .ok (.iconst 0, 1) := by decide +kernel
theorem dL_law_415 : decode code 415 = .ok (.iconst 0, 1) := by decide +kernel
theorem dL_law_416 : decode code 416 = .ok (.invokestatic 194, 3) := by decide +kernel
theorem dL_law_419 : decode code 419 = .ok (.iload 10, 2) := by decide +kernel
theorem dL_law_421 : decode code 421 = .ok (.if_icmp .ne 134, 3) := by decide +kernel
theorem dL_law_424 : decode code 424 = .ok (.aload_n 1, 1) := by decide +kernel
theorem dL_law_425 : decode code 425 = .ok (.iconst 2, 1) := by decide +kernel
theorem dL_law_426 : decode code 426 = .ok (.bipush 10, 2) := by decide +kernel
theorem dL_law_428 : decode code 428 = .ok (.iconst 0, 1) := by decide +kernel
theorem dL_law_429 : decode code 429 = .ok (.iconst 0, 1) := by decide +kernel
theorem dL_law_430 : decode code 430 = .ok (.invokestatic 194, 3) := by decide +kernel
theorem dL_law_433 : decode code 433 = .ok (.iload 11, 2) := by decide +kernel
theorem dL_law_435 : decode code 435 = .ok (.if_icmp .ne 120, 3) := by decide +kernel
theorem dL_law_438 : decode code 438 = .ok (.aload_n 1, 1) := by decide +kernel
theorem dL_law_439 : decode code 439 = .ok (.iconst 2, 1) := by decide +kernel
theorem dL_law_440 : decode code 440 = .ok (.iconst 3, 1) := by decide +kernel
theorem dL_law_441 : decode code 441 = .ok (.iconst 0, 1) := by decide +kernel
theorem dL_law_442 : decode code 442 = .ok (.iconst 0, 1) := by decide +kernel
theorem dL_law_443 : decode code 443 = .ok (.invokestatic 194, 3) := by decide +kernel
theorem dL_law_446 : decode code 446 = .ok (.iload 14, 2) := by decide +kernel
theorem dL_law_448 : decode code 448 = .ok (.iload 12, 2) := by decide +kernel
theorem dL_law_450 : decode code 450 = .ok (.iadd, 1) := by decide +kernel
theorem dL_law_451 : decode code 451 = .ok (.if_icmp .ne 104, 3) := by decide +kernel
theorem dL_law_454 : decode code 454 = .ok (.aload_n 1, 1) := by decide +kernel
theorem dL_law_455 : decode code 455 = .ok (.iconst 2, 1) := by decide +kernel
theorem dL_law_456 : decode code 456 = .ok (.iconst 4, 1) := by decide +kernel
theorem dL_law_457 : decode code 457 = .ok (.iconst 0, 1) := by decide +kernel
theorem dL_law_458 : decode code 458 = .ok (.iconst 0, 1) := by decide +kernel
theorem dL_law_459 : decode code 459 = .ok (.invokestatic 194, 3) := by decide +kernel
theorem dL_law_462 : decode code 462 = .ok (.iload 16, 2) := by decide +kernel
theorem dL_law_464 : decode code 464 = .ok (.iload 13, 2) := by decide +kernel
theorem dL_law_466 : decode code 466 = .ok (.iadd, 1) := by decide +kernel
theorem dL_law_467 : decode code 467 = .ok (.if_icmp .ne 88, 3) := by decide +kernel
theorem dL_law_470 : decode code 470 = .ok (.aload_n 1, 1) := by decide +kernel
theorem dL_law_471 : decode code 471 = .ok (.iconst 5, 1) := by decide +kernel
