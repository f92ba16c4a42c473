theorem dL_does_311 : decode cL_does 311 = .ok (.iconst 0, 1) := by decide +kernel
theorem dL_does_312 : decode cL_does 312 = .ok (.invokevirtual 76, 3) := by decide +kernel
theorem dL_does_315 : decode cL_does 315 = .ok (.pop, 1) := by decide +kernel
theorem dL_does_316 : decode cL_does 316 = .ok (.aload_n 0, 1) := by decide +kernel
theorem dL_does_317 : decode cL_does 317 = .ok (.iload 4, 2) := by decide +kernel
theorem dL_does_319 : decode cL_does 319 = .ok (.iload_n 2, 1) := by decide +kernel
theorem dL_does_320 : decode cL_does 320 = .ok (.iconst 3, 1) := by decide +kernel
theorem dL_does_321 : decode cL_does 321 = .ok (.irem, 1) := by decide +kernel
theorem dL_does_322 : decode cL_does 322 = .ok (.ifCond .le 7, 3) := by decide +kernel
theorem dL_does_325 : decode cL_does 325 = .ok (.iconst 1, 1) := by decide +kernel
theorem dL_does_326 : decode cL_does 326 = .ok (.goto 4, 3) := by decide +kernel
theorem dL_does_329 : decode cL_does 329 = .ok (.iconst 0, 1) := by decide +kernel
theorem dL_does_330 : decode cL_does 330 = .ok (.invokevirtual 76, 3) := by decide +kernel
theorem dL_does_333 : decode cL_does 333 = .ok (.iload_n 2, 1) := by decide +kernel
theorem dL_does_334 : decode cL_does 334 = .ok (.iconst 3, 1) := by decide +kernel
theorem dL_does_335 : decode cL_does 335 = .ok (.irem, 1) := by decide +kernel
theorem dL_does_336 : decode cL_does 336 = .ok (.ifCond .le 7, 3) := by decide +kernel
theorem dL_does_339 : decode cL_does 339 = .ok (.iconst 1, 1) := by decide +kernel
theorem dL_does_340 : decode cL_does 340 = .ok (.goto 4, 3) := by decide +kernel
theorem dL_does_343 : decode cL_does 343 = .ok (.iconst 0, 1) := by decide +kernel
theorem dL_does_344 : decode cL_does 344 = .ok (.if_icmp .ne 7, 3) := by decide +kernel
theorem dL_does_347 : decode cL_does 347 = .ok (.iconst 1, 1) := by decide +kernel
theorem dL_does_348 : decode cL_does 348 = .ok (.goto 4, 3) := by decide +kernel
theorem dL_does_351 : decode cL_does 351 = .ok (.iconst 0, 1) := by decide +kernel
theorem dL_does_352 : decode cL_does 352 = .ok (.ireturn, 1) := by decide +kernel
theorem dL_does_353 : decode cL_does 353 = .ok (.iload_n 3, 1) := by decide +kernel
theorem dL_does_354 : decode cL_does 354 = .ok (.iconst 5, 1) := by decide +kernel
theorem dL_does_355 : decode cL_does 355 = .ok (.irem, 1) := by decide +kernel
theorem dL_does_356 : decode cL_does 356 = .ok (.ifCond .gt 12, 3) := by decide +kernel
theorem dL_does_359 : decode cL_does 359 = .ok (.aload_n 0, 1) := by decide +kernel
theorem dL_does_360 : decode cL_does 360 = .ok (.iload 4, 2) := by decide +kernel
theorem dL_does_362 : decode cL_does 362 = .ok (.invokestatic 80, 3) := by decide +kernel
theorem dL_does_365 : decode cL_does 365 = .ok (.ifCond .eq 7, 3) := by decide +kernel
theorem dL_does_368 : decode cL_does 368 = .ok (.iconst 1, 1) := by decide +kernel
theorem dL_does_369 : decode cL_does 369 = .ok (.goto 4, 3) := by decide +kernel
theorem dL_does_372 : decode cL_does 372 = .ok (.iconst 0, 1) := by decide +kernel
theorem dL_does_373 : decode cL_does 373 = .ok (.ireturn, 1) := by decide +kernel
theorem dL_does_374 : decode cL_does 374 = .ok (.aload_n 0, 1) := by decide +kernel
theorem dL_does_375 : decode cL_does 375 = .ok (.iload 4, 2) := by decide +kernel
theorem dL_does_377 : decode cL_does 377 = .ok (.iload_n 2, 1) := by decide +kernel
theorem dL_does_378 : decode cL_does 378 = .ok (.bipush 14, 2) := by decide +kernel
theorem dL_does_380 : decode cL_does 380 = .ok (.irem, 1) := by decide +kernel
theorem dL_does_381 : decode cL_does 381 = .ok (.iload_n 2, 1) := by decide +kernel
theorem dL_does_382 : decode cL_does 382 = .ok (.bipush 14, 2) := by decide +kernel
theorem dL_does_384 : decode cL_does 384 = .ok (.idiv, 1) := by decide +kernel
theorem dL_does_385 : decode cL_does 385 = .ok (.iconst 3, 1) := by decide +kernel
theorem dL_does_386 : decode cL_does 386 = .ok (.irem, 1) := by decide +kernel
theorem dL_does_387 : decode cL_does 387 = .ok (.ifCond .le 7, 3) := by decide +kernel
theorem dL_does_390 : decode cL_does 390 = .ok (.iconst 1, 1) := by decide +kernel
theorem dL_does_391 : decode cL_does 391 = .ok (.goto 4, 3) := by decide +kernel
theorem dL_does_394 : decode cL_does 394 = .ok (.iconst 0, 1) := by decide +kernel
theorem dL_does_395 : decode cL_does 395 = .ok (.iconst 1, 1) := by decide +kernel
theorem dL_does_396 : decode cL_does 396 = .ok (.iload_n 2, 1) := by decide +kernel
theorem dL_does_397 : decode cL_does 397 = .ok (.bipush 42, 2) := by decide +kernel
theorem dL_does_399 : decode cL_does 399 = .ok (.idiv, 1) := by decide +kernel
theorem dL_does_400 : decode cL_does 400 = .ok (.bipush 7, 2) := by decide +kernel
theorem dL_does_402 : decode cL_does 402 = .ok (.irem, 1) := by decide +kernel
theorem dL_does_403 : decode cL_does 403 = .ok (.iadd, 1) := by decide +kernel
theorem dL_does_404 : decode cL_does 404 = .ok (.iload_n 2, 1) := by decide +kernel
theorem dL_does_405 : decode cL_does 405 = .ok (.sipush 294, 3) := by decide +kernel
theorem dL_does_408 : decode cL_does 408 = .ok (.idiv, 1) := by decide +kernel
theorem dL_does_409 : decode cL_does 409 = .ok (.iconst 3, 1) := by decide +kernel
theorem dL_does_410 : decode cL_does 410 = .ok (.irem, 1) := by decide +kernel
theorem dL_does_411 : decode cL_does 411 = .ok (.invokevirtual 84, 3) := by decide +kernel
theorem dL_does_414 : decode cL_does 414 = .ok (.istore 7, 2) := by decide +kernel
theorem dL_does_416 : decode cL_does 416 = .ok (.iload 7, 2) := by decide +kernel
theorem dL_does_418 : decode cL_does 418 = .ok (.bipush 6, 2) := by decide +kernel
theorem dL_does_420 : decode cL_does 420 = .ok (.if_icmp .lt 20, 3) := by decide +kernel
theorem dL_does_423 : decode cL_does 423 = .ok (.aload_n 0, 1) := by decide +kernel
theorem dL_does_424 : decode cL_does 424 = .ok (.iload 4, 2) := by decide +kernel
theorem dL_does_426 : decode cL_does 426 = .ok (.iload_n 2, 1) := by decide +kernel
theorem dL_does_427 : decode cL_does 427 = .ok (.sipush 900, 3) := by decide +kernel
theorem dL_does_430 : decode cL_does 430 = .ok (.idiv, 1) := by decide +kernel
theorem dL_does_431 : decode cL_does 431 = .ok (.bipush 6, 2) := by decide +kernel
theorem dL_does_433 : decode cL_does 433 = .ok (.irem, 1) := by decide +kernel
theorem dL_does_434 : decode cL_does 434 = .ok (.invokevirtual 88, 3) := by decide +kernel
theorem dL_does_437 : decode cL_does 437 = .ok (.ifCond .le 7, 3) := by decide +kernel
theorem dL_does_440 : decode cL_does 440 = .ok (.iconst 1, 1) := by decide +kernel
theorem dL_does_441 : decode cL_does 441 = .ok (.goto 4, 3) := by decide +kernel
theorem dL_does_444 : decode cL_does 444 = .ok (.iconst 0, 1) := by decide +kernel
theorem dL_does_445 : decode cL_does 445 = .ok (.ireturn, 1) := by decide +kernel
