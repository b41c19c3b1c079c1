/-! decode rows of the law -/
theorem d_lw_law_312 : decode code 312 = .ok (.iconst 2, 1) := by decide +kernel
theorem d_lw_law_313 : decode code 313 = .ok (.iadd, 1) := by decide +kernel
theorem d_lw_law_314 : decode code 314 = .ok (.iaload, 1) := by decide +kernel
theorem d_lw_law_315 : decode code 315 = .ok (.invokevirtual 34, 3) := by decide +kernel
theorem d_lw_law_318 : decode code 318 = .ok (.if_icmp .eq 1049, 3) := by decide +kernel
theorem d_lw_law_321 : decode code 321 = .ok (.iconst 0, 1) := by decide +kernel
theorem d_lw_law_322 : decode code 322 = .ok (.ireturn, 1) := by decide +kernel
theorem d_lw_law_323 : decode code 323 = .ok (.aload_n 1, 1) := by decide +kernel
theorem d_lw_law_324 : decode code 324 = .ok (.aload_n 0, 1) := by decide +kernel
theorem d_lw_law_325 : decode code 325 = .ok (.iload_n 3, 1) := by decide +kernel
theorem d_lw_law_326 : decode code 326 = .ok (.iconst 1, 1) := by decide +kernel
theorem d_lw_law_327 : decode code 327 = .ok (.iadd, 1) := by decide +kernel
theorem d_lw_law_328 : decode code 328 = .ok (.iaload, 1) := by decide +kernel
theorem d_lw_law_329 : decode code 329 = .ok (.aload_n 0, 1) := by decide +kernel
theorem d_lw_law_330 : decode code 330 = .ok (.iload_n 3, 1) := by decide +kernel
theorem d_lw_law_331 : decode code 331 = .ok (.iconst 2, 1) := by decide +kernel
theorem d_lw_law_332 : decode code 332 = .ok (.iadd, 1) := by decide +kernel
theorem d_lw_law_333 : decode code 333 = .ok (.iaload, 1) := by decide +kernel
theorem d_lw_law_334 : decode code 334 = .ok (.invokevirtual 35, 3) := by decide +kernel
theorem d_lw_law_337 : decode code 337 = .ok (.aload_n 2, 1) := by decide +kernel
theorem d_lw_law_338 : decode code 338 = .ok (.aload_n 0, 1) := by decide +kernel
theorem d_lw_law_339 : decode code 339 = .ok (.iload_n 3, 1) := by decide +kernel
theorem d_lw_law_340 : decode code 340 = .ok (.iconst 1, 1) := by decide +kernel
theorem d_lw_law_341 : decode code 341 = .ok (.iadd, 1) := by decide +kernel
theorem d_lw_law_342 : decode code 342 = .ok (.iaload, 1) := by decide +kernel
theorem d_lw_law_343 : decode code 343 = .ok (.aload_n 0, 1) := by decide +kernel
theorem d_lw_law_344 : decode code 344 = .ok (.iload_n 3, 1) := by decide +kernel
theorem d_lw_law_345 : decode code 345 = .ok (.iconst 2, 1) := by decide +kernel
theorem d_lw_law_346 : decode code 346 = .ok (.iadd, 1) := by decide +kernel
theorem d_lw_law_347 : decode code 347 = .ok (.iaload, 1) := by decide +kernel
theorem d_lw_law_348 : decode code 348 = .ok (.invokevirtual 38, 3) := by decide +kernel
theorem d_lw_law_351 : decode code 351 = .ok (.if_icmp .eq 1016, 3) := by decide +kernel
theorem d_lw_law_354 : decode code 354 = .ok (.iconst 0, 1) := by decide +kernel
theorem d_lw_law_355 : decode code 355 = .ok (.ireturn, 1) := by decide +kernel
theorem d_lw_law_356 : decode code 356 = .ok (.aload_n 1, 1) := by decide +kernel
theorem d_lw_law_357 : decode code 357 = .ok (.aload_n 0, 1) := by decide +kernel
theorem d_lw_law_358 : decode code 358 = .ok (.iload_n 3, 1) := by decide +kernel
theorem d_lw_law_359 : decode code 359 = .ok (.iconst 1, 1) := by decide +kernel
theorem d_lw_law_360 : decode code 360 = .ok (.iadd, 1) := by decide +kernel
theorem d_lw_law_361 : decode code 361 = .ok (.iaload, 1) := by decide +kernel
theorem d_lw_law_362 : decode code 362 = .ok (.aload_n 0, 1) := by decide +kernel
theorem d_lw_law_363 : decode code 363 = .ok (.iload_n 3, 1) := by decide +kernel
theorem d_lw_law_364 : decode code 364 = .ok (.iconst 2, 1) := by decide +kernel
theorem d_lw_law_365 : decode code 365 = .ok (.iadd, 1) := by decide +kernel
theorem d_lw_law_366 : decode code 366 = .ok (.iaload, 1) := by decide +kernel
theorem d_lw_law_367 : decode code 367 = .ok (.aload_n 0, 1) := by decide +kernel
theorem d_lw_law_368 : decode code 368 = .ok (.iload_n 3, 1) := by decide +kernel
theorem d_lw_law_369 : decode code 369 = .ok (.iconst 3, 1) := by decide +kernel
theorem d_lw_law_370 : decode code 370 = .ok (.iadd, 1) := by decide +kernel
theorem d_lw_law_371 : decode code 371 = .ok (.iaload, 1) := by decide +kernel
theorem d_lw_law_372 : decode code 372 = .ok (.aload_n 0, 1) := by decide +kernel
theorem d_lw_law_373 : decode code 373 = .ok (.iload_n 3, 1) := by decide +kernel
theorem d_lw_law_374 : decode code 374 = .ok (.iconst 4, 1) := by decide +kernel
theorem d_lw_law_375 : decode code 375 = .ok (.iadd, 1) := by decide +kernel
theorem d_lw_law_376 : decode code 376 = .ok (.iaload, 1) := by decide +kernel
theorem d_lw_law_377 : decode code 377 = .ok (.invokevirtual 39, 3) := by decide +kernel
theorem d_lw_law_380 : decode code 380 = .ok (.aload_n 2, 1) := by decide +kernel
theorem d_lw_law_381 : decode code 381 = .ok (.aload_n 0, 1) := by decide +kernel
theorem d_lw_law_382 : decode code 382 = .ok (.iload_n 3, 1) := by decide +kernel
theorem d_lw_law_383 : decode code 383 = .ok (.iconst 1, 1) := by decide +kernel
theorem d_lw_law_384 : decode code 384 = .ok (.iadd, 1) := by decide +kernel
theorem d_lw_law_385 : decode code 385 = .ok (.iaload, 1) := by decide +kernel
theorem d_lw_law_386 : decode code 386 = .ok (.aload_n 0, 1) := by decide +kernel
theorem d_lw_law_387 : decode code 387 = .ok (.iload_n 3, 1) := by decide +kernel
theorem d_lw_law_388 : decode code 388 = .ok (.iconst 2, 1) := by decide +kernel
theorem d_lw_law_389 : decode code 389 = .ok (.iadd, 1) := by decide +kernel
theorem d_lw_law_390 : decode code 390 = .ok (.iaload, 1) := by decide +kernel
theorem d_lw_law_391 : decode code 391 = .ok (.aload_n 0, 1) := by decide +kernel
theorem d_lw_law_392 : decode code 392 = .ok (.iload_n 3, 1) := by decide +kernel
theorem d_lw_law_393 : decode code 393 = .ok (.iconst 3, 1) := by decide +kernel
theorem d_lw_law_394 : decode code 394 = .ok (.iadd, 1) := by decide +kernel
theorem d_lw_law_395 : decode code 395 = .ok (.iaload, 1) := by decide +kernel
theorem d_lw_law_396 : decode code 396 = .ok (.aload_n 0, 1) := by decide +kernel
theorem d_lw_law_397 : decode code 397 = .ok (.iload_n 3, 1) := by decide +kernel
theorem d_lw_law_398 : decode code 398 = .ok (.iconst 4, 1) := by decide +kernel
theorem d_lw_law_399 : decode code 399 = .ok (.iadd, 1) := by decide +kernel
theorem d_lw_law_400 : decode code 400 = .ok (.iaload, 1) := by decide +kernel
theorem d_lw_law_401 : decode code 401 = .ok (.invokevirtual 43, 3) := by decide +kernel
theorem d_lw_law_404 : decode code 404 = .ok (.if_icmp .eq 963, 3) := by decide +kernel
theorem d_lw_law_407 : decode code 407 = .ok (.iconst 0, 1) := by decide +kernel
theorem d_lw_law_408 : decode code 408 = .ok (.ireturn, 1) := by decide +kernel
theorem d_lw_law_409 : decode code 409 = .ok (.aload_n 1, 1) := by decide +kernel
theorem d_lw_law_410 : decode code 410 = .ok (.invokevirtual 44, 3) := by decide +kernel
theorem d_lw_law_413 : decode code 413 = .ok (.aload_n 2, 1) := by decide +kernel
theorem d_lw_law_414 : decode code 414 = .ok (.invokevirtual 48, 3) := by decide +kernel
theorem d_lw_law_417 : decode code 417 = .ok (.if_icmp .eq 950, 3) := by decide +kernel
theorem d_lw_law_420 : decode code 420 = .ok (.iconst 0, 1) := by decide +kernel
theorem d_lw_law_421 : decode code 421 = .ok (.ireturn, 1) := by decide +kernel
theorem d_lw_law_422 : decode code 422 = .ok (.aload_n 1, 1) := by decide +kernel
theorem d_lw_law_423 : decode code 423 = .ok (.aload_n 0, 1) := by decide +kernel
theorem d_lw_law_424 : decode code 424 = .ok (.iload_n 3, 1) := by decide +kernel
theorem d_lw_law_425 : decode code 425 = .ok (.iconst 1, 1) := by decide +kernel
theorem d_lw_law_426 : decode code 426 = .ok (.iadd, 1) := by decide +kernel
theorem d_lw_law_427 : decode code 427 = .ok (.iaload, 1) := by decide +kernel
theorem d_lw_law_428 : decode code 428 = .ok (.invokevirtual 49, 3) := by decide +kernel
theorem d_lw_law_431 : decode code 431 = .ok (.aload_n 2, 1) := by decide +kernel
theorem d_lw_law_432 : decode code 432 = .ok (.aload_n 0, 1) := by decide +kernel
theorem d_lw_law_433 : decode code 433 = .ok (.iload_n 3, 1) := by decide +kernel
theorem d_lw_law_434 : decode code 434 = .ok (.iconst 1, 1) := by decide +kernel
theorem d_lw_law_435 : decode code 435 = .ok (.iadd, 1) := by decide +kernel
theorem d_lw_law_436 : decode code 436 = .ok (.iaload, 1) := by decide +kernel
theorem d_lw_law_437 : decode code 437 = .ok (.invokevirtual 52, 3) := by decide +kernel
theorem d_lw_law_440 : decode code 440 = .ok (.if_icmp .eq 927, 3) := by decide +kernel
theorem d_lw_law_443 : decode code 443 = .ok (.iconst 0, 1) := by decide +kernel
theorem d_lw_law_444 : decode code 444 = .ok (.ireturn, 1) := by decide +kernel
theorem d_lw_law_445 : decode code 445 = .ok (.aload_n 1, 1) := by decide +kernel
theorem d_lw_law_446 : decode code 446 = .ok (.aload_n 0, 1) := by decide +kernel
theorem d_lw_law_447 : decode code 447 = .ok (.iload_n 3, 1) := by decide +kernel
theorem d_lw_law_448 : decode code 448 = .ok (.iconst 1, 1) := by decide +kernel
theorem d_lw_law_449 : decode code 449 = .ok (.iadd, 1) := by decide +kernel
theorem d_lw_law_450 : decode code 450 = .ok (.iaload, 1) := by decide +kernel
theorem d_lw_law_451 : decode code 451 = .ok (.invokevirtual 53, 3) := by decide +kernel
theorem d_lw_law_454 : decode code 454 = .ok (.aload_n 2, 1) := by decide +kernel
theorem d_lw_law_455 : decode code 455 = .ok (.aload_n 0, 1) := by decide +kernel
theorem d_lw_law_456 : decode code 456 = .ok (.iload_n 3, 1) := by decide +kernel
theorem d_lw_law_457 : decode code 457 = .ok (.iconst 1, 1) := by decide +kernel
theorem d_lw_law_458 : decode code 458 = .ok (.iadd, 1) := by decide +kernel
theorem d_lw_law_459 : decode code 459 = .ok (.iaload, 1) := by decide +kernel
theorem d_lw_law_460 : decode code 460 = .ok (.invokevirtual 56, 3) := by decide +kernel
theorem d_lw_law_463 : decode code 463 = .ok (.if_icmp .eq 904, 3) := by decide +kernel
