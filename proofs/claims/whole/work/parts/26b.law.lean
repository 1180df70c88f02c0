/-! instructions of the law, by program -/
theorem d_La_law_296 : decode b_La_law 296 = .ok (.aload_n 0, 1) := by decide +kernel
theorem d_La_law_297 : decode b_La_law 297 = .ok (.iload_n 3, 1) := by decide +kernel
theorem d_La_law_298 : decode b_La_law 298 = .ok (.iconst 3, 1) := by decide +kernel
theorem d_La_law_299 : decode b_La_law 299 = .ok (.iadd, 1) := by decide +kernel
theorem d_La_law_300 : decode b_La_law 300 = .ok (.iaload, 1) := by decide +kernel
theorem d_La_law_301 : decode b_La_law 301 = .ok (.invokevirtual 28, 3) := by decide +kernel
theorem d_La_law_304 : decode b_La_law 304 = .ok (.aload_n 2, 1) := by decide +kernel
theorem d_La_law_305 : decode b_La_law 305 = .ok (.aload_n 0, 1) := by decide +kernel
theorem d_La_law_306 : decode b_La_law 306 = .ok (.iload_n 3, 1) := by decide +kernel
theorem d_La_law_307 : decode b_La_law 307 = .ok (.iconst 1, 1) := by decide +kernel
theorem d_La_law_308 : decode b_La_law 308 = .ok (.iadd, 1) := by decide +kernel
theorem d_La_law_309 : decode b_La_law 309 = .ok (.iaload, 1) := by decide +kernel
theorem d_La_law_310 : decode b_La_law 310 = .ok (.aload_n 0, 1) := by decide +kernel
theorem d_La_law_311 : decode b_La_law 311 = .ok (.iload_n 3, 1) := by decide +kernel
theorem d_La_law_312 : decode b_La_law 312 = .ok (.iconst 2, 1) := by decide +kernel
theorem d_La_law_313 : decode b_La_law 313 = .ok (.iadd, 1) := by decide +kernel
theorem d_La_law_314 : decode b_La_law 314 = .ok (.iaload, 1) := by decide +kernel
theorem d_La_law_315 : decode b_La_law 315 = .ok (.aload_n 0, 1) := by decide +kernel
theorem d_La_law_316 : decode b_La_law 316 = .ok (.iload_n 3, 1) := by decide +kernel
theorem d_La_law_317 : decode b_La_law 317 = .ok (.iconst 3, 1) := by decide +kernel
theorem d_La_law_318 : decode b_La_law 318 = .ok (.iadd, 1) := by decide +kernel
theorem d_La_law_319 : decode b_La_law 319 = .ok (.iaload, 1) := by decide +kernel
theorem d_La_law_320 : decode b_La_law 320 = .ok (.invokevirtual 31, 3) := by decide +kernel
theorem d_La_law_323 : decode b_La_law 323 = .ok (.if_icmp .eq 409, 3) := by decide +kernel
theorem d_La_law_326 : decode b_La_law 326 = .ok (.iconst 0, 1) := by decide +kernel
theorem d_La_law_327 : decode b_La_law 327 = .ok (.ireturn, 1) := by decide +kernel
theorem d_La_law_328 : decode b_La_law 328 = .ok (.aload_n 1, 1) := by decide +kernel
theorem d_La_law_329 : decode b_La_law 329 = .ok (.aload_n 0, 1) := by decide +kernel
theorem d_La_law_330 : decode b_La_law 330 = .ok (.iload_n 3, 1) := by decide +kernel
theorem d_La_law_331 : decode b_La_law 331 = .ok (.iconst 1, 1) := by decide +kernel
theorem d_La_law_332 : decode b_La_law 332 = .ok (.iadd, 1) := by decide +kernel
theorem d_La_law_333 : decode b_La_law 333 = .ok (.iaload, 1) := by decide +kernel
theorem d_La_law_334 : decode b_La_law 334 = .ok (.aload_n 0, 1) := by decide +kernel
theorem d_La_law_335 : decode b_La_law 335 = .ok (.iload_n 3, 1) := by decide +kernel
theorem d_La_law_336 : decode b_La_law 336 = .ok (.iconst 2, 1) := by decide +kernel
theorem d_La_law_337 : decode b_La_law 337 = .ok (.iadd, 1) := by decide +kernel
theorem d_La_law_338 : decode b_La_law 338 = .ok (.iaload, 1) := by decide +kernel
theorem d_La_law_339 : decode b_La_law 339 = .ok (.aload_n 0, 1) := by decide +kernel
theorem d_La_law_340 : decode b_La_law 340 = .ok (.iload_n 3, 1) := by decide +kernel
theorem d_La_law_341 : decode b_La_law 341 = .ok (.iconst 3, 1) := by decide +kernel
theorem d_La_law_342 : decode b_La_law 342 = .ok (.iadd, 1) := by decide +kernel
theorem d_La_law_343 : decode b_La_law 343 = .ok (.iaload, 1) := by decide +kernel
theorem d_La_law_344 : decode b_La_law 344 = .ok (.invokevirtual 32, 3) := by decide +kernel
theorem d_La_law_347 : decode b_La_law 347 = .ok (.aload_n 2, 1) := by decide +kernel
theorem d_La_law_348 : decode b_La_law 348 = .ok (.aload_n 0, 1) := by decide +kernel
theorem d_La_law_349 : decode b_La_law 349 = .ok (.iload_n 3, 1) := by decide +kernel
theorem d_La_law_350 : decode b_La_law 350 = .ok (.iconst 1, 1) := by decide +kernel
theorem d_La_law_351 : decode b_La_law 351 = .ok (.iadd, 1) := by decide +kernel
theorem d_La_law_352 : decode b_La_law 352 = .ok (.iaload, 1) := by decide +kernel
theorem d_La_law_353 : decode b_La_law 353 = .ok (.aload_n 0, 1) := by decide +kernel
theorem d_La_law_354 : decode b_La_law 354 = .ok (.iload_n 3, 1) := by decide +kernel
theorem d_La_law_355 : decode b_La_law 355 = .ok (.iconst 2, 1) := by decide +kernel
theorem d_La_law_356 : decode b_La_law 356 = .ok (.iadd, 1) := by decide +kernel
theorem d_La_law_357 : decode b_La_law 357 = .ok (.iaload, 1) := by decide +kernel
theorem d_La_law_358 : decode b_La_law 358 = .ok (.aload_n 0, 1) := by decide +kernel
theorem d_La_law_359 : decode b_La_law 359 = .ok (.iload_n 3, 1) := by decide +kernel
theorem d_La_law_360 : decode b_La_law 360 = .ok (.iconst 3, 1) := by decide +kernel
theorem d_La_law_361 : decode b_La_law 361 = .ok (.iadd, 1) := by decide +kernel
theorem d_La_law_362 : decode b_La_law 362 = .ok (.iaload, 1) := by decide +kernel
theorem d_La_law_363 : decode b_La_law 363 = .ok (.invokevirtual 35, 3) := by decide +kernel
theorem d_La_law_366 : decode b_La_law 366 = .ok (.if_icmp .eq 366, 3) := by decide +kernel
theorem d_La_law_369 : decode b_La_law 369 = .ok (.iconst 0, 1) := by decide +kernel
theorem d_La_law_370 : decode b_La_law 370 = .ok (.ireturn, 1) := by decide +kernel
theorem d_La_law_371 : decode b_La_law 371 = .ok (.aload_n 1, 1) := by decide +kernel
theorem d_La_law_372 : decode b_La_law 372 = .ok (.aload_n 0, 1) := by decide +kernel
theorem d_La_law_373 : decode b_La_law 373 = .ok (.iload_n 3, 1) := by decide +kernel
theorem d_La_law_374 : decode b_La_law 374 = .ok (.iconst 1, 1) := by decide +kernel
theorem d_La_law_375 : decode b_La_law 375 = .ok (.iadd, 1) := by decide +kernel
theorem d_La_law_376 : decode b_La_law 376 = .ok (.iaload, 1) := by decide +kernel
theorem d_La_law_377 : decode b_La_law 377 = .ok (.aload_n 0, 1) := by decide +kernel
theorem d_La_law_378 : decode b_La_law 378 = .ok (.iload_n 3, 1) := by decide +kernel
theorem d_La_law_379 : decode b_La_law 379 = .ok (.iconst 2, 1) := by decide +kernel
theorem d_La_law_380 : decode b_La_law 380 = .ok (.iadd, 1) := by decide +kernel
theorem d_La_law_381 : decode b_La_law 381 = .ok (.iaload, 1) := by decide +kernel
theorem d_La_law_382 : decode b_La_law 382 = .ok (.invokevirtual 36, 3) := by decide +kernel
theorem d_La_law_385 : decode b_La_law 385 = .ok (.aload_n 2, 1) := by decide +kernel
theorem d_La_law_386 : decode b_La_law 386 = .ok (.aload_n 0, 1) := by decide +kernel
theorem d_La_law_387 : decode b_La_law 387 = .ok (.iload_n 3, 1) := by decide +kernel
theorem d_La_law_388 : decode b_La_law 388 = .ok (.iconst 1, 1) := by decide +kernel
theorem d_La_law_389 : decode b_La_law 389 = .ok (.iadd, 1) := by decide +kernel
theorem d_La_law_390 : decode b_La_law 390 = .ok (.iaload, 1) := by decide +kernel
theorem d_La_law_391 : decode b_La_law 391 = .ok (.aload_n 0, 1) := by decide +kernel
theorem d_La_law_392 : decode b_La_law 392 = .ok (.iload_n 3, 1) := by decide +kernel
theorem d_La_law_393 : decode b_La_law 393 = .ok (.iconst 2, 1) := by decide +kernel
theorem d_La_law_394 : decode b_La_law 394 = .ok (.iadd, 1) := by decide +kernel
theorem d_La_law_395 : decode b_La_law 395 = .ok (.iaload, 1) := by decide +kernel
theorem d_La_law_396 : decode b_La_law 396 = .ok (.invokevirtual 40, 3) := by decide +kernel
theorem d_La_law_399 : decode b_La_law 399 = .ok (.if_icmp .eq 333, 3) := by decide +kernel
theorem d_La_law_402 : decode b_La_law 402 = .ok (.iconst 0, 1) := by decide +kernel
theorem d_La_law_403 : decode b_La_law 403 = .ok (.ireturn, 1) := by decide +kernel
theorem d_La_law_404 : decode b_La_law 404 = .ok (.aload_n 1, 1) := by decide +kernel
theorem d_La_law_405 : decode b_La_law 405 = .ok (.aload_n 0, 1) := by decide +kernel
theorem d_La_law_406 : decode b_La_law 406 = .ok (.iload_n 3, 1) := by decide +kernel
theorem d_La_law_407 : decode b_La_law 407 = .ok (.iconst 1, 1) := by decide +kernel
theorem d_La_law_408 : decode b_La_law 408 = .ok (.iadd, 1) := by decide +kernel
theorem d_La_law_409 : decode b_La_law 409 = .ok (.iaload, 1) := by decide +kernel
theorem d_La_law_410 : decode b_La_law 410 = .ok (.aload_n 0, 1) := by decide +kernel
theorem d_La_law_411 : decode b_La_law 411 = .ok (.iload_n 3, 1) := by decide +kernel
theorem d_La_law_412 : decode b_La_law 412 = .ok (.iconst 2, 1) := by decide +kernel
theorem d_La_law_413 : decode b_La_law 413 = .ok (.iadd, 1) := by decide +kernel
theorem d_La_law_414 : decode b_La_law 414 = .ok (.iaload, 1) := by decide +kernel
theorem d_La_law_415 : decode b_La_law 415 = .ok (.invokevirtual 41, 3) := by decide +kernel
theorem d_La_law_418 : decode b_La_law 418 = .ok (.aload_n 2, 1) := by decide +kernel
theorem d_La_law_419 : decode b_La_law 419 = .ok (.aload_n 0, 1) := by decide +kernel
theorem d_La_law_420 : decode b_La_law 420 = .ok (.iload_n 3, 1) := by decide +kernel
theorem d_La_law_421 : decode b_La_law 421 = .ok (.iconst 1, 1) := by decide +kernel
theorem d_La_law_422 : decode b_La_law 422 = .ok (.iadd, 1) := by decide +kernel
theorem d_La_law_423 : decode b_La_law 423 = .ok (.iaload, 1) := by decide +kernel
theorem d_La_law_424 : decode b_La_law 424 = .ok (.aload_n 0, 1) := by decide +kernel
theorem d_La_law_425 : decode b_La_law 425 = .ok (.iload_n 3, 1) := by decide +kernel
theorem d_La_law_426 : decode b_La_law 426 = .ok (.iconst 2, 1) := by decide +kernel
theorem d_La_law_427 : decode b_La_law 427 = .ok (.iadd, 1) := by decide +kernel
theorem d_La_law_428 : decode b_La_law 428 = .ok (.iaload, 1) := by decide +kernel
theorem d_La_law_429 : decode b_La_law 429 = .ok (.invokevirtual 44, 3) := by decide +kernel
theorem d_La_law_432 : decode b_La_law 432 = .ok (.if_icmp .eq 300, 3) := by decide +kernel
theorem d_La_law_435 : decode b_La_law 435 = .ok (.iconst 0, 1) := by decide +kernel
theorem d_La_law_436 : decode b_La_law 436 = .ok (.ireturn, 1) := by decide +kernel
theorem d_La_law_437 : decode b_La_law 437 = .ok (.aload_n 1, 1) := by decide +kernel
theorem d_La_law_438 : decode b_La_law 438 = .ok (.aload_n 0, 1) := by decide +kernel
theorem d_La_law_439 : decode b_La_law 439 = .ok (.iload_n 3, 1) := by decide +kernel
theorem d_La_law_440 : decode b_La_law 440 = .ok (.iconst 1, 1) := by decide +kernel
theorem d_La_law_441 : decode b_La_law 441 = .ok (.iadd, 1) := by decide +kernel
theorem d_La_law_442 : decode b_La_law 442 = .ok (.iaload, 1) := by decide +kernel
theorem d_La_law_443 : decode b_La_law 443 = .ok (.aload_n 0, 1) := by decide +kernel
theorem d_La_law_444 : decode b_La_law 444 = .ok (.iload_n 3, 1) := by decide +kernel
theorem d_La_law_445 : decode b_La_law 445 = .ok (.iconst 2, 1) := by decide +kernel
theorem d_La_law_446 : decode b_La_law 446 = .ok (.iadd, 1) := by decide +kernel
theorem d_La_law_447 : decode b_La_law 447 = .ok (.iaload, 1) := by decide +kernel
theorem d_La_law_448 : decode b_La_law 448 = .ok (.aload_n 0, 1) := by decide +kernel
theorem d_La_law_449 : decode b_La_law 449 = .ok (.iload_n 3, 1) := by decide +kernel
theorem d_La_law_450 : decode b_La_law 450 = .ok (.iconst 3, 1) := by decide +kernel
theorem d_La_law_451 : decode b_La_law 451 = .ok (.iadd, 1) := by decide +kernel
theorem d_La_law_452 : decode b_La_law 452 = .ok (.iaload, 1) := by decide +kernel
theorem d_La_law_453 : decode b_La_law 453 = .ok (.i2l, 1) := by decide +kernel
theorem d_La_law_454 : decode b_La_law 454 = .ok (.bipush 32, 2) := by decide +kernel
theorem d_La_law_456 : decode b_La_law 456 = .ok (.lshl, 1) := by decide +kernel
theorem d_La_law_457 : decode b_La_law 457 = .ok (.aload_n 0, 1) := by decide +kernel
theorem d_La_law_458 : decode b_La_law 458 = .ok (.iload_n 3, 1) := by decide +kernel
theorem d_La_law_459 : decode b_La_law 459 = .ok (.iconst 4, 1) := by decide +kernel
theorem d_La_law_460 : decode b_La_law 460 = .ok (.iadd, 1) := by decide +kernel
theorem d_La_law_461 : decode b_La_law 461 = .ok (.iaload, 1) := by decide +kernel
theorem d_La_law_462 : decode b_La_law 462 = .ok (.i2l, 1) := by decide +kernel
theorem d_La_law_463 : decode b_La_law 463 = .ok (.ldc2_w 45, 3) := by decide +kernel
theorem d_La_law_466 : decode b_La_law 466 = .ok (.land, 1) := by decide +kernel
theorem d_La_law_467 : decode b_La_law 467 = .ok (.lor, 1) := by decide +kernel
theorem d_La_law_468 : decode b_La_law 468 = .ok (.invokevirtual 47, 3) := by decide +kernel
theorem d_La_law_471 : decode b_La_law 471 = .ok (.aload_n 2, 1) := by decide +kernel
theorem d_La_law_472 : decode b_La_law 472 = .ok (.aload_n 0, 1) := by decide +kernel
theorem d_La_law_473 : decode b_La_law 473 = .ok (.iload_n 3, 1) := by decide +kernel
theorem d_La_law_474 : decode b_La_law 474 = .ok (.iconst 1, 1) := by decide +kernel
theorem d_La_law_475 : decode b_La_law 475 = .ok (.iadd, 1) := by decide +kernel
theorem d_La_law_476 : decode b_La_law 476 = .ok (.iaload, 1) := by decide +kernel
theorem d_La_law_477 : decode b_La_law 477 = .ok (.aload_n 0, 1) := by decide +kernel
theorem d_La_law_478 : decode b_La_law 478 = .ok (.iload_n 3, 1) := by decide +kernel
theorem d_La_law_479 : decode b_La_law 479 = .ok (.iconst 2, 1) := by decide +kernel
theorem d_La_law_480 : decode b_La_law 480 = .ok (.iadd, 1) := by decide +kernel
theorem d_La_law_481 : decode b_La_law 481 = .ok (.iaload, 1) := by decide +kernel
theorem d_La_law_482 : decode b_La_law 482 = .ok (.aload_n 0, 1) := by decide +kernel
theorem d_La_law_483 : decode b_La_law 483 = .ok (.iload_n 3, 1) := by decide +kernel
theorem d_La_law_484 : decode b_La_law 484 = .ok (.iconst 3, 1) := by decide +kernel
theorem d_La_law_485 : decode b_La_law 485 = .ok (.iadd, 1) := by decide +kernel
theorem d_La_law_486 : decode b_La_law 486 = .ok (.iaload, 1) := by decide +kernel
theorem d_La_law_487 : decode b_La_law 487 = .ok (.i2l, 1) := by decide +kernel
theorem d_La_law_488 : decode b_La_law 488 = .ok (.bipush 32, 2) := by decide +kernel
theorem d_La_law_490 : decode b_La_law 490 = .ok (.lshl, 1) := by decide +kernel
theorem d_La_law_491 : decode b_La_law 491 = .ok (.aload_n 0, 1) := by decide +kernel
theorem d_La_law_492 : decode b_La_law 492 = .ok (.iload_n 3, 1) := by decide +kernel
theorem d_La_law_493 : decode b_La_law 493 = .ok (.iconst 4, 1) := by decide +kernel
theorem d_La_law_494 : decode b_La_law 494 = .ok (.iadd, 1) := by decide +kernel
theorem d_La_law_495 : decode b_La_law 495 = .ok (.iaload, 1) := by decide +kernel
theorem d_La_law_496 : decode b_La_law 496 = .ok (.i2l, 1) := by decide +kernel
theorem d_La_law_497 : decode b_La_law 497 = .ok (.ldc2_w 45, 3) := by decide +kernel
