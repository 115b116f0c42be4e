theorem d_Lw_law_320 : decode code 320 = .ok (.iadd, 1) := by decide +kernel
theorem d_Lw_law_321 : decode code 321 = .ok (.iaload, 1) := by decide +kernel
theorem d_Lw_law_322 : decode code 322 = .ok (.invokestatic 63, 3) := by decide +kernel
theorem d_Lw_law_325 : decode code 325 = .ok (.istore 5, 2) := by decide +kernel
theorem d_Lw_law_327 : decode code 327 = .ok (.aload_n 2, 1) := by decide +kernel
theorem d_Lw_law_328 : decode code 328 = .ok (.aload_n 0, 1) := by decide +kernel
theorem d_Lw_law_329 : decode code 329 = .ok (.iload 4, 2) := by decide +kernel
theorem d_Lw_law_331 : decode code 331 = .ok (.iconst 1, 1) := by decide +kernel
theorem d_Lw_law_332 : decode code 332 = .ok (.iadd, 1) := by decide +kernel
theorem d_Lw_law_333 : decode code 333 = .ok (.iaload, 1) := by decide +kernel
theorem d_Lw_law_334 : decode code 334 = .ok (.aload_n 0, 1) := by decide +kernel
theorem d_Lw_law_335 : decode code 335 = .ok (.iload 4, 2) := by decide +kernel
theorem d_Lw_law_337 : decode code 337 = .ok (.iconst 2, 1) := by decide +kernel
theorem d_Lw_law_338 : decode code 338 = .ok (.iadd, 1) := by decide +kernel
theorem d_Lw_law_339 : decode code 339 = .ok (.iaload, 1) := by decide +kernel
theorem d_Lw_law_340 : decode code 340 = .ok (.aload_n 0, 1) := by decide +kernel
theorem d_Lw_law_341 : decode code 341 = .ok (.iload 4, 2) := by decide +kernel
theorem d_Lw_law_343 : decode code 343 = .ok (.iconst 3, 1) := by decide +kernel
theorem d_Lw_law_344 : decode code 344 = .ok (.iadd, 1) := by decide +kernel
theorem d_Lw_law_345 : decode code 345 = .ok (.iaload, 1) := by decide +kernel
theorem d_Lw_law_346 : decode code 346 = .ok (.invokevirtual 66, 3) := by decide +kernel
theorem d_Lw_law_349 : decode code 349 = .ok (.aload_n 2, 1) := by decide +kernel
theorem d_Lw_law_350 : decode code 350 = .ok (.invokevirtual 56, 3) := by decide +kernel
theorem d_Lw_law_353 : decode code 353 = .ok (.iload 5, 2) := by decide +kernel
theorem d_Lw_law_355 : decode code 355 = .ok (.if_icmp .eq 5, 3) := by decide +kernel
theorem d_Lw_law_358 : decode code 358 = .ok (.iconst 0, 1) := by decide +kernel
theorem d_Lw_law_359 : decode code 359 = .ok (.ireturn, 1) := by decide +kernel
theorem d_Lw_law_360 : decode code 360 = .ok (.goto 629, 3) := by decide +kernel
theorem d_Lw_law_363 : decode code 363 = .ok (.aload_n 1, 1) := by decide +kernel
theorem d_Lw_law_364 : decode code 364 = .ok (.invokestatic 67, 3) := by decide +kernel
theorem d_Lw_law_367 : decode code 367 = .ok (.istore 5, 2) := by decide +kernel
theorem d_Lw_law_369 : decode code 369 = .ok (.aload_n 2, 1) := by decide +kernel
theorem d_Lw_law_370 : decode code 370 = .ok (.invokevirtual 70, 3) := by decide +kernel
theorem d_Lw_law_373 : decode code 373 = .ok (.aload_n 2, 1) := by decide +kernel
theorem d_Lw_law_374 : decode code 374 = .ok (.invokevirtual 56, 3) := by decide +kernel
theorem d_Lw_law_377 : decode code 377 = .ok (.iload 5, 2) := by decide +kernel
theorem d_Lw_law_379 : decode code 379 = .ok (.if_icmp .eq 5, 3) := by decide +kernel
theorem d_Lw_law_382 : decode code 382 = .ok (.iconst 0, 1) := by decide +kernel
theorem d_Lw_law_383 : decode code 383 = .ok (.ireturn, 1) := by decide +kernel
theorem d_Lw_law_384 : decode code 384 = .ok (.goto 605, 3) := by decide +kernel
theorem d_Lw_law_387 : decode code 387 = .ok (.aload_n 1, 1) := by decide +kernel
theorem d_Lw_law_388 : decode code 388 = .ok (.aload_n 0, 1) := by decide +kernel
theorem d_Lw_law_389 : decode code 389 = .ok (.iload 4, 2) := by decide +kernel
theorem d_Lw_law_391 : decode code 391 = .ok (.iconst 1, 1) := by decide +kernel
theorem d_Lw_law_392 : decode code 392 = .ok (.iadd, 1) := by decide +kernel
theorem d_Lw_law_393 : decode code 393 = .ok (.iaload, 1) := by decide +kernel
theorem d_Lw_law_394 : decode code 394 = .ok (.aload_n 0, 1) := by decide +kernel
theorem d_Lw_law_395 : decode code 395 = .ok (.iload 4, 2) := by decide +kernel
theorem d_Lw_law_397 : decode code 397 = .ok (.iconst 2, 1) := by decide +kernel
theorem d_Lw_law_398 : decode code 398 = .ok (.iadd, 1) := by decide +kernel
theorem d_Lw_law_399 : decode code 399 = .ok (.iaload, 1) := by decide +kernel
theorem d_Lw_law_400 : decode code 400 = .ok (.aload_n 0, 1) := by decide +kernel
theorem d_Lw_law_401 : decode code 401 = .ok (.iload 4, 2) := by decide +kernel
theorem d_Lw_law_403 : decode code 403 = .ok (.iconst 3, 1) := by decide +kernel
theorem d_Lw_law_404 : decode code 404 = .ok (.iadd, 1) := by decide +kernel
theorem d_Lw_law_405 : decode code 405 = .ok (.iaload, 1) := by decide +kernel
theorem d_Lw_law_406 : decode code 406 = .ok (.aload_n 0, 1) := by decide +kernel
theorem d_Lw_law_407 : decode code 407 = .ok (.iload 4, 2) := by decide +kernel
theorem d_Lw_law_409 : decode code 409 = .ok (.iconst 4, 1) := by decide +kernel
theorem d_Lw_law_410 : decode code 410 = .ok (.iadd, 1) := by decide +kernel
theorem d_Lw_law_411 : decode code 411 = .ok (.iaload, 1) := by decide +kernel
theorem d_Lw_law_412 : decode code 412 = .ok (.aload_n 0, 1) := by decide +kernel
theorem d_Lw_law_413 : decode code 413 = .ok (.iload 4, 2) := by decide +kernel
theorem d_Lw_law_415 : decode code 415 = .ok (.iconst 5, 1) := by decide +kernel
theorem d_Lw_law_416 : decode code 416 = .ok (.iadd, 1) := by decide +kernel
theorem d_Lw_law_417 : decode code 417 = .ok (.iaload, 1) := by decide +kernel
theorem d_Lw_law_418 : decode code 418 = .ok (.aload_n 3, 1) := by decide +kernel
theorem d_Lw_law_419 : decode code 419 = .ok (.invokestatic 71, 3) := by decide +kernel
theorem d_Lw_law_422 : decode code 422 = .ok (.istore 5, 2) := by decide +kernel
theorem d_Lw_law_424 : decode code 424 = .ok (.aload_n 2, 1) := by decide +kernel
theorem d_Lw_law_425 : decode code 425 = .ok (.aload_n 0, 1) := by decide +kernel
theorem d_Lw_law_426 : decode code 426 = .ok (.iload 4, 2) := by decide +kernel
theorem d_Lw_law_428 : decode code 428 = .ok (.iconst 1, 1) := by decide +kernel
theorem d_Lw_law_429 : decode code 429 = .ok (.iadd, 1) := by decide +kernel
theorem d_Lw_law_430 : decode code 430 = .ok (.iaload, 1) := by decide +kernel
theorem d_Lw_law_431 : decode code 431 = .ok (.aload_n 0, 1) := by decide +kernel
theorem d_Lw_law_432 : decode code 432 = .ok (.iload 4, 2) := by decide +kernel
theorem d_Lw_law_434 : decode code 434 = .ok (.iconst 2, 1) := by decide +kernel
theorem d_Lw_law_435 : decode code 435 = .ok (.iadd, 1) := by decide +kernel
theorem d_Lw_law_436 : decode code 436 = .ok (.iaload, 1) := by decide +kernel
theorem d_Lw_law_437 : decode code 437 = .ok (.aload_n 0, 1) := by decide +kernel
theorem d_Lw_law_438 : decode code 438 = .ok (.iload 4, 2) := by decide +kernel
theorem d_Lw_law_440 : decode code 440 = .ok (.iconst 3, 1) := by decide +kernel
theorem d_Lw_law_441 : decode code 441 = .ok (.iadd, 1) := by decide +kernel
theorem d_Lw_law_442 : decode code 442 = .ok (.iaload, 1) := by decide +kernel
theorem d_Lw_law_443 : decode code 443 = .ok (.aload_n 0, 1) := by decide +kernel
theorem d_Lw_law_444 : decode code 444 = .ok (.iload 4, 2) := by decide +kernel
theorem d_Lw_law_446 : decode code 446 = .ok (.iconst 4, 1) := by decide +kernel
theorem d_Lw_law_447 : decode code 447 = .ok (.iadd, 1) := by decide +kernel
theorem d_Lw_law_448 : decode code 448 = .ok (.iaload, 1) := by decide +kernel
theorem d_Lw_law_449 : decode code 449 = .ok (.aload_n 0, 1) := by decide +kernel
theorem d_Lw_law_450 : decode code 450 = .ok (.iload 4, 2) := by decide +kernel
theorem d_Lw_law_452 : decode code 452 = .ok (.iconst 5, 1) := by decide +kernel
theorem d_Lw_law_453 : decode code 453 = .ok (.iadd, 1) := by decide +kernel
theorem d_Lw_law_454 : decode code 454 = .ok (.iaload, 1) := by decide +kernel
theorem d_Lw_law_455 : decode code 455 = .ok (.invokevirtual 74, 3) := by decide +kernel
theorem d_Lw_law_458 : decode code 458 = .ok (.istore 6, 2) := by decide +kernel
theorem d_Lw_law_460 : decode code 460 = .ok (.aload_n 2, 1) := by decide +kernel
theorem d_Lw_law_461 : decode code 461 = .ok (.invokevirtual 56, 3) := by decide +kernel
theorem d_Lw_law_464 : decode code 464 = .ok (.iload 5, 2) := by decide +kernel
theorem d_Lw_law_466 : decode code 466 = .ok (.if_icmp .eq 5, 3) := by decide +kernel
theorem d_Lw_law_469 : decode code 469 = .ok (.iconst 0, 1) := by decide +kernel
theorem d_Lw_law_470 : decode code 470 = .ok (.ireturn, 1) := by decide +kernel
theorem d_Lw_law_471 : decode code 471 = .ok (.iload 5, 2) := by decide +kernel
theorem d_Lw_law_473 : decode code 473 = .ok (.ifCond .ne 15, 3) := by decide +kernel
theorem d_Lw_law_476 : decode code 476 = .ok (.aload_n 3, 1) := by decide +kernel
theorem d_Lw_law_477 : decode code 477 = .ok (.iconst 0, 1) := by decide +kernel
theorem d_Lw_law_478 : decode code 478 = .ok (.laload, 1) := by decide +kernel
theorem d_Lw_law_479 : decode code 479 = .ok (.iload 6, 2) := by decide +kernel
theorem d_Lw_law_481 : decode code 481 = .ok (.i2l, 1) := by decide +kernel
theorem d_Lw_law_482 : decode code 482 = .ok (.lcmp, 1) := by decide +kernel
theorem d_Lw_law_483 : decode code 483 = .ok (.ifCond .eq 5, 3) := by decide +kernel
theorem d_Lw_law_486 : decode code 486 = .ok (.iconst 0, 1) := by decide +kernel
theorem d_Lw_law_487 : decode code 487 = .ok (.ireturn, 1) := by decide +kernel
theorem d_Lw_law_488 : decode code 488 = .ok (.goto 501, 3) := by decide +kernel
theorem d_Lw_law_491 : decode code 491 = .ok (.aload_n 1, 1) := by decide +kernel
theorem d_Lw_law_492 : decode code 492 = .ok (.aload_n 3, 1) := by decide +kernel
theorem d_Lw_law_493 : decode code 493 = .ok (.invokestatic 75, 3) := by decide +kernel
theorem d_Lw_law_496 : decode code 496 = .ok (.istore 5, 2) := by decide +kernel
theorem d_Lw_law_498 : decode code 498 = .ok (.aload_n 2, 1) := by decide +kernel
theorem d_Lw_law_499 : decode code 499 = .ok (.invokevirtual 78, 3) := by decide +kernel
theorem d_Lw_law_502 : decode code 502 = .ok (.istore 6, 2) := by decide +kernel
theorem d_Lw_law_504 : decode code 504 = .ok (.aload_n 2, 1) := by decide +kernel
theorem d_Lw_law_505 : decode code 505 = .ok (.invokevirtual 56, 3) := by decide +kernel
theorem d_Lw_law_508 : decode code 508 = .ok (.iload 5, 2) := by decide +kernel
theorem d_Lw_law_510 : decode code 510 = .ok (.if_icmp .eq 5, 3) := by decide +kernel
theorem d_Lw_law_513 : decode code 513 = .ok (.iconst 0, 1) := by decide +kernel
theorem d_Lw_law_514 : decode code 514 = .ok (.ireturn, 1) := by decide +kernel
theorem d_Lw_law_515 : decode code 515 = .ok (.iload 5, 2) := by decide +kernel
theorem d_Lw_law_517 : decode code 517 = .ok (.ifCond .ne 15, 3) := by decide +kernel
theorem d_Lw_law_520 : decode code 520 = .ok (.aload_n 3, 1) := by decide +kernel
theorem d_Lw_law_521 : decode code 521 = .ok (.iconst 0, 1) := by decide +kernel
theorem d_Lw_law_522 : decode code 522 = .ok (.laload, 1) := by decide +kernel
theorem d_Lw_law_523 : decode code 523 = .ok (.iload 6, 2) := by decide +kernel
theorem d_Lw_law_525 : decode code 525 = .ok (.i2l, 1) := by decide +kernel
theorem d_Lw_law_526 : decode code 526 = .ok (.lcmp, 1) := by decide +kernel
theorem d_Lw_law_527 : decode code 527 = .ok (.ifCond .eq 5, 3) := by decide +kernel
theorem d_Lw_law_530 : decode code 530 = .ok (.iconst 0, 1) := by decide +kernel
theorem d_Lw_law_531 : decode code 531 = .ok (.ireturn, 1) := by decide +kernel
theorem d_Lw_law_532 : decode code 532 = .ok (.goto 457, 3) := by decide +kernel
theorem d_Lw_law_535 : decode code 535 = .ok (.aload_n 1, 1) := by decide +kernel
theorem d_Lw_law_536 : decode code 536 = .ok (.aload_n 0, 1) := by decide +kernel
theorem d_Lw_law_537 : decode code 537 = .ok (.iload 4, 2) := by decide +kernel
theorem d_Lw_law_539 : decode code 539 = .ok (.iconst 1, 1) := by decide +kernel
theorem d_Lw_law_540 : decode code 540 = .ok (.iadd, 1) := by decide +kernel
theorem d_Lw_law_541 : decode code 541 = .ok (.iaload, 1) := by decide +kernel
theorem d_Lw_law_542 : decode code 542 = .ok (.invokevirtual 79, 3) := by decide +kernel
theorem d_Lw_law_545 : decode code 545 = .ok (.aload_n 2, 1) := by decide +kernel
theorem d_Lw_law_546 : decode code 546 = .ok (.aload_n 0, 1) := by decide +kernel
theorem d_Lw_law_547 : decode code 547 = .ok (.iload 4, 2) := by decide +kernel
