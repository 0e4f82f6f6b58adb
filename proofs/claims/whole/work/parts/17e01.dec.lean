theorem d_w_373 : decode code 373 = .ok (.iadd, 1) := by decide +kernel
theorem d_w_374 : decode code 374 = .ok (.iaload, 1) := by decide +kernel
theorem d_w_375 : decode code 375 = .ok (.aload_n 3, 1) := by decide +kernel
theorem d_w_376 : decode code 376 = .ok (.invokestatic 108, 3) := by decide +kernel
theorem d_w_379 : decode code 379 = .ok (.istore 6, 2) := by decide +kernel
theorem d_w_381 : decode code 381 = .ok (.aload_n 2, 1) := by decide +kernel
theorem d_w_382 : decode code 382 = .ok (.aload_n 0, 1) := by decide +kernel
theorem d_w_383 : decode code 383 = .ok (.iload 5, 2) := by decide +kernel
theorem d_w_385 : decode code 385 = .ok (.iconst 1, 1) := by decide +kernel
theorem d_w_386 : decode code 386 = .ok (.iadd, 1) := by decide +kernel
theorem d_w_387 : decode code 387 = .ok (.iaload, 1) := by decide +kernel
theorem d_w_388 : decode code 388 = .ok (.invokevirtual 113, 3) := by decide +kernel
theorem d_w_391 : decode code 391 = .ok (.istore 7, 2) := by decide +kernel
theorem d_w_393 : decode code 393 = .ok (.aload_n 2, 1) := by decide +kernel
theorem d_w_394 : decode code 394 = .ok (.invokevirtual 114, 3) := by decide +kernel
theorem d_w_397 : decode code 397 = .ok (.iload 6, 2) := by decide +kernel
theorem d_w_399 : decode code 399 = .ok (.if_icmp .eq 5, 3) := by decide +kernel
theorem d_w_402 : decode code 402 = .ok (.iconst 0, 1) := by decide +kernel
theorem d_w_403 : decode code 403 = .ok (.ireturn, 1) := by decide +kernel
theorem d_w_404 : decode code 404 = .ok (.iload 6, 2) := by decide +kernel
theorem d_w_406 : decode code 406 = .ok (.ifCond .ne 15, 3) := by decide +kernel
theorem d_w_409 : decode code 409 = .ok (.aload_n 3, 1) := by decide +kernel
theorem d_w_410 : decode code 410 = .ok (.iconst 0, 1) := by decide +kernel
theorem d_w_411 : decode code 411 = .ok (.laload, 1) := by decide +kernel
theorem d_w_412 : decode code 412 = .ok (.iload 7, 2) := by decide +kernel
theorem d_w_414 : decode code 414 = .ok (.i2l, 1) := by decide +kernel
theorem d_w_415 : decode code 415 = .ok (.lcmp, 1) := by decide +kernel
theorem d_w_416 : decode code 416 = .ok (.ifCond .eq 5, 3) := by decide +kernel
theorem d_w_419 : decode code 419 = .ok (.iconst 0, 1) := by decide +kernel
theorem d_w_420 : decode code 420 = .ok (.ireturn, 1) := by decide +kernel
theorem d_w_421 : decode code 421 = .ok (.goto 1818, 3) := by decide +kernel
theorem d_w_424 : decode code 424 = .ok (.aload_n 1, 1) := by decide +kernel
theorem d_w_425 : decode code 425 = .ok (.aload_n 0, 1) := by decide +kernel
theorem d_w_426 : decode code 426 = .ok (.iload 5, 2) := by decide +kernel
theorem d_w_428 : decode code 428 = .ok (.iconst 1, 1) := by decide +kernel
theorem d_w_429 : decode code 429 = .ok (.iadd, 1) := by decide +kernel
theorem d_w_430 : decode code 430 = .ok (.iaload, 1) := by decide +kernel
theorem d_w_431 : decode code 431 = .ok (.aload_n 0, 1) := by decide +kernel
theorem d_w_432 : decode code 432 = .ok (.iload 5, 2) := by decide +kernel
theorem d_w_434 : decode code 434 = .ok (.iconst 2, 1) := by decide +kernel
theorem d_w_435 : decode code 435 = .ok (.iadd, 1) := by decide +kernel
theorem d_w_436 : decode code 436 = .ok (.iaload, 1) := by decide +kernel
theorem d_w_437 : decode code 437 = .ok (.aload_n 3, 1) := by decide +kernel
theorem d_w_438 : decode code 438 = .ok (.invokestatic 117, 3) := by decide +kernel
theorem d_w_441 : decode code 441 = .ok (.istore 6, 2) := by decide +kernel
theorem d_w_443 : decode code 443 = .ok (.aload_n 2, 1) := by decide +kernel
theorem d_w_444 : decode code 444 = .ok (.aload_n 0, 1) := by decide +kernel
theorem d_w_445 : decode code 445 = .ok (.iload 5, 2) := by decide +kernel
theorem d_w_447 : decode code 447 = .ok (.iconst 1, 1) := by decide +kernel
theorem d_w_448 : decode code 448 = .ok (.iadd, 1) := by decide +kernel
theorem d_w_449 : decode code 449 = .ok (.iaload, 1) := by decide +kernel
theorem d_w_450 : decode code 450 = .ok (.aload_n 0, 1) := by decide +kernel
theorem d_w_451 : decode code 451 = .ok (.iload 5, 2) := by decide +kernel
theorem d_w_453 : decode code 453 = .ok (.iconst 2, 1) := by decide +kernel
theorem d_w_454 : decode code 454 = .ok (.iadd, 1) := by decide +kernel
theorem d_w_455 : decode code 455 = .ok (.iaload, 1) := by decide +kernel
theorem d_w_456 : decode code 456 = .ok (.invokevirtual 120, 3) := by decide +kernel
theorem d_w_459 : decode code 459 = .ok (.istore 7, 2) := by decide +kernel
theorem d_w_461 : decode code 461 = .ok (.aload_n 2, 1) := by decide +kernel
theorem d_w_462 : decode code 462 = .ok (.invokevirtual 114, 3) := by decide +kernel
theorem d_w_465 : decode code 465 = .ok (.iload 6, 2) := by decide +kernel
theorem d_w_467 : decode code 467 = .ok (.if_icmp .eq 5, 3) := by decide +kernel
theorem d_w_470 : decode code 470 = .ok (.iconst 0, 1) := by decide +kernel
theorem d_w_471 : decode code 471 = .ok (.ireturn, 1) := by decide +kernel
theorem d_w_472 : decode code 472 = .ok (.iload 6, 2) := by decide +kernel
theorem d_w_474 : decode code 474 = .ok (.ifCond .ne 15, 3) := by decide +kernel
theorem d_w_477 : decode code 477 = .ok (.aload_n 3, 1) := by decide +kernel
theorem d_w_478 : decode code 478 = .ok (.iconst 0, 1) := by decide +kernel
theorem d_w_479 : decode code 479 = .ok (.laload, 1) := by decide +kernel
theorem d_w_480 : decode code 480 = .ok (.iload 7, 2) := by decide +kernel
theorem d_w_482 : decode code 482 = .ok (.i2l, 1) := by decide +kernel
theorem d_w_483 : decode code 483 = .ok (.lcmp, 1) := by decide +kernel
theorem d_w_484 : decode code 484 = .ok (.ifCond .eq 5, 3) := by decide +kernel
theorem d_w_487 : decode code 487 = .ok (.iconst 0, 1) := by decide +kernel
theorem d_w_488 : decode code 488 = .ok (.ireturn, 1) := by decide +kernel
theorem d_w_489 : decode code 489 = .ok (.goto 1750, 3) := by decide +kernel
theorem d_w_492 : decode code 492 = .ok (.aload_n 1, 1) := by decide +kernel
theorem d_w_493 : decode code 493 = .ok (.aload_n 0, 1) := by decide +kernel
theorem d_w_494 : decode code 494 = .ok (.iload 5, 2) := by decide +kernel
theorem d_w_496 : decode code 496 = .ok (.iconst 1, 1) := by decide +kernel
theorem d_w_497 : decode code 497 = .ok (.iadd, 1) := by decide +kernel
theorem d_w_498 : decode code 498 = .ok (.iaload, 1) := by decide +kernel
theorem d_w_499 : decode code 499 = .ok (.aload_n 0, 1) := by decide +kernel
theorem d_w_500 : decode code 500 = .ok (.iload 5, 2) := by decide +kernel
theorem d_w_502 : decode code 502 = .ok (.iconst 2, 1) := by decide +kernel
theorem d_w_503 : decode code 503 = .ok (.iadd, 1) := by decide +kernel
theorem d_w_504 : decode code 504 = .ok (.iaload, 1) := by decide +kernel
theorem d_w_505 : decode code 505 = .ok (.aload_n 3, 1) := by decide +kernel
theorem d_w_506 : decode code 506 = .ok (.invokestatic 121, 3) := by decide +kernel
theorem d_w_509 : decode code 509 = .ok (.istore 6, 2) := by decide +kernel
theorem d_w_511 : decode code 511 = .ok (.aload_n 2, 1) := by decide +kernel
theorem d_w_512 : decode code 512 = .ok (.aload_n 0, 1) := by decide +kernel
theorem d_w_513 : decode code 513 = .ok (.iload 5, 2) := by decide +kernel
theorem d_w_515 : decode code 515 = .ok (.iconst 1, 1) := by decide +kernel
theorem d_w_516 : decode code 516 = .ok (.iadd, 1) := by decide +kernel
theorem d_w_517 : decode code 517 = .ok (.iaload, 1) := by decide +kernel
theorem d_w_518 : decode code 518 = .ok (.aload_n 0, 1) := by decide +kernel
theorem d_w_519 : decode code 519 = .ok (.iload 5, 2) := by decide +kernel
theorem d_w_521 : decode code 521 = .ok (.iconst 2, 1) := by decide +kernel
theorem d_w_522 : decode code 522 = .ok (.iadd, 1) := by decide +kernel
theorem d_w_523 : decode code 523 = .ok (.iaload, 1) := by decide +kernel
theorem d_w_524 : decode code 524 = .ok (.invokevirtual 123, 3) := by decide +kernel
theorem d_w_527 : decode code 527 = .ok (.istore 7, 2) := by decide +kernel
theorem d_w_529 : decode code 529 = .ok (.aload_n 2, 1) := by decide +kernel
theorem d_w_530 : decode code 530 = .ok (.invokevirtual 114, 3) := by decide +kernel
theorem d_w_533 : decode code 533 = .ok (.iload 6, 2) := by decide +kernel
theorem d_w_535 : decode code 535 = .ok (.if_icmp .eq 5, 3) := by decide +kernel
theorem d_w_538 : decode code 538 = .ok (.iconst 0, 1) := by decide +kernel
theorem d_w_539 : decode code 539 = .ok (.ireturn, 1) := by decide +kernel
theorem d_w_540 : decode code 540 = .ok (.iload 6, 2) := by decide +kernel
