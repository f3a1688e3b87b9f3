theorem d_law_law_405 : decode b_law_law 405 = .ok (.aload_n 3, 1) := by decide +kernel
theorem d_law_law_406 : decode b_law_law 406 = .ok (.iconst 0, 1) := by decide +kernel
theorem d_law_law_407 : decode b_law_law 407 = .ok (.laload, 1) := by decide +kernel
theorem d_law_law_408 : decode b_law_law 408 = .ok (.iload 6, 2) := by decide +kernel
theorem d_law_law_410 : decode b_law_law 410 = .ok (.i2l, 1) := by decide +kernel
theorem d_law_law_411 : decode b_law_law 411 = .ok (.lcmp, 1) := by decide +kernel
theorem d_law_law_412 : decode b_law_law 412 = .ok (.ifCond .eq 5, 3) := by decide +kernel
theorem d_law_law_415 : decode b_law_law 415 = .ok (.iconst 0, 1) := by decide +kernel
theorem d_law_law_416 : decode b_law_law 416 = .ok (.ireturn, 1) := by decide +kernel
theorem d_law_law_417 : decode b_law_law 417 = .ok (.goto 613, 3) := by decide +kernel
theorem d_law_law_420 : decode b_law_law 420 = .ok (.aload_n 1, 1) := by decide +kernel
theorem d_law_law_421 : decode b_law_law 421 = .ok (.aload_n 0, 1) := by decide +kernel
theorem d_law_law_422 : decode b_law_law 422 = .ok (.iload 4, 2) := by decide +kernel
theorem d_law_law_424 : decode b_law_law 424 = .ok (.iconst 1, 1) := by decide +kernel
theorem d_law_law_425 : decode b_law_law 425 = .ok (.iadd, 1) := by decide +kernel
theorem d_law_law_426 : decode b_law_law 426 = .ok (.iaload, 1) := by decide +kernel
theorem d_law_law_427 : decode b_law_law 427 = .ok (.aload_n 0, 1) := by decide +kernel
theorem d_law_law_428 : decode b_law_law 428 = .ok (.iload 4, 2) := by decide +kernel
theorem d_law_law_430 : decode b_law_law 430 = .ok (.iconst 2, 1) := by decide +kernel
theorem d_law_law_431 : decode b_law_law 431 = .ok (.iadd, 1) := by decide +kernel
theorem d_law_law_432 : decode b_law_law 432 = .ok (.iaload, 1) := by decide +kernel
theorem d_law_law_433 : decode b_law_law 433 = .ok (.ifCond .eq 7, 3) := by decide +kernel
theorem d_law_law_436 : decode b_law_law 436 = .ok (.iconst 1, 1) := by decide +kernel
theorem d_law_law_437 : decode b_law_law 437 = .ok (.goto 4, 3) := by decide +kernel
theorem d_law_law_440 : decode b_law_law 440 = .ok (.iconst 0, 1) := by decide +kernel
theorem d_law_law_441 : decode b_law_law 441 = .ok (.aload_n 3, 1) := by decide +kernel
theorem d_law_law_442 : decode b_law_law 442 = .ok (.invokestatic 94, 3) := by decide +kernel
theorem d_law_law_445 : decode b_law_law 445 = .ok (.istore 5, 2) := by decide +kernel
theorem d_law_law_447 : decode b_law_law 447 = .ok (.aload_n 2, 1) := by decide +kernel
theorem d_law_law_448 : decode b_law_law 448 = .ok (.aload_n 0, 1) := by decide +kernel
theorem d_law_law_449 : decode b_law_law 449 = .ok (.iload 4, 2) := by decide +kernel
theorem d_law_law_451 : decode b_law_law 451 = .ok (.iconst 1, 1) := by decide +kernel
theorem d_law_law_452 : decode b_law_law 452 = .ok (.iadd, 1) := by decide +kernel
theorem d_law_law_453 : decode b_law_law 453 = .ok (.iaload, 1) := by decide +kernel
theorem d_law_law_454 : decode b_law_law 454 = .ok (.aload_n 0, 1) := by decide +kernel
theorem d_law_law_455 : decode b_law_law 455 = .ok (.iload 4, 2) := by decide +kernel
theorem d_law_law_457 : decode b_law_law 457 = .ok (.iconst 2, 1) := by decide +kernel
theorem d_law_law_458 : decode b_law_law 458 = .ok (.iadd, 1) := by decide +kernel
theorem d_law_law_459 : decode b_law_law 459 = .ok (.iaload, 1) := by decide +kernel
theorem d_law_law_460 : decode b_law_law 460 = .ok (.ifCond .eq 7, 3) := by decide +kernel
theorem d_law_law_463 : decode b_law_law 463 = .ok (.iconst 1, 1) := by decide +kernel
theorem d_law_law_464 : decode b_law_law 464 = .ok (.goto 4, 3) := by decide +kernel
theorem d_law_law_467 : decode b_law_law 467 = .ok (.iconst 0, 1) := by decide +kernel
theorem d_law_law_468 : decode b_law_law 468 = .ok (.invokevirtual 97, 3) := by decide +kernel
theorem d_law_law_471 : decode b_law_law 471 = .ok (.istore 6, 2) := by decide +kernel
theorem d_law_law_473 : decode b_law_law 473 = .ok (.aload_n 2, 1) := by decide +kernel
theorem d_law_law_474 : decode b_law_law 474 = .ok (.invokevirtual 76, 3) := by decide +kernel
theorem d_law_law_477 : decode b_law_law 477 = .ok (.iload 5, 2) := by decide +kernel
theorem d_law_law_479 : decode b_law_law 479 = .ok (.if_icmp .eq 5, 3) := by decide +kernel
theorem d_law_law_482 : decode b_law_law 482 = .ok (.iconst 0, 1) := by decide +kernel
theorem d_law_law_483 : decode b_law_law 483 = .ok (.ireturn, 1) := by decide +kernel
theorem d_law_law_484 : decode b_law_law 484 = .ok (.iload 5, 2) := by decide +kernel
theorem d_law_law_486 : decode b_law_law 486 = .ok (.ifCond .ne 15, 3) := by decide +kernel
theorem d_law_law_489 : decode b_law_law 489 = .ok (.aload_n 3, 1) := by decide +kernel
theorem d_law_law_490 : decode b_law_law 490 = .ok (.iconst 0, 1) := by decide +kernel
theorem d_law_law_491 : decode b_law_law 491 = .ok (.laload, 1) := by decide +kernel
theorem d_law_law_492 : decode b_law_law 492 = .ok (.iload 6, 2) := by decide +kernel
theorem d_law_law_494 : decode b_law_law 494 = .ok (.i2l, 1) := by decide +kernel
theorem d_law_law_495 : decode b_law_law 495 = .ok (.lcmp, 1) := by decide +kernel
theorem d_law_law_496 : decode b_law_law 496 = .ok (.ifCond .eq 5, 3) := by decide +kernel
theorem d_law_law_499 : decode b_law_law 499 = .ok (.iconst 0, 1) := by decide +kernel
theorem d_law_law_500 : decode b_law_law 500 = .ok (.ireturn, 1) := by decide +kernel
theorem d_law_law_501 : decode b_law_law 501 = .ok (.goto 529, 3) := by decide +kernel
theorem d_law_law_504 : decode b_law_law 504 = .ok (.aload_n 1, 1) := by decide +kernel
theorem d_law_law_505 : decode b_law_law 505 = .ok (.aload_n 0, 1) := by decide +kernel
theorem d_law_law_506 : decode b_law_law 506 = .ok (.iload 4, 2) := by decide +kernel
theorem d_law_law_508 : decode b_law_law 508 = .ok (.iconst 1, 1) := by decide +kernel
theorem d_law_law_509 : decode b_law_law 509 = .ok (.iadd, 1) := by decide +kernel
theorem d_law_law_510 : decode b_law_law 510 = .ok (.iaload, 1) := by decide +kernel
theorem d_law_law_511 : decode b_law_law 511 = .ok (.aload_n 3, 1) := by decide +kernel
