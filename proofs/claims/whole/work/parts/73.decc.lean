theorem dL_456 : decode code 456 = .ok (.ireturn, 1) := by decide +kernel
theorem dL_457 : decode code 457 = .ok (.aload_n 1, 1) := by decide +kernel
theorem dL_458 : decode code 458 = .ok (.aload_n 0, 1) := by decide +kernel
theorem dL_459 : decode code 459 = .ok (.iload_n 3, 1) := by decide +kernel
theorem dL_460 : decode code 460 = .ok (.iconst 1, 1) := by decide +kernel
theorem dL_461 : decode code 461 = .ok (.iadd, 1) := by decide +kernel
theorem dL_462 : decode code 462 = .ok (.iaload, 1) := by decide +kernel
theorem dL_463 : decode code 463 = .ok (.aload_n 0, 1) := by decide +kernel
theorem dL_464 : decode code 464 = .ok (.iload_n 3, 1) := by decide +kernel
theorem dL_465 : decode code 465 = .ok (.iconst 2, 1) := by decide +kernel
theorem dL_466 : decode code 466 = .ok (.iadd, 1) := by decide +kernel
theorem dL_467 : decode code 467 = .ok (.iaload, 1) := by decide +kernel
theorem dL_468 : decode code 468 = .ok (.invokevirtual 44, 3) := by decide +kernel
theorem dL_471 : decode code 471 = .ok (.aload_n 2, 1) := by decide +kernel
theorem dL_472 : decode code 472 = .ok (.aload_n 0, 1) := by decide +kernel
theorem dL_473 : decode code 473 = .ok (.iload_n 3, 1) := by decide +kernel
theorem dL_474 : decode code 474 = .ok (.iconst 1, 1) := by decide +kernel
theorem dL_475 : decode code 475 = .ok (.iadd, 1) := by decide +kernel
theorem dL_476 : decode code 476 = .ok (.iaload, 1) := by decide +kernel
theorem dL_477 : decode code 477 = .ok (.aload_n 0, 1) := by decide +kernel
theorem dL_478 : decode code 478 = .ok (.iload_n 3, 1) := by decide +kernel
theorem dL_479 : decode code 479 = .ok (.iconst 2, 1) := by decide +kernel
theorem dL_480 : decode code 480 = .ok (.iadd, 1) := by decide +kernel
theorem dL_481 : decode code 481 = .ok (.iaload, 1) := by decide +kernel
theorem dL_482 : decode code 482 = .ok (.invokevirtual 47, 3) := by decide +kernel
theorem dL_485 : decode code 485 = .ok (.if_icmp .eq 1007, 3) := by decide +kernel
theorem dL_488 : decode code 488 = .ok (.iconst 0, 1) := by decide +kernel
theorem dL_489 : decode code 489 = .ok (.ireturn, 1) := by decide +kernel
theorem dL_490 : decode code 490 = .ok (.aload_n 1, 1) := by decide +kernel
theorem dL_491 : decode code 491 = .ok (.aload_n 0, 1) := by decide +kernel
theorem dL_492 : decode code 492 = .ok (.iload_n 3, 1) := by decide +kernel
theorem dL_493 : decode code 493 = .ok (.iconst 1, 1) := by decide +kernel
theorem dL_494 : decode code 494 = .ok (.iadd, 1) := by decide +kernel
theorem dL_495 : decode code 495 = .ok (.iaload, 1) := by decide +kernel
theorem dL_496 : decode code 496 = .ok (.invokevirtual 48, 3) := by decide +kernel
theorem dL_499 : decode code 499 = .ok (.aload_n 2, 1) := by decide +kernel
theorem dL_500 : decode code 500 = .ok (.aload_n 0, 1) := by decide +kernel
theorem dL_501 : decode code 501 = .ok (.iload_n 3, 1) := by decide +kernel
theorem dL_502 : decode code 502 = .ok (.iconst 1, 1) := by decide +kernel
theorem dL_503 : decode code 503 = .ok (.iadd, 1) := by decide +kernel
theorem dL_504 : decode code 504 = .ok (.iaload, 1) := by decide +kernel
theorem dL_505 : decode code 505 = .ok (.invokevirtual 51, 3) := by decide +kernel
theorem dL_508 : decode code 508 = .ok (.if_icmp .eq 984, 3) := by decide +kernel
theorem dL_511 : decode code 511 = .ok (.iconst 0, 1) := by decide +kernel
theorem dL_512 : decode code 512 = .ok (.ireturn, 1) := by decide +kernel
theorem dL_513 : decode code 513 = .ok (.aload_n 1, 1) := by decide +kernel
theorem dL_514 : decode code 514 = .ok (.aload_n 0, 1) := by decide +kernel
theorem dL_515 : decode code 515 = .ok (.iload_n 3, 1) := by decide +kernel
theorem dL_516 : decode code 516 = .ok (.iconst 1, 1) := by decide +kernel
theorem dL_517 : decode code 517 = .ok (.iadd, 1) := by decide +kernel
theorem dL_518 : decode code 518 = .ok (.iaload, 1) := by decide +kernel
theorem dL_519 : decode code 519 = .ok (.invokevirtual 52, 3) := by decide +kernel
theorem dL_522 : decode code 522 = .ok (.aload_n 2, 1) := by decide +kernel
theorem dL_523 : decode code 523 = .ok (.aload_n 0, 1) := by decide +kernel
theorem dL_524 : decode code 524 = .ok (.iload_n 3, 1) := by decide +kernel
theorem dL_525 : decode code 525 = .ok (.iconst 1, 1) := by decide +kernel
theorem dL_526 : decode code 526 = .ok (.iadd, 1) := by decide +kernel
theorem dL_527 : decode code 527 = .ok (.iaload, 1) := by decide +kernel
theorem dL_528 : decode code 528 = .ok (.invokevirtual 55, 3) := by decide +kernel
theorem dL_531 : decode code 531 = .ok (.if_icmp .eq 961, 3) := by decide +kernel
theorem dL_534 : decode code 534 = .ok (.iconst 0, 1) := by decide +kernel
theorem dL_535 : decode code 535 = .ok (.ireturn, 1) := by decide +kernel
theorem dL_536 : decode code 536 = .ok (.aload_n 1, 1) := by decide +kernel
theorem dL_537 : decode code 537 = .ok (.aload_n 0, 1) := by decide +kernel
theorem dL_538 : decode code 538 = .ok (.iload_n 3, 1) := by decide +kernel
theorem dL_539 : decode code 539 = .ok (.iconst 1, 1) := by decide +kernel
theorem dL_540 : decode code 540 = .ok (.iadd, 1) := by decide +kernel
theorem dL_541 : decode code 541 = .ok (.iaload, 1) := by decide +kernel
theorem dL_542 : decode code 542 = .ok (.invokevirtual 56, 3) := by decide +kernel
theorem dL_545 : decode code 545 = .ok (.aload_n 2, 1) := by decide +kernel
theorem dL_546 : decode code 546 = .ok (.aload_n 0, 1) := by decide +kernel
theorem dL_547 : decode code 547 = .ok (.iload_n 3, 1) := by decide +kernel
theorem dL_548 : decode code 548 = .ok (.iconst 1, 1) := by decide +kernel
theorem dL_549 : decode code 549 = .ok (.iadd, 1) := by decide +kernel
theorem dL_550 : decode code 550 = .ok (.iaload, 1) := by decide +kernel
theorem dL_551 : decode code 551 = .ok (.invokevirtual 59, 3) := by decide +kernel
theorem dL_554 : decode code 554 = .ok (.if_icmp .eq 938, 3) := by decide +kernel
theorem dL_557 : decode code 557 = .ok (.iconst 0, 1) := by decide +kernel
theorem dL_558 : decode code 558 = .ok (.ireturn, 1) := by decide +kernel
theorem dL_559 : decode code 559 = .ok (.aload_n 1, 1) := by decide +kernel
theorem dL_560 : decode code 560 = .ok (.aload_n 0, 1) := by decide +kernel
theorem dL_561 : decode code 561 = .ok (.iload_n 3, 1) := by decide +kernel
theorem dL_562 : decode code 562 = .ok (.iconst 1, 1) := by decide +kernel
theorem dL_563 : decode code 563 = .ok (.iadd, 1) := by decide +kernel
theorem dL_564 : decode code 564 = .ok (.iaload, 1) := by decide +kernel
theorem dL_565 : decode code 565 = .ok (.invokevirtual 60, 3) := by decide +kernel
theorem dL_568 : decode code 568 = .ok (.aload_n 2, 1) := by decide +kernel
theorem dL_569 : decode code 569 = .ok (.aload_n 0, 1) := by decide +kernel
theorem dL_570 : decode code 570 = .ok (.iload_n 3, 1) := by decide +kernel
theorem dL_571 : decode code 571 = .ok (.iconst 1, 1) := by decide +kernel
theorem dL_572 : decode code 572 = .ok (.iadd, 1) := by decide +kernel
theorem dL_573 : decode code 573 = .ok (.iaload, 1) := by decide +kernel
theorem dL_574 : decode code 574 = .ok (.invokevirtual 63, 3) := by decide +kernel
theorem dL_577 : decode code 577 = .ok (.if_icmp .eq 915, 3) := by decide +kernel
theorem dL_580 : decode code 580 = .ok (.iconst 0, 1) := by decide +kernel
theorem dL_581 : decode code 581 = .ok (.ireturn, 1) := by decide +kernel
theorem dL_582 : decode code 582 = .ok (.aload_n 1, 1) := by decide +kernel
theorem dL_583 : decode code 583 = .ok (.aload_n 0, 1) := by decide +kernel
theorem dL_584 : decode code 584 = .ok (.iload_n 3, 1) := by decide +kernel
theorem dL_585 : decode code 585 = .ok (.iconst 1, 1) := by decide +kernel
theorem dL_586 : decode code 586 = .ok (.iadd, 1) := by decide +kernel
theorem dL_587 : decode code 587 = .ok (.iaload, 1) := by decide +kernel
theorem dL_588 : decode code 588 = .ok (.aload_n 0, 1) := by decide +kernel
theorem dL_589 : decode code 589 = .ok (.iload_n 3, 1) := by decide +kernel
theorem dL_590 : decode code 590 = .ok (.iconst 2, 1) := by decide +kernel
theorem dL_591 : decode code 591 = .ok (.iadd, 1) := by decide +kernel
theorem dL_592 : decode code 592 = .ok (.iaload, 1) := by decide +kernel
theorem dL_593 : decode code 593 = .ok (.invokevirtual 64, 3) := by decide +kernel
theorem dL_596 : decode code 596 = .ok (.aload_n 2, 1) := by decide +kernel
theorem dL_597 : decode code 597 = .ok (.aload_n 0, 1) := by decide +kernel
