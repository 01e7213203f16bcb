theorem d_law_421 : decode code 421 = .ok (.iconst 2, 1) := by decide +kernel
theorem d_law_422 : decode code 422 = .ok (.iadd, 1) := by decide +kernel
theorem d_law_423 : decode code 423 = .ok (.iaload, 1) := by decide +kernel
theorem d_law_424 : decode code 424 = .ok (.invokevirtual 75, 3) := by decide +kernel
theorem d_law_427 : decode code 427 = .ok (.istore 6, 2) := by decide +kernel
theorem d_law_429 : decode code 429 = .ok (.aload_n 2, 1) := by decide +kernel
theorem d_law_430 : decode code 430 = .ok (.invokevirtual 51, 3) := by decide +kernel
theorem d_law_433 : decode code 433 = .ok (.iload 5, 2) := by decide +kernel
theorem d_law_435 : decode code 435 = .ok (.if_icmp .eq 5, 3) := by decide +kernel
theorem d_law_438 : decode code 438 = .ok (.iconst 0, 1) := by decide +kernel
theorem d_law_439 : decode code 439 = .ok (.ireturn, 1) := by decide +kernel
theorem d_law_440 : decode code 440 = .ok (.iload 5, 2) := by decide +kernel
theorem d_law_442 : decode code 442 = .ok (.ifCond .ne 22, 3) := by decide +kernel
theorem d_law_445 : decode code 445 = .ok (.aload_n 3, 1) := by decide +kernel
theorem d_law_446 : decode code 446 = .ok (.iconst 0, 1) := by decide +kernel
theorem d_law_447 : decode code 447 = .ok (.laload, 1) := by decide +kernel
theorem d_law_448 : decode code 448 = .ok (.iload 6, 2) := by decide +kernel
theorem d_law_450 : decode code 450 = .ok (.ifCond .eq 7, 3) := by decide +kernel
theorem d_law_453 : decode code 453 = .ok (.lconst 1, 1) := by decide +kernel
theorem d_law_454 : decode code 454 = .ok (.goto 4, 3) := by decide +kernel
theorem d_law_457 : decode code 457 = .ok (.lconst 0, 1) := by decide +kernel
theorem d_law_458 : decode code 458 = .ok (.lcmp, 1) := by decide +kernel
theorem d_law_459 : decode code 459 = .ok (.ifCond .eq 5, 3) := by decide +kernel
theorem d_law_462 : decode code 462 = .ok (.iconst 0, 1) := by decide +kernel
theorem d_law_463 : decode code 463 = .ok (.ireturn, 1) := by decide +kernel
theorem d_law_464 : decode code 464 = .ok (.goto 127, 3) := by decide +kernel
theorem d_law_467 : decode code 467 = .ok (.aload_n 1, 1) := by decide +kernel
theorem d_law_468 : decode code 468 = .ok (.aload_n 0, 1) := by decide +kernel
theorem d_law_469 : decode code 469 = .ok (.iload 4, 2) := by decide +kernel
theorem d_law_471 : decode code 471 = .ok (.iconst 1, 1) := by decide +kernel
theorem d_law_472 : decode code 472 = .ok (.iadd, 1) := by decide +kernel
theorem d_law_473 : decode code 473 = .ok (.iaload, 1) := by decide +kernel
theorem d_law_474 : decode code 474 = .ok (.aload_n 0, 1) := by decide +kernel
theorem d_law_475 : decode code 475 = .ok (.iload 4, 2) := by decide +kernel
theorem d_law_477 : decode code 477 = .ok (.iconst 2, 1) := by decide +kernel
theorem d_law_478 : decode code 478 = .ok (.iadd, 1) := by decide +kernel
theorem d_law_479 : decode code 479 = .ok (.iaload, 1) := by decide +kernel
theorem d_law_480 : decode code 480 = .ok (.aload_n 3, 1) := by decide +kernel
theorem d_law_481 : decode code 481 = .ok (.invokestatic 76, 3) := by decide +kernel
theorem d_law_484 : decode code 484 = .ok (.istore 5, 2) := by decide +kernel
theorem d_law_486 : decode code 486 = .ok (.aload_n 2, 1) := by decide +kernel
theorem d_law_487 : decode code 487 = .ok (.aload_n 0, 1) := by decide +kernel
theorem d_law_488 : decode code 488 = .ok (.iload 4, 2) := by decide +kernel
theorem d_law_490 : decode code 490 = .ok (.iconst 1, 1) := by decide +kernel
theorem d_law_491 : decode code 491 = .ok (.iadd, 1) := by decide +kernel
theorem d_law_492 : decode code 492 = .ok (.iaload, 1) := by decide +kernel
theorem d_law_493 : decode code 493 = .ok (.aload_n 0, 1) := by decide +kernel
theorem d_law_494 : decode code 494 = .ok (.iload 4, 2) := by decide +kernel
theorem d_law_496 : decode code 496 = .ok (.iconst 2, 1) := by decide +kernel
theorem d_law_497 : decode code 497 = .ok (.iadd, 1) := by decide +kernel
theorem d_law_498 : decode code 498 = .ok (.iaload, 1) := by decide +kernel
theorem d_law_499 : decode code 499 = .ok (.invokevirtual 78, 3) := by decide +kernel
theorem d_law_502 : decode code 502 = .ok (.istore 6, 2) := by decide +kernel
theorem d_law_504 : decode code 504 = .ok (.aload_n 2, 1) := by decide +kernel
theorem d_law_505 : decode code 505 = .ok (.invokevirtual 51, 3) := by decide +kernel
theorem d_law_508 : decode code 508 = .ok (.iload 5, 2) := by decide +kernel
theorem d_law_510 : decode code 510 = .ok (.if_icmp .eq 5, 3) := by decide +kernel
theorem d_law_513 : decode code 513 = .ok (.iconst 0, 1) := by decide +kernel
theorem d_law_514 : decode code 514 = .ok (.ireturn, 1) := by decide +kernel
theorem d_law_515 : decode code 515 = .ok (.iload 5, 2) := by decide +kernel
theorem d_law_517 : decode code 517 = .ok (.ifCond .ne 15, 3) := by decide +kernel
theorem d_law_520 : decode code 520 = .ok (.aload_n 3, 1) := by decide +kernel
theorem d_law_521 : decode code 521 = .ok (.iconst 0, 1) := by decide +kernel
theorem d_law_522 : decode code 522 = .ok (.laload, 1) := by decide +kernel
theorem d_law_523 : decode code 523 = .ok (.iload 6, 2) := by decide +kernel
theorem d_law_525 : decode code 525 = .ok (.i2l, 1) := by decide +kernel
theorem d_law_526 : decode code 526 = .ok (.lcmp, 1) := by decide +kernel
theorem d_law_527 : decode code 527 = .ok (.ifCond .eq 5, 3) := by decide +kernel
theorem d_law_530 : decode code 530 = .ok (.iconst 0, 1) := by decide +kernel
theorem d_law_531 : decode code 531 = .ok (.ireturn, 1) := by decide +kernel
theorem d_law_532 : decode code 532 = .ok (.goto 59, 3) := by decide +kernel
theorem d_law_535 : decode code 535 = .ok (.aload_n 1, 1) := by decide +kernel
theorem d_law_536 : decode code 536 = .ok (.aload_n 0, 1) := by decide +kernel
theorem d_law_537 : decode code 537 = .ok (.iload 4, 2) := by decide +kernel
theorem d_law_539 : decode code 539 = .ok (.iconst 1, 1) := by decide +kernel
theorem d_law_540 : decode code 540 = .ok (.iadd, 1) := by decide +kernel
theorem d_law_541 : decode code 541 = .ok (.iaload, 1) := by decide +kernel
theorem d_law_542 : decode code 542 = .ok (.aload_n 3, 1) := by decide +kernel
theorem d_law_543 : decode code 543 = .ok (.invokestatic 79, 3) := by decide +kernel
theorem d_law_546 : decode code 546 = .ok (.istore 5, 2) := by decide +kernel
theorem d_law_548 : decode code 548 = .ok (.aload_n 2, 1) := by decide +kernel
theorem d_law_549 : decode code 549 = .ok (.aload_n 0, 1) := by decide +kernel
theorem d_law_550 : decode code 550 = .ok (.iload 4, 2) := by decide +kernel
theorem d_law_552 : decode code 552 = .ok (.iconst 1, 1) := by decide +kernel
theorem d_law_553 : decode code 553 = .ok (.iadd, 1) := by decide +kernel
theorem d_law_554 : decode code 554 = .ok (.iaload, 1) := by decide +kernel
theorem d_law_555 : decode code 555 = .ok (.invokevirtual 81, 3) := by decide +kernel
theorem d_law_558 : decode code 558 = .ok (.istore 6, 2) := by decide +kernel
theorem d_law_560 : decode code 560 = .ok (.aload_n 2, 1) := by decide +kernel
theorem d_law_561 : decode code 561 = .ok (.invokevirtual 51, 3) := by decide +kernel
theorem d_law_564 : decode code 564 = .ok (.iload 5, 2) := by decide +kernel
theorem d_law_566 : decode code 566 = .ok (.if_icmp .eq 5, 3) := by decide +kernel
theorem d_law_569 : decode code 569 = .ok (.iconst 0, 1) := by decide +kernel
theorem d_law_570 : decode code 570 = .ok (.ireturn, 1) := by decide +kernel
theorem d_law_571 : decode code 571 = .ok (.iload 5, 2) := by decide +kernel
theorem d_law_573 : decode code 573 = .ok (.ifCond .ne 15, 3) := by decide +kernel
theorem d_law_576 : decode code 576 = .ok (.aload_n 3, 1) := by decide +kernel
theorem d_law_577 : decode code 577 = .ok (.iconst 0, 1) := by decide +kernel
theorem d_law_578 : decode code 578 = .ok (.laload, 1) := by decide +kernel
theorem d_law_579 : decode code 579 = .ok (.iload 6, 2) := by decide +kernel
theorem d_law_581 : decode code 581 = .ok (.i2l, 1) := by decide +kernel
theorem d_law_582 : decode code 582 = .ok (.lcmp, 1) := by decide +kernel
theorem d_law_583 : decode code 583 = .ok (.ifCond .eq 5, 3) := by decide +kernel
theorem d_law_586 : decode code 586 = .ok (.iconst 0, 1) := by decide +kernel
theorem d_law_587 : decode code 587 = .ok (.ireturn, 1) := by decide +kernel
theorem d_law_588 : decode code 588 = .ok (.goto 3, 3) := by decide +kernel
theorem d_law_591 : decode code 591 = .ok (.iinc 4 3, 3) := by decide +kernel
theorem d_law_594 : decode code 594 = .ok (.goto (-571), 3) := by decide +kernel
theorem d_law_597 : decode code 597 = .ok (.iconst 1, 1) := by decide +kernel
theorem d_law_598 : decode code 598 = .ok (.ireturn, 1) := by decide +kernel
