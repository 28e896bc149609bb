-- decode rows of the law
theorem d_L_law_364 : decode b_L_law 364 = .ok (.invokestatic 66, 3) := by decide +kernel
theorem d_L_law_367 : decode b_L_law 367 = .ok (.istore 5, 2) := by decide +kernel
theorem d_L_law_369 : decode b_L_law 369 = .ok (.aload_n 2, 1) := by decide +kernel
theorem d_L_law_370 : decode b_L_law 370 = .ok (.aload_n 0, 1) := by decide +kernel
theorem d_L_law_371 : decode b_L_law 371 = .ok (.iload 4, 2) := by decide +kernel
theorem d_L_law_373 : decode b_L_law 373 = .ok (.iconst 1, 1) := by decide +kernel
theorem d_L_law_374 : decode b_L_law 374 = .ok (.iadd, 1) := by decide +kernel
theorem d_L_law_375 : decode b_L_law 375 = .ok (.iaload, 1) := by decide +kernel
theorem d_L_law_376 : decode b_L_law 376 = .ok (.invokevirtual 68, 3) := by decide +kernel
theorem d_L_law_379 : decode b_L_law 379 = .ok (.istore 6, 2) := by decide +kernel
theorem d_L_law_381 : decode b_L_law 381 = .ok (.aload_n 2, 1) := by decide +kernel
theorem d_L_law_382 : decode b_L_law 382 = .ok (.invokevirtual 51, 3) := by decide +kernel
theorem d_L_law_385 : decode b_L_law 385 = .ok (.iload 5, 2) := by decide +kernel
theorem d_L_law_387 : decode b_L_law 387 = .ok (.if_icmp .eq 5, 3) := by decide +kernel
theorem d_L_law_390 : decode b_L_law 390 = .ok (.iconst 0, 1) := by decide +kernel
theorem d_L_law_391 : decode b_L_law 391 = .ok (.ireturn, 1) := by decide +kernel
theorem d_L_law_392 : decode b_L_law 392 = .ok (.iload 5, 2) := by decide +kernel
theorem d_L_law_394 : decode b_L_law 394 = .ok (.ifCond .ne 15, 3) := by decide +kernel
theorem d_L_law_397 : decode b_L_law 397 = .ok (.aload_n 3, 1) := by decide +kernel
theorem d_L_law_398 : decode b_L_law 398 = .ok (.iconst 0, 1) := by decide +kernel
theorem d_L_law_399 : decode b_L_law 399 = .ok (.laload, 1) := by decide +kernel
theorem d_L_law_400 : decode b_L_law 400 = .ok (.iload 6, 2) := by decide +kernel
theorem d_L_law_402 : decode b_L_law 402 = .ok (.i2l, 1) := by decide +kernel
theorem d_L_law_403 : decode b_L_law 403 = .ok (.lcmp, 1) := by decide +kernel
theorem d_L_law_404 : decode b_L_law 404 = .ok (.ifCond .eq 5, 3) := by decide +kernel
theorem d_L_law_407 : decode b_L_law 407 = .ok (.iconst 0, 1) := by decide +kernel
theorem d_L_law_408 : decode b_L_law 408 = .ok (.ireturn, 1) := by decide +kernel
theorem d_L_law_409 : decode b_L_law 409 = .ok (.goto 397, 3) := by decide +kernel
theorem d_L_law_412 : decode b_L_law 412 = .ok (.aload_n 1, 1) := by decide +kernel
theorem d_L_law_413 : decode b_L_law 413 = .ok (.aload_n 0, 1) := by decide +kernel
theorem d_L_law_414 : decode b_L_law 414 = .ok (.iload 4, 2) := by decide +kernel
theorem d_L_law_416 : decode b_L_law 416 = .ok (.iconst 1, 1) := by decide +kernel
theorem d_L_law_417 : decode b_L_law 417 = .ok (.iadd, 1) := by decide +kernel
theorem d_L_law_418 : decode b_L_law 418 = .ok (.iaload, 1) := by decide +kernel
theorem d_L_law_419 : decode b_L_law 419 = .ok (.aload_n 3, 1) := by decide +kernel
theorem d_L_law_420 : decode b_L_law 420 = .ok (.invokestatic 69, 3) := by decide +kernel
theorem d_L_law_423 : decode b_L_law 423 = .ok (.istore 5, 2) := by decide +kernel
theorem d_L_law_425 : decode b_L_law 425 = .ok (.aload_n 2, 1) := by decide +kernel
theorem d_L_law_426 : decode b_L_law 426 = .ok (.aload_n 0, 1) := by decide +kernel
theorem d_L_law_427 : decode b_L_law 427 = .ok (.iload 4, 2) := by decide +kernel
theorem d_L_law_429 : decode b_L_law 429 = .ok (.iconst 1, 1) := by decide +kernel
theorem d_L_law_430 : decode b_L_law 430 = .ok (.iadd, 1) := by decide +kernel
theorem d_L_law_431 : decode b_L_law 431 = .ok (.iaload, 1) := by decide +kernel
theorem d_L_law_432 : decode b_L_law 432 = .ok (.invokevirtual 71, 3) := by decide +kernel
theorem d_L_law_435 : decode b_L_law 435 = .ok (.istore 6, 2) := by decide +kernel
theorem d_L_law_437 : decode b_L_law 437 = .ok (.aload_n 2, 1) := by decide +kernel
theorem d_L_law_438 : decode b_L_law 438 = .ok (.invokevirtual 51, 3) := by decide +kernel
theorem d_L_law_441 : decode b_L_law 441 = .ok (.iload 5, 2) := by decide +kernel
theorem d_L_law_443 : decode b_L_law 443 = .ok (.if_icmp .eq 5, 3) := by decide +kernel
theorem d_L_law_446 : decode b_L_law 446 = .ok (.iconst 0, 1) := by decide +kernel
theorem d_L_law_447 : decode b_L_law 447 = .ok (.ireturn, 1) := by decide +kernel
theorem d_L_law_448 : decode b_L_law 448 = .ok (.iload 5, 2) := by decide +kernel
theorem d_L_law_450 : decode b_L_law 450 = .ok (.ifCond .ne 15, 3) := by decide +kernel
theorem d_L_law_453 : decode b_L_law 453 = .ok (.aload_n 3, 1) := by decide +kernel
theorem d_L_law_454 : decode b_L_law 454 = .ok (.iconst 0, 1) := by decide +kernel
theorem d_L_law_455 : decode b_L_law 455 = .ok (.laload, 1) := by decide +kernel
theorem d_L_law_456 : decode b_L_law 456 = .ok (.iload 6, 2) := by decide +kernel
theorem d_L_law_458 : decode b_L_law 458 = .ok (.i2l, 1) := by decide +kernel
theorem d_L_law_459 : decode b_L_law 459 = .ok (.lcmp, 1) := by decide +kernel
theorem d_L_law_460 : decode b_L_law 460 = .ok (.ifCond .eq 5, 3) := by decide +kernel
theorem d_L_law_463 : decode b_L_law 463 = .ok (.iconst 0, 1) := by decide +kernel
theorem d_L_law_464 : decode b_L_law 464 = .ok (.ireturn, 1) := by decide +kernel
theorem d_L_law_465 : decode b_L_law 465 = .ok (.goto 341, 3) := by decide +kernel
theorem d_L_law_468 : decode b_L_law 468 = .ok (.aload_n 1, 1) := by decide +kernel
theorem d_L_law_469 : decode b_L_law 469 = .ok (.aload_n 3, 1) := by decide +kernel
theorem d_L_law_470 : decode b_L_law 470 = .ok (.invokestatic 72, 3) := by decide +kernel
theorem d_L_law_473 : decode b_L_law 473 = .ok (.istore 5, 2) := by decide +kernel
theorem d_L_law_475 : decode b_L_law 475 = .ok (.aload_n 2, 1) := by decide +kernel
theorem d_L_law_476 : decode b_L_law 476 = .ok (.invokevirtual 74, 3) := by decide +kernel
theorem d_L_law_479 : decode b_L_law 479 = .ok (.istore 6, 2) := by decide +kernel
theorem d_L_law_481 : decode b_L_law 481 = .ok (.aload_n 2, 1) := by decide +kernel
theorem d_L_law_482 : decode b_L_law 482 = .ok (.invokevirtual 51, 3) := by decide +kernel
theorem d_L_law_485 : decode b_L_law 485 = .ok (.iload 5, 2) := by decide +kernel
theorem d_L_law_487 : decode b_L_law 487 = .ok (.if_icmp .eq 5, 3) := by decide +kernel
theorem d_L_law_490 : decode b_L_law 490 = .ok (.iconst 0, 1) := by decide +kernel
theorem d_L_law_491 : decode b_L_law 491 = .ok (.ireturn, 1) := by decide +kernel
theorem d_L_law_492 : decode b_L_law 492 = .ok (.iload 5, 2) := by decide +kernel
theorem d_L_law_494 : decode b_L_law 494 = .ok (.ifCond .ne 15, 3) := by decide +kernel
theorem d_L_law_497 : decode b_L_law 497 = .ok (.aload_n 3, 1) := by decide +kernel
theorem d_L_law_498 : decode b_L_law 498 = .ok (.iconst 0, 1) := by decide +kernel
theorem d_L_law_499 : decode b_L_law 499 = .ok (.laload, 1) := by decide +kernel
theorem d_L_law_500 : decode b_L_law 500 = .ok (.iload 6, 2) := by decide +kernel
theorem d_L_law_502 : decode b_L_law 502 = .ok (.i2l, 1) := by decide +kernel
theorem d_L_law_503 : decode b_L_law 503 = .ok (.lcmp, 1) := by decide +kernel
theorem d_L_law_504 : decode b_L_law 504 = .ok (.ifCond .eq 5, 3) := by decide +kernel
theorem d_L_law_507 : decode b_L_law 507 = .ok (.iconst 0, 1) := by decide +kernel
theorem d_L_law_508 : decode b_L_law 508 = .ok (.ireturn, 1) := by decide +kernel
theorem d_L_law_509 : decode b_L_law 509 = .ok (.goto 297, 3) := by decide +kernel
theorem d_L_law_512 : decode b_L_law 512 = .ok (.aload_n 1, 1) := by decide +kernel
theorem d_L_law_513 : decode b_L_law 513 = .ok (.aload_n 0, 1) := by decide +kernel
theorem d_L_law_514 : decode b_L_law 514 = .ok (.iload 4, 2) := by decide +kernel
theorem d_L_law_516 : decode b_L_law 516 = .ok (.iconst 1, 1) := by decide +kernel
theorem d_L_law_517 : decode b_L_law 517 = .ok (.iadd, 1) := by decide +kernel
theorem d_L_law_518 : decode b_L_law 518 = .ok (.iaload, 1) := by decide +kernel
theorem d_L_law_519 : decode b_L_law 519 = .ok (.aload_n 3, 1) := by decide +kernel
theorem d_L_law_520 : decode b_L_law 520 = .ok (.invokestatic 75, 3) := by decide +kernel
theorem d_L_law_523 : decode b_L_law 523 = .ok (.istore 5, 2) := by decide +kernel
theorem d_L_law_525 : decode b_L_law 525 = .ok (.aload_n 2, 1) := by decide +kernel
theorem d_L_law_526 : decode b_L_law 526 = .ok (.aload_n 0, 1) := by decide +kernel
theorem d_L_law_527 : decode b_L_law 527 = .ok (.iload 4, 2) := by decide +kernel
theorem d_L_law_529 : decode b_L_law 529 = .ok (.iconst 1, 1) := by decide +kernel
theorem d_L_law_530 : decode b_L_law 530 = .ok (.iadd, 1) := by decide +kernel
theorem d_L_law_531 : decode b_L_law 531 = .ok (.iaload, 1) := by decide +kernel
theorem d_L_law_532 : decode b_L_law 532 = .ok (.invokevirtual 77, 3) := by decide +kernel
theorem d_L_law_535 : decode b_L_law 535 = .ok (.istore 6, 2) := by decide +kernel
theorem d_L_law_537 : decode b_L_law 537 = .ok (.aload_n 2, 1) := by decide +kernel
theorem d_L_law_538 : decode b_L_law 538 = .ok (.invokevirtual 51, 3) := by decide +kernel
theorem d_L_law_541 : decode b_L_law 541 = .ok (.iload 5, 2) := by decide +kernel
theorem d_L_law_543 : decode b_L_law 543 = .ok (.if_icmp .eq 5, 3) := by decide +kernel
theorem d_L_law_546 : decode b_L_law 546 = .ok (.iconst 0, 1) := by decide +kernel
theorem d_L_law_547 : decode b_L_law 547 = .ok (.ireturn, 1) := by decide +kernel
theorem d_L_law_548 : decode b_L_law 548 = .ok (.iload 5, 2) := by decide +kernel
theorem d_L_law_550 : decode b_L_law 550 = .ok (.ifCond .ne 15, 3) := by decide +kernel
theorem d_L_law_553 : decode b_L_law 553 = .ok (.aload_n 3, 1) := by decide +kernel
theorem d_L_law_554 : decode b_L_law 554 = .ok (.iconst 0, 1) := by decide +kernel
theorem d_L_law_555 : decode b_L_law 555 = .ok (.laload, 1) := by decide +kernel
theorem d_L_law_556 : decode b_L_law 556 = .ok (.iload 6, 2) := by decide +kernel
theorem d_L_law_558 : decode b_L_law 558 = .ok (.i2l, 1) := by decide +kernel
theorem d_L_law_559 : decode b_L_law 559 = .ok (.lcmp, 1) := by decide +kernel
theorem d_L_law_560 : decode b_L_law 560 = .ok (.ifCond .eq 5, 3) := by decide +kernel
theorem d_L_law_563 : decode b_L_law 563 = .ok (.iconst 0, 1) := by decide +kernel
theorem d_L_law_564 : decode b_L_law 564 = .ok (.ireturn, 1) := by decide +kernel
theorem d_L_law_565 : decode b_L_law 565 = .ok (.goto 241, 3) := by decide +kernel
theorem d_L_law_568 : decode b_L_law 568 = .ok (.aload_n 1, 1) := by decide +kernel
theorem d_L_law_569 : decode b_L_law 569 = .ok (.invokevirtual 78, 3) := by decide +kernel
theorem d_L_law_572 : decode b_L_law 572 = .ok (.aload_n 2, 1) := by decide +kernel
theorem d_L_law_573 : decode b_L_law 573 = .ok (.invokevirtual 81, 3) := by decide +kernel
theorem d_L_law_576 : decode b_L_law 576 = .ok (.if_icmp .eq 230, 3) := by decide +kernel
theorem d_L_law_579 : decode b_L_law 579 = .ok (.iconst 0, 1) := by decide +kernel
theorem d_L_law_580 : decode b_L_law 580 = .ok (.ireturn, 1) := by decide +kernel
theorem d_L_law_581 : decode b_L_law 581 = .ok (.aload_n 1, 1) := by decide +kernel
theorem d_L_law_582 : decode b_L_law 582 = .ok (.aload_n 0, 1) := by decide +kernel
theorem d_L_law_583 : decode b_L_law 583 = .ok (.iload 4, 2) := by decide +kernel
theorem d_L_law_585 : decode b_L_law 585 = .ok (.iconst 1, 1) := by decide +kernel
theorem d_L_law_586 : decode b_L_law 586 = .ok (.iadd, 1) := by decide +kernel
theorem d_L_law_587 : decode b_L_law 587 = .ok (.iaload, 1) := by decide +kernel
theorem d_L_law_588 : decode b_L_law 588 = .ok (.invokevirtual 82, 3) := by decide +kernel
theorem d_L_law_591 : decode b_L_law 591 = .ok (.aload_n 2, 1) := by decide +kernel
theorem d_L_law_592 : decode b_L_law 592 = .ok (.aload_n 0, 1) := by decide +kernel
theorem d_L_law_593 : decode b_L_law 593 = .ok (.iload 4, 2) := by decide +kernel
theorem d_L_law_595 : decode b_L_law 595 = .ok (.iconst 1, 1) := by decide +kernel
theorem d_L_law_596 : decode b_L_law 596 = .ok (.iadd, 1) := by decide +kernel
theorem d_L_law_597 : decode b_L_law 597 = .ok (.iaload, 1) := by decide +kernel
theorem d_L_law_598 : decode b_L_law 598 = .ok (.invokevirtual 85, 3) := by decide +kernel
theorem d_L_law_601 : decode b_L_law 601 = .ok (.if_icmp .eq 205, 3) := by decide +kernel
theorem d_L_law_604 : decode b_L_law 604 = .ok (.iconst 0, 1) := by decide +kernel
theorem d_L_law_605 : decode b_L_law 605 = .ok (.ireturn, 1) := by decide +kernel
theorem d_L_law_606 : decode b_L_law 606 = .ok (.aload_n 1, 1) := by decide +kernel
theorem d_L_law_607 : decode b_L_law 607 = .ok (.aload_n 0, 1) := by decide +kernel
theorem d_L_law_608 : decode b_L_law 608 = .ok (.iload 4, 2) := by decide +kernel
