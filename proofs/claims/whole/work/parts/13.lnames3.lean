theorem dXL_law_414 : decode code 414 = .ok (.iload_n 3, 1) := by decide +kernel
theorem dXL_law_415 : decode code 415 = .ok (.iconst 1, 1) := by decide +kernel
theorem dXL_law_416 : decode code 416 = .ok (.iadd, 1) := by decide +kernel
theorem dXL_law_417 : decode code 417 = .ok (.iaload, 1) := by decide +kernel
theorem dXL_law_418 : decode code 418 = .ok (.aload_n 0, 1) := by decide +kernel
theorem dXL_law_419 : decode code 419 = .ok (.iload_n 3, 1) := by decide +kernel
theorem dXL_law_420 : decode code 420 = .ok (.iconst 2, 1) := by decide +kernel
theorem dXL_law_421 : decode code 421 = .ok (.iadd, 1) := by decide +kernel
theorem dXL_law_422 : decode code 422 = .ok (.iaload, 1) := by decide +kernel
theorem dXL_law_423 : decode code 423 = .ok (.i2l, 1) := by decide +kernel
theorem dXL_law_424 : decode code 424 = .ok (.bipush 32, 2) := by decide +kernel
theorem dXL_law_426 : decode code 426 = .ok (.lshl, 1) := by decide +kernel
theorem dXL_law_427 : decode code 427 = .ok (.aload_n 0, 1) := by decide +kernel
theorem dXL_law_428 : decode code 428 = .ok (.iload_n 3, 1) := by decide +kernel
theorem dXL_law_429 : decode code 429 = .ok (.iconst 3, 1) := by decide +kernel
theorem dXL_law_430 : decode code 430 = .ok (.iadd, 1) := by decide +kernel
theorem dXL_law_431 : decode code 431 = .ok (.iaload, 1) := by decide +kernel
theorem dXL_law_432 : decode code 432 = .ok (.i2l, 1) := by decide +kernel
theorem dXL_law_433 : decode code 433 = .ok (.ldc2_w 23, 3) := by decide +kernel
theorem dXL_law_436 : decode code 436 = .ok (.land, 1) := by decide +kernel
theorem dXL_law_437 : decode code 437 = .ok (.lor, 1) := by decide +kernel
theorem dXL_law_438 : decode code 438 = .ok (.invokevirtual 57, 3) := by decide +kernel
theorem dXL_law_441 : decode code 441 = .ok (.aload_n 2, 1) := by decide +kernel
theorem dXL_law_442 : decode code 442 = .ok (.aload_n 0, 1) := by decide +kernel
theorem dXL_law_443 : decode code 443 = .ok (.iload_n 3, 1) := by decide +kernel
theorem dXL_law_444 : decode code 444 = .ok (.iconst 1, 1) := by decide +kernel
theorem dXL_law_445 : decode code 445 = .ok (.iadd, 1) := by decide +kernel
theorem dXL_law_446 : decode code 446 = .ok (.iaload, 1) := by decide +kernel
theorem dXL_law_447 : decode code 447 = .ok (.aload_n 0, 1) := by decide +kernel
theorem dXL_law_448 : decode code 448 = .ok (.iload_n 3, 1) := by decide +kernel
theorem dXL_law_449 : decode code 449 = .ok (.iconst 2, 1) := by decide +kernel
theorem dXL_law_450 : decode code 450 = .ok (.iadd, 1) := by decide +kernel
theorem dXL_law_451 : decode code 451 = .ok (.iaload, 1) := by decide +kernel
theorem dXL_law_452 : decode code 452 = .ok (.i2l, 1) := by decide +kernel
theorem dXL_law_453 : decode code 453 = .ok (.bipush 32, 2) := by decide +kernel
theorem dXL_law_455 : decode code 455 = .ok (.lshl, 1) := by decide +kernel
theorem dXL_law_456 : decode code 456 = .ok (.aload_n 0, 1) := by decide +kernel
theorem dXL_law_457 : decode code 457 = .ok (.iload_n 3, 1) := by decide +kernel
theorem dXL_law_458 : decode code 458 = .ok (.iconst 3, 1) := by decide +kernel
theorem dXL_law_459 : decode code 459 = .ok (.iadd, 1) := by decide +kernel
theorem dXL_law_460 : decode code 460 = .ok (.iaload, 1) := by decide +kernel
theorem dXL_law_461 : decode code 461 = .ok (.i2l, 1) := by decide +kernel
theorem dXL_law_462 : decode code 462 = .ok (.ldc2_w 23, 3) := by decide +kernel
theorem dXL_law_465 : decode code 465 = .ok (.land, 1) := by decide +kernel
theorem dXL_law_466 : decode code 466 = .ok (.lor, 1) := by decide +kernel
theorem dXL_law_467 : decode code 467 = .ok (.invokevirtual 61, 3) := by decide +kernel
theorem dXL_law_470 : decode code 470 = .ok (.if_icmp .eq 229, 3) := by decide +kernel
theorem dXL_law_473 : decode code 473 = .ok (.iconst 0, 1) := by decide +kernel
theorem dXL_law_474 : decode code 474 = .ok (.ireturn, 1) := by decide +kernel
theorem dXL_law_475 : decode code 475 = .ok (.aload_n 1, 1) := by decide +kernel
theorem dXL_law_476 : decode code 476 = .ok (.aload_n 0, 1) := by decide +kernel
theorem dXL_law_477 : decode code 477 = .ok (.iload_n 3, 1) := by decide +kernel
theorem dXL_law_478 : decode code 478 = .ok (.iconst 1, 1) := by decide +kernel
theorem dXL_law_479 : decode code 479 = .ok (.iadd, 1) := by decide +kernel
theorem dXL_law_480 : decode code 480 = .ok (.iaload, 1) := by decide +kernel
theorem dXL_law_481 : decode code 481 = .ok (.aload_n 0, 1) := by decide +kernel
theorem dXL_law_482 : decode code 482 = .ok (.iload_n 3, 1) := by decide +kernel
theorem dXL_law_483 : decode code 483 = .ok (.iconst 2, 1) := by decide +kernel
theorem dXL_law_484 : decode code 484 = .ok (.iadd, 1) := by decide +kernel
theorem dXL_law_485 : decode code 485 = .ok (.iaload, 1) := by decide +kernel
theorem dXL_law_486 : decode code 486 = .ok (.invokevirtual 62, 3) := by decide +kernel
theorem dXL_law_489 : decode code 489 = .ok (.aload_n 2, 1) := by decide +kernel
theorem dXL_law_490 : decode code 490 = .ok (.aload_n 0, 1) := by decide +kernel
theorem dXL_law_491 : decode code 491 = .ok (.iload_n 3, 1) := by decide +kernel
theorem dXL_law_492 : decode code 492 = .ok (.iconst 1, 1) := by decide +kernel
theorem dXL_law_493 : decode code 493 = .ok (.iadd, 1) := by decide +kernel
theorem dXL_law_494 : decode code 494 = .ok (.iaload, 1) := by decide +kernel
theorem dXL_law_495 : decode code 495 = .ok (.aload_n 0, 1) := by decide +kernel
theorem dXL_law_496 : decode code 496 = .ok (.iload_n 3, 1) := by decide +kernel
theorem dXL_law_497 : decode code 497 = .ok (.iconst 2, 1) := by decide +kernel
theorem dXL_law_498 : decode code 498 = .ok (.iadd, 1) := by decide +kernel
theorem dXL_law_499 : decode code 499 = .ok (.iaload, 1) := by decide +kernel
theorem dXL_law_500 : decode code 500 = .ok (.invokevirtual 66, 3) := by decide +kernel
theorem dXL_law_503 : decode code 503 = .ok (.lcmp, 1) := by decide +kernel
theorem dXL_law_504 : decode code 504 = .ok (.ifCond .eq 195, 3) := by decide +kernel
theorem dXL_law_507 : decode code 507 = .ok (.iconst 0, 1) := by decide +kernel
theorem dXL_law_508 : decode code 508 = .ok (.ireturn, 1) := by decide +kernel
theorem dXL_law_509 : decode code 509 = .ok (.aload_n 1, 1) := by decide +kernel
theorem dXL_law_510 : decode code 510 = .ok (.aload_n 0, 1) := by decide +kernel
theorem dXL_law_511 : decode code 511 = .ok (.iload_n 3, 1) := by decide +kernel
theorem dXL_law_512 : decode code 512 = .ok (.iconst 1, 1) := by decide +kernel
theorem dXL_law_513 : decode code 513 = .ok (.iadd, 1) := by decide +kernel
theorem dXL_law_514 : decode code 514 = .ok (.iaload, 1) := by decide +kernel
theorem dXL_law_515 : decode code 515 = .ok (.aload_n 0, 1) := by decide +kernel
theorem dXL_law_516 : decode code 516 = .ok (.iload_n 3, 1) := by decide +kernel
theorem dXL_law_517 : decode code 517 = .ok (.iconst 2, 1) := by decide +kernel
theorem dXL_law_518 : decode code 518 = .ok (.iadd, 1) := by decide +kernel
theorem dXL_law_519 : decode code 519 = .ok (.iaload, 1) := by decide +kernel
theorem dXL_law_520 : decode code 520 = .ok (.aload_n 0, 1) := by decide +kernel
theorem dXL_law_521 : decode code 521 = .ok (.iload_n 3, 1) := by decide +kernel
theorem dXL_law_522 : decode code 522 = .ok (.iconst 3, 1) := by decide +kernel
theorem dXL_law_523 : decode code 523 = .ok (.iadd, 1) := by decide +kernel
theorem dXL_law_524 : decode code 524 = .ok (.iaload, 1) := by decide +kernel
theorem dXL_law_525 : decode code 525 = .ok (.invokevirtual 67, 3) := by decide +kernel
theorem dXL_law_528 : decode code 528 = .ok (.aload_n 2, 1) := by decide +kernel
theorem dXL_law_529 : decode code 529 = .ok (.aload_n 0, 1) := by decide +kernel
theorem dXL_law_530 : decode code 530 = .ok (.iload_n 3, 1) := by decide +kernel
theorem dXL_law_531 : decode code 531 = .ok (.iconst 1, 1) := by decide +kernel
theorem dXL_law_532 : decode code 532 = .ok (.iadd, 1) := by decide +kernel
theorem dXL_law_533 : decode code 533 = .ok (.iaload, 1) := by decide +kernel
theorem dXL_law_534 : decode code 534 = .ok (.aload_n 0, 1) := by decide +kernel
theorem dXL_law_535 : decode code 535 = .ok (.iload_n 3, 1) := by decide +kernel
theorem dXL_law_536 : decode code 536 = .ok (.iconst 2, 1) := by decide +kernel
theorem dXL_law_537 : decode code 537 = .ok (.iadd, 1) := by decide +kernel
theorem dXL_law_538 : decode code 538 = .ok (.iaload, 1) := by decide +kernel
theorem dXL_law_539 : decode code 539 = .ok (.aload_n 0, 1) := by decide +kernel
theorem dXL_law_540 : decode code 540 = .ok (.iload_n 3, 1) := by decide +kernel
theorem dXL_law_541 : decode code 541 = .ok (.iconst 3, 1) := by decide +kernel
theorem dXL_law_542 : decode code 542 = .ok (.iadd, 1) := by decide +kernel
theorem dXL_law_543 : decode code 543 = .ok (.iaload, 1) := by decide +kernel
theorem dXL_law_544 : decode code 544 = .ok (.invokevirtual 71, 3) := by decide +kernel
theorem dXL_law_547 : decode code 547 = .ok (.if_icmp .eq 152, 3) := by decide +kernel
theorem dXL_law_550 : decode code 550 = .ok (.iconst 0, 1) := by decide +kernel
theorem dXL_law_551 : decode code 551 = .ok (.ireturn, 1) := by decide +kernel
theorem dXL_law_552 : decode code 552 = .ok (.aload_n 1, 1) := by decide +kernel
theorem dXL_law_553 : decode code 553 = .ok (.aload_n 0, 1) := by decide +kernel
theorem dXL_law_554 : decode code 554 = .ok (.iload_n 3, 1) := by decide +kernel
theorem dXL_law_555 : decode code 555 = .ok (.iconst 1, 1) := by decide +kernel
theorem dXL_law_556 : decode code 556 = .ok (.iadd, 1) := by decide +kernel
theorem dXL_law_557 : decode code 557 = .ok (.iaload, 1) := by decide +kernel
theorem dXL_law_558 : decode code 558 = .ok (.aload_n 0, 1) := by decide +kernel
theorem dXL_law_559 : decode code 559 = .ok (.iload_n 3, 1) := by decide +kernel
theorem dXL_law_560 : decode code 560 = .ok (.iconst 2, 1) := by decide +kernel
theorem dXL_law_561 : decode code 561 = .ok (.iadd, 1) := by decide +kernel
theorem dXL_law_562 : decode code 562 = .ok (.iaload, 1) := by decide +kernel
theorem dXL_law_563 : decode code 563 = .ok (.aload_n 0, 1) := by decide +kernel
theorem dXL_law_564 : decode code 564 = .ok (.iload_n 3, 1) := by decide +kernel
theorem dXL_law_565 : decode code 565 = .ok (.iconst 3, 1) := by decide +kernel
theorem dXL_law_566 : decode code 566 = .ok (.iadd, 1) := by decide +kernel
theorem dXL_law_567 : decode code 567 = .ok (.iaload, 1) := by decide +kernel
