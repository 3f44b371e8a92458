-- what the bytes of the law say
theorem d_Law_isRight_320 : decode method_6_code 320 = .ok (.iload 9, 2) := by decide +kernel
theorem d_Law_isRight_322 : decode method_6_code 322 = .ok (.iload 8, 2) := by decide +kernel
theorem d_Law_isRight_324 : decode method_6_code 324 = .ok (.isub, 1) := by decide +kernel
theorem d_Law_isRight_325 : decode method_6_code 325 = .ok (.iconst 1, 1) := by decide +kernel
theorem d_Law_isRight_326 : decode method_6_code 326 = .ok (.if_icmp .gt 68, 3) := by decide +kernel
theorem d_Law_isRight_329 : decode method_6_code 329 = .ok (.iload 9, 2) := by decide +kernel
theorem d_Law_isRight_331 : decode method_6_code 331 = .ok (.iload 8, 2) := by decide +kernel
theorem d_Law_isRight_333 : decode method_6_code 333 = .ok (.if_icmp .lt 61, 3) := by decide +kernel
theorem d_Law_isRight_336 : decode method_6_code 336 = .ok (.iload 9, 2) := by decide +kernel
theorem d_Law_isRight_338 : decode method_6_code 338 = .ok (.iload 8, 2) := by decide +kernel
theorem d_Law_isRight_340 : decode method_6_code 340 = .ok (.if_icmp .ne 7, 3) := by decide +kernel
theorem d_Law_isRight_343 : decode method_6_code 343 = .ok (.iconst 1, 1) := by decide +kernel
theorem d_Law_isRight_344 : decode method_6_code 344 = .ok (.goto 4, 3) := by decide +kernel
theorem d_Law_isRight_347 : decode method_6_code 347 = .ok (.iconst 0, 1) := by decide +kernel
theorem d_Law_isRight_348 : decode method_6_code 348 = .ok (.aload_n 0, 1) := by decide +kernel
theorem d_Law_isRight_349 : decode method_6_code 349 = .ok (.iload 5, 2) := by decide +kernel
theorem d_Law_isRight_351 : decode method_6_code 351 = .ok (.iconst 5, 1) := by decide +kernel
theorem d_Law_isRight_352 : decode method_6_code 352 = .ok (.invokevirtual 18, 3) := by decide +kernel
theorem d_Law_isRight_355 : decode method_6_code 355 = .ok (.iconst 1, 1) := by decide +kernel
theorem d_Law_isRight_356 : decode method_6_code 356 = .ok (.if_icmp .ne 7, 3) := by decide +kernel
theorem d_Law_isRight_359 : decode method_6_code 359 = .ok (.iconst 1, 1) := by decide +kernel
theorem d_Law_isRight_360 : decode method_6_code 360 = .ok (.goto 4, 3) := by decide +kernel
theorem d_Law_isRight_363 : decode method_6_code 363 = .ok (.iconst 0, 1) := by decide +kernel
theorem d_Law_isRight_364 : decode method_6_code 364 = .ok (.if_icmp .ne 30, 3) := by decide +kernel
theorem d_Law_isRight_367 : decode method_6_code 367 = .ok (.aload_n 0, 1) := by decide +kernel
theorem d_Law_isRight_368 : decode method_6_code 368 = .ok (.iload 5, 2) := by decide +kernel
theorem d_Law_isRight_370 : decode method_6_code 370 = .ok (.iconst 4, 1) := by decide +kernel
theorem d_Law_isRight_371 : decode method_6_code 371 = .ok (.invokevirtual 18, 3) := by decide +kernel
theorem d_Law_isRight_374 : decode method_6_code 374 = .ok (.ifCond .lt 20, 3) := by decide +kernel
theorem d_Law_isRight_377 : decode method_6_code 377 = .ok (.aload_n 0, 1) := by decide +kernel
theorem d_Law_isRight_378 : decode method_6_code 378 = .ok (.iload 5, 2) := by decide +kernel
theorem d_Law_isRight_380 : decode method_6_code 380 = .ok (.iconst 4, 1) := by decide +kernel
theorem d_Law_isRight_381 : decode method_6_code 381 = .ok (.invokevirtual 18, 3) := by decide +kernel
theorem d_Law_isRight_384 : decode method_6_code 384 = .ok (.aload_n 0, 1) := by decide +kernel
theorem d_Law_isRight_385 : decode method_6_code 385 = .ok (.iload 5, 2) := by decide +kernel
theorem d_Law_isRight_387 : decode method_6_code 387 = .ok (.iconst 5, 1) := by decide +kernel
theorem d_Law_isRight_388 : decode method_6_code 388 = .ok (.invokevirtual 18, 3) := by decide +kernel
theorem d_Law_isRight_391 : decode method_6_code 391 = .ok (.if_icmp .le 5, 3) := by decide +kernel
theorem d_Law_isRight_394 : decode method_6_code 394 = .ok (.iconst 0, 1) := by decide +kernel
theorem d_Law_isRight_395 : decode method_6_code 395 = .ok (.ireturn, 1) := by decide +kernel
theorem d_Law_isRight_396 : decode method_6_code 396 = .ok (.iinc 5 1, 3) := by decide +kernel
theorem d_Law_isRight_399 : decode method_6_code 399 = .ok (.goto (-289), 3) := by decide +kernel
theorem d_Law_isRight_402 : decode method_6_code 402 = .ok (.iconst 0, 1) := by decide +kernel
theorem d_Law_isRight_403 : decode method_6_code 403 = .ok (.istore 5, 2) := by decide +kernel
theorem d_Law_isRight_405 : decode method_6_code 405 = .ok (.iload 5, 2) := by decide +kernel
theorem d_Law_isRight_407 : decode method_6_code 407 = .ok (.iconst 3, 1) := by decide +kernel
theorem d_Law_isRight_408 : decode method_6_code 408 = .ok (.if_icmp .ge 145, 3) := by decide +kernel
theorem d_Law_isRight_411 : decode method_6_code 411 = .ok (.sipush 10000, 3) := by decide +kernel
theorem d_Law_isRight_414 : decode method_6_code 414 = .ok (.istore 6, 2) := by decide +kernel
theorem d_Law_isRight_416 : decode method_6_code 416 = .ok (.iconst 0, 1) := by decide +kernel
theorem d_Law_isRight_417 : decode method_6_code 417 = .ok (.istore 7, 2) := by decide +kernel
theorem d_Law_isRight_419 : decode method_6_code 419 = .ok (.iconst 0, 1) := by decide +kernel
theorem d_Law_isRight_420 : decode method_6_code 420 = .ok (.istore 8, 2) := by decide +kernel
theorem d_Law_isRight_422 : decode method_6_code 422 = .ok (.iload 8, 2) := by decide +kernel
theorem d_Law_isRight_424 : decode method_6_code 424 = .ok (.iconst 4, 1) := by decide +kernel
theorem d_Law_isRight_425 : decode method_6_code 425 = .ok (.if_icmp .ge 71, 3) := by decide +kernel
theorem d_Law_isRight_428 : decode method_6_code 428 = .ok (.aload_n 0, 1) := by decide +kernel
theorem d_Law_isRight_429 : decode method_6_code 429 = .ok (.aload_n 0, 1) := by decide +kernel
theorem d_Law_isRight_430 : decode method_6_code 430 = .ok (.iconst 0, 1) := by decide +kernel
theorem d_Law_isRight_431 : decode method_6_code 431 = .ok (.iconst 2, 1) := by decide +kernel
theorem d_Law_isRight_432 : decode method_6_code 432 = .ok (.iload 8, 2) := by decide +kernel
theorem d_Law_isRight_434 : decode method_6_code 434 = .ok (.iconst 1, 1) := by decide +kernel
theorem d_Law_isRight_435 : decode method_6_code 435 = .ok (.iand, 1) := by decide +kernel
theorem d_Law_isRight_436 : decode method_6_code 436 = .ok (.iadd, 1) := by decide +kernel
theorem d_Law_isRight_437 : decode method_6_code 437 = .ok (.invokevirtual 18, 3) := by decide +kernel
theorem d_Law_isRight_440 : decode method_6_code 440 = .ok (.aload_n 0, 1) := by decide +kernel
theorem d_Law_isRight_441 : decode method_6_code 441 = .ok (.iconst 1, 1) := by decide +kernel
theorem d_Law_isRight_442 : decode method_6_code 442 = .ok (.iconst 2, 1) := by decide +kernel
theorem d_Law_isRight_443 : decode method_6_code 443 = .ok (.iload 8, 2) := by decide +kernel
theorem d_Law_isRight_445 : decode method_6_code 445 = .ok (.iconst 1, 1) := by decide +kernel
theorem d_Law_isRight_446 : decode method_6_code 446 = .ok (.ishr, 1) := by decide +kernel
theorem d_Law_isRight_447 : decode method_6_code 447 = .ok (.iadd, 1) := by decide +kernel
theorem d_Law_isRight_448 : decode method_6_code 448 = .ok (.invokevirtual 18, 3) := by decide +kernel
theorem d_Law_isRight_451 : decode method_6_code 451 = .ok (.iload 5, 2) := by decide +kernel
theorem d_Law_isRight_453 : decode method_6_code 453 = .ok (.invokevirtual 26, 3) := by decide +kernel
theorem d_Law_isRight_456 : decode method_6_code 456 = .ok (.istore 9, 2) := by decide +kernel
theorem d_Law_isRight_458 : decode method_6_code 458 = .ok (.iload 9, 2) := by decide +kernel
theorem d_Law_isRight_460 : decode method_6_code 460 = .ok (.iload 6, 2) := by decide +kernel
theorem d_Law_isRight_462 : decode method_6_code 462 = .ok (.if_icmp .ge 8, 3) := by decide +kernel
theorem d_Law_isRight_465 : decode method_6_code 465 = .ok (.iload 9, 2) := by decide +kernel
theorem d_Law_isRight_467 : decode method_6_code 467 = .ok (.goto 5, 3) := by decide +kernel
theorem d_Law_isRight_470 : decode method_6_code 470 = .ok (.iload 6, 2) := by decide +kernel
theorem d_Law_isRight_472 : decode method_6_code 472 = .ok (.istore 6, 2) := by decide +kernel
theorem d_Law_isRight_474 : decode method_6_code 474 = .ok (.iload 9, 2) := by decide +kernel
theorem d_Law_isRight_476 : decode method_6_code 476 = .ok (.iload 7, 2) := by decide +kernel
theorem d_Law_isRight_478 : decode method_6_code 478 = .ok (.if_icmp .le 8, 3) := by decide +kernel
theorem d_Law_isRight_481 : decode method_6_code 481 = .ok (.iload 9, 2) := by decide +kernel
theorem d_Law_isRight_483 : decode method_6_code 483 = .ok (.goto 5, 3) := by decide +kernel
theorem d_Law_isRight_486 : decode method_6_code 486 = .ok (.iload 7, 2) := by decide +kernel
theorem d_Law_isRight_488 : decode method_6_code 488 = .ok (.istore 7, 2) := by decide +kernel
theorem d_Law_isRight_490 : decode method_6_code 490 = .ok (.iinc 8 1, 3) := by decide +kernel
theorem d_Law_isRight_493 : decode method_6_code 493 = .ok (.goto (-71), 3) := by decide +kernel
theorem d_Law_isRight_496 : decode method_6_code 496 = .ok (.aload_n 0, 1) := by decide +kernel
theorem d_Law_isRight_497 : decode method_6_code 497 = .ok (.iload 5, 2) := by decide +kernel
theorem d_Law_isRight_499 : decode method_6_code 499 = .ok (.iconst 0, 1) := by decide +kernel
theorem d_Law_isRight_500 : decode method_6_code 500 = .ok (.invokevirtual 35, 3) := by decide +kernel
theorem d_Law_isRight_503 : decode method_6_code 503 = .ok (.iload 6, 2) := by decide +kernel
theorem d_Law_isRight_505 : decode method_6_code 505 = .ok (.if_icmp .lt 40, 3) := by decide +kernel
theorem d_Law_isRight_508 : decode method_6_code 508 = .ok (.aload_n 0, 1) := by decide +kernel
theorem d_Law_isRight_509 : decode method_6_code 509 = .ok (.iload 5, 2) := by decide +kernel
theorem d_Law_isRight_511 : decode method_6_code 511 = .ok (.iconst 0, 1) := by decide +kernel
theorem d_Law_isRight_512 : decode method_6_code 512 = .ok (.invokevirtual 35, 3) := by decide +kernel
theorem d_Law_isRight_515 : decode method_6_code 515 = .ok (.iload 7, 2) := by decide +kernel
theorem d_Law_isRight_517 : decode method_6_code 517 = .ok (.if_icmp .gt 28, 3) := by decide +kernel
theorem d_Law_isRight_520 : decode method_6_code 520 = .ok (.aload_n 0, 1) := by decide +kernel
theorem d_Law_isRight_521 : decode method_6_code 521 = .ok (.iload 5, 2) := by decide +kernel
theorem d_Law_isRight_523 : decode method_6_code 523 = .ok (.iconst 1, 1) := by decide +kernel
theorem d_Law_isRight_524 : decode method_6_code 524 = .ok (.invokevirtual 35, 3) := by decide +kernel
theorem d_Law_isRight_527 : decode method_6_code 527 = .ok (.aload_n 0, 1) := by decide +kernel
theorem d_Law_isRight_528 : decode method_6_code 528 = .ok (.iload 5, 2) := by decide +kernel
theorem d_Law_isRight_530 : decode method_6_code 530 = .ok (.iconst 2, 1) := by decide +kernel
theorem d_Law_isRight_531 : decode method_6_code 531 = .ok (.invokevirtual 35, 3) := by decide +kernel
theorem d_Law_isRight_534 : decode method_6_code 534 = .ok (.idiv, 1) := by decide +kernel
theorem d_Law_isRight_535 : decode method_6_code 535 = .ok (.aload_n 0, 1) := by decide +kernel
theorem d_Law_isRight_536 : decode method_6_code 536 = .ok (.iload 5, 2) := by decide +kernel
theorem d_Law_isRight_538 : decode method_6_code 538 = .ok (.iconst 0, 1) := by decide +kernel
theorem d_Law_isRight_539 : decode method_6_code 539 = .ok (.invokevirtual 35, 3) := by decide +kernel
theorem d_Law_isRight_542 : decode method_6_code 542 = .ok (.if_icmp .eq 5, 3) := by decide +kernel
theorem d_Law_isRight_545 : decode method_6_code 545 = .ok (.iconst 0, 1) := by decide +kernel
theorem d_Law_isRight_546 : decode method_6_code 546 = .ok (.ireturn, 1) := by decide +kernel
theorem d_Law_isRight_547 : decode method_6_code 547 = .ok (.iinc 5 1, 3) := by decide +kernel
theorem d_Law_isRight_550 : decode method_6_code 550 = .ok (.goto (-145), 3) := by decide +kernel
theorem d_Law_isRight_553 : decode method_6_code 553 = .ok (.aload_n 0, 1) := by decide +kernel
theorem d_Law_isRight_554 : decode method_6_code 554 = .ok (.iconst 0, 1) := by decide +kernel
theorem d_Law_isRight_555 : decode method_6_code 555 = .ok (.iconst 2, 1) := by decide +kernel
theorem d_Law_isRight_556 : decode method_6_code 556 = .ok (.invokevirtual 29, 3) := by decide +kernel
theorem d_Law_isRight_559 : decode method_6_code 559 = .ok (.aload_n 0, 1) := by decide +kernel
theorem d_Law_isRight_560 : decode method_6_code 560 = .ok (.iconst 1, 1) := by decide +kernel
theorem d_Law_isRight_561 : decode method_6_code 561 = .ok (.iconst 2, 1) := by decide +kernel
theorem d_Law_isRight_562 : decode method_6_code 562 = .ok (.invokevirtual 29, 3) := by decide +kernel
theorem d_Law_isRight_565 : decode method_6_code 565 = .ok (.iadd, 1) := by decide +kernel
theorem d_Law_isRight_566 : decode method_6_code 566 = .ok (.aload_n 0, 1) := by decide +kernel
theorem d_Law_isRight_567 : decode method_6_code 567 = .ok (.iconst 2, 1) := by decide +kernel
theorem d_Law_isRight_568 : decode method_6_code 568 = .ok (.iconst 2, 1) := by decide +kernel
theorem d_Law_isRight_569 : decode method_6_code 569 = .ok (.invokevirtual 29, 3) := by decide +kernel
theorem d_Law_isRight_572 : decode method_6_code 572 = .ok (.iadd, 1) := by decide +kernel
theorem d_Law_isRight_573 : decode method_6_code 573 = .ok (.istore 5, 2) := by decide +kernel
theorem d_Law_isRight_575 : decode method_6_code 575 = .ok (.aload_n 0, 1) := by decide +kernel
theorem d_Law_isRight_576 : decode method_6_code 576 = .ok (.iconst 0, 1) := by decide +kernel
theorem d_Law_isRight_577 : decode method_6_code 577 = .ok (.invokevirtual 12, 3) := by decide +kernel
theorem d_Law_isRight_580 : decode method_6_code 580 = .ok (.iload_n 2, 1) := by decide +kernel
theorem d_Law_isRight_581 : decode method_6_code 581 = .ok (.iload_n 3, 1) := by decide +kernel
theorem d_Law_isRight_582 : decode method_6_code 582 = .ok (.imul, 1) := by decide +kernel
theorem d_Law_isRight_583 : decode method_6_code 583 = .ok (.if_icmp .ne 84, 3) := by decide +kernel
theorem d_Law_isRight_586 : decode method_6_code 586 = .ok (.iload 4, 2) := by decide +kernel
theorem d_Law_isRight_588 : decode method_6_code 588 = .ok (.iload 5, 2) := by decide +kernel
theorem d_Law_isRight_590 : decode method_6_code 590 = .ok (.if_icmp .ne 77, 3) := by decide +kernel
theorem d_Law_isRight_593 : decode method_6_code 593 = .ok (.aload_n 0, 1) := by decide +kernel
theorem d_Law_isRight_594 : decode method_6_code 594 = .ok (.iconst 4, 1) := by decide +kernel
theorem d_Law_isRight_595 : decode method_6_code 595 = .ok (.invokevirtual 32, 3) := by decide +kernel
theorem d_Law_isRight_598 : decode method_6_code 598 = .ok (.iload_n 1, 1) := by decide +kernel
theorem d_Law_isRight_599 : decode method_6_code 599 = .ok (.if_icmp .ne 68, 3) := by decide +kernel
theorem d_Law_isRight_602 : decode method_6_code 602 = .ok (.aload_n 0, 1) := by decide +kernel
theorem d_Law_isRight_603 : decode method_6_code 603 = .ok (.iconst 4, 1) := by decide +kernel
theorem d_Law_isRight_604 : decode method_6_code 604 = .ok (.invokevirtual 32, 3) := by decide +kernel
theorem d_Law_isRight_607 : decode method_6_code 607 = .ok (.aload_n 0, 1) := by decide +kernel
theorem d_Law_isRight_608 : decode method_6_code 608 = .ok (.iconst 0, 1) := by decide +kernel
theorem d_Law_isRight_609 : decode method_6_code 609 = .ok (.invokevirtual 32, 3) := by decide +kernel
theorem d_Law_isRight_612 : decode method_6_code 612 = .ok (.aload_n 0, 1) := by decide +kernel
theorem d_Law_isRight_613 : decode method_6_code 613 = .ok (.iconst 1, 1) := by decide +kernel
theorem d_Law_isRight_614 : decode method_6_code 614 = .ok (.invokevirtual 32, 3) := by decide +kernel
theorem d_Law_isRight_617 : decode method_6_code 617 = .ok (.iadd, 1) := by decide +kernel
theorem d_Law_isRight_618 : decode method_6_code 618 = .ok (.aload_n 0, 1) := by decide +kernel
theorem d_Law_isRight_619 : decode method_6_code 619 = .ok (.iconst 2, 1) := by decide +kernel
theorem d_Law_isRight_620 : decode method_6_code 620 = .ok (.invokevirtual 32, 3) := by decide +kernel
theorem d_Law_isRight_623 : decode method_6_code 623 = .ok (.iadd, 1) := by decide +kernel
theorem d_Law_isRight_624 : decode method_6_code 624 = .ok (.aload_n 0, 1) := by decide +kernel
theorem d_Law_isRight_625 : decode method_6_code 625 = .ok (.iconst 3, 1) := by decide +kernel
theorem d_Law_isRight_626 : decode method_6_code 626 = .ok (.invokevirtual 32, 3) := by decide +kernel
theorem d_Law_isRight_629 : decode method_6_code 629 = .ok (.iadd, 1) := by decide +kernel
theorem d_Law_isRight_630 : decode method_6_code 630 = .ok (.if_icmp .ne 37, 3) := by decide +kernel
theorem d_Law_isRight_633 : decode method_6_code 633 = .ok (.aload_n 0, 1) := by decide +kernel
theorem d_Law_isRight_634 : decode method_6_code 634 = .ok (.bipush 6, 2) := by decide +kernel
theorem d_Law_isRight_636 : decode method_6_code 636 = .ok (.invokevirtual 12, 3) := by decide +kernel
theorem d_Law_isRight_639 : decode method_6_code 639 = .ok (.bipush 20, 2) := by decide +kernel
theorem d_Law_isRight_641 : decode method_6_code 641 = .ok (.if_icmp .gt 26, 3) := by decide +kernel
theorem d_Law_isRight_644 : decode method_6_code 644 = .ok (.aload_n 0, 1) := by decide +kernel
theorem d_Law_isRight_645 : decode method_6_code 645 = .ok (.bipush 6, 2) := by decide +kernel
theorem d_Law_isRight_647 : decode method_6_code 647 = .ok (.invokevirtual 12, 3) := by decide +kernel
theorem d_Law_isRight_650 : decode method_6_code 650 = .ok (.ifCond .eq 13, 3) := by decide +kernel
theorem d_Law_isRight_653 : decode method_6_code 653 = .ok (.aload_n 0, 1) := by decide +kernel
theorem d_Law_isRight_654 : decode method_6_code 654 = .ok (.iconst 0, 1) := by decide +kernel
theorem d_Law_isRight_655 : decode method_6_code 655 = .ok (.bipush 7, 2) := by decide +kernel
theorem d_Law_isRight_657 : decode method_6_code 657 = .ok (.invokevirtual 38, 3) := by decide +kernel
theorem d_Law_isRight_660 : decode method_6_code 660 = .ok (.ifCond .lt 7, 3) := by decide +kernel
theorem d_Law_isRight_663 : decode method_6_code 663 = .ok (.iconst 1, 1) := by decide +kernel
theorem d_Law_isRight_664 : decode method_6_code 664 = .ok (.goto 4, 3) := by decide +kernel
theorem d_Law_isRight_667 : decode method_6_code 667 = .ok (.iconst 0, 1) := by decide +kernel
theorem d_Law_isRight_668 : decode method_6_code 668 = .ok (.ireturn, 1) := by decide +kernel
theorem d_Law_0 : decode code 0 = .ok (.new 13, 3) := by decide +kernel
theorem d_Law_3 : decode code 3 = .ok (.dup, 1) := by decide +kernel
theorem d_Law_4 : decode code 4 = .ok (.invokespecial 84, 3) := by decide +kernel
theorem d_Law_7 : decode code 7 = .ok (.astore_n 1, 1) := by decide +kernel
theorem d_Law_8 : decode code 8 = .ok (.iconst 0, 1) := by decide +kernel
theorem d_Law_9 : decode code 9 = .ok (.istore_n 2, 1) := by decide +kernel
theorem d_Law_10 : decode code 10 = .ok (.iload_n 2, 1) := by decide +kernel
theorem d_Law_11 : decode code 11 = .ok (.bipush 15, 2) := by decide +kernel
theorem d_Law_13 : decode code 13 = .ok (.if_icmp .ge 327, 3) := by decide +kernel
theorem d_Law_16 : decode code 16 = .ok (.aload_n 0, 1) := by decide +kernel
theorem d_Law_17 : decode code 17 = .ok (.iload_n 2, 1) := by decide +kernel
theorem d_Law_18 : decode code 18 = .ok (.invokestatic 85, 3) := by decide +kernel
theorem d_Law_21 : decode code 21 = .ok (.istore_n 3, 1) := by decide +kernel
theorem d_Law_22 : decode code 22 = .ok (.aload_n 1, 1) := by decide +kernel
theorem d_Law_23 : decode code 23 = .ok (.invokestatic 89, 3) := by decide +kernel
theorem d_Law_26 : decode code 26 = .ok (.lstore 4, 2) := by decide +kernel
theorem d_Law_28 : decode code 28 = .ok (.iload_n 3, 1) := by decide +kernel
theorem d_Law_29 : decode code 29 = .ok (.bipush 15, 2) := by decide +kernel
theorem d_Law_31 : decode code 31 = .ok (.iand, 1) := by decide +kernel
theorem d_Law_32 : decode code 32 = .ok (.bipush 10, 2) := by decide +kernel
theorem d_Law_34 : decode code 34 = .ok (.if_icmp .eq 12, 3) := by decide +kernel
theorem d_Law_37 : decode code 37 = .ok (.iload_n 3, 1) := by decide +kernel
theorem d_Law_38 : decode code 38 = .ok (.bipush 15, 2) := by decide +kernel
theorem d_Law_40 : decode code 40 = .ok (.iand, 1) := by decide +kernel
theorem d_Law_41 : decode code 41 = .ok (.bipush 11, 2) := by decide +kernel
theorem d_Law_43 : decode code 43 = .ok (.if_icmp .ne 31, 3) := by decide +kernel
theorem d_Law_46 : decode code 46 = .ok (.aload_n 1, 1) := by decide +kernel
theorem d_Law_47 : decode code 47 = .ok (.iload_n 3, 1) := by decide +kernel
theorem d_Law_48 : decode code 48 = .ok (.iconst 3, 1) := by decide +kernel
theorem d_Law_49 : decode code 49 = .ok (.ishr, 1) := by decide +kernel
theorem d_Law_50 : decode code 50 = .ok (.sipush 1001, 3) := by decide +kernel
theorem d_Law_53 : decode code 53 = .ok (.invokestatic 41, 3) := by decide +kernel
theorem d_Law_56 : decode code 56 = .ok (.iload_n 3, 1) := by decide +kernel
theorem d_Law_57 : decode code 57 = .ok (.bipush 7, 2) := by decide +kernel
theorem d_Law_59 : decode code 59 = .ok (.imul, 1) := by decide +kernel
theorem d_Law_60 : decode code 60 = .ok (.iconst 4, 1) := by decide +kernel
theorem d_Law_61 : decode code 61 = .ok (.ishr, 1) := by decide +kernel
theorem d_Law_62 : decode code 62 = .ok (.sipush 1001, 3) := by decide +kernel
theorem d_Law_65 : decode code 65 = .ok (.invokestatic 41, 3) := by decide +kernel
theorem d_Law_68 : decode code 68 = .ok (.invokevirtual 93, 3) := by decide +kernel
theorem d_Law_71 : decode code 71 = .ok (.goto 4, 3) := by decide +kernel
theorem d_Law_74 : decode code 74 = .ok (.iconst 0, 1) := by decide +kernel
theorem d_Law_75 : decode code 75 = .ok (.istore 6, 2) := by decide +kernel
theorem d_Law_77 : decode code 77 = .ok (.aload_n 1, 1) := by decide +kernel
theorem d_Law_78 : decode code 78 = .ok (.iconst 4, 1) := by decide +kernel
theorem d_Law_79 : decode code 79 = .ok (.invokevirtual 12, 3) := by decide +kernel
theorem d_Law_82 : decode code 82 = .ok (.istore 7, 2) := by decide +kernel
theorem d_Law_84 : decode code 84 = .ok (.aload_n 1, 1) := by decide +kernel
theorem d_Law_85 : decode code 85 = .ok (.bipush 7, 2) := by decide +kernel
theorem d_Law_87 : decode code 87 = .ok (.invokevirtual 12, 3) := by decide +kernel
theorem d_Law_90 : decode code 90 = .ok (.istore 8, 2) := by decide +kernel
theorem d_Law_92 : decode code 92 = .ok (.aload_n 1, 1) := by decide +kernel
theorem d_Law_93 : decode code 93 = .ok (.iload_n 3, 1) := by decide +kernel
theorem d_Law_94 : decode code 94 = .ok (.invokestatic 96, 3) := by decide +kernel
theorem d_Law_97 : decode code 97 = .ok (.istore 9, 2) := by decide +kernel
theorem d_Law_99 : decode code 99 = .ok (.iload 9, 2) := by decide +kernel
theorem d_Law_101 : decode code 101 = .ok (.ifCond .ge 14, 3) := by decide +kernel
theorem d_Law_104 : decode code 104 = .ok (.iload 9, 2) := by decide +kernel
theorem d_Law_106 : decode code 106 = .ok (.ldc 100, 2) := by decide +kernel
theorem d_Law_108 : decode code 108 = .ok (.if_icmp .eq 7, 3) := by decide +kernel
theorem d_Law_111 : decode code 111 = .ok (.iconst 1, 1) := by decide +kernel
theorem d_Law_112 : decode code 112 = .ok (.goto 4, 3) := by decide +kernel
theorem d_Law_115 : decode code 115 = .ok (.iconst 0, 1) := by decide +kernel
theorem d_Law_116 : decode code 116 = .ok (.istore 10, 2) := by decide +kernel
theorem d_Law_118 : decode code 118 = .ok (.iload 10, 2) := by decide +kernel
theorem d_Law_120 : decode code 120 = .ok (.ifCond .eq 13, 3) := by decide +kernel
theorem d_Law_123 : decode code 123 = .ok (.aload_n 1, 1) := by decide +kernel
theorem d_Law_124 : decode code 124 = .ok (.invokestatic 89, 3) := by decide +kernel
theorem d_Law_127 : decode code 127 = .ok (.lload 4, 2) := by decide +kernel
theorem d_Law_129 : decode code 129 = .ok (.lcmp, 1) := by decide +kernel
theorem d_Law_130 : decode code 130 = .ok (.ifCond .ne 10, 3) := by decide +kernel
theorem d_Law_133 : decode code 133 = .ok (.aload_n 1, 1) := by decide +kernel
theorem d_Law_134 : decode code 134 = .ok (.invokestatic 101, 3) := by decide +kernel
theorem d_Law_137 : decode code 137 = .ok (.ifCond .ne 5, 3) := by decide +kernel
theorem d_Law_140 : decode code 140 = .ok (.iconst 0, 1) := by decide +kernel
theorem d_Law_141 : decode code 141 = .ok (.ireturn, 1) := by decide +kernel
theorem d_Law_142 : decode code 142 = .ok (.iload_n 3, 1) := by decide +kernel
theorem d_Law_143 : decode code 143 = .ok (.bipush 15, 2) := by decide +kernel
theorem d_Law_145 : decode code 145 = .ok (.iand, 1) := by decide +kernel
theorem d_Law_146 : decode code 146 = .ok (.bipush 10, 2) := by decide +kernel
theorem d_Law_148 : decode code 148 = .ok (.if_icmp .eq 12, 3) := by decide +kernel
theorem d_Law_151 : decode code 151 = .ok (.iload_n 3, 1) := by decide +kernel
theorem d_Law_152 : decode code 152 = .ok (.bipush 15, 2) := by decide +kernel
theorem d_Law_154 : decode code 154 = .ok (.iand, 1) := by decide +kernel
theorem d_Law_155 : decode code 155 = .ok (.bipush 11, 2) := by decide +kernel
theorem d_Law_157 : decode code 157 = .ok (.if_icmp .ne 120, 3) := by decide +kernel
theorem d_Law_160 : decode code 160 = .ok (.iload 6, 2) := by decide +kernel
theorem d_Law_162 : decode code 162 = .ok (.ifCond .ne 7, 3) := by decide +kernel
theorem d_Law_165 : decode code 165 = .ok (.iconst 1, 1) := by decide +kernel
theorem d_Law_166 : decode code 166 = .ok (.goto 4, 3) := by decide +kernel
theorem d_Law_169 : decode code 169 = .ok (.iconst 0, 1) := by decide +kernel
theorem d_Law_170 : decode code 170 = .ok (.iload 9, 2) := by decide +kernel
theorem d_Law_172 : decode code 172 = .ok (.ldc 100, 2) := by decide +kernel
theorem d_Law_174 : decode code 174 = .ok (.if_icmp .ne 7, 3) := by decide +kernel
theorem d_Law_177 : decode code 177 = .ok (.iconst 1, 1) := by decide +kernel
theorem d_Law_178 : decode code 178 = .ok (.goto 4, 3) := by decide +kernel
theorem d_Law_181 : decode code 181 = .ok (.iconst 0, 1) := by decide +kernel
theorem d_Law_182 : decode code 182 = .ok (.if_icmp .ne 93, 3) := by decide +kernel
theorem d_Law_185 : decode code 185 = .ok (.iload 6, 2) := by decide +kernel
theorem d_Law_187 : decode code 187 = .ok (.iconst 2, 1) := by decide +kernel
theorem d_Law_188 : decode code 188 = .ok (.iand, 1) := by decide +kernel
theorem d_Law_189 : decode code 189 = .ok (.iconst 2, 1) := by decide +kernel
theorem d_Law_190 : decode code 190 = .ok (.if_icmp .ne 7, 3) := by decide +kernel
theorem d_Law_193 : decode code 193 = .ok (.iconst 1, 1) := by decide +kernel
theorem d_Law_194 : decode code 194 = .ok (.goto 4, 3) := by decide +kernel
theorem d_Law_197 : decode code 197 = .ok (.iconst 0, 1) := by decide +kernel
theorem d_Law_198 : decode code 198 = .ok (.aload_n 1, 1) := by decide +kernel
theorem d_Law_199 : decode code 199 = .ok (.iconst 4, 1) := by decide +kernel
theorem d_Law_200 : decode code 200 = .ok (.invokevirtual 12, 3) := by decide +kernel
theorem d_Law_203 : decode code 203 = .ok (.iload 7, 2) := by decide +kernel
theorem d_Law_205 : decode code 205 = .ok (.if_icmp .eq 7, 3) := by decide +kernel
