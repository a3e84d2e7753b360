theorem dL_act_336 : decode cL_act 336 = .ok (.iload 8, 2) := by decide +kernel
theorem dL_act_338 : decode cL_act 338 = .ok (.goto 12, 3) := by decide +kernel
theorem dL_act_341 : decode cL_act 341 = .ok (.iload_n 1, 1) := by decide +kernel
theorem dL_act_342 : decode cL_act 342 = .ok (.bipush 9, 2) := by decide +kernel
theorem dL_act_344 : decode cL_act 344 = .ok (.ishr, 1) := by decide +kernel
theorem dL_act_345 : decode cL_act 345 = .ok (.bipush 40, 2) := by decide +kernel
theorem dL_act_347 : decode cL_act 347 = .ok (.invokestatic 82, 3) := by decide +kernel
theorem dL_act_350 : decode cL_act 350 = .ok (.invokestatic 90, 3) := by decide +kernel
theorem dL_act_353 : decode cL_act 353 = .ok (.lreturn, 1) := by decide +kernel
theorem dL_act_354 : decode cL_act 354 = .ok (.aload_n 0, 1) := by decide +kernel
theorem dL_act_355 : decode cL_act 355 = .ok (.iload 4, 2) := by decide +kernel
theorem dL_act_357 : decode cL_act 357 = .ok (.iload 6, 2) := by decide +kernel
theorem dL_act_359 : decode cL_act 359 = .ok (.iload 8, 2) := by decide +kernel
theorem dL_act_361 : decode cL_act 361 = .ok (.invokestatic 92, 3) := by decide +kernel
theorem dL_act_364 : decode cL_act 364 = .ok (.lreturn, 1) := by decide +kernel
theorem dL_act_365 : decode cL_act 365 = .ok (.aload_n 0, 1) := by decide +kernel
theorem dL_act_366 : decode cL_act 366 = .ok (.iload_n 3, 1) := by decide +kernel
theorem dL_act_367 : decode cL_act 367 = .ok (.ifCond .eq 8, 3) := by decide +kernel
theorem dL_act_370 : decode cL_act 370 = .ok (.iload 8, 2) := by decide +kernel
theorem dL_act_372 : decode cL_act 372 = .ok (.goto 13, 3) := by decide +kernel
theorem dL_act_375 : decode cL_act 375 = .ok (.iconst 1, 1) := by decide +kernel
theorem dL_act_376 : decode cL_act 376 = .ok (.iload_n 1, 1) := by decide +kernel
theorem dL_act_377 : decode cL_act 377 = .ok (.bipush 9, 2) := by decide +kernel
theorem dL_act_379 : decode cL_act 379 = .ok (.ishr, 1) := by decide +kernel
theorem dL_act_380 : decode cL_act 380 = .ok (.iconst 5, 1) := by decide +kernel
theorem dL_act_381 : decode cL_act 381 = .ok (.invokestatic 82, 3) := by decide +kernel
theorem dL_act_384 : decode cL_act 384 = .ok (.iadd, 1) := by decide +kernel
theorem dL_act_385 : decode cL_act 385 = .ok (.invokestatic 95, 3) := by decide +kernel
theorem dL_act_388 : decode cL_act 388 = .ok (.lreturn, 1) := by decide +kernel
theorem dL_act_389 : decode cL_act 389 = .ok (.aload_n 0, 1) := by decide +kernel
theorem dL_act_390 : decode cL_act 390 = .ok (.iload 4, 2) := by decide +kernel
theorem dL_act_392 : decode cL_act 392 = .ok (.iload 6, 2) := by decide +kernel
theorem dL_act_394 : decode cL_act 394 = .ok (.iload 5, 2) := by decide +kernel
theorem dL_act_396 : decode cL_act 396 = .ok (.invokestatic 98, 3) := by decide +kernel
theorem dL_act_399 : decode cL_act 399 = .ok (.lreturn, 1) := by decide +kernel
theorem dL_act_400 : decode cL_act 400 = .ok (.aload_n 0, 1) := by decide +kernel
theorem dL_act_401 : decode cL_act 401 = .ok (.invokestatic 100, 3) := by decide +kernel
theorem dL_act_404 : decode cL_act 404 = .ok (.lreturn, 1) := by decide +kernel
theorem dL_act_405 : decode cL_act 405 = .ok (.iload_n 2, 1) := by decide +kernel
theorem dL_act_406 : decode cL_act 406 = .ok (.bipush 25, 2) := by decide +kernel
theorem dL_act_408 : decode cL_act 408 = .ok (.irem, 1) := by decide +kernel
theorem dL_act_409 : decode cL_act 409 = .ok (.iconst 4, 1) := by decide +kernel
theorem dL_act_410 : decode cL_act 410 = .ok (.if_icmp .ne 27, 3) := by decide +kernel
theorem dL_act_413 : decode cL_act 413 = .ok (.aload_n 0, 1) := by decide +kernel
theorem dL_act_414 : decode cL_act 414 = .ok (.iload 4, 2) := by decide +kernel
theorem dL_act_416 : decode cL_act 416 = .ok (.iload_n 1, 1) := by decide +kernel
theorem dL_act_417 : decode cL_act 417 = .ok (.bipush 20, 2) := by decide +kernel
theorem dL_act_419 : decode cL_act 419 = .ok (.ishr, 1) := by decide +kernel
theorem dL_act_420 : decode cL_act 420 = .ok (.iconst 1, 1) := by decide +kernel
theorem dL_act_421 : decode cL_act 421 = .ok (.iand, 1) := by decide +kernel
theorem dL_act_422 : decode cL_act 422 = .ok (.iconst 1, 1) := by decide +kernel
theorem dL_act_423 : decode cL_act 423 = .ok (.if_icmp .ne 7, 3) := by decide +kernel
theorem dL_act_426 : decode cL_act 426 = .ok (.iconst 1, 1) := by decide +kernel
theorem dL_act_427 : decode cL_act 427 = .ok (.goto 4, 3) := by decide +kernel
theorem dL_act_430 : decode cL_act 430 = .ok (.iconst 0, 1) := by decide +kernel
theorem dL_act_431 : decode cL_act 431 = .ok (.invokestatic 103, 3) := by decide +kernel
theorem dL_act_434 : decode cL_act 434 = .ok (.goto 24, 3) := by decide +kernel
theorem dL_act_437 : decode cL_act 437 = .ok (.aload_n 0, 1) := by decide +kernel
theorem dL_act_438 : decode cL_act 438 = .ok (.iload 4, 2) := by decide +kernel
theorem dL_act_440 : decode cL_act 440 = .ok (.iload_n 1, 1) := by decide +kernel
theorem dL_act_441 : decode cL_act 441 = .ok (.bipush 20, 2) := by decide +kernel
theorem dL_act_443 : decode cL_act 443 = .ok (.ishr, 1) := by decide +kernel
theorem dL_act_444 : decode cL_act 444 = .ok (.iconst 1, 1) := by decide +kernel
theorem dL_act_445 : decode cL_act 445 = .ok (.iand, 1) := by decide +kernel
theorem dL_act_446 : decode cL_act 446 = .ok (.iconst 1, 1) := by decide +kernel
theorem dL_act_447 : decode cL_act 447 = .ok (.if_icmp .ne 7, 3) := by decide +kernel
theorem dL_act_450 : decode cL_act 450 = .ok (.iconst 1, 1) := by decide +kernel
theorem dL_act_451 : decode cL_act 451 = .ok (.goto 4, 3) := by decide +kernel
theorem dL_act_454 : decode cL_act 454 = .ok (.iconst 0, 1) := by decide +kernel
theorem dL_act_455 : decode cL_act 455 = .ok (.invokestatic 106, 3) := by decide +kernel
theorem dL_act_458 : decode cL_act 458 = .ok (.lreturn, 1) := by decide +kernel
theorem dL_act_459 : decode cL_act 459 = .ok (.aload_n 0, 1) := by decide +kernel
theorem dL_act_460 : decode cL_act 460 = .ok (.iload 4, 2) := by decide +kernel
theorem dL_act_462 : decode cL_act 462 = .ok (.iload 6, 2) := by decide +kernel
theorem dL_act_464 : decode cL_act 464 = .ok (.invokestatic 108, 3) := by decide +kernel
theorem dL_act_467 : decode cL_act 467 = .ok (.lreturn, 1) := by decide +kernel
theorem dL_act_468 : decode cL_act 468 = .ok (.aload_n 0, 1) := by decide +kernel
theorem dL_act_469 : decode cL_act 469 = .ok (.iload 4, 2) := by decide +kernel
theorem dL_act_471 : decode cL_act 471 = .ok (.iload_n 3, 1) := by decide +kernel
theorem dL_act_472 : decode cL_act 472 = .ok (.ifCond .eq 8, 3) := by decide +kernel
theorem dL_act_475 : decode cL_act 475 = .ok (.iload 8, 2) := by decide +kernel
theorem dL_act_477 : decode cL_act 477 = .ok (.goto 15, 3) := by decide +kernel
theorem dL_act_480 : decode cL_act 480 = .ok (.bipush 40, 2) := by decide +kernel
theorem dL_act_482 : decode cL_act 482 = .ok (.iload_n 1, 1) := by decide +kernel
theorem dL_act_483 : decode cL_act 483 = .ok (.bipush 9, 2) := by decide +kernel
theorem dL_act_485 : decode cL_act 485 = .ok (.ishr, 1) := by decide +kernel
theorem dL_act_486 : decode cL_act 486 = .ok (.bipush 30, 2) := by decide +kernel
theorem dL_act_488 : decode cL_act 488 = .ok (.invokestatic 82, 3) := by decide +kernel
theorem dL_act_491 : decode cL_act 491 = .ok (.iadd, 1) := by decide +kernel
theorem dL_act_492 : decode cL_act 492 = .ok (.invokestatic 110, 3) := by decide +kernel
theorem dL_act_495 : decode cL_act 495 = .ok (.lreturn, 1) := by decide +kernel
theorem dL_act_496 : decode cL_act 496 = .ok (.aload_n 0, 1) := by decide +kernel
theorem dL_act_497 : decode cL_act 497 = .ok (.iload_n 3, 1) := by decide +kernel
theorem dL_act_498 : decode cL_act 498 = .ok (.ifCond .eq 8, 3) := by decide +kernel
theorem dL_act_501 : decode cL_act 501 = .ok (.iload 5, 2) := by decide +kernel
theorem dL_act_503 : decode cL_act 503 = .ok (.goto 13, 3) := by decide +kernel
theorem dL_act_506 : decode cL_act 506 = .ok (.iconst 2, 1) := by decide +kernel
theorem dL_act_507 : decode cL_act 507 = .ok (.iload_n 1, 1) := by decide +kernel
theorem dL_act_508 : decode cL_act 508 = .ok (.bipush 8, 2) := by decide +kernel
theorem dL_act_510 : decode cL_act 510 = .ok (.ishr, 1) := by decide +kernel
theorem dL_act_511 : decode cL_act 511 = .ok (.iconst 5, 1) := by decide +kernel
theorem dL_act_512 : decode cL_act 512 = .ok (.invokestatic 82, 3) := by decide +kernel
theorem dL_act_515 : decode cL_act 515 = .ok (.iadd, 1) := by decide +kernel
theorem dL_act_516 : decode cL_act 516 = .ok (.iload_n 3, 1) := by decide +kernel
theorem dL_act_517 : decode cL_act 517 = .ok (.ifCond .eq 8, 3) := by decide +kernel
theorem dL_act_520 : decode cL_act 520 = .ok (.iload 8, 2) := by decide +kernel
theorem dL_act_522 : decode cL_act 522 = .ok (.goto 13, 3) := by decide +kernel
theorem dL_act_525 : decode cL_act 525 = .ok (.iconst 3, 1) := by decide +kernel
theorem dL_act_526 : decode cL_act 526 = .ok (.iload_n 1, 1) := by decide +kernel
theorem dL_act_527 : decode cL_act 527 = .ok (.bipush 9, 2) := by decide +kernel
theorem dL_act_529 : decode cL_act 529 = .ok (.ishr, 1) := by decide +kernel
theorem dL_act_530 : decode cL_act 530 = .ok (.iconst 4, 1) := by decide +kernel
theorem dL_act_531 : decode cL_act 531 = .ok (.invokestatic 82, 3) := by decide +kernel
theorem dL_act_534 : decode cL_act 534 = .ok (.iadd, 1) := by decide +kernel
theorem dL_act_535 : decode cL_act 535 = .ok (.iload_n 3, 1) := by decide +kernel
theorem dL_act_536 : decode cL_act 536 = .ok (.ifCond .eq 7, 3) := by decide +kernel
theorem dL_act_539 : decode cL_act 539 = .ok (.iload_n 1, 1) := by decide +kernel
theorem dL_act_540 : decode cL_act 540 = .ok (.goto 11, 3) := by decide +kernel
theorem dL_act_543 : decode cL_act 543 = .ok (.iload_n 1, 1) := by decide +kernel
theorem dL_act_544 : decode cL_act 544 = .ok (.iconst 4, 1) := by decide +kernel
theorem dL_act_545 : decode cL_act 545 = .ok (.ishr, 1) := by decide +kernel
theorem dL_act_546 : decode cL_act 546 = .ok (.ldc 112, 2) := by decide +kernel
theorem dL_act_548 : decode cL_act 548 = .ok (.invokestatic 82, 3) := by decide +kernel
theorem dL_act_551 : decode cL_act 551 = .ok (.invokestatic 113, 3) := by decide +kernel
theorem dL_act_554 : decode cL_act 554 = .ok (.lreturn, 1) := by decide +kernel
theorem dL_act_555 : decode cL_act 555 = .ok (.aload_n 0, 1) := by decide +kernel
theorem dL_act_556 : decode cL_act 556 = .ok (.iload_n 3, 1) := by decide +kernel
theorem dL_act_557 : decode cL_act 557 = .ok (.ifCond .eq 8, 3) := by decide +kernel
theorem dL_act_560 : decode cL_act 560 = .ok (.iload 7, 2) := by decide +kernel
theorem dL_act_562 : decode cL_act 562 = .ok (.goto 11, 3) := by decide +kernel
theorem dL_act_565 : decode cL_act 565 = .ok (.iload_n 1, 1) := by decide +kernel
theorem dL_act_566 : decode cL_act 566 = .ok (.bipush 14, 2) := by decide +kernel
theorem dL_act_568 : decode cL_act 568 = .ok (.ishr, 1) := by decide +kernel
theorem dL_act_569 : decode cL_act 569 = .ok (.iconst 4, 1) := by decide +kernel
theorem dL_act_570 : decode cL_act 570 = .ok (.invokestatic 82, 3) := by decide +kernel
theorem dL_act_573 : decode cL_act 573 = .ok (.invokestatic 115, 3) := by decide +kernel
theorem dL_act_576 : decode cL_act 576 = .ok (.lreturn, 1) := by decide +kernel
theorem dL_act_577 : decode cL_act 577 = .ok (.aload_n 0, 1) := by decide +kernel
theorem dL_act_578 : decode cL_act 578 = .ok (.iload_n 3, 1) := by decide +kernel
theorem dL_act_579 : decode cL_act 579 = .ok (.ifCond .eq 8, 3) := by decide +kernel
theorem dL_act_582 : decode cL_act 582 = .ok (.iload 7, 2) := by decide +kernel
theorem dL_act_584 : decode cL_act 584 = .ok (.goto 11, 3) := by decide +kernel
theorem dL_act_587 : decode cL_act 587 = .ok (.iload_n 1, 1) := by decide +kernel
theorem dL_act_588 : decode cL_act 588 = .ok (.bipush 14, 2) := by decide +kernel
theorem dL_act_590 : decode cL_act 590 = .ok (.ishr, 1) := by decide +kernel
theorem dL_act_591 : decode cL_act 591 = .ok (.iconst 5, 1) := by decide +kernel
theorem dL_act_592 : decode cL_act 592 = .ok (.invokestatic 82, 3) := by decide +kernel
theorem dL_act_595 : decode cL_act 595 = .ok (.invokestatic 117, 3) := by decide +kernel
theorem dL_act_598 : decode cL_act 598 = .ok (.lreturn, 1) := by decide +kernel
theorem dL_act_599 : decode cL_act 599 = .ok (.aload_n 0, 1) := by decide +kernel
theorem dL_act_600 : decode cL_act 600 = .ok (.iload 4, 2) := by decide +kernel
theorem dL_act_602 : decode cL_act 602 = .ok (.iload 6, 2) := by decide +kernel
theorem dL_act_604 : decode cL_act 604 = .ok (.iload 7, 2) := by decide +kernel
theorem dL_act_606 : decode cL_act 606 = .ok (.invokestatic 119, 3) := by decide +kernel
theorem dL_act_609 : decode cL_act 609 = .ok (.lreturn, 1) := by decide +kernel
theorem dL_act_610 : decode cL_act 610 = .ok (.iload_n 2, 1) := by decide +kernel
theorem dL_act_611 : decode cL_act 611 = .ok (.iconst 5, 1) := by decide +kernel
theorem dL_act_612 : decode cL_act 612 = .ok (.irem, 1) := by decide +kernel
theorem dL_act_613 : decode cL_act 613 = .ok (.ifCond .ne 11, 3) := by decide +kernel
theorem dL_act_616 : decode cL_act 616 = .ok (.aload_n 0, 1) := by decide +kernel
theorem dL_act_617 : decode cL_act 617 = .ok (.invokevirtual 121, 3) := by decide +kernel
theorem dL_act_620 : decode cL_act 620 = .ok (.i2l, 1) := by decide +kernel
theorem dL_act_621 : decode cL_act 621 = .ok (.goto 11, 3) := by decide +kernel
theorem dL_act_624 : decode cL_act 624 = .ok (.aload_n 0, 1) := by decide +kernel
theorem dL_act_625 : decode cL_act 625 = .ok (.iload 4, 2) := by decide +kernel
theorem dL_act_627 : decode cL_act 627 = .ok (.iload 6, 2) := by decide +kernel
theorem dL_act_629 : decode cL_act 629 = .ok (.invokestatic 124, 3) := by decide +kernel
theorem dL_act_632 : decode cL_act 632 = .ok (.lreturn, 1) := by decide +kernel
theorem dL_act_633 : decode cL_act 633 = .ok (.iload_n 2, 1) := by decide +kernel
theorem dL_act_634 : decode cL_act 634 = .ok (.iconst 5, 1) := by decide +kernel
theorem dL_act_635 : decode cL_act 635 = .ok (.irem, 1) := by decide +kernel
theorem dL_act_636 : decode cL_act 636 = .ok (.iconst 1, 1) := by decide +kernel
theorem dL_act_637 : decode cL_act 637 = .ok (.if_icmp .ne 28, 3) := by decide +kernel
theorem dL_act_640 : decode cL_act 640 = .ok (.aload_n 0, 1) := by decide +kernel
theorem dL_act_641 : decode cL_act 641 = .ok (.iload_n 3, 1) := by decide +kernel
theorem dL_act_642 : decode cL_act 642 = .ok (.ifCond .eq 8, 3) := by decide +kernel
theorem dL_act_645 : decode cL_act 645 = .ok (.iload 7, 2) := by decide +kernel
theorem dL_act_647 : decode cL_act 647 = .ok (.goto 12, 3) := by decide +kernel
theorem dL_act_650 : decode cL_act 650 = .ok (.iload_n 1, 1) := by decide +kernel
theorem dL_act_651 : decode cL_act 651 = .ok (.bipush 14, 2) := by decide +kernel
theorem dL_act_653 : decode cL_act 653 = .ok (.ishr, 1) := by decide +kernel
theorem dL_act_654 : decode cL_act 654 = .ok (.bipush 6, 2) := by decide +kernel
theorem dL_act_656 : decode cL_act 656 = .ok (.invokestatic 82, 3) := by decide +kernel
theorem dL_act_659 : decode cL_act 659 = .ok (.invokestatic 126, 3) := by decide +kernel
theorem dL_act_662 : decode cL_act 662 = .ok (.goto 11, 3) := by decide +kernel
theorem dL_act_665 : decode cL_act 665 = .ok (.aload_n 0, 1) := by decide +kernel
theorem dL_act_666 : decode cL_act 666 = .ok (.iload 4, 2) := by decide +kernel
theorem dL_act_668 : decode cL_act 668 = .ok (.iload 7, 2) := by decide +kernel
theorem dL_act_670 : decode cL_act 670 = .ok (.invokestatic 124, 3) := by decide +kernel
theorem dL_act_673 : decode cL_act 673 = .ok (.lreturn, 1) := by decide +kernel
theorem dL_act_674 : decode cL_act 674 = .ok (.aload_n 0, 1) := by decide +kernel
theorem dL_act_675 : decode cL_act 675 = .ok (.iload 4, 2) := by decide +kernel
theorem dL_act_677 : decode cL_act 677 = .ok (.iload_n 3, 1) := by decide +kernel
theorem dL_act_678 : decode cL_act 678 = .ok (.ifCond .eq 8, 3) := by decide +kernel
theorem dL_act_681 : decode cL_act 681 = .ok (.iload 8, 2) := by decide +kernel
theorem dL_act_683 : decode cL_act 683 = .ok (.goto 12, 3) := by decide +kernel
theorem dL_act_686 : decode cL_act 686 = .ok (.iload_n 1, 1) := by decide +kernel
theorem dL_act_687 : decode cL_act 687 = .ok (.bipush 9, 2) := by decide +kernel
theorem dL_act_689 : decode cL_act 689 = .ok (.ishr, 1) := by decide +kernel
theorem dL_act_690 : decode cL_act 690 = .ok (.bipush 64, 2) := by decide +kernel
theorem dL_act_692 : decode cL_act 692 = .ok (.invokestatic 82, 3) := by decide +kernel
theorem dL_act_695 : decode cL_act 695 = .ok (.invokestatic 128, 3) := by decide +kernel
theorem dL_act_698 : decode cL_act 698 = .ok (.lreturn, 1) := by decide +kernel
theorem dL_act_699 : decode cL_act 699 = .ok (.aload_n 0, 1) := by decide +kernel
theorem dL_act_700 : decode cL_act 700 = .ok (.iload 4, 2) := by decide +kernel
theorem dL_act_702 : decode cL_act 702 = .ok (.iload 5, 2) := by decide +kernel
theorem dL_act_704 : decode cL_act 704 = .ok (.invokestatic 130, 3) := by decide +kernel
theorem dL_act_707 : decode cL_act 707 = .ok (.lreturn, 1) := by decide +kernel
theorem dL_act_708 : decode cL_act 708 = .ok (.aload_n 0, 1) := by decide +kernel
theorem dL_act_709 : decode cL_act 709 = .ok (.iload 4, 2) := by decide +kernel
theorem dL_act_711 : decode cL_act 711 = .ok (.invokestatic 132, 3) := by decide +kernel
theorem dL_act_714 : decode cL_act 714 = .ok (.lreturn, 1) := by decide +kernel
set_option maxRecDepth 20000 in
theorem ggL_areAlike_X8_stacked : GoodIn wsL_areAlike wsX8_stacked := goodIn_r _ [5, 6, 7, 184, 185, 186, 187, 188, 189, 190, 191, 192, 193, 194, 195, 196, 197, 198, 199] (by decide +kernel) (by decide +kernel)
set_option maxRecDepth 20000 in
theorem gL_areAlike_X8_stacked : GoodIn wsL_areAlike (wsV RL 134 RX8 yX8_stacked wsX8_stacked) := goodIn_app (goodIn_of _ (by decide +kernel)) ggL_areAlike_X8_stacked
set_option maxRecDepth 20000 in
theorem ggL_areAlike_L_low : GoodIn wsL_areAlike wsL_low := goodIn_r _ [11, 12] (by decide +kernel) (by decide +kernel)
set_option maxRecDepth 20000 in
theorem gL_areAlike_L_low : GoodIn wsL_areAlike (va_wsS RL 82 yL_low wsL_low) := goodIn_app (goodIn_of _ (by decide +kernel)) ggL_areAlike_L_low
set_option maxRecDepth 20000 in
theorem ggL_areAlike_L_offered : GoodIn wsL_areAlike wsL_offered := goodIn_ca (goodIn_r _ [15, 16, 17, 18, 19, 20, 4, 21, 22, 23, 24, 25, 26, 27, 28, 29, 30, 31, 32, 33, 34, 35, 36, 37, 38, 39, 40, 41, 42, 43, 44, 45, 46, 184, 185, 186, 187, 188, 189, 190, 191, 192, 200, 201, 202, 203, 204] (by decide +kernel) (by decide +kernel)) (goodIn_sub (fun _ h => List.mem_cons_of_mem _ (List.mem_append_left _ (List.mem_append_right _ h))) (by decide +kernel))
set_option maxRecDepth 20000 in
theorem gL_areAlike_L_offered : GoodIn wsL_areAlike (va_wsS RL 117 yL_offered wsL_offered) := goodIn_app (goodIn_of _ (by decide +kernel)) ggL_areAlike_L_offered
set_option maxRecDepth 20000 in
theorem ggL_areAlike_L_pair : GoodIn wsL_areAlike wsL_pair := goodIn_ca (goodIn_ca (goodIn_r _ [49, 16, 50, 17, 51, 52, 53, 4, 54, 55, 56, 57, 58, 59, 60, 22, 23, 61, 62, 63, 64, 65, 66, 67, 68, 69, 70, 71, 72, 73, 74, 75, 76, 77, 78, 79, 80, 81, 82, 83, 84, 85, 86, 184, 185, 186, 187, 188, 189, 190, 191, 192, 205, 206, 207, 208, 209] (by decide +kernel) (by decide +kernel)) (goodIn_sub (fun _ h => List.mem_cons_of_mem _ (List.mem_append_right _ h)) (by decide +kernel))) (goodIn_sub (fun _ h => List.mem_cons_of_mem _ (List.mem_append_left _ (List.mem_append_right _ h))) (by decide +kernel))
set_option maxRecDepth 20000 in
theorem gL_areAlike_L_pair : GoodIn wsL_areAlike (va_wsS RL 128 yL_pair wsL_pair) := goodIn_app (goodIn_of _ (by decide +kernel)) ggL_areAlike_L_pair
set_option maxRecDepth 20000 in
theorem ggL_areAlike_L_life : GoodIn wsL_areAlike wsL_life := goodIn_ca (goodIn_r _ [89, 16, 17, 90, 91, 92, 4, 93, 6, 94, 95, 58, 59, 60, 22, 23, 184, 185, 186, 187, 188, 189, 190, 191, 192, 193, 194, 195, 196, 197, 198, 199] (by decide +kernel) (by decide +kernel)) (goodIn_sub (fun _ h => List.mem_cons_of_mem _ (List.mem_append_left _ (List.mem_append_right _ h))) (by decide +kernel))
set_option maxRecDepth 20000 in
theorem gL_areAlike_L_life : GoodIn wsL_areAlike (va_wsS RL 106 yL_life wsL_life) := goodIn_app (goodIn_of _ (by decide +kernel)) ggL_areAlike_L_life
set_option maxRecDepth 20000 in
theorem ggL_areAlike_L_strength : GoodIn wsL_areAlike wsL_strength := goodIn_ca (goodIn_r _ [98, 16, 17, 99, 100, 101, 4, 102, 57, 103, 58, 59, 60, 22, 23, 184, 185, 186, 187, 188, 189, 190, 191, 192, 205, 206, 207, 208, 209] (by decide +kernel) (by decide +kernel)) (goodIn_sub (fun _ h => List.mem_cons_of_mem _ (List.mem_append_left _ (List.mem_append_right _ h))) (by decide +kernel))
set_option maxRecDepth 20000 in
theorem gL_areAlike_L_strength : GoodIn wsL_areAlike (va_wsS RL 132 yL_strength wsL_strength) := goodIn_app (goodIn_of _ (by decide +kernel)) ggL_areAlike_L_strength
set_option maxRecDepth 20000 in
theorem ggL_areAlike_L_has : GoodIn wsL_areAlike wsL_has := goodIn_ca (goodIn_r _ [106, 16, 17, 107, 108, 109, 4, 110, 111, 112, 58, 59, 60, 22, 23, 113, 114, 115, 116, 117, 118, 184, 185, 186, 187, 188, 189, 190, 191, 192, 210, 211, 212, 213, 214, 215, 216] (by decide +kernel) (by decide +kernel)) (goodIn_sub (fun _ h => List.mem_cons_of_mem _ (List.mem_append_left _ (List.mem_append_right _ h))) (by decide +kernel))
set_option maxRecDepth 20000 in
theorem gL_areAlike_L_has : GoodIn wsL_areAlike (va_wsS RL 124 yL_has wsL_has) := goodIn_app (goodIn_of _ (by decide +kernel)) ggL_areAlike_L_has
set_option maxRecDepth 20000 in
theorem ggL_areAlike_X8_lifeAnew : GoodIn wsL_areAlike wsX8_lifeAnew := goodIn_ca (goodIn_r _ [122, 123, 58, 59, 4, 60, 22, 23, 124, 125, 126, 127, 128, 129, 130, 131, 132, 133, 134, 135, 136, 137, 138, 139, 140, 141, 142, 143, 144, 145, 146, 147, 148, 149, 150, 151, 152, 153, 154, 155, 156, 157, 158, 159, 160, 161, 162, 163, 164, 165, 166, 167, 168, 169, 170, 171, 172, 173, 174, 175, 176, 177, 178, 179, 180, 181, 182, 183, 184, 185, 186, 187, 188, 189, 190, 191, 192, 217, 218, 219, 193, 194, 195, 196, 197, 198, 199] (by decide +kernel) (by decide +kernel)) (goodIn_sub (fun _ h => List.mem_cons_of_mem _ (List.mem_append_left _ (List.mem_append_right _ h))) (by decide +kernel))
set_option maxRecDepth 20000 in
theorem gL_areAlike_X8_lifeAnew : GoodIn wsL_areAlike (wsV RL 137 RX8 yX8_lifeAnew wsX8_lifeAnew) := goodIn_app (goodIn_of _ (by decide +kernel)) ggL_areAlike_X8_lifeAnew
set_option maxRecDepth 20000 in
theorem ggL_areAlike_X8_life : GoodIn wsL_areAlike wsX8_life := goodIn_ca (goodIn_r _ [93, 6, 94, 95, 58, 59, 4, 60, 22, 23, 184, 185, 186, 187, 188, 189, 190, 191, 192, 193, 194, 195, 196, 197, 198, 199] (by decide +kernel) (by decide +kernel)) (goodIn_sub (fun _ h => List.mem_cons_of_mem _ (List.mem_append_left _ (List.mem_append_right _ h))) (by decide +kernel))
set_option maxRecDepth 20000 in
theorem gL_areAlike_X8_life : GoodIn wsL_areAlike (wsV RL 44 RX8 yX8_life wsX8_life) := goodIn_app (goodIn_of _ (by decide +kernel)) ggL_areAlike_X8_life
theorem dL_areAlike_0 : decode cL_areAlike 0 = .ok (.aload_n 0, 1) := by decide +kernel
theorem dL_areAlike_1 : decode cL_areAlike 1 = .ok (.invokevirtual 134, 3) := by decide +kernel
theorem dL_areAlike_4 : decode cL_areAlike 4 = .ok (.aload_n 1, 1) := by decide +kernel
theorem dL_areAlike_5 : decode cL_areAlike 5 = .ok (.invokevirtual 134, 3) := by decide +kernel
theorem dL_areAlike_8 : decode cL_areAlike 8 = .ok (.if_icmp .ne 57, 3) := by decide +kernel
theorem dL_areAlike_11 : decode cL_areAlike 11 = .ok (.aload_n 0, 1) := by decide +kernel
theorem dL_areAlike_12 : decode cL_areAlike 12 = .ok (.iload_n 2, 1) := by decide +kernel
theorem dL_areAlike_13 : decode cL_areAlike 13 = .ok (.iconst 4, 1) := by decide +kernel
theorem dL_areAlike_14 : decode cL_areAlike 14 = .ok (.invokestatic 82, 3) := by decide +kernel
theorem dL_areAlike_17 : decode cL_areAlike 17 = .ok (.invokestatic 117, 3) := by decide +kernel
theorem dL_areAlike_20 : decode cL_areAlike 20 = .ok (.aload_n 1, 1) := by decide +kernel
theorem dL_areAlike_21 : decode cL_areAlike 21 = .ok (.iload_n 2, 1) := by decide +kernel
theorem dL_areAlike_22 : decode cL_areAlike 22 = .ok (.iconst 4, 1) := by decide +kernel
theorem dL_areAlike_23 : decode cL_areAlike 23 = .ok (.invokestatic 82, 3) := by decide +kernel
theorem dL_areAlike_26 : decode cL_areAlike 26 = .ok (.invokestatic 117, 3) := by decide +kernel
theorem dL_areAlike_29 : decode cL_areAlike 29 = .ok (.lcmp, 1) := by decide +kernel
theorem dL_areAlike_30 : decode cL_areAlike 30 = .ok (.ifCond .ne 35, 3) := by decide +kernel
theorem dL_areAlike_33 : decode cL_areAlike 33 = .ok (.aload_n 0, 1) := by decide +kernel
theorem dL_areAlike_34 : decode cL_areAlike 34 = .ok (.iload_n 2, 1) := by decide +kernel
theorem dL_areAlike_35 : decode cL_areAlike 35 = .ok (.bipush 6, 2) := by decide +kernel
theorem dL_areAlike_37 : decode cL_areAlike 37 = .ok (.invokestatic 82, 3) := by decide +kernel
theorem dL_areAlike_40 : decode cL_areAlike 40 = .ok (.bipush 63, 2) := by decide +kernel
theorem dL_areAlike_42 : decode cL_areAlike 42 = .ok (.invokestatic 128, 3) := by decide +kernel
theorem dL_areAlike_45 : decode cL_areAlike 45 = .ok (.aload_n 1, 1) := by decide +kernel
theorem dL_areAlike_46 : decode cL_areAlike 46 = .ok (.iload_n 2, 1) := by decide +kernel
theorem dL_areAlike_47 : decode cL_areAlike 47 = .ok (.bipush 6, 2) := by decide +kernel
theorem dL_areAlike_49 : decode cL_areAlike 49 = .ok (.invokestatic 82, 3) := by decide +kernel
theorem dL_areAlike_52 : decode cL_areAlike 52 = .ok (.bipush 63, 2) := by decide +kernel
theorem dL_areAlike_54 : decode cL_areAlike 54 = .ok (.invokestatic 128, 3) := by decide +kernel
theorem dL_areAlike_57 : decode cL_areAlike 57 = .ok (.lcmp, 1) := by decide +kernel
theorem dL_areAlike_58 : decode cL_areAlike 58 = .ok (.ifCond .ne 7, 3) := by decide +kernel
theorem dL_areAlike_61 : decode cL_areAlike 61 = .ok (.iconst 1, 1) := by decide +kernel
theorem dL_areAlike_62 : decode cL_areAlike 62 = .ok (.goto 4, 3) := by decide +kernel
theorem dL_areAlike_65 : decode cL_areAlike 65 = .ok (.iconst 0, 1) := by decide +kernel
theorem dL_areAlike_66 : decode cL_areAlike 66 = .ok (.istore_n 3, 1) := by decide +kernel
theorem dL_areAlike_67 : decode cL_areAlike 67 = .ok (.iconst 0, 1) := by decide +kernel
theorem dL_areAlike_68 : decode cL_areAlike 68 = .ok (.istore 4, 2) := by decide +kernel
theorem dL_areAlike_70 : decode cL_areAlike 70 = .ok (.iload 4, 2) := by decide +kernel
theorem dL_areAlike_72 : decode cL_areAlike 72 = .ok (.bipush 6, 2) := by decide +kernel
theorem dL_areAlike_74 : decode cL_areAlike 74 = .ok (.if_icmp .ge 117, 3) := by decide +kernel
theorem dL_areAlike_77 : decode cL_areAlike 77 = .ok (.iload_n 3, 1) := by decide +kernel
theorem dL_areAlike_78 : decode cL_areAlike 78 = .ok (.ifCond .eq 113, 3) := by decide +kernel
theorem dL_areAlike_81 : decode cL_areAlike 81 = .ok (.aload_n 0, 1) := by decide +kernel
theorem dL_areAlike_82 : decode cL_areAlike 82 = .ok (.iload 4, 2) := by decide +kernel
theorem dL_areAlike_84 : decode cL_areAlike 84 = .ok (.iconst 0, 1) := by decide +kernel
theorem dL_areAlike_85 : decode cL_areAlike 85 = .ok (.invokestatic 106, 3) := by decide +kernel
theorem dL_areAlike_88 : decode cL_areAlike 88 = .ok (.aload_n 1, 1) := by decide +kernel
theorem dL_areAlike_89 : decode cL_areAlike 89 = .ok (.iload 4, 2) := by decide +kernel
theorem dL_areAlike_91 : decode cL_areAlike 91 = .ok (.iconst 0, 1) := by decide +kernel
theorem dL_areAlike_92 : decode cL_areAlike 92 = .ok (.invokestatic 106, 3) := by decide +kernel
theorem dL_areAlike_95 : decode cL_areAlike 95 = .ok (.lcmp, 1) := by decide +kernel
theorem dL_areAlike_96 : decode cL_areAlike 96 = .ok (.ifCond .ne 87, 3) := by decide +kernel
theorem dL_areAlike_99 : decode cL_areAlike 99 = .ok (.aload_n 0, 1) := by decide +kernel
theorem dL_areAlike_100 : decode cL_areAlike 100 = .ok (.iload 4, 2) := by decide +kernel
theorem dL_areAlike_102 : decode cL_areAlike 102 = .ok (.iconst 1, 1) := by decide +kernel
theorem dL_areAlike_103 : decode cL_areAlike 103 = .ok (.invokestatic 106, 3) := by decide +kernel
theorem dL_areAlike_106 : decode cL_areAlike 106 = .ok (.aload_n 1, 1) := by decide +kernel
theorem dL_areAlike_107 : decode cL_areAlike 107 = .ok (.iload 4, 2) := by decide +kernel
theorem dL_areAlike_109 : decode cL_areAlike 109 = .ok (.iconst 1, 1) := by decide +kernel
theorem dL_areAlike_110 : decode cL_areAlike 110 = .ok (.invokestatic 106, 3) := by decide +kernel
theorem dL_areAlike_113 : decode cL_areAlike 113 = .ok (.lcmp, 1) := by decide +kernel
theorem dL_areAlike_114 : decode cL_areAlike 114 = .ok (.ifCond .ne 69, 3) := by decide +kernel
theorem dL_areAlike_117 : decode cL_areAlike 117 = .ok (.aload_n 0, 1) := by decide +kernel
theorem dL_areAlike_118 : decode cL_areAlike 118 = .ok (.iload 4, 2) := by decide +kernel
theorem dL_areAlike_120 : decode cL_areAlike 120 = .ok (.invokestatic 132, 3) := by decide +kernel
theorem dL_areAlike_123 : decode cL_areAlike 123 = .ok (.aload_n 1, 1) := by decide +kernel
theorem dL_areAlike_124 : decode cL_areAlike 124 = .ok (.iload 4, 2) := by decide +kernel
theorem dL_areAlike_126 : decode cL_areAlike 126 = .ok (.invokestatic 132, 3) := by decide +kernel
theorem dL_areAlike_129 : decode cL_areAlike 129 = .ok (.lcmp, 1) := by decide +kernel
theorem dL_areAlike_130 : decode cL_areAlike 130 = .ok (.ifCond .ne 53, 3) := by decide +kernel
theorem dL_areAlike_133 : decode cL_areAlike 133 = .ok (.aload_n 0, 1) := by decide +kernel
theorem dL_areAlike_134 : decode cL_areAlike 134 = .ok (.iload 4, 2) := by decide +kernel
theorem dL_areAlike_136 : decode cL_areAlike 136 = .ok (.iload_n 2, 1) := by decide +kernel
theorem dL_areAlike_137 : decode cL_areAlike 137 = .ok (.iconst 3, 1) := by decide +kernel
theorem dL_areAlike_138 : decode cL_areAlike 138 = .ok (.ishr, 1) := by decide +kernel
theorem dL_areAlike_139 : decode cL_areAlike 139 = .ok (.iconst 5, 1) := by decide +kernel
theorem dL_areAlike_140 : decode cL_areAlike 140 = .ok (.invokestatic 82, 3) := by decide +kernel
theorem dL_areAlike_143 : decode cL_areAlike 143 = .ok (.invokestatic 124, 3) := by decide +kernel
theorem dL_areAlike_146 : decode cL_areAlike 146 = .ok (.aload_n 1, 1) := by decide +kernel
theorem dL_areAlike_147 : decode cL_areAlike 147 = .ok (.iload 4, 2) := by decide +kernel
theorem dL_areAlike_149 : decode cL_areAlike 149 = .ok (.iload_n 2, 1) := by decide +kernel
theorem dL_areAlike_150 : decode cL_areAlike 150 = .ok (.iconst 3, 1) := by decide +kernel
theorem dL_areAlike_151 : decode cL_areAlike 151 = .ok (.ishr, 1) := by decide +kernel
theorem dL_areAlike_152 : decode cL_areAlike 152 = .ok (.iconst 5, 1) := by decide +kernel
theorem dL_areAlike_153 : decode cL_areAlike 153 = .ok (.invokestatic 82, 3) := by decide +kernel
theorem dL_areAlike_156 : decode cL_areAlike 156 = .ok (.invokestatic 124, 3) := by decide +kernel
theorem dL_areAlike_159 : decode cL_areAlike 159 = .ok (.lcmp, 1) := by decide +kernel
theorem dL_areAlike_160 : decode cL_areAlike 160 = .ok (.ifCond .ne 23, 3) := by decide +kernel
theorem dL_areAlike_163 : decode cL_areAlike 163 = .ok (.aload_n 0, 1) := by decide +kernel
theorem dL_areAlike_164 : decode cL_areAlike 164 = .ok (.iload 4, 2) := by decide +kernel
theorem dL_areAlike_166 : decode cL_areAlike 166 = .ok (.invokevirtual 137, 3) := by decide +kernel
theorem dL_areAlike_169 : decode cL_areAlike 169 = .ok (.aload_n 0, 1) := by decide +kernel
theorem dL_areAlike_170 : decode cL_areAlike 170 = .ok (.iload 4, 2) := by decide +kernel
theorem dL_areAlike_172 : decode cL_areAlike 172 = .ok (.iconst 0, 1) := by decide +kernel
theorem dL_areAlike_173 : decode cL_areAlike 173 = .ok (.invokevirtual 44, 3) := by decide +kernel
theorem dL_areAlike_176 : decode cL_areAlike 176 = .ok (.if_icmp .ne 7, 3) := by decide +kernel
theorem dL_areAlike_179 : decode cL_areAlike 179 = .ok (.iconst 1, 1) := by decide +kernel
theorem dL_areAlike_180 : decode cL_areAlike 180 = .ok (.goto 4, 3) := by decide +kernel
theorem dL_areAlike_183 : decode cL_areAlike 183 = .ok (.iconst 0, 1) := by decide +kernel
theorem dL_areAlike_184 : decode cL_areAlike 184 = .ok (.istore_n 3, 1) := by decide +kernel
theorem dL_areAlike_185 : decode cL_areAlike 185 = .ok (.iinc 4 1, 3) := by decide +kernel
theorem dL_areAlike_188 : decode cL_areAlike 188 = .ok (.goto (-118), 3) := by decide +kernel
theorem dL_areAlike_191 : decode cL_areAlike 191 = .ok (.iload_n 3, 1) := by decide +kernel
theorem dL_areAlike_192 : decode cL_areAlike 192 = .ok (.ireturn, 1) := by decide +kernel
set_option maxRecDepth 20000 in
theorem ggL_isSo_L_low : GoodIn wsL_isSo wsL_low := goodIn_r _ [5, 6] (by decide +kernel) (by decide +kernel)
set_option maxRecDepth 20000 in
theorem gL_isSo_L_low : GoodIn wsL_isSo (va_wsS RL 82 yL_low wsL_low) := goodIn_app (goodIn_of _ (by decide +kernel)) ggL_isSo_L_low
set_option maxRecDepth 20000 in
theorem ggL_isSo_X8_strength : GoodIn wsL_isSo wsX8_strength := goodIn_ca (goodIn_r _ [11, 12, 13, 14, 15, 10, 16, 17, 18, 268, 269, 270, 271, 272, 273, 274, 275, 276, 277, 278, 279, 280, 281] (by decide +kernel) (by decide +kernel)) (goodIn_sub (fun _ h => List.mem_cons_of_mem _ (List.mem_append_left _ (List.mem_append_right _ h))) (by decide +kernel))
set_option maxRecDepth 20000 in
theorem gL_isSo_X8_strength : GoodIn wsL_isSo (wsV RL 79 RX8 yX8_strength wsX8_strength) := goodIn_app (goodIn_of _ (by decide +kernel)) ggL_isSo_X8_strength
set_option maxRecDepth 20000 in
theorem ggL_isSo_X8_pair : GoodIn wsL_isSo wsX8_pair := goodIn_ca (goodIn_ca (goodIn_r _ [22, 23, 24, 12, 14, 15, 10, 16, 17, 18, 25, 26, 27, 28, 29, 30, 31, 32, 33, 34, 35, 36, 37, 38, 39, 40, 41, 42, 43, 44, 45, 46, 47, 48, 49, 50, 268, 269, 270, 271, 272, 273, 274, 275, 276, 277, 278, 279, 280, 281] (by decide +kernel) (by decide +kernel)) (goodIn_sub (fun _ h => List.mem_cons_of_mem _ (List.mem_append_right _ h)) (by decide +kernel))) (goodIn_sub (fun _ h => List.mem_cons_of_mem _ (List.mem_append_left _ (List.mem_append_right _ h))) (by decide +kernel))
set_option maxRecDepth 20000 in
theorem gL_isSo_X8_pair : GoodIn wsL_isSo (wsV RL 70 RX8 yX8_pair wsX8_pair) := goodIn_app (goodIn_of _ (by decide +kernel)) ggL_isSo_X8_pair
set_option maxRecDepth 20000 in
theorem ggL_isSo_X8_life : GoodIn wsL_isSo wsX8_life := goodIn_ca (goodIn_r _ [54, 55, 56, 57, 14, 15, 10, 16, 17, 18, 268, 269, 270, 271, 272, 273, 274, 275, 276, 282, 283, 284, 285, 286, 287, 288] (by decide +kernel) (by decide +kernel)) (goodIn_sub (fun _ h => List.mem_cons_of_mem _ (List.mem_append_left _ (List.mem_append_right _ h))) (by decide +kernel))
set_option maxRecDepth 20000 in
theorem gL_isSo_X8_life : GoodIn wsL_isSo (wsV RL 44 RX8 yX8_life wsX8_life) := goodIn_app (goodIn_of _ (by decide +kernel)) ggL_isSo_X8_life
set_option maxRecDepth 20000 in
theorem ggL_isSo_X8_lifeAnew : GoodIn wsL_isSo wsX8_lifeAnew := goodIn_ca (goodIn_r _ [61, 62, 14, 15, 10, 16, 17, 18, 63, 64, 65, 66, 67, 68, 69, 70, 71, 72, 73, 74, 75, 76, 77, 78, 79, 80, 81, 82, 83, 84, 85, 86, 87, 88, 89, 90, 91, 92, 93, 94, 95, 96, 97, 98, 99, 100, 101, 102, 103, 104, 105, 106, 107, 108, 109, 110, 111, 112, 113, 114, 115, 116, 117, 118, 119, 120, 121, 122, 268, 269, 270, 271, 272, 273, 274, 275, 276, 289, 290, 291, 282, 283, 284, 285, 286, 287, 288] (by decide +kernel) (by decide +kernel)) (goodIn_sub (fun _ h => List.mem_cons_of_mem _ (List.mem_append_left _ (List.mem_append_right _ h))) (by decide +kernel))
set_option maxRecDepth 20000 in
theorem gL_isSo_X8_lifeAnew : GoodIn wsL_isSo (wsV RL 137 RX8 yX8_lifeAnew wsX8_lifeAnew) := goodIn_app (goodIn_of _ (by decide +kernel)) ggL_isSo_X8_lifeAnew
set_option maxRecDepth 20000 in
theorem ggL_isSo_X8_bound : GoodIn wsL_isSo wsX8_bound := goodIn_ca (goodIn_r _ [126, 127, 55, 14, 15, 10, 16, 17, 18, 128, 129, 130, 131, 132, 133, 134, 135, 136, 137, 138, 139, 140, 141, 75, 142, 77, 78, 79, 88, 98, 93, 99, 143, 144, 145, 146, 147, 148, 149, 150, 151, 152, 153, 154, 155, 156, 157, 158, 159, 160, 161, 162, 163, 164, 165, 166, 167, 106, 107, 108, 168, 169, 170, 171, 172, 173, 101, 102, 103, 104, 174, 175, 176, 177, 178, 110, 111, 112, 113, 114, 115, 116, 117, 118, 268, 269, 270, 271, 272, 273, 274, 275, 276, 292, 293, 294, 295, 296, 282, 283, 284, 285, 286, 287, 288] (by decide +kernel) (by decide +kernel)) (goodIn_sub (fun _ h => List.mem_cons_of_mem _ (List.mem_append_left _ (List.mem_append_right _ h))) (by decide +kernel))
set_option maxRecDepth 20000 in
theorem gL_isSo_X8_bound : GoodIn wsL_isSo (wsV RL 40 RX8 yX8_bound wsX8_bound) := goodIn_app (goodIn_of _ (by decide +kernel)) ggL_isSo_X8_bound
set_option maxRecDepth 20000 in
theorem ggL_isSo_X8_stacked : GoodIn wsL_isSo wsX8_stacked := goodIn_r _ [182, 55, 183, 268, 269, 270, 271, 272, 273, 274, 275, 276, 282, 283, 284, 285, 286, 287, 288] (by decide +kernel) (by decide +kernel)
set_option maxRecDepth 20000 in
theorem gL_isSo_X8_stacked : GoodIn wsL_isSo (wsV RL 134 RX8 yX8_stacked wsX8_stacked) := goodIn_app (goodIn_of _ (by decide +kernel)) ggL_isSo_X8_stacked
set_option maxRecDepth 20000 in
theorem ggL_isSo_X8_ring : GoodIn wsL_isSo wsX8_ring := goodIn_ca (goodIn_r _ [187, 17, 18, 188, 189, 190, 191, 192, 193, 194, 195, 196, 197, 198, 199, 200, 201, 202, 203, 204, 205, 206, 207, 208, 209, 210, 211, 212, 213, 214, 215, 216, 217, 218, 219, 220, 268, 269, 270, 271, 272, 273, 274, 275, 276, 297, 298, 299, 300, 301, 302, 303] (by decide +kernel) (by decide +kernel)) (goodIn_sub (fun _ h => List.mem_cons_of_mem _ (List.mem_append_left _ (List.mem_append_right _ h))) (by decide +kernel))
set_option maxRecDepth 20000 in
theorem gL_isSo_X8_ring : GoodIn wsL_isSo (wsV RL 67 RX8 yX8_ring wsX8_ring) := goodIn_app (goodIn_of _ (by decide +kernel)) ggL_isSo_X8_ring
set_option maxRecDepth 20000 in
theorem ggL_isSo_X8_swap : GoodIn wsL_isSo wsX8_swap := goodIn_r _ [224, 188, 189, 190, 192, 193, 194, 195, 196, 197, 198, 199, 200, 201, 202, 203, 204, 205, 206, 207, 208, 209, 210, 211, 212, 213, 214, 215, 216, 217, 218, 219, 220, 225, 226, 227, 228, 229, 230, 231, 232, 268, 269, 270, 271, 272, 273, 274, 275, 276, 297, 298, 299, 300, 301, 302, 303] (by decide +kernel) (by decide +kernel)
set_option maxRecDepth 20000 in
theorem gL_isSo_X8_swap : GoodIn wsL_isSo (wsV RL 121 RX8 yX8_swap wsX8_swap) := goodIn_app (goodIn_of _ (by decide +kernel)) ggL_isSo_X8_swap
set_option maxRecDepth 20000 in
theorem ggL_isSo_L_offered : GoodIn wsL_isSo wsL_offered := goodIn_ca (goodIn_r _ [235, 236, 1, 237, 238, 239, 10, 240, 17, 18, 241, 242, 243, 244, 245, 246, 247, 248, 249, 250, 251, 252, 253, 254, 255, 256, 257, 258, 259, 260, 261, 262, 263, 268, 269, 270, 271, 272, 273, 274, 275, 276, 304, 305, 306, 307, 308] (by decide +kernel) (by decide +kernel)) (goodIn_sub (fun _ h => List.mem_cons_of_mem _ (List.mem_append_left _ (List.mem_append_right _ h))) (by decide +kernel))
set_option maxRecDepth 20000 in
theorem gL_isSo_L_offered : GoodIn wsL_isSo (va_wsS RL 117 yL_offered wsL_offered) := goodIn_app (goodIn_of _ (by decide +kernel)) ggL_isSo_L_offered
set_option maxRecDepth 20000 in
theorem ggL_isSo_L_pair : GoodIn wsL_isSo wsL_pair := goodIn_ca (goodIn_ca (goodIn_r _ [266, 236, 267, 1, 19, 20, 21, 10, 22, 23, 24, 12, 14, 15, 16, 17, 18, 25, 26, 27, 28, 29, 30, 31, 32, 33, 34, 35, 36, 37, 38, 39, 40, 41, 42, 43, 44, 45, 46, 47, 48, 49, 50, 268, 269, 270, 271, 272, 273, 274, 275, 276, 277, 278, 279, 280, 281] (by decide +kernel) (by decide +kernel)) (goodIn_sub (fun _ h => List.mem_cons_of_mem _ (List.mem_append_right _ h)) (by decide +kernel))) (goodIn_sub (fun _ h => List.mem_cons_of_mem _ (List.mem_append_left _ (List.mem_append_right _ h))) (by decide +kernel))
set_option maxRecDepth 20000 in
theorem gL_isSo_L_pair : GoodIn wsL_isSo (va_wsS RL 128 yL_pair wsL_pair) := goodIn_app (goodIn_of _ (by decide +kernel)) ggL_isSo_L_pair
theorem dL_isSo_0 : decode cL_isSo 0 = .ok (.iconst 0, 1) := by decide +kernel
theorem dL_isSo_1 : decode cL_isSo 1 = .ok (.istore_n 2, 1) := by decide +kernel
theorem dL_isSo_2 : decode cL_isSo 2 = .ok (.iconst 1, 1) := by decide +kernel
theorem dL_isSo_3 : decode cL_isSo 3 = .ok (.istore_n 3, 1) := by decide +kernel
theorem dL_isSo_4 : decode cL_isSo 4 = .ok (.iload_n 1, 1) := by decide +kernel
theorem dL_isSo_5 : decode cL_isSo 5 = .ok (.bipush 64, 2) := by decide +kernel
theorem dL_isSo_7 : decode cL_isSo 7 = .ok (.invokestatic 82, 3) := by decide +kernel
theorem dL_isSo_10 : decode cL_isSo 10 = .ok (.istore 4, 2) := by decide +kernel
theorem dL_isSo_12 : decode cL_isSo 12 = .ok (.iconst 0, 1) := by decide +kernel
theorem dL_isSo_13 : decode cL_isSo 13 = .ok (.istore 5, 2) := by decide +kernel
theorem dL_isSo_15 : decode cL_isSo 15 = .ok (.iload 5, 2) := by decide +kernel
theorem dL_isSo_17 : decode cL_isSo 17 = .ok (.bipush 6, 2) := by decide +kernel
theorem dL_isSo_19 : decode cL_isSo 19 = .ok (.if_icmp .ge 101, 3) := by decide +kernel
theorem dL_isSo_22 : decode cL_isSo 22 = .ok (.iload_n 3, 1) := by decide +kernel
theorem dL_isSo_23 : decode cL_isSo 23 = .ok (.ifCond .eq 97, 3) := by decide +kernel
theorem dL_isSo_26 : decode cL_isSo 26 = .ok (.iload_n 2, 1) := by decide +kernel
theorem dL_isSo_27 : decode cL_isSo 27 = .ok (.aload_n 0, 1) := by decide +kernel
theorem dL_isSo_28 : decode cL_isSo 28 = .ok (.iload 5, 2) := by decide +kernel
theorem dL_isSo_30 : decode cL_isSo 30 = .ok (.invokevirtual 79, 3) := by decide +kernel
theorem dL_isSo_33 : decode cL_isSo 33 = .ok (.iadd, 1) := by decide +kernel
theorem dL_isSo_34 : decode cL_isSo 34 = .ok (.istore_n 2, 1) := by decide +kernel
theorem dL_isSo_35 : decode cL_isSo 35 = .ok (.aload_n 0, 1) := by decide +kernel
theorem dL_isSo_36 : decode cL_isSo 36 = .ok (.iload 5, 2) := by decide +kernel
theorem dL_isSo_38 : decode cL_isSo 38 = .ok (.iload 4, 2) := by decide +kernel
theorem dL_isSo_40 : decode cL_isSo 40 = .ok (.invokevirtual 70, 3) := by decide +kernel
theorem dL_isSo_43 : decode cL_isSo 43 = .ok (.istore 6, 2) := by decide +kernel
theorem dL_isSo_45 : decode cL_isSo 45 = .ok (.aload_n 0, 1) := by decide +kernel
theorem dL_isSo_46 : decode cL_isSo 46 = .ok (.iload 5, 2) := by decide +kernel
theorem dL_isSo_48 : decode cL_isSo 48 = .ok (.iconst 1, 1) := by decide +kernel
theorem dL_isSo_49 : decode cL_isSo 49 = .ok (.invokevirtual 44, 3) := by decide +kernel
theorem dL_isSo_52 : decode cL_isSo 52 = .ok (.ifCond .lt 60, 3) := by decide +kernel
theorem dL_isSo_55 : decode cL_isSo 55 = .ok (.aload_n 0, 1) := by decide +kernel
theorem dL_isSo_56 : decode cL_isSo 56 = .ok (.iload 5, 2) := by decide +kernel
theorem dL_isSo_58 : decode cL_isSo 58 = .ok (.invokevirtual 137, 3) := by decide +kernel
theorem dL_isSo_61 : decode cL_isSo 61 = .ok (.aload_n 0, 1) := by decide +kernel
theorem dL_isSo_62 : decode cL_isSo 62 = .ok (.iload 5, 2) := by decide +kernel
theorem dL_isSo_64 : decode cL_isSo 64 = .ok (.iconst 0, 1) := by decide +kernel
theorem dL_isSo_65 : decode cL_isSo 65 = .ok (.invokevirtual 44, 3) := by decide +kernel
theorem dL_isSo_68 : decode cL_isSo 68 = .ok (.if_icmp .ne 44, 3) := by decide +kernel
theorem dL_isSo_71 : decode cL_isSo 71 = .ok (.iload 6, 2) := by decide +kernel
theorem dL_isSo_73 : decode cL_isSo 73 = .ok (.iconst (-1), 1) := by decide +kernel
theorem dL_isSo_74 : decode cL_isSo 74 = .ok (.if_icmp .eq 34, 3) := by decide +kernel
theorem dL_isSo_77 : decode cL_isSo 77 = .ok (.aload_n 0, 1) := by decide +kernel
theorem dL_isSo_78 : decode cL_isSo 78 = .ok (.iload 6, 2) := by decide +kernel
theorem dL_isSo_80 : decode cL_isSo 80 = .ok (.iload 4, 2) := by decide +kernel
theorem dL_isSo_82 : decode cL_isSo 82 = .ok (.invokevirtual 70, 3) := by decide +kernel
theorem dL_isSo_85 : decode cL_isSo 85 = .ok (.iload 5, 2) := by decide +kernel
theorem dL_isSo_87 : decode cL_isSo 87 = .ok (.if_icmp .ne 25, 3) := by decide +kernel
theorem dL_isSo_90 : decode cL_isSo 90 = .ok (.iload 6, 2) := by decide +kernel
theorem dL_isSo_92 : decode cL_isSo 92 = .ok (.iload 5, 2) := by decide +kernel
theorem dL_isSo_94 : decode cL_isSo 94 = .ok (.if_icmp .eq 18, 3) := by decide +kernel
theorem dL_isSo_97 : decode cL_isSo 97 = .ok (.iload 4, 2) := by decide +kernel
theorem dL_isSo_99 : decode cL_isSo 99 = .ok (.iload 5, 2) := by decide +kernel
theorem dL_isSo_101 : decode cL_isSo 101 = .ok (.ishr, 1) := by decide +kernel
theorem dL_isSo_102 : decode cL_isSo 102 = .ok (.iconst 1, 1) := by decide +kernel
theorem dL_isSo_103 : decode cL_isSo 103 = .ok (.iand, 1) := by decide +kernel
theorem dL_isSo_104 : decode cL_isSo 104 = .ok (.iconst 1, 1) := by decide +kernel
theorem dL_isSo_105 : decode cL_isSo 105 = .ok (.if_icmp .ne 7, 3) := by decide +kernel
theorem dL_isSo_108 : decode cL_isSo 108 = .ok (.iconst 1, 1) := by decide +kernel
theorem dL_isSo_109 : decode cL_isSo 109 = .ok (.goto 4, 3) := by decide +kernel
theorem dL_isSo_112 : decode cL_isSo 112 = .ok (.iconst 0, 1) := by decide +kernel
theorem dL_isSo_113 : decode cL_isSo 113 = .ok (.istore_n 3, 1) := by decide +kernel
theorem dL_isSo_114 : decode cL_isSo 114 = .ok (.iinc 5 1, 3) := by decide +kernel
theorem dL_isSo_117 : decode cL_isSo 117 = .ok (.goto (-102), 3) := by decide +kernel
