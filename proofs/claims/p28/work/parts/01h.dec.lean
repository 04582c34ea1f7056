theorem dL_agrees_310 : decode cL_agrees 310 = .ok (.invokevirtual 19, 3) := by decide +kernel
theorem dL_agrees_313 : decode cL_agrees 313 = .ok (.bipush (-4), 2) := by decide +kernel
theorem dL_agrees_315 : decode cL_agrees 315 = .ok (.if_icmp .ne 38, 3) := by decide +kernel
theorem dL_agrees_318 : decode cL_agrees 318 = .ok (.aload_n 0, 1) := by decide +kernel
theorem dL_agrees_319 : decode cL_agrees 319 = .ok (.iload 6, 2) := by decide +kernel
theorem dL_agrees_321 : decode cL_agrees 321 = .ok (.invokevirtual 37, 3) := by decide +kernel
theorem dL_agrees_324 : decode cL_agrees 324 = .ok (.bipush (-4), 2) := by decide +kernel
theorem dL_agrees_326 : decode cL_agrees 326 = .ok (.if_icmp .ne 27, 3) := by decide +kernel
theorem dL_agrees_329 : decode cL_agrees 329 = .ok (.aload_n 0, 1) := by decide +kernel
theorem dL_agrees_330 : decode cL_agrees 330 = .ok (.iload 6, 2) := by decide +kernel
theorem dL_agrees_332 : decode cL_agrees 332 = .ok (.iconst 0, 1) := by decide +kernel
theorem dL_agrees_333 : decode cL_agrees 333 = .ok (.invokevirtual 39, 3) := by decide +kernel
theorem dL_agrees_336 : decode cL_agrees 336 = .ok (.bipush (-4), 2) := by decide +kernel
theorem dL_agrees_338 : decode cL_agrees 338 = .ok (.if_icmp .ne 15, 3) := by decide +kernel
theorem dL_agrees_341 : decode cL_agrees 341 = .ok (.aload_n 0, 1) := by decide +kernel
theorem dL_agrees_342 : decode cL_agrees 342 = .ok (.iload 6, 2) := by decide +kernel
theorem dL_agrees_344 : decode cL_agrees 344 = .ok (.iconst 0, 1) := by decide +kernel
theorem dL_agrees_345 : decode cL_agrees 345 = .ok (.invokevirtual 31, 3) := by decide +kernel
theorem dL_agrees_348 : decode cL_agrees 348 = .ok (.bipush (-4), 2) := by decide +kernel
theorem dL_agrees_350 : decode cL_agrees 350 = .ok (.if_icmp .eq 5, 3) := by decide +kernel
theorem dL_agrees_353 : decode cL_agrees 353 = .ok (.iconst 0, 1) := by decide +kernel
theorem dL_agrees_354 : decode cL_agrees 354 = .ok (.ireturn, 1) := by decide +kernel
theorem dL_agrees_355 : decode cL_agrees 355 = .ok (.iinc 6 1, 3) := by decide +kernel
theorem dL_agrees_358 : decode cL_agrees 358 = .ok (.goto (-342), 3) := by decide +kernel
theorem dL_agrees_361 : decode cL_agrees 361 = .ok (.iconst 0, 1) := by decide +kernel
theorem dL_agrees_362 : decode cL_agrees 362 = .ok (.istore 6, 2) := by decide +kernel
theorem dL_agrees_364 : decode cL_agrees 364 = .ok (.bipush 6, 2) := by decide +kernel
theorem dL_agrees_366 : decode cL_agrees 366 = .ok (.newarray .int, 2) := by decide +kernel
theorem dL_agrees_368 : decode cL_agrees 368 = .ok (.astore 7, 2) := by decide +kernel
theorem dL_agrees_370 : decode cL_agrees 370 = .ok (.bipush 6, 2) := by decide +kernel
theorem dL_agrees_372 : decode cL_agrees 372 = .ok (.newarray .int, 2) := by decide +kernel
theorem dL_agrees_374 : decode cL_agrees 374 = .ok (.astore 8, 2) := by decide +kernel
theorem dL_agrees_376 : decode cL_agrees 376 = .ok (.iconst 0, 1) := by decide +kernel
theorem dL_agrees_377 : decode cL_agrees 377 = .ok (.istore 9, 2) := by decide +kernel
theorem dL_agrees_379 : decode cL_agrees 379 = .ok (.iload 9, 2) := by decide +kernel
theorem dL_agrees_381 : decode cL_agrees 381 = .ok (.aload_n 0, 1) := by decide +kernel
theorem dL_agrees_382 : decode cL_agrees 382 = .ok (.iconst 1, 1) := by decide +kernel
theorem dL_agrees_383 : decode cL_agrees 383 = .ok (.invokevirtual 9, 3) := by decide +kernel
theorem dL_agrees_386 : decode cL_agrees 386 = .ok (.if_icmp .ge 239, 3) := by decide +kernel
theorem dL_agrees_389 : decode cL_agrees 389 = .ok (.aload_n 0, 1) := by decide +kernel
theorem dL_agrees_390 : decode cL_agrees 390 = .ok (.iload 9, 2) := by decide +kernel
theorem dL_agrees_392 : decode cL_agrees 392 = .ok (.iconst 3, 1) := by decide +kernel
theorem dL_agrees_393 : decode cL_agrees 393 = .ok (.invokevirtual 15, 3) := by decide +kernel
theorem dL_agrees_396 : decode cL_agrees 396 = .ok (.istore 10, 2) := by decide +kernel
theorem dL_agrees_398 : decode cL_agrees 398 = .ok (.iconst 0, 1) := by decide +kernel
theorem dL_agrees_399 : decode cL_agrees 399 = .ok (.istore 11, 2) := by decide +kernel
theorem dL_agrees_401 : decode cL_agrees 401 = .ok (.iconst 0, 1) := by decide +kernel
theorem dL_agrees_402 : decode cL_agrees 402 = .ok (.istore 12, 2) := by decide +kernel
theorem dL_agrees_404 : decode cL_agrees 404 = .ok (.iload 12, 2) := by decide +kernel
theorem dL_agrees_406 : decode cL_agrees 406 = .ok (.aload_n 0, 1) := by decide +kernel
theorem dL_agrees_407 : decode cL_agrees 407 = .ok (.iconst 2, 1) := by decide +kernel
theorem dL_agrees_408 : decode cL_agrees 408 = .ok (.invokevirtual 9, 3) := by decide +kernel
theorem dL_agrees_411 : decode cL_agrees 411 = .ok (.if_icmp .ge 57, 3) := by decide +kernel
theorem dL_agrees_414 : decode cL_agrees 414 = .ok (.iload 11, 2) := by decide +kernel
theorem dL_agrees_416 : decode cL_agrees 416 = .ok (.aload_n 0, 1) := by decide +kernel
theorem dL_agrees_417 : decode cL_agrees 417 = .ok (.iload 12, 2) := by decide +kernel
theorem dL_agrees_419 : decode cL_agrees 419 = .ok (.iconst 4, 1) := by decide +kernel
theorem dL_agrees_420 : decode cL_agrees 420 = .ok (.invokevirtual 34, 3) := by decide +kernel
theorem dL_agrees_423 : decode cL_agrees 423 = .ok (.iload 9, 2) := by decide +kernel
theorem dL_agrees_425 : decode cL_agrees 425 = .ok (.if_icmp .ne 7, 3) := by decide +kernel
theorem dL_agrees_428 : decode cL_agrees 428 = .ok (.iconst 1, 1) := by decide +kernel
theorem dL_agrees_429 : decode cL_agrees 429 = .ok (.goto 4, 3) := by decide +kernel
theorem dL_agrees_432 : decode cL_agrees 432 = .ok (.iconst 0, 1) := by decide +kernel
theorem dL_agrees_433 : decode cL_agrees 433 = .ok (.iadd, 1) := by decide +kernel
theorem dL_agrees_434 : decode cL_agrees 434 = .ok (.istore 11, 2) := by decide +kernel
theorem dL_agrees_436 : decode cL_agrees 436 = .ok (.aload_n 0, 1) := by decide +kernel
theorem dL_agrees_437 : decode cL_agrees 437 = .ok (.iload 12, 2) := by decide +kernel
theorem dL_agrees_439 : decode cL_agrees 439 = .ok (.iconst 4, 1) := by decide +kernel
theorem dL_agrees_440 : decode cL_agrees 440 = .ok (.invokevirtual 34, 3) := by decide +kernel
theorem dL_agrees_443 : decode cL_agrees 443 = .ok (.iload 9, 2) := by decide +kernel
theorem dL_agrees_445 : decode cL_agrees 445 = .ok (.if_icmp .ne 17, 3) := by decide +kernel
theorem dL_agrees_448 : decode cL_agrees 448 = .ok (.aload_n 0, 1) := by decide +kernel
theorem dL_agrees_449 : decode cL_agrees 449 = .ok (.iload 12, 2) := by decide +kernel
theorem dL_agrees_451 : decode cL_agrees 451 = .ok (.iconst 0, 1) := by decide +kernel
theorem dL_agrees_452 : decode cL_agrees 452 = .ok (.invokevirtual 34, 3) := by decide +kernel
theorem dL_agrees_455 : decode cL_agrees 455 = .ok (.iload 10, 2) := by decide +kernel
theorem dL_agrees_457 : decode cL_agrees 457 = .ok (.if_icmp .eq 5, 3) := by decide +kernel
theorem dL_agrees_460 : decode cL_agrees 460 = .ok (.iconst 0, 1) := by decide +kernel
theorem dL_agrees_461 : decode cL_agrees 461 = .ok (.ireturn, 1) := by decide +kernel
theorem dL_agrees_462 : decode cL_agrees 462 = .ok (.iinc 12 1, 3) := by decide +kernel
theorem dL_agrees_465 : decode cL_agrees 465 = .ok (.goto (-61), 3) := by decide +kernel
theorem dL_agrees_468 : decode cL_agrees 468 = .ok (.aload_n 0, 1) := by decide +kernel
theorem dL_agrees_469 : decode cL_agrees 469 = .ok (.iload 9, 2) := by decide +kernel
theorem dL_agrees_471 : decode cL_agrees 471 = .ok (.iconst 5, 1) := by decide +kernel
theorem dL_agrees_472 : decode cL_agrees 472 = .ok (.invokevirtual 15, 3) := by decide +kernel
theorem dL_agrees_475 : decode cL_agrees 475 = .ok (.ifCond .lt 7, 3) := by decide +kernel
theorem dL_agrees_478 : decode cL_agrees 478 = .ok (.iconst 1, 1) := by decide +kernel
theorem dL_agrees_479 : decode cL_agrees 479 = .ok (.goto 4, 3) := by decide +kernel
theorem dL_agrees_482 : decode cL_agrees 482 = .ok (.iconst 0, 1) := by decide +kernel
theorem dL_agrees_483 : decode cL_agrees 483 = .ok (.istore 12, 2) := by decide +kernel
theorem dL_agrees_485 : decode cL_agrees 485 = .ok (.iload 6, 2) := by decide +kernel
theorem dL_agrees_487 : decode cL_agrees 487 = .ok (.iload 10, 2) := by decide +kernel
theorem dL_agrees_489 : decode cL_agrees 489 = .ok (.ifCond .lt 12, 3) := by decide +kernel
theorem dL_agrees_492 : decode cL_agrees 492 = .ok (.iload 12, 2) := by decide +kernel
theorem dL_agrees_494 : decode cL_agrees 494 = .ok (.ifCond .eq 7, 3) := by decide +kernel
theorem dL_agrees_497 : decode cL_agrees 497 = .ok (.iconst 1, 1) := by decide +kernel
theorem dL_agrees_498 : decode cL_agrees 498 = .ok (.goto 4, 3) := by decide +kernel
theorem dL_agrees_501 : decode cL_agrees 501 = .ok (.iconst 0, 1) := by decide +kernel
theorem dL_agrees_502 : decode cL_agrees 502 = .ok (.iadd, 1) := by decide +kernel
theorem dL_agrees_503 : decode cL_agrees 503 = .ok (.istore 6, 2) := by decide +kernel
theorem dL_agrees_505 : decode cL_agrees 505 = .ok (.iload 10, 2) := by decide +kernel
theorem dL_agrees_507 : decode cL_agrees 507 = .ok (.ifCond .lt 17, 3) := by decide +kernel
theorem dL_agrees_510 : decode cL_agrees 510 = .ok (.iload 12, 2) := by decide +kernel
theorem dL_agrees_512 : decode cL_agrees 512 = .ok (.ifCond .ne 12, 3) := by decide +kernel
theorem dL_agrees_515 : decode cL_agrees 515 = .ok (.aload 7, 2) := by decide +kernel
theorem dL_agrees_517 : decode cL_agrees 517 = .ok (.iload 10, 2) := by decide +kernel
theorem dL_agrees_519 : decode cL_agrees 519 = .ok (.dup2, 1) := by decide +kernel
theorem dL_agrees_520 : decode cL_agrees 520 = .ok (.iaload, 1) := by decide +kernel
theorem dL_agrees_521 : decode cL_agrees 521 = .ok (.iconst 1, 1) := by decide +kernel
theorem dL_agrees_522 : decode cL_agrees 522 = .ok (.iadd, 1) := by decide +kernel
theorem dL_agrees_523 : decode cL_agrees 523 = .ok (.iastore, 1) := by decide +kernel
theorem dL_agrees_524 : decode cL_agrees 524 = .ok (.aload_n 0, 1) := by decide +kernel
theorem dL_agrees_525 : decode cL_agrees 525 = .ok (.iload 9, 2) := by decide +kernel
theorem dL_agrees_527 : decode cL_agrees 527 = .ok (.iconst 0, 1) := by decide +kernel
theorem dL_agrees_528 : decode cL_agrees 528 = .ok (.invokevirtual 15, 3) := by decide +kernel
theorem dL_agrees_531 : decode cL_agrees 531 = .ok (.aload_n 0, 1) := by decide +kernel
theorem dL_agrees_532 : decode cL_agrees 532 = .ok (.iload 9, 2) := by decide +kernel
theorem dL_agrees_534 : decode cL_agrees 534 = .ok (.iconst 1, 1) := by decide +kernel
theorem dL_agrees_535 : decode cL_agrees 535 = .ok (.invokevirtual 15, 3) := by decide +kernel
theorem dL_agrees_538 : decode cL_agrees 538 = .ok (.if_icmp .ge 79, 3) := by decide +kernel
theorem dL_agrees_541 : decode cL_agrees 541 = .ok (.iload 10, 2) := by decide +kernel
theorem dL_agrees_543 : decode cL_agrees 543 = .ok (.ifCond .ge 7, 3) := by decide +kernel
theorem dL_agrees_546 : decode cL_agrees 546 = .ok (.iconst 1, 1) := by decide +kernel
theorem dL_agrees_547 : decode cL_agrees 547 = .ok (.goto 4, 3) := by decide +kernel
theorem dL_agrees_550 : decode cL_agrees 550 = .ok (.iconst 0, 1) := by decide +kernel
theorem dL_agrees_551 : decode cL_agrees 551 = .ok (.aload_n 0, 1) := by decide +kernel
theorem dL_agrees_552 : decode cL_agrees 552 = .ok (.iload 9, 2) := by decide +kernel
theorem dL_agrees_554 : decode cL_agrees 554 = .ok (.iconst 4, 1) := by decide +kernel
theorem dL_agrees_555 : decode cL_agrees 555 = .ok (.invokevirtual 15, 3) := by decide +kernel
theorem dL_agrees_558 : decode cL_agrees 558 = .ok (.ifCond .ne 7, 3) := by decide +kernel
theorem dL_agrees_561 : decode cL_agrees 561 = .ok (.iconst 1, 1) := by decide +kernel
theorem dL_agrees_562 : decode cL_agrees 562 = .ok (.goto 4, 3) := by decide +kernel
theorem dL_agrees_565 : decode cL_agrees 565 = .ok (.iconst 0, 1) := by decide +kernel
theorem dL_agrees_566 : decode cL_agrees 566 = .ok (.if_icmp .ne 51, 3) := by decide +kernel
theorem dL_agrees_569 : decode cL_agrees 569 = .ok (.iload 10, 2) := by decide +kernel
theorem dL_agrees_571 : decode cL_agrees 571 = .ok (.ifCond .ge 13, 3) := by decide +kernel
theorem dL_agrees_574 : decode cL_agrees 574 = .ok (.aload_n 0, 1) := by decide +kernel
theorem dL_agrees_575 : decode cL_agrees 575 = .ok (.iload 9, 2) := by decide +kernel
theorem dL_agrees_577 : decode cL_agrees 577 = .ok (.iconst 5, 1) := by decide +kernel
theorem dL_agrees_578 : decode cL_agrees 578 = .ok (.invokevirtual 15, 3) := by decide +kernel
theorem dL_agrees_581 : decode cL_agrees 581 = .ok (.ifCond .ne 36, 3) := by decide +kernel
theorem dL_agrees_584 : decode cL_agrees 584 = .ok (.iload 11, 2) := by decide +kernel
theorem dL_agrees_586 : decode cL_agrees 586 = .ok (.iload 10, 2) := by decide +kernel
theorem dL_agrees_588 : decode cL_agrees 588 = .ok (.ifCond .lt 12, 3) := by decide +kernel
theorem dL_agrees_591 : decode cL_agrees 591 = .ok (.iload 12, 2) := by decide +kernel
theorem dL_agrees_593 : decode cL_agrees 593 = .ok (.ifCond .eq 7, 3) := by decide +kernel
theorem dL_agrees_596 : decode cL_agrees 596 = .ok (.iconst 1, 1) := by decide +kernel
theorem dL_agrees_597 : decode cL_agrees 597 = .ok (.goto 4, 3) := by decide +kernel
theorem dL_agrees_600 : decode cL_agrees 600 = .ok (.iconst 0, 1) := by decide +kernel
theorem dL_agrees_601 : decode cL_agrees 601 = .ok (.if_icmp .ne 16, 3) := by decide +kernel
theorem dL_agrees_604 : decode cL_agrees 604 = .ok (.aload_n 0, 1) := by decide +kernel
theorem dL_agrees_605 : decode cL_agrees 605 = .ok (.iload 9, 2) := by decide +kernel
theorem dL_agrees_607 : decode cL_agrees 607 = .ok (.bipush 6, 2) := by decide +kernel
theorem dL_agrees_609 : decode cL_agrees 609 = .ok (.invokevirtual 15, 3) := by decide +kernel
theorem dL_agrees_612 : decode cL_agrees 612 = .ok (.bipush (-2), 2) := by decide +kernel
theorem dL_agrees_614 : decode cL_agrees 614 = .ok (.if_icmp .eq 5, 3) := by decide +kernel
theorem dL_agrees_617 : decode cL_agrees 617 = .ok (.iconst 0, 1) := by decide +kernel
theorem dL_agrees_618 : decode cL_agrees 618 = .ok (.ireturn, 1) := by decide +kernel
theorem dL_agrees_619 : decode cL_agrees 619 = .ok (.iinc 9 1, 3) := by decide +kernel
theorem dL_agrees_622 : decode cL_agrees 622 = .ok (.goto (-243), 3) := by decide +kernel
theorem dL_agrees_625 : decode cL_agrees 625 = .ok (.iconst 0, 1) := by decide +kernel
theorem dL_agrees_626 : decode cL_agrees 626 = .ok (.istore 9, 2) := by decide +kernel
theorem dL_agrees_628 : decode cL_agrees 628 = .ok (.iload 9, 2) := by decide +kernel
theorem dL_agrees_630 : decode cL_agrees 630 = .ok (.aload_n 0, 1) := by decide +kernel
theorem dL_agrees_631 : decode cL_agrees 631 = .ok (.iconst 2, 1) := by decide +kernel
theorem dL_agrees_632 : decode cL_agrees 632 = .ok (.invokevirtual 9, 3) := by decide +kernel
theorem dL_agrees_635 : decode cL_agrees 635 = .ok (.if_icmp .ge 138, 3) := by decide +kernel
theorem dL_agrees_638 : decode cL_agrees 638 = .ok (.aload_n 0, 1) := by decide +kernel
theorem dL_agrees_639 : decode cL_agrees 639 = .ok (.iload 9, 2) := by decide +kernel
theorem dL_agrees_641 : decode cL_agrees 641 = .ok (.iconst 1, 1) := by decide +kernel
theorem dL_agrees_642 : decode cL_agrees 642 = .ok (.invokevirtual 34, 3) := by decide +kernel
theorem dL_agrees_645 : decode cL_agrees 645 = .ok (.istore 10, 2) := by decide +kernel
theorem dL_agrees_647 : decode cL_agrees 647 = .ok (.iload 10, 2) := by decide +kernel
theorem dL_agrees_649 : decode cL_agrees 649 = .ok (.iconst 2, 1) := by decide +kernel
theorem dL_agrees_650 : decode cL_agrees 650 = .ok (.if_icmp .ge 17, 3) := by decide +kernel
theorem dL_agrees_653 : decode cL_agrees 653 = .ok (.aload 8, 2) := by decide +kernel
theorem dL_agrees_655 : decode cL_agrees 655 = .ok (.aload_n 0, 1) := by decide +kernel
theorem dL_agrees_656 : decode cL_agrees 656 = .ok (.iload 9, 2) := by decide +kernel
theorem dL_agrees_658 : decode cL_agrees 658 = .ok (.iconst 0, 1) := by decide +kernel
theorem dL_agrees_659 : decode cL_agrees 659 = .ok (.invokevirtual 34, 3) := by decide +kernel
theorem dL_agrees_662 : decode cL_agrees 662 = .ok (.dup2, 1) := by decide +kernel
theorem dL_agrees_663 : decode cL_agrees 663 = .ok (.iaload, 1) := by decide +kernel
theorem dL_agrees_664 : decode cL_agrees 664 = .ok (.iconst 1, 1) := by decide +kernel
theorem dL_agrees_665 : decode cL_agrees 665 = .ok (.iadd, 1) := by decide +kernel
theorem dL_agrees_666 : decode cL_agrees 666 = .ok (.iastore, 1) := by decide +kernel
theorem dL_agrees_667 : decode cL_agrees 667 = .ok (.iload 10, 2) := by decide +kernel
theorem dL_agrees_669 : decode cL_agrees 669 = .ok (.ifCond .ne 7, 3) := by decide +kernel
theorem dL_agrees_672 : decode cL_agrees 672 = .ok (.iconst 1, 1) := by decide +kernel
theorem dL_agrees_673 : decode cL_agrees 673 = .ok (.goto 4, 3) := by decide +kernel
theorem dL_agrees_676 : decode cL_agrees 676 = .ok (.iconst 0, 1) := by decide +kernel
theorem dL_agrees_677 : decode cL_agrees 677 = .ok (.aload_n 0, 1) := by decide +kernel
theorem dL_agrees_678 : decode cL_agrees 678 = .ok (.iload 9, 2) := by decide +kernel
theorem dL_agrees_680 : decode cL_agrees 680 = .ok (.iconst 2, 1) := by decide +kernel
theorem dL_agrees_681 : decode cL_agrees 681 = .ok (.invokevirtual 34, 3) := by decide +kernel
theorem dL_agrees_684 : decode cL_agrees 684 = .ok (.ifCond .lt 7, 3) := by decide +kernel
theorem dL_agrees_687 : decode cL_agrees 687 = .ok (.iconst 1, 1) := by decide +kernel
theorem dL_agrees_688 : decode cL_agrees 688 = .ok (.goto 4, 3) := by decide +kernel
theorem dL_agrees_691 : decode cL_agrees 691 = .ok (.iconst 0, 1) := by decide +kernel
theorem dL_agrees_692 : decode cL_agrees 692 = .ok (.if_icmp .ne 73, 3) := by decide +kernel
theorem dL_agrees_695 : decode cL_agrees 695 = .ok (.iload 10, 2) := by decide +kernel
theorem dL_agrees_697 : decode cL_agrees 697 = .ok (.iconst 1, 1) := by decide +kernel
theorem dL_agrees_698 : decode cL_agrees 698 = .ok (.if_icmp .ne 7, 3) := by decide +kernel
theorem dL_agrees_701 : decode cL_agrees 701 = .ok (.iconst 1, 1) := by decide +kernel
theorem dL_agrees_702 : decode cL_agrees 702 = .ok (.goto 4, 3) := by decide +kernel
theorem dL_agrees_705 : decode cL_agrees 705 = .ok (.iconst 0, 1) := by decide +kernel
theorem dL_agrees_706 : decode cL_agrees 706 = .ok (.aload_n 0, 1) := by decide +kernel
theorem dL_agrees_707 : decode cL_agrees 707 = .ok (.iload 9, 2) := by decide +kernel
theorem dL_agrees_709 : decode cL_agrees 709 = .ok (.iconst 3, 1) := by decide +kernel
theorem dL_agrees_710 : decode cL_agrees 710 = .ok (.invokevirtual 34, 3) := by decide +kernel
theorem dL_agrees_713 : decode cL_agrees 713 = .ok (.ifCond .lt 7, 3) := by decide +kernel
theorem dL_agrees_716 : decode cL_agrees 716 = .ok (.iconst 1, 1) := by decide +kernel
theorem dL_agrees_717 : decode cL_agrees 717 = .ok (.goto 4, 3) := by decide +kernel
theorem dL_agrees_720 : decode cL_agrees 720 = .ok (.iconst 0, 1) := by decide +kernel
theorem dL_agrees_721 : decode cL_agrees 721 = .ok (.if_icmp .ne 44, 3) := by decide +kernel
theorem dL_agrees_724 : decode cL_agrees 724 = .ok (.iload 10, 2) := by decide +kernel
theorem dL_agrees_726 : decode cL_agrees 726 = .ok (.iconst 2, 1) := by decide +kernel
theorem dL_agrees_727 : decode cL_agrees 727 = .ok (.if_icmp .ne 7, 3) := by decide +kernel
theorem dL_agrees_730 : decode cL_agrees 730 = .ok (.iconst 1, 1) := by decide +kernel
theorem dL_agrees_731 : decode cL_agrees 731 = .ok (.goto 4, 3) := by decide +kernel
theorem dL_agrees_734 : decode cL_agrees 734 = .ok (.iconst 0, 1) := by decide +kernel
theorem dL_agrees_735 : decode cL_agrees 735 = .ok (.aload_n 0, 1) := by decide +kernel
theorem dL_agrees_736 : decode cL_agrees 736 = .ok (.iload 9, 2) := by decide +kernel
theorem dL_agrees_738 : decode cL_agrees 738 = .ok (.iconst 4, 1) := by decide +kernel
theorem dL_agrees_739 : decode cL_agrees 739 = .ok (.invokevirtual 34, 3) := by decide +kernel
theorem dL_agrees_742 : decode cL_agrees 742 = .ok (.ifCond .lt 7, 3) := by decide +kernel
theorem dL_agrees_745 : decode cL_agrees 745 = .ok (.iconst 1, 1) := by decide +kernel
theorem dL_agrees_746 : decode cL_agrees 746 = .ok (.goto 4, 3) := by decide +kernel
theorem dL_agrees_749 : decode cL_agrees 749 = .ok (.iconst 0, 1) := by decide +kernel
theorem dL_agrees_750 : decode cL_agrees 750 = .ok (.if_icmp .ne 15, 3) := by decide +kernel
theorem dL_agrees_753 : decode cL_agrees 753 = .ok (.aload_n 0, 1) := by decide +kernel
theorem dL_agrees_754 : decode cL_agrees 754 = .ok (.iload 9, 2) := by decide +kernel
theorem dL_agrees_756 : decode cL_agrees 756 = .ok (.iconst 5, 1) := by decide +kernel
theorem dL_agrees_757 : decode cL_agrees 757 = .ok (.invokevirtual 34, 3) := by decide +kernel
theorem dL_agrees_760 : decode cL_agrees 760 = .ok (.bipush (-2), 2) := by decide +kernel
theorem dL_agrees_762 : decode cL_agrees 762 = .ok (.if_icmp .eq 5, 3) := by decide +kernel
theorem dL_agrees_765 : decode cL_agrees 765 = .ok (.iconst 0, 1) := by decide +kernel
theorem dL_agrees_766 : decode cL_agrees 766 = .ok (.ireturn, 1) := by decide +kernel
theorem dL_agrees_767 : decode cL_agrees 767 = .ok (.iinc 9 1, 3) := by decide +kernel
theorem dL_agrees_770 : decode cL_agrees 770 = .ok (.goto (-142), 3) := by decide +kernel
theorem dL_agrees_773 : decode cL_agrees 773 = .ok (.iconst 0, 1) := by decide +kernel
theorem dL_agrees_774 : decode cL_agrees 774 = .ok (.istore 9, 2) := by decide +kernel
theorem dL_agrees_776 : decode cL_agrees 776 = .ok (.iload 9, 2) := by decide +kernel
theorem dL_agrees_778 : decode cL_agrees 778 = .ok (.bipush 6, 2) := by decide +kernel
theorem dL_agrees_780 : decode cL_agrees 780 = .ok (.if_icmp .ge 41, 3) := by decide +kernel
theorem dL_agrees_783 : decode cL_agrees 783 = .ok (.aload_n 0, 1) := by decide +kernel
theorem dL_agrees_784 : decode cL_agrees 784 = .ok (.iload 9, 2) := by decide +kernel
theorem dL_agrees_786 : decode cL_agrees 786 = .ok (.iconst 0, 1) := by decide +kernel
theorem dL_agrees_787 : decode cL_agrees 787 = .ok (.invokevirtual 50, 3) := by decide +kernel
theorem dL_agrees_790 : decode cL_agrees 790 = .ok (.aload 7, 2) := by decide +kernel
theorem dL_agrees_792 : decode cL_agrees 792 = .ok (.iload 9, 2) := by decide +kernel
theorem dL_agrees_794 : decode cL_agrees 794 = .ok (.iaload, 1) := by decide +kernel
theorem dL_agrees_795 : decode cL_agrees 795 = .ok (.if_icmp .ne 18, 3) := by decide +kernel
theorem dL_agrees_798 : decode cL_agrees 798 = .ok (.aload_n 0, 1) := by decide +kernel
theorem dL_agrees_799 : decode cL_agrees 799 = .ok (.iload 9, 2) := by decide +kernel
theorem dL_agrees_801 : decode cL_agrees 801 = .ok (.iconst 1, 1) := by decide +kernel
theorem dL_agrees_802 : decode cL_agrees 802 = .ok (.invokevirtual 50, 3) := by decide +kernel
theorem dL_agrees_805 : decode cL_agrees 805 = .ok (.aload 8, 2) := by decide +kernel
theorem dL_agrees_807 : decode cL_agrees 807 = .ok (.iload 9, 2) := by decide +kernel
theorem dL_agrees_809 : decode cL_agrees 809 = .ok (.iaload, 1) := by decide +kernel
theorem dL_agrees_810 : decode cL_agrees 810 = .ok (.if_icmp .eq 5, 3) := by decide +kernel
theorem dL_agrees_813 : decode cL_agrees 813 = .ok (.iconst 0, 1) := by decide +kernel
theorem dL_agrees_814 : decode cL_agrees 814 = .ok (.ireturn, 1) := by decide +kernel
theorem dL_agrees_815 : decode cL_agrees 815 = .ok (.iinc 9 1, 3) := by decide +kernel
theorem dL_agrees_818 : decode cL_agrees 818 = .ok (.goto (-42), 3) := by decide +kernel
theorem dL_agrees_821 : decode cL_agrees 821 = .ok (.iload_n 2, 1) := by decide +kernel
theorem dL_agrees_822 : decode cL_agrees 822 = .ok (.iload_n 1, 1) := by decide +kernel
theorem dL_agrees_823 : decode cL_agrees 823 = .ok (.iadd, 1) := by decide +kernel
theorem dL_agrees_824 : decode cL_agrees 824 = .ok (.bipush 24, 2) := by decide +kernel
theorem dL_agrees_826 : decode cL_agrees 826 = .ok (.if_icmp .gt 103, 3) := by decide +kernel
theorem dL_agrees_829 : decode cL_agrees 829 = .ok (.aload_n 0, 1) := by decide +kernel
theorem dL_agrees_830 : decode cL_agrees 830 = .ok (.iconst 5, 1) := by decide +kernel
theorem dL_agrees_831 : decode cL_agrees 831 = .ok (.invokevirtual 9, 3) := by decide +kernel
theorem dL_agrees_834 : decode cL_agrees 834 = .ok (.iload 6, 2) := by decide +kernel
theorem dL_agrees_836 : decode cL_agrees 836 = .ok (.if_icmp .ne 93, 3) := by decide +kernel
theorem dL_agrees_839 : decode cL_agrees 839 = .ok (.aload_n 0, 1) := by decide +kernel
theorem dL_agrees_840 : decode cL_agrees 840 = .ok (.bipush 6, 2) := by decide +kernel
theorem dL_agrees_842 : decode cL_agrees 842 = .ok (.invokevirtual 9, 3) := by decide +kernel
theorem dL_agrees_845 : decode cL_agrees 845 = .ok (.iload_n 1, 1) := by decide +kernel
theorem dL_agrees_846 : decode cL_agrees 846 = .ok (.if_icmp .ne 83, 3) := by decide +kernel
theorem dL_agrees_849 : decode cL_agrees 849 = .ok (.aload_n 0, 1) := by decide +kernel
theorem dL_agrees_850 : decode cL_agrees 850 = .ok (.bipush 7, 2) := by decide +kernel
theorem dL_agrees_852 : decode cL_agrees 852 = .ok (.invokevirtual 9, 3) := by decide +kernel
theorem dL_agrees_855 : decode cL_agrees 855 = .ok (.iload_n 2, 1) := by decide +kernel
theorem dL_agrees_856 : decode cL_agrees 856 = .ok (.if_icmp .ne 73, 3) := by decide +kernel
theorem dL_agrees_859 : decode cL_agrees 859 = .ok (.aload_n 0, 1) := by decide +kernel
theorem dL_agrees_860 : decode cL_agrees 860 = .ok (.bipush 8, 2) := by decide +kernel
theorem dL_agrees_862 : decode cL_agrees 862 = .ok (.invokevirtual 9, 3) := by decide +kernel
theorem dL_agrees_865 : decode cL_agrees 865 = .ok (.iload 4, 2) := by decide +kernel
theorem dL_agrees_867 : decode cL_agrees 867 = .ok (.if_icmp .ne 62, 3) := by decide +kernel
theorem dL_agrees_870 : decode cL_agrees 870 = .ok (.aload_n 0, 1) := by decide +kernel
theorem dL_agrees_871 : decode cL_agrees 871 = .ok (.bipush 9, 2) := by decide +kernel
theorem dL_agrees_873 : decode cL_agrees 873 = .ok (.invokevirtual 9, 3) := by decide +kernel
theorem dL_agrees_876 : decode cL_agrees 876 = .ok (.iload_n 3, 1) := by decide +kernel
theorem dL_agrees_877 : decode cL_agrees 877 = .ok (.if_icmp .ne 52, 3) := by decide +kernel
theorem dL_agrees_880 : decode cL_agrees 880 = .ok (.aload_n 0, 1) := by decide +kernel
theorem dL_agrees_881 : decode cL_agrees 881 = .ok (.bipush 10, 2) := by decide +kernel
theorem dL_agrees_883 : decode cL_agrees 883 = .ok (.invokevirtual 9, 3) := by decide +kernel
theorem dL_agrees_886 : decode cL_agrees 886 = .ok (.iload 5, 2) := by decide +kernel
theorem dL_agrees_888 : decode cL_agrees 888 = .ok (.if_icmp .ne 41, 3) := by decide +kernel
theorem dL_agrees_891 : decode cL_agrees 891 = .ok (.aload_n 0, 1) := by decide +kernel
theorem dL_agrees_892 : decode cL_agrees 892 = .ok (.bipush 6, 2) := by decide +kernel
theorem dL_agrees_894 : decode cL_agrees 894 = .ok (.iconst 0, 1) := by decide +kernel
theorem dL_agrees_895 : decode cL_agrees 895 = .ok (.invokevirtual 50, 3) := by decide +kernel
theorem dL_agrees_898 : decode cL_agrees 898 = .ok (.bipush (-2), 2) := by decide +kernel
theorem dL_agrees_900 : decode cL_agrees 900 = .ok (.if_icmp .ne 29, 3) := by decide +kernel
theorem dL_agrees_903 : decode cL_agrees 903 = .ok (.aload_n 0, 1) := by decide +kernel
theorem dL_agrees_904 : decode cL_agrees 904 = .ok (.iconst 0, 1) := by decide +kernel
theorem dL_agrees_905 : decode cL_agrees 905 = .ok (.iconst 2, 1) := by decide +kernel
theorem dL_agrees_906 : decode cL_agrees 906 = .ok (.invokevirtual 50, 3) := by decide +kernel
theorem dL_agrees_909 : decode cL_agrees 909 = .ok (.bipush (-2), 2) := by decide +kernel
theorem dL_agrees_911 : decode cL_agrees 911 = .ok (.if_icmp .ne 18, 3) := by decide +kernel
theorem dL_agrees_914 : decode cL_agrees 914 = .ok (.aload_n 0, 1) := by decide +kernel
theorem dL_agrees_915 : decode cL_agrees 915 = .ok (.bipush 11, 2) := by decide +kernel
theorem dL_agrees_917 : decode cL_agrees 917 = .ok (.invokevirtual 9, 3) := by decide +kernel
theorem dL_agrees_920 : decode cL_agrees 920 = .ok (.bipush (-2), 2) := by decide +kernel
theorem dL_agrees_922 : decode cL_agrees 922 = .ok (.if_icmp .ne 7, 3) := by decide +kernel
theorem dL_agrees_925 : decode cL_agrees 925 = .ok (.iconst 1, 1) := by decide +kernel
theorem dL_agrees_926 : decode cL_agrees 926 = .ok (.goto 4, 3) := by decide +kernel
theorem dL_agrees_929 : decode cL_agrees 929 = .ok (.iconst 0, 1) := by decide +kernel
theorem dL_agrees_930 : decode cL_agrees 930 = .ok (.ireturn, 1) := by decide +kernel
theorem dL_walks_0 : decode cL_walks 0 = .ok (.aload_n 0, 1) := by decide +kernel
theorem dL_walks_1 : decode cL_walks 1 = .ok (.iload_n 1, 1) := by decide +kernel
theorem dL_walks_2 : decode cL_walks 2 = .ok (.iconst 2, 1) := by decide +kernel
theorem dL_walks_3 : decode cL_walks 3 = .ok (.invokevirtual 22, 3) := by decide +kernel
theorem dL_walks_6 : decode cL_walks 6 = .ok (.istore_n 3, 1) := by decide +kernel
theorem dL_walks_7 : decode cL_walks 7 = .ok (.aload_n 0, 1) := by decide +kernel
theorem dL_walks_8 : decode cL_walks 8 = .ok (.iload_n 1, 1) := by decide +kernel
theorem dL_walks_9 : decode cL_walks 9 = .ok (.iconst 1, 1) := by decide +kernel
theorem dL_walks_10 : decode cL_walks 10 = .ok (.invokevirtual 22, 3) := by decide +kernel
theorem dL_walks_13 : decode cL_walks 13 = .ok (.istore 4, 2) := by decide +kernel
theorem dL_walks_15 : decode cL_walks 15 = .ok (.aload_n 0, 1) := by decide +kernel
theorem dL_walks_16 : decode cL_walks 16 = .ok (.iload_n 2, 1) := by decide +kernel
theorem dL_walks_17 : decode cL_walks 17 = .ok (.iconst 5, 1) := by decide +kernel
theorem dL_walks_18 : decode cL_walks 18 = .ok (.invokevirtual 15, 3) := by decide +kernel
theorem dL_walks_21 : decode cL_walks 21 = .ok (.istore 5, 2) := by decide +kernel
theorem dL_walks_23 : decode cL_walks 23 = .ok (.aload_n 0, 1) := by decide +kernel
theorem dL_walks_24 : decode cL_walks 24 = .ok (.iload_n 2, 1) := by decide +kernel
theorem dL_walks_25 : decode cL_walks 25 = .ok (.iconst 0, 1) := by decide +kernel
theorem dL_walks_26 : decode cL_walks 26 = .ok (.invokevirtual 15, 3) := by decide +kernel
theorem dL_walks_29 : decode cL_walks 29 = .ok (.iload 4, 2) := by decide +kernel
