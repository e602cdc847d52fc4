theorem d_La_law_409 : decode code 409 = .ok (.iaload, 1) := by decide +kernel
theorem d_La_law_410 : decode code 410 = .ok (.aload_n 0, 1) := by decide +kernel
theorem d_La_law_411 : decode code 411 = .ok (.iload 4, 2) := by decide +kernel
theorem d_La_law_413 : decode code 413 = .ok (.iconst 3, 1) := by decide +kernel
theorem d_La_law_414 : decode code 414 = .ok (.iadd, 1) := by decide +kernel
theorem d_La_law_415 : decode code 415 = .ok (.iaload, 1) := by decide +kernel
theorem d_La_law_416 : decode code 416 = .ok (.invokevirtual 97, 3) := by decide +kernel
theorem d_La_law_419 : decode code 419 = .ok (.istore 6, 2) := by decide +kernel
theorem d_La_law_421 : decode code 421 = .ok (.aload_n 2, 1) := by decide +kernel
theorem d_La_law_422 : decode code 422 = .ok (.invokevirtual 83, 3) := by decide +kernel
theorem d_La_law_425 : decode code 425 = .ok (.iload 5, 2) := by decide +kernel
theorem d_La_law_427 : decode code 427 = .ok (.if_icmp .eq 5, 3) := by decide +kernel
theorem d_La_law_430 : decode code 430 = .ok (.iconst 0, 1) := by decide +kernel
theorem d_La_law_431 : decode code 431 = .ok (.ireturn, 1) := by decide +kernel
theorem d_La_law_432 : decode code 432 = .ok (.iload 5, 2) := by decide +kernel
theorem d_La_law_434 : decode code 434 = .ok (.ifCond .ne 15, 3) := by decide +kernel
theorem d_La_law_437 : decode code 437 = .ok (.aload_n 3, 1) := by decide +kernel
theorem d_La_law_438 : decode code 438 = .ok (.iconst 0, 1) := by decide +kernel
theorem d_La_law_439 : decode code 439 = .ok (.laload, 1) := by decide +kernel
theorem d_La_law_440 : decode code 440 = .ok (.iload 6, 2) := by decide +kernel
theorem d_La_law_442 : decode code 442 = .ok (.i2l, 1) := by decide +kernel
theorem d_La_law_443 : decode code 443 = .ok (.lcmp, 1) := by decide +kernel
theorem d_La_law_444 : decode code 444 = .ok (.ifCond .eq 5, 3) := by decide +kernel
theorem d_La_law_447 : decode code 447 = .ok (.iconst 0, 1) := by decide +kernel
theorem d_La_law_448 : decode code 448 = .ok (.ireturn, 1) := by decide +kernel
theorem d_La_law_449 : decode code 449 = .ok (.goto 1007, 3) := by decide +kernel
theorem d_La_law_452 : decode code 452 = .ok (.aload_n 1, 1) := by decide +kernel
theorem d_La_law_453 : decode code 453 = .ok (.aload_n 0, 1) := by decide +kernel
theorem d_La_law_454 : decode code 454 = .ok (.iload 4, 2) := by decide +kernel
theorem d_La_law_456 : decode code 456 = .ok (.iconst 1, 1) := by decide +kernel
theorem d_La_law_457 : decode code 457 = .ok (.iadd, 1) := by decide +kernel
theorem d_La_law_458 : decode code 458 = .ok (.iaload, 1) := by decide +kernel
theorem d_La_law_459 : decode code 459 = .ok (.aload_n 0, 1) := by decide +kernel
theorem d_La_law_460 : decode code 460 = .ok (.iload 4, 2) := by decide +kernel
theorem d_La_law_462 : decode code 462 = .ok (.iconst 2, 1) := by decide +kernel
theorem d_La_law_463 : decode code 463 = .ok (.iadd, 1) := by decide +kernel
theorem d_La_law_464 : decode code 464 = .ok (.iaload, 1) := by decide +kernel
theorem d_La_law_465 : decode code 465 = .ok (.aload_n 3, 1) := by decide +kernel
theorem d_La_law_466 : decode code 466 = .ok (.invokestatic 98, 3) := by decide +kernel
theorem d_La_law_469 : decode code 469 = .ok (.istore 5, 2) := by decide +kernel
theorem d_La_law_471 : decode code 471 = .ok (.aload_n 2, 1) := by decide +kernel
theorem d_La_law_472 : decode code 472 = .ok (.aload_n 0, 1) := by decide +kernel
theorem d_La_law_473 : decode code 473 = .ok (.iload 4, 2) := by decide +kernel
theorem d_La_law_475 : decode code 475 = .ok (.iconst 1, 1) := by decide +kernel
theorem d_La_law_476 : decode code 476 = .ok (.iadd, 1) := by decide +kernel
theorem d_La_law_477 : decode code 477 = .ok (.iaload, 1) := by decide +kernel
theorem d_La_law_478 : decode code 478 = .ok (.aload_n 0, 1) := by decide +kernel
theorem d_La_law_479 : decode code 479 = .ok (.iload 4, 2) := by decide +kernel
theorem d_La_law_481 : decode code 481 = .ok (.iconst 2, 1) := by decide +kernel
theorem d_La_law_482 : decode code 482 = .ok (.iadd, 1) := by decide +kernel
theorem d_La_law_483 : decode code 483 = .ok (.iaload, 1) := by decide +kernel
theorem d_La_law_484 : decode code 484 = .ok (.invokevirtual 101, 3) := by decide +kernel
theorem d_La_law_487 : decode code 487 = .ok (.istore 6, 2) := by decide +kernel
theorem d_La_law_489 : decode code 489 = .ok (.aload_n 2, 1) := by decide +kernel
theorem d_La_law_490 : decode code 490 = .ok (.invokevirtual 83, 3) := by decide +kernel
theorem d_La_law_493 : decode code 493 = .ok (.iload 5, 2) := by decide +kernel
theorem d_La_law_495 : decode code 495 = .ok (.if_icmp .eq 5, 3) := by decide +kernel
theorem d_La_law_498 : decode code 498 = .ok (.iconst 0, 1) := by decide +kernel
theorem d_La_law_499 : decode code 499 = .ok (.ireturn, 1) := by decide +kernel
theorem d_La_law_500 : decode code 500 = .ok (.iload 5, 2) := by decide +kernel
theorem d_La_law_502 : decode code 502 = .ok (.ifCond .ne 15, 3) := by decide +kernel
theorem d_La_law_505 : decode code 505 = .ok (.aload_n 3, 1) := by decide +kernel
theorem d_La_law_506 : decode code 506 = .ok (.iconst 0, 1) := by decide +kernel
theorem d_La_law_507 : decode code 507 = .ok (.laload, 1) := by decide +kernel
theorem d_La_law_508 : decode code 508 = .ok (.iload 6, 2) := by decide +kernel
theorem d_La_law_510 : decode code 510 = .ok (.i2l, 1) := by decide +kernel
theorem d_La_law_511 : decode code 511 = .ok (.lcmp, 1) := by decide +kernel
theorem d_La_law_512 : decode code 512 = .ok (.ifCond .eq 5, 3) := by decide +kernel
theorem d_La_law_515 : decode code 515 = .ok (.iconst 0, 1) := by decide +kernel
theorem d_La_law_516 : decode code 516 = .ok (.ireturn, 1) := by decide +kernel
theorem d_La_law_517 : decode code 517 = .ok (.goto 939, 3) := by decide +kernel
theorem d_La_law_520 : decode code 520 = .ok (.aload_n 1, 1) := by decide +kernel
theorem d_La_law_521 : decode code 521 = .ok (.aload_n 0, 1) := by decide +kernel
theorem d_La_law_522 : decode code 522 = .ok (.iload 4, 2) := by decide +kernel
theorem d_La_law_524 : decode code 524 = .ok (.iconst 1, 1) := by decide +kernel
theorem d_La_law_525 : decode code 525 = .ok (.iadd, 1) := by decide +kernel
theorem d_La_law_526 : decode code 526 = .ok (.iaload, 1) := by decide +kernel
theorem d_La_law_527 : decode code 527 = .ok (.ifCond .eq 7, 3) := by decide +kernel
theorem d_La_law_530 : decode code 530 = .ok (.iconst 1, 1) := by decide +kernel
theorem d_La_law_531 : decode code 531 = .ok (.goto 4, 3) := by decide +kernel
theorem d_La_law_534 : decode code 534 = .ok (.iconst 0, 1) := by decide +kernel
theorem d_La_law_535 : decode code 535 = .ok (.invokevirtual 102, 3) := by decide +kernel
theorem d_La_law_538 : decode code 538 = .ok (.aload_n 2, 1) := by decide +kernel
theorem d_La_law_539 : decode code 539 = .ok (.aload_n 0, 1) := by decide +kernel
theorem d_La_law_540 : decode code 540 = .ok (.iload 4, 2) := by decide +kernel
theorem d_La_law_542 : decode code 542 = .ok (.iconst 1, 1) := by decide +kernel
theorem d_La_law_543 : decode code 543 = .ok (.iadd, 1) := by decide +kernel
theorem d_La_law_544 : decode code 544 = .ok (.iaload, 1) := by decide +kernel
theorem d_La_law_545 : decode code 545 = .ok (.ifCond .eq 7, 3) := by decide +kernel
theorem d_La_law_548 : decode code 548 = .ok (.iconst 1, 1) := by decide +kernel
theorem d_La_law_549 : decode code 549 = .ok (.goto 4, 3) := by decide +kernel
theorem d_La_law_552 : decode code 552 = .ok (.iconst 0, 1) := by decide +kernel
theorem d_La_law_553 : decode code 553 = .ok (.invokevirtual 106, 3) := by decide +kernel
theorem d_La_law_556 : decode code 556 = .ok (.if_icmp .eq 900, 3) := by decide +kernel
theorem d_La_law_559 : decode code 559 = .ok (.iconst 0, 1) := by decide +kernel
theorem d_La_law_560 : decode code 560 = .ok (.ireturn, 1) := by decide +kernel
theorem d_La_law_561 : decode code 561 = .ok (.aload_n 1, 1) := by decide +kernel
theorem d_La_law_562 : decode code 562 = .ok (.aload_n 0, 1) := by decide +kernel
theorem d_La_law_563 : decode code 563 = .ok (.iload 4, 2) := by decide +kernel
theorem d_La_law_565 : decode code 565 = .ok (.iconst 1, 1) := by decide +kernel
theorem d_La_law_566 : decode code 566 = .ok (.iadd, 1) := by decide +kernel
theorem d_La_law_567 : decode code 567 = .ok (.iaload, 1) := by decide +kernel
theorem d_La_law_568 : decode code 568 = .ok (.aload_n 0, 1) := by decide +kernel
theorem d_La_law_569 : decode code 569 = .ok (.iload 4, 2) := by decide +kernel
theorem d_La_law_571 : decode code 571 = .ok (.iconst 2, 1) := by decide +kernel
theorem d_La_law_572 : decode code 572 = .ok (.iadd, 1) := by decide +kernel
theorem d_La_law_573 : decode code 573 = .ok (.iaload, 1) := by decide +kernel
theorem d_La_law_574 : decode code 574 = .ok (.aload_n 0, 1) := by decide +kernel
theorem d_La_law_575 : decode code 575 = .ok (.iload 4, 2) := by decide +kernel
theorem d_La_law_577 : decode code 577 = .ok (.iconst 3, 1) := by decide +kernel
theorem d_La_law_578 : decode code 578 = .ok (.iadd, 1) := by decide +kernel
theorem d_La_law_579 : decode code 579 = .ok (.iaload, 1) := by decide +kernel
theorem d_La_law_580 : decode code 580 = .ok (.aload_n 3, 1) := by decide +kernel
theorem d_La_law_581 : decode code 581 = .ok (.invokestatic 107, 3) := by decide +kernel
theorem d_La_law_584 : decode code 584 = .ok (.istore 5, 2) := by decide +kernel
theorem d_La_law_586 : decode code 586 = .ok (.aload_n 2, 1) := by decide +kernel
theorem d_La_law_587 : decode code 587 = .ok (.aload_n 0, 1) := by decide +kernel
theorem d_La_law_588 : decode code 588 = .ok (.iload 4, 2) := by decide +kernel
theorem d_La_law_590 : decode code 590 = .ok (.iconst 1, 1) := by decide +kernel
theorem d_La_law_591 : decode code 591 = .ok (.iadd, 1) := by decide +kernel
theorem d_La_law_592 : decode code 592 = .ok (.iaload, 1) := by decide +kernel
theorem d_La_law_593 : decode code 593 = .ok (.aload_n 0, 1) := by decide +kernel
theorem d_La_law_594 : decode code 594 = .ok (.iload 4, 2) := by decide +kernel
theorem d_La_law_596 : decode code 596 = .ok (.iconst 2, 1) := by decide +kernel
theorem d_La_law_597 : decode code 597 = .ok (.iadd, 1) := by decide +kernel
theorem d_La_law_598 : decode code 598 = .ok (.iaload, 1) := by decide +kernel
theorem d_La_law_599 : decode code 599 = .ok (.aload_n 0, 1) := by decide +kernel
theorem d_La_law_600 : decode code 600 = .ok (.iload 4, 2) := by decide +kernel
theorem d_La_law_602 : decode code 602 = .ok (.iconst 3, 1) := by decide +kernel
theorem d_La_law_603 : decode code 603 = .ok (.iadd, 1) := by decide +kernel
theorem d_La_law_604 : decode code 604 = .ok (.iaload, 1) := by decide +kernel
theorem d_La_law_605 : decode code 605 = .ok (.invokevirtual 109, 3) := by decide +kernel
theorem d_La_law_608 : decode code 608 = .ok (.istore 6, 2) := by decide +kernel
theorem d_La_law_610 : decode code 610 = .ok (.aload_n 2, 1) := by decide +kernel
theorem d_La_law_611 : decode code 611 = .ok (.invokevirtual 83, 3) := by decide +kernel
theorem d_La_law_614 : decode code 614 = .ok (.iload 5, 2) := by decide +kernel
theorem d_La_law_616 : decode code 616 = .ok (.if_icmp .eq 5, 3) := by decide +kernel
theorem d_La_law_619 : decode code 619 = .ok (.iconst 0, 1) := by decide +kernel
theorem d_La_law_620 : decode code 620 = .ok (.ireturn, 1) := by decide +kernel
theorem d_La_law_621 : decode code 621 = .ok (.iload 5, 2) := by decide +kernel
theorem d_La_law_623 : decode code 623 = .ok (.ifCond .ne 15, 3) := by decide +kernel
theorem d_La_law_626 : decode code 626 = .ok (.aload_n 3, 1) := by decide +kernel
theorem d_La_law_627 : decode code 627 = .ok (.iconst 0, 1) := by decide +kernel
theorem d_La_law_628 : decode code 628 = .ok (.laload, 1) := by decide +kernel
theorem d_La_law_629 : decode code 629 = .ok (.iload 6, 2) := by decide +kernel
theorem d_La_law_631 : decode code 631 = .ok (.i2l, 1) := by decide +kernel
theorem d_La_law_632 : decode code 632 = .ok (.lcmp, 1) := by decide +kernel
theorem d_La_law_633 : decode code 633 = .ok (.ifCond .eq 5, 3) := by decide +kernel
theorem d_La_law_636 : decode code 636 = .ok (.iconst 0, 1) := by decide +kernel
theorem d_La_law_637 : decode code 637 = .ok (.ireturn, 1) := by decide +kernel
theorem d_La_law_638 : decode code 638 = .ok (.goto 818, 3) := by decide +kernel
theorem d_La_law_641 : decode code 641 = .ok (.aload_n 1, 1) := by decide +kernel
theorem d_La_law_642 : decode code 642 = .ok (.aload_n 0, 1) := by decide +kernel
theorem d_La_law_643 : decode code 643 = .ok (.iload 4, 2) := by decide +kernel
theorem d_La_law_645 : decode code 645 = .ok (.iconst 1, 1) := by decide +kernel
theorem d_La_law_646 : decode code 646 = .ok (.iadd, 1) := by decide +kernel
theorem d_La_law_647 : decode code 647 = .ok (.iaload, 1) := by decide +kernel
theorem d_La_law_648 : decode code 648 = .ok (.aload_n 0, 1) := by decide +kernel
theorem d_La_law_649 : decode code 649 = .ok (.iload 4, 2) := by decide +kernel
theorem d_La_law_651 : decode code 651 = .ok (.iconst 2, 1) := by decide +kernel
theorem d_La_law_652 : decode code 652 = .ok (.iadd, 1) := by decide +kernel
theorem d_La_law_653 : decode code 653 = .ok (.iaload, 1) := by decide +kernel
theorem d_La_law_654 : decode code 654 = .ok (.aload_n 0, 1) := by decide +kernel
theorem d_La_law_655 : decode code 655 = .ok (.iload 4, 2) := by decide +kernel
theorem d_La_law_657 : decode code 657 = .ok (.iconst 3, 1) := by decide +kernel
theorem d_La_law_658 : decode code 658 = .ok (.iadd, 1) := by decide +kernel
theorem d_La_law_659 : decode code 659 = .ok (.iaload, 1) := by decide +kernel
theorem d_La_law_660 : decode code 660 = .ok (.ifCond .eq 7, 3) := by decide +kernel
theorem d_La_law_663 : decode code 663 = .ok (.iconst 1, 1) := by decide +kernel
theorem d_La_law_664 : decode code 664 = .ok (.goto 4, 3) := by decide +kernel
theorem d_La_law_667 : decode code 667 = .ok (.iconst 0, 1) := by decide +kernel
theorem d_La_law_668 : decode code 668 = .ok (.aload_n 3, 1) := by decide +kernel
theorem d_La_law_669 : decode code 669 = .ok (.invokestatic 110, 3) := by decide +kernel
theorem d_La_law_672 : decode code 672 = .ok (.istore 5, 2) := by decide +kernel
theorem d_La_law_674 : decode code 674 = .ok (.aload_n 2, 1) := by decide +kernel
theorem d_La_law_675 : decode code 675 = .ok (.aload_n 0, 1) := by decide +kernel
theorem d_La_law_676 : decode code 676 = .ok (.iload 4, 2) := by decide +kernel
theorem d_La_law_678 : decode code 678 = .ok (.iconst 1, 1) := by decide +kernel
theorem d_La_law_679 : decode code 679 = .ok (.iadd, 1) := by decide +kernel
theorem d_La_law_680 : decode code 680 = .ok (.iaload, 1) := by decide +kernel
theorem d_La_law_681 : decode code 681 = .ok (.aload_n 0, 1) := by decide +kernel
theorem d_La_law_682 : decode code 682 = .ok (.iload 4, 2) := by decide +kernel
theorem d_La_law_684 : decode code 684 = .ok (.iconst 2, 1) := by decide +kernel
theorem d_La_law_685 : decode code 685 = .ok (.iadd, 1) := by decide +kernel
theorem d_La_law_686 : decode code 686 = .ok (.iaload, 1) := by decide +kernel
theorem d_La_law_687 : decode code 687 = .ok (.aload_n 0, 1) := by decide +kernel
theorem d_La_law_688 : decode code 688 = .ok (.iload 4, 2) := by decide +kernel
theorem d_La_law_690 : decode code 690 = .ok (.iconst 3, 1) := by decide +kernel
theorem d_La_law_691 : decode code 691 = .ok (.iadd, 1) := by decide +kernel
theorem d_La_law_692 : decode code 692 = .ok (.iaload, 1) := by decide +kernel
theorem d_La_law_693 : decode code 693 = .ok (.ifCond .eq 7, 3) := by decide +kernel
theorem d_La_law_696 : decode code 696 = .ok (.iconst 1, 1) := by decide +kernel
theorem d_La_law_697 : decode code 697 = .ok (.goto 4, 3) := by decide +kernel
theorem d_La_law_700 : decode code 700 = .ok (.iconst 0, 1) := by decide +kernel
theorem d_La_law_701 : decode code 701 = .ok (.invokevirtual 113, 3) := by decide +kernel
theorem d_La_law_704 : decode code 704 = .ok (.istore 6, 2) := by decide +kernel
theorem d_La_law_706 : decode code 706 = .ok (.aload_n 2, 1) := by decide +kernel
theorem d_La_law_707 : decode code 707 = .ok (.invokevirtual 83, 3) := by decide +kernel
theorem d_La_law_710 : decode code 710 = .ok (.iload 5, 2) := by decide +kernel
theorem d_La_law_712 : decode code 712 = .ok (.if_icmp .eq 5, 3) := by decide +kernel
theorem d_La_law_715 : decode code 715 = .ok (.iconst 0, 1) := by decide +kernel
theorem d_La_law_716 : decode code 716 = .ok (.ireturn, 1) := by decide +kernel
theorem d_La_law_717 : decode code 717 = .ok (.iload 5, 2) := by decide +kernel
theorem d_La_law_719 : decode code 719 = .ok (.ifCond .ne 22, 3) := by decide +kernel
theorem d_La_law_722 : decode code 722 = .ok (.aload_n 3, 1) := by decide +kernel
theorem d_La_law_723 : decode code 723 = .ok (.iconst 0, 1) := by decide +kernel
theorem d_La_law_724 : decode code 724 = .ok (.laload, 1) := by decide +kernel
theorem d_La_law_725 : decode code 725 = .ok (.iload 6, 2) := by decide +kernel
theorem d_La_law_727 : decode code 727 = .ok (.ifCond .eq 7, 3) := by decide +kernel
theorem d_La_law_730 : decode code 730 = .ok (.lconst 1, 1) := by decide +kernel
theorem d_La_law_731 : decode code 731 = .ok (.goto 4, 3) := by decide +kernel
theorem d_La_law_734 : decode code 734 = .ok (.lconst 0, 1) := by decide +kernel
theorem d_La_law_735 : decode code 735 = .ok (.lcmp, 1) := by decide +kernel
theorem d_La_law_736 : decode code 736 = .ok (.ifCond .eq 5, 3) := by decide +kernel
theorem d_La_law_739 : decode code 739 = .ok (.iconst 0, 1) := by decide +kernel
theorem d_La_law_740 : decode code 740 = .ok (.ireturn, 1) := by decide +kernel
theorem d_La_law_741 : decode code 741 = .ok (.goto 715, 3) := by decide +kernel
theorem d_La_law_744 : decode code 744 = .ok (.aload_n 1, 1) := by decide +kernel
theorem d_La_law_745 : decode code 745 = .ok (.aload_n 0, 1) := by decide +kernel
theorem d_La_law_746 : decode code 746 = .ok (.iload 4, 2) := by decide +kernel
theorem d_La_law_748 : decode code 748 = .ok (.iconst 1, 1) := by decide +kernel
theorem d_La_law_749 : decode code 749 = .ok (.iadd, 1) := by decide +kernel
theorem d_La_law_750 : decode code 750 = .ok (.iaload, 1) := by decide +kernel
