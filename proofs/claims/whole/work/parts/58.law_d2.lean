theorem d_law_488 : decode code 488 = .ok (.iaload, 1) := by decide +kernel
theorem d_law_489 : decode code 489 = .ok (.aload_n 0, 1) := by decide +kernel
theorem d_law_490 : decode code 490 = .ok (.iload_n 3, 1) := by decide +kernel
theorem d_law_491 : decode code 491 = .ok (.iconst 2, 1) := by decide +kernel
theorem d_law_492 : decode code 492 = .ok (.iadd, 1) := by decide +kernel
theorem d_law_493 : decode code 493 = .ok (.iaload, 1) := by decide +kernel
theorem d_law_494 : decode code 494 = .ok (.invokevirtual 56, 3) := by decide +kernel
theorem d_law_497 : decode code 497 = .ok (.aload_n 2, 1) := by decide +kernel
theorem d_law_498 : decode code 498 = .ok (.aload_n 0, 1) := by decide +kernel
theorem d_law_499 : decode code 499 = .ok (.iload_n 3, 1) := by decide +kernel
theorem d_law_500 : decode code 500 = .ok (.iconst 1, 1) := by decide +kernel
theorem d_law_501 : decode code 501 = .ok (.iadd, 1) := by decide +kernel
theorem d_law_502 : decode code 502 = .ok (.iaload, 1) := by decide +kernel
theorem d_law_503 : decode code 503 = .ok (.aload_n 0, 1) := by decide +kernel
theorem d_law_504 : decode code 504 = .ok (.iload_n 3, 1) := by decide +kernel
theorem d_law_505 : decode code 505 = .ok (.iconst 2, 1) := by decide +kernel
theorem d_law_506 : decode code 506 = .ok (.iadd, 1) := by decide +kernel
theorem d_law_507 : decode code 507 = .ok (.iaload, 1) := by decide +kernel
theorem d_law_508 : decode code 508 = .ok (.invokevirtual 59, 3) := by decide +kernel
theorem d_law_511 : decode code 511 = .ok (.if_icmp .eq 369, 3) := by decide +kernel
theorem d_law_514 : decode code 514 = .ok (.iconst 0, 1) := by decide +kernel
theorem d_law_515 : decode code 515 = .ok (.ireturn, 1) := by decide +kernel
theorem d_law_516 : decode code 516 = .ok (.aload_n 1, 1) := by decide +kernel
theorem d_law_517 : decode code 517 = .ok (.aload_n 0, 1) := by decide +kernel
theorem d_law_518 : decode code 518 = .ok (.iload_n 3, 1) := by decide +kernel
theorem d_law_519 : decode code 519 = .ok (.iconst 1, 1) := by decide +kernel
theorem d_law_520 : decode code 520 = .ok (.iadd, 1) := by decide +kernel
theorem d_law_521 : decode code 521 = .ok (.iaload, 1) := by decide +kernel
theorem d_law_522 : decode code 522 = .ok (.aload_n 0, 1) := by decide +kernel
theorem d_law_523 : decode code 523 = .ok (.iload_n 3, 1) := by decide +kernel
theorem d_law_524 : decode code 524 = .ok (.iconst 2, 1) := by decide +kernel
theorem d_law_525 : decode code 525 = .ok (.iadd, 1) := by decide +kernel
theorem d_law_526 : decode code 526 = .ok (.iaload, 1) := by decide +kernel
theorem d_law_527 : decode code 527 = .ok (.aload_n 0, 1) := by decide +kernel
theorem d_law_528 : decode code 528 = .ok (.iload_n 3, 1) := by decide +kernel
theorem d_law_529 : decode code 529 = .ok (.iconst 3, 1) := by decide +kernel
theorem d_law_530 : decode code 530 = .ok (.iadd, 1) := by decide +kernel
theorem d_law_531 : decode code 531 = .ok (.iaload, 1) := by decide +kernel
theorem d_law_532 : decode code 532 = .ok (.invokevirtual 60, 3) := by decide +kernel
theorem d_law_535 : decode code 535 = .ok (.aload_n 2, 1) := by decide +kernel
theorem d_law_536 : decode code 536 = .ok (.aload_n 0, 1) := by decide +kernel
theorem d_law_537 : decode code 537 = .ok (.iload_n 3, 1) := by decide +kernel
theorem d_law_538 : decode code 538 = .ok (.iconst 1, 1) := by decide +kernel
theorem d_law_539 : decode code 539 = .ok (.iadd, 1) := by decide +kernel
theorem d_law_540 : decode code 540 = .ok (.iaload, 1) := by decide +kernel
theorem d_law_541 : decode code 541 = .ok (.aload_n 0, 1) := by decide +kernel
theorem d_law_542 : decode code 542 = .ok (.iload_n 3, 1) := by decide +kernel
theorem d_law_543 : decode code 543 = .ok (.iconst 2, 1) := by decide +kernel
theorem d_law_544 : decode code 544 = .ok (.iadd, 1) := by decide +kernel
theorem d_law_545 : decode code 545 = .ok (.iaload, 1) := by decide +kernel
theorem d_law_546 : decode code 546 = .ok (.aload_n 0, 1) := by decide +kernel
theorem d_law_547 : decode code 547 = .ok (.iload_n 3, 1) := by decide +kernel
theorem d_law_548 : decode code 548 = .ok (.iconst 3, 1) := by decide +kernel
theorem d_law_549 : decode code 549 = .ok (.iadd, 1) := by decide +kernel
theorem d_law_550 : decode code 550 = .ok (.iaload, 1) := by decide +kernel
theorem d_law_551 : decode code 551 = .ok (.invokevirtual 63, 3) := by decide +kernel
theorem d_law_554 : decode code 554 = .ok (.lcmp, 1) := by decide +kernel
theorem d_law_555 : decode code 555 = .ok (.ifCond .eq 325, 3) := by decide +kernel
theorem d_law_558 : decode code 558 = .ok (.iconst 0, 1) := by decide +kernel
theorem d_law_559 : decode code 559 = .ok (.ireturn, 1) := by decide +kernel
theorem d_law_560 : decode code 560 = .ok (.aload_n 1, 1) := by decide +kernel
theorem d_law_561 : decode code 561 = .ok (.aload_n 0, 1) := by decide +kernel
theorem d_law_562 : decode code 562 = .ok (.iload_n 3, 1) := by decide +kernel
theorem d_law_563 : decode code 563 = .ok (.iconst 1, 1) := by decide +kernel
theorem d_law_564 : decode code 564 = .ok (.iadd, 1) := by decide +kernel
theorem d_law_565 : decode code 565 = .ok (.iaload, 1) := by decide +kernel
theorem d_law_566 : decode code 566 = .ok (.aload_n 0, 1) := by decide +kernel
theorem d_law_567 : decode code 567 = .ok (.iload_n 3, 1) := by decide +kernel
theorem d_law_568 : decode code 568 = .ok (.iconst 2, 1) := by decide +kernel
theorem d_law_569 : decode code 569 = .ok (.iadd, 1) := by decide +kernel
theorem d_law_570 : decode code 570 = .ok (.iaload, 1) := by decide +kernel
theorem d_law_571 : decode code 571 = .ok (.invokevirtual 64, 3) := by decide +kernel
theorem d_law_574 : decode code 574 = .ok (.aload_n 2, 1) := by decide +kernel
theorem d_law_575 : decode code 575 = .ok (.aload_n 0, 1) := by decide +kernel
theorem d_law_576 : decode code 576 = .ok (.iload_n 3, 1) := by decide +kernel
theorem d_law_577 : decode code 577 = .ok (.iconst 1, 1) := by decide +kernel
theorem d_law_578 : decode code 578 = .ok (.iadd, 1) := by decide +kernel
theorem d_law_579 : decode code 579 = .ok (.iaload, 1) := by decide +kernel
theorem d_law_580 : decode code 580 = .ok (.aload_n 0, 1) := by decide +kernel
theorem d_law_581 : decode code 581 = .ok (.iload_n 3, 1) := by decide +kernel
theorem d_law_582 : decode code 582 = .ok (.iconst 2, 1) := by decide +kernel
theorem d_law_583 : decode code 583 = .ok (.iadd, 1) := by decide +kernel
theorem d_law_584 : decode code 584 = .ok (.iaload, 1) := by decide +kernel
theorem d_law_585 : decode code 585 = .ok (.invokevirtual 67, 3) := by decide +kernel
theorem d_law_588 : decode code 588 = .ok (.if_icmp .eq 292, 3) := by decide +kernel
theorem d_law_591 : decode code 591 = .ok (.iconst 0, 1) := by decide +kernel
theorem d_law_592 : decode code 592 = .ok (.ireturn, 1) := by decide +kernel
theorem d_law_593 : decode code 593 = .ok (.aload_n 1, 1) := by decide +kernel
theorem d_law_594 : decode code 594 = .ok (.aload_n 0, 1) := by decide +kernel
theorem d_law_595 : decode code 595 = .ok (.iload_n 3, 1) := by decide +kernel
theorem d_law_596 : decode code 596 = .ok (.iconst 1, 1) := by decide +kernel
theorem d_law_597 : decode code 597 = .ok (.iadd, 1) := by decide +kernel
theorem d_law_598 : decode code 598 = .ok (.iaload, 1) := by decide +kernel
theorem d_law_599 : decode code 599 = .ok (.aload_n 0, 1) := by decide +kernel
theorem d_law_600 : decode code 600 = .ok (.iload_n 3, 1) := by decide +kernel
theorem d_law_601 : decode code 601 = .ok (.iconst 2, 1) := by decide +kernel
theorem d_law_602 : decode code 602 = .ok (.iadd, 1) := by decide +kernel
theorem d_law_603 : decode code 603 = .ok (.iaload, 1) := by decide +kernel
theorem d_law_604 : decode code 604 = .ok (.invokevirtual 68, 3) := by decide +kernel
theorem d_law_607 : decode code 607 = .ok (.aload_n 2, 1) := by decide +kernel
theorem d_law_608 : decode code 608 = .ok (.aload_n 0, 1) := by decide +kernel
theorem d_law_609 : decode code 609 = .ok (.iload_n 3, 1) := by decide +kernel
theorem d_law_610 : decode code 610 = .ok (.iconst 1, 1) := by decide +kernel
theorem d_law_611 : decode code 611 = .ok (.iadd, 1) := by decide +kernel
theorem d_law_612 : decode code 612 = .ok (.iaload, 1) := by decide +kernel
theorem d_law_613 : decode code 613 = .ok (.aload_n 0, 1) := by decide +kernel
theorem d_law_614 : decode code 614 = .ok (.iload_n 3, 1) := by decide +kernel
theorem d_law_615 : decode code 615 = .ok (.iconst 2, 1) := by decide +kernel
theorem d_law_616 : decode code 616 = .ok (.iadd, 1) := by decide +kernel
theorem d_law_617 : decode code 617 = .ok (.iaload, 1) := by decide +kernel
theorem d_law_618 : decode code 618 = .ok (.invokevirtual 71, 3) := by decide +kernel
theorem d_law_621 : decode code 621 = .ok (.if_icmp .eq 259, 3) := by decide +kernel
theorem d_law_624 : decode code 624 = .ok (.iconst 0, 1) := by decide +kernel
theorem d_law_625 : decode code 625 = .ok (.ireturn, 1) := by decide +kernel
theorem d_law_626 : decode code 626 = .ok (.aload_n 1, 1) := by decide +kernel
theorem d_law_627 : decode code 627 = .ok (.aload_n 0, 1) := by decide +kernel
theorem d_law_628 : decode code 628 = .ok (.iload_n 3, 1) := by decide +kernel
theorem d_law_629 : decode code 629 = .ok (.iconst 1, 1) := by decide +kernel
theorem d_law_630 : decode code 630 = .ok (.iadd, 1) := by decide +kernel
theorem d_law_631 : decode code 631 = .ok (.iaload, 1) := by decide +kernel
theorem d_law_632 : decode code 632 = .ok (.invokevirtual 72, 3) := by decide +kernel
theorem d_law_635 : decode code 635 = .ok (.aload_n 2, 1) := by decide +kernel
theorem d_law_636 : decode code 636 = .ok (.aload_n 0, 1) := by decide +kernel
theorem d_law_637 : decode code 637 = .ok (.iload_n 3, 1) := by decide +kernel
theorem d_law_638 : decode code 638 = .ok (.iconst 1, 1) := by decide +kernel
theorem d_law_639 : decode code 639 = .ok (.iadd, 1) := by decide +kernel
theorem d_law_640 : decode code 640 = .ok (.iaload, 1) := by decide +kernel
theorem d_law_641 : decode code 641 = .ok (.invokevirtual 75, 3) := by decide +kernel
theorem d_law_644 : decode code 644 = .ok (.if_icmp .eq 236, 3) := by decide +kernel
theorem d_law_647 : decode code 647 = .ok (.iconst 0, 1) := by decide +kernel
theorem d_law_648 : decode code 648 = .ok (.ireturn, 1) := by decide +kernel
theorem d_law_649 : decode code 649 = .ok (.aload_n 1, 1) := by decide +kernel
theorem d_law_650 : decode code 650 = .ok (.aload_n 0, 1) := by decide +kernel
theorem d_law_651 : decode code 651 = .ok (.iload_n 3, 1) := by decide +kernel
theorem d_law_652 : decode code 652 = .ok (.iconst 1, 1) := by decide +kernel
theorem d_law_653 : decode code 653 = .ok (.iadd, 1) := by decide +kernel
theorem d_law_654 : decode code 654 = .ok (.iaload, 1) := by decide +kernel
theorem d_law_655 : decode code 655 = .ok (.invokevirtual 76, 3) := by decide +kernel
theorem d_law_658 : decode code 658 = .ok (.aload_n 2, 1) := by decide +kernel
theorem d_law_659 : decode code 659 = .ok (.aload_n 0, 1) := by decide +kernel
theorem d_law_660 : decode code 660 = .ok (.iload_n 3, 1) := by decide +kernel
theorem d_law_661 : decode code 661 = .ok (.iconst 1, 1) := by decide +kernel
theorem d_law_662 : decode code 662 = .ok (.iadd, 1) := by decide +kernel
theorem d_law_663 : decode code 663 = .ok (.iaload, 1) := by decide +kernel
theorem d_law_664 : decode code 664 = .ok (.invokevirtual 79, 3) := by decide +kernel
theorem d_law_667 : decode code 667 = .ok (.if_icmp .eq 213, 3) := by decide +kernel
theorem d_law_670 : decode code 670 = .ok (.iconst 0, 1) := by decide +kernel
theorem d_law_671 : decode code 671 = .ok (.ireturn, 1) := by decide +kernel
theorem d_law_672 : decode code 672 = .ok (.aload_n 1, 1) := by decide +kernel
theorem d_law_673 : decode code 673 = .ok (.aload_n 0, 1) := by decide +kernel
theorem d_law_674 : decode code 674 = .ok (.iload_n 3, 1) := by decide +kernel
theorem d_law_675 : decode code 675 = .ok (.iconst 1, 1) := by decide +kernel
theorem d_law_676 : decode code 676 = .ok (.iadd, 1) := by decide +kernel
theorem d_law_677 : decode code 677 = .ok (.iaload, 1) := by decide +kernel
theorem d_law_678 : decode code 678 = .ok (.aload_n 0, 1) := by decide +kernel
theorem d_law_679 : decode code 679 = .ok (.iload_n 3, 1) := by decide +kernel
theorem d_law_680 : decode code 680 = .ok (.iconst 2, 1) := by decide +kernel
theorem d_law_681 : decode code 681 = .ok (.iadd, 1) := by decide +kernel
theorem d_law_682 : decode code 682 = .ok (.iaload, 1) := by decide +kernel
theorem d_law_683 : decode code 683 = .ok (.invokevirtual 80, 3) := by decide +kernel
theorem d_law_686 : decode code 686 = .ok (.aload_n 2, 1) := by decide +kernel
theorem d_law_687 : decode code 687 = .ok (.aload_n 0, 1) := by decide +kernel
