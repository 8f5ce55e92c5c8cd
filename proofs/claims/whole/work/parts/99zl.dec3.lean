theorem dW_497 : decode code 497 = .ok (.iload_n 3, 1) := by decide +kernel
theorem dW_498 : decode code 498 = .ok (.iconst 1, 1) := by decide +kernel
theorem dW_499 : decode code 499 = .ok (.iadd, 1) := by decide +kernel
theorem dW_500 : decode code 500 = .ok (.iaload, 1) := by decide +kernel
theorem dW_501 : decode code 501 = .ok (.aload_n 0, 1) := by decide +kernel
theorem dW_502 : decode code 502 = .ok (.iload_n 3, 1) := by decide +kernel
theorem dW_503 : decode code 503 = .ok (.iconst 2, 1) := by decide +kernel
theorem dW_504 : decode code 504 = .ok (.iadd, 1) := by decide +kernel
theorem dW_505 : decode code 505 = .ok (.iaload, 1) := by decide +kernel
theorem dW_506 : decode code 506 = .ok (.i2l, 1) := by decide +kernel
theorem dW_507 : decode code 507 = .ok (.bipush 32, 2) := by decide +kernel
theorem dW_509 : decode code 509 = .ok (.lshl, 1) := by decide +kernel
theorem dW_510 : decode code 510 = .ok (.aload_n 0, 1) := by decide +kernel
theorem dW_511 : decode code 511 = .ok (.iload_n 3, 1) := by decide +kernel
theorem dW_512 : decode code 512 = .ok (.iconst 3, 1) := by decide +kernel
theorem dW_513 : decode code 513 = .ok (.iadd, 1) := by decide +kernel
theorem dW_514 : decode code 514 = .ok (.iaload, 1) := by decide +kernel
theorem dW_515 : decode code 515 = .ok (.i2l, 1) := by decide +kernel
theorem dW_516 : decode code 516 = .ok (.ldc2_w 13, 3) := by decide +kernel
theorem dW_519 : decode code 519 = .ok (.land, 1) := by decide +kernel
theorem dW_520 : decode code 520 = .ok (.lor, 1) := by decide +kernel
theorem dW_521 : decode code 521 = .ok (.invokevirtual 37, 3) := by decide +kernel
theorem dW_524 : decode code 524 = .ok (.if_icmp .eq 723, 3) := by decide +kernel
theorem dW_527 : decode code 527 = .ok (.iconst 0, 1) := by decide +kernel
theorem dW_528 : decode code 528 = .ok (.ireturn, 1) := by decide +kernel
theorem dW_529 : decode code 529 = .ok (.aload_n 1, 1) := by decide +kernel
theorem dW_530 : decode code 530 = .ok (.aload_n 0, 1) := by decide +kernel
theorem dW_531 : decode code 531 = .ok (.iload_n 3, 1) := by decide +kernel
theorem dW_532 : decode code 532 = .ok (.iconst 1, 1) := by decide +kernel
theorem dW_533 : decode code 533 = .ok (.iadd, 1) := by decide +kernel
theorem dW_534 : decode code 534 = .ok (.iaload, 1) := by decide +kernel
theorem dW_535 : decode code 535 = .ok (.aload_n 0, 1) := by decide +kernel
theorem dW_536 : decode code 536 = .ok (.iload_n 3, 1) := by decide +kernel
theorem dW_537 : decode code 537 = .ok (.iconst 2, 1) := by decide +kernel
theorem dW_538 : decode code 538 = .ok (.iadd, 1) := by decide +kernel
theorem dW_539 : decode code 539 = .ok (.iaload, 1) := by decide +kernel
theorem dW_540 : decode code 540 = .ok (.invokevirtual 38, 3) := by decide +kernel
theorem dW_543 : decode code 543 = .ok (.aload_n 2, 1) := by decide +kernel
theorem dW_544 : decode code 544 = .ok (.aload_n 0, 1) := by decide +kernel
theorem dW_545 : decode code 545 = .ok (.iload_n 3, 1) := by decide +kernel
theorem dW_546 : decode code 546 = .ok (.iconst 1, 1) := by decide +kernel
theorem dW_547 : decode code 547 = .ok (.iadd, 1) := by decide +kernel
theorem dW_548 : decode code 548 = .ok (.iaload, 1) := by decide +kernel
theorem dW_549 : decode code 549 = .ok (.aload_n 0, 1) := by decide +kernel
theorem dW_550 : decode code 550 = .ok (.iload_n 3, 1) := by decide +kernel
theorem dW_551 : decode code 551 = .ok (.iconst 2, 1) := by decide +kernel
theorem dW_552 : decode code 552 = .ok (.iadd, 1) := by decide +kernel
theorem dW_553 : decode code 553 = .ok (.iaload, 1) := by decide +kernel
theorem dW_554 : decode code 554 = .ok (.invokevirtual 42, 3) := by decide +kernel
theorem dW_557 : decode code 557 = .ok (.if_icmp .eq 690, 3) := by decide +kernel
theorem dW_560 : decode code 560 = .ok (.iconst 0, 1) := by decide +kernel
theorem dW_561 : decode code 561 = .ok (.ireturn, 1) := by decide +kernel
theorem dW_562 : decode code 562 = .ok (.aload_n 1, 1) := by decide +kernel
theorem dW_563 : decode code 563 = .ok (.invokevirtual 43, 3) := by decide +kernel
theorem dW_566 : decode code 566 = .ok (.aload_n 2, 1) := by decide +kernel
theorem dW_567 : decode code 567 = .ok (.invokevirtual 47, 3) := by decide +kernel
theorem dW_570 : decode code 570 = .ok (.if_icmp .eq 677, 3) := by decide +kernel
theorem dW_573 : decode code 573 = .ok (.iconst 0, 1) := by decide +kernel
theorem dW_574 : decode code 574 = .ok (.ireturn, 1) := by decide +kernel
theorem dW_575 : decode code 575 = .ok (.aload_n 1, 1) := by decide +kernel
theorem dW_576 : decode code 576 = .ok (.invokevirtual 48, 3) := by decide +kernel
theorem dW_579 : decode code 579 = .ok (.aload_n 2, 1) := by decide +kernel
theorem dW_580 : decode code 580 = .ok (.invokevirtual 51, 3) := by decide +kernel
theorem dW_583 : decode code 583 = .ok (.if_icmp .eq 664, 3) := by decide +kernel
theorem dW_586 : decode code 586 = .ok (.iconst 0, 1) := by decide +kernel
theorem dW_587 : decode code 587 = .ok (.ireturn, 1) := by decide +kernel
theorem dW_588 : decode code 588 = .ok (.aload_n 1, 1) := by decide +kernel
theorem dW_589 : decode code 589 = .ok (.aload_n 0, 1) := by decide +kernel
theorem dW_590 : decode code 590 = .ok (.iload_n 3, 1) := by decide +kernel
theorem dW_591 : decode code 591 = .ok (.iconst 1, 1) := by decide +kernel
theorem dW_592 : decode code 592 = .ok (.iadd, 1) := by decide +kernel
theorem dW_593 : decode code 593 = .ok (.iaload, 1) := by decide +kernel
theorem dW_594 : decode code 594 = .ok (.invokevirtual 52, 3) := by decide +kernel
theorem dW_597 : decode code 597 = .ok (.aload_n 2, 1) := by decide +kernel
theorem dW_598 : decode code 598 = .ok (.aload_n 0, 1) := by decide +kernel
theorem dW_599 : decode code 599 = .ok (.iload_n 3, 1) := by decide +kernel
theorem dW_600 : decode code 600 = .ok (.iconst 1, 1) := by decide +kernel
theorem dW_601 : decode code 601 = .ok (.iadd, 1) := by decide +kernel
theorem dW_602 : decode code 602 = .ok (.iaload, 1) := by decide +kernel
theorem dW_603 : decode code 603 = .ok (.invokevirtual 56, 3) := by decide +kernel
theorem dW_606 : decode code 606 = .ok (.if_icmp .eq 641, 3) := by decide +kernel
theorem dW_609 : decode code 609 = .ok (.iconst 0, 1) := by decide +kernel
theorem dW_610 : decode code 610 = .ok (.ireturn, 1) := by decide +kernel
theorem dW_611 : decode code 611 = .ok (.aload_n 1, 1) := by decide +kernel
theorem dW_612 : decode code 612 = .ok (.aload_n 0, 1) := by decide +kernel
theorem dW_613 : decode code 613 = .ok (.iload_n 3, 1) := by decide +kernel
theorem dW_614 : decode code 614 = .ok (.iconst 1, 1) := by decide +kernel
theorem dW_615 : decode code 615 = .ok (.iadd, 1) := by decide +kernel
theorem dW_616 : decode code 616 = .ok (.iaload, 1) := by decide +kernel
theorem dW_617 : decode code 617 = .ok (.invokevirtual 57, 3) := by decide +kernel
theorem dW_620 : decode code 620 = .ok (.aload_n 2, 1) := by decide +kernel
theorem dW_621 : decode code 621 = .ok (.aload_n 0, 1) := by decide +kernel
theorem dW_622 : decode code 622 = .ok (.iload_n 3, 1) := by decide +kernel
theorem dW_623 : decode code 623 = .ok (.iconst 1, 1) := by decide +kernel
theorem dW_624 : decode code 624 = .ok (.iadd, 1) := by decide +kernel
theorem dW_625 : decode code 625 = .ok (.iaload, 1) := by decide +kernel
theorem dW_626 : decode code 626 = .ok (.invokevirtual 60, 3) := by decide +kernel
theorem dW_629 : decode code 629 = .ok (.if_icmp .eq 618, 3) := by decide +kernel
theorem dW_632 : decode code 632 = .ok (.iconst 0, 1) := by decide +kernel
theorem dW_633 : decode code 633 = .ok (.ireturn, 1) := by decide +kernel
theorem dW_634 : decode code 634 = .ok (.aload_n 1, 1) := by decide +kernel
theorem dW_635 : decode code 635 = .ok (.invokevirtual 61, 3) := by decide +kernel
theorem dW_638 : decode code 638 = .ok (.aload_n 2, 1) := by decide +kernel
theorem dW_639 : decode code 639 = .ok (.invokevirtual 64, 3) := by decide +kernel
theorem dW_642 : decode code 642 = .ok (.if_icmp .eq 605, 3) := by decide +kernel
theorem dW_645 : decode code 645 = .ok (.iconst 0, 1) := by decide +kernel
theorem dW_646 : decode code 646 = .ok (.ireturn, 1) := by decide +kernel
theorem dW_647 : decode code 647 = .ok (.aload_n 1, 1) := by decide +kernel
theorem dW_648 : decode code 648 = .ok (.aload_n 0, 1) := by decide +kernel
theorem dW_649 : decode code 649 = .ok (.iload_n 3, 1) := by decide +kernel
theorem dW_650 : decode code 650 = .ok (.iconst 1, 1) := by decide +kernel
theorem dW_651 : decode code 651 = .ok (.iadd, 1) := by decide +kernel
theorem dW_652 : decode code 652 = .ok (.iaload, 1) := by decide +kernel
theorem dW_653 : decode code 653 = .ok (.invokevirtual 65, 3) := by decide +kernel
theorem dW_656 : decode code 656 = .ok (.aload_n 2, 1) := by decide +kernel
theorem dW_657 : decode code 657 = .ok (.aload_n 0, 1) := by decide +kernel
theorem dW_658 : decode code 658 = .ok (.iload_n 3, 1) := by decide +kernel
theorem dW_659 : decode code 659 = .ok (.iconst 1, 1) := by decide +kernel
theorem dW_660 : decode code 660 = .ok (.iadd, 1) := by decide +kernel
theorem dW_661 : decode code 661 = .ok (.iaload, 1) := by decide +kernel
theorem dW_662 : decode code 662 = .ok (.invokevirtual 68, 3) := by decide +kernel
theorem dW_665 : decode code 665 = .ok (.if_icmp .eq 582, 3) := by decide +kernel
theorem dW_668 : decode code 668 = .ok (.iconst 0, 1) := by decide +kernel
theorem dW_669 : decode code 669 = .ok (.ireturn, 1) := by decide +kernel
theorem dW_670 : decode code 670 = .ok (.aload_n 1, 1) := by decide +kernel
theorem dW_671 : decode code 671 = .ok (.aload_n 0, 1) := by decide +kernel
theorem dW_672 : decode code 672 = .ok (.iload_n 3, 1) := by decide +kernel
theorem dW_673 : decode code 673 = .ok (.iconst 1, 1) := by decide +kernel
theorem dW_674 : decode code 674 = .ok (.iadd, 1) := by decide +kernel
theorem dW_675 : decode code 675 = .ok (.iaload, 1) := by decide +kernel
theorem dW_676 : decode code 676 = .ok (.aload_n 0, 1) := by decide +kernel
theorem dW_677 : decode code 677 = .ok (.iload_n 3, 1) := by decide +kernel
theorem dW_678 : decode code 678 = .ok (.iconst 2, 1) := by decide +kernel
theorem dW_679 : decode code 679 = .ok (.iadd, 1) := by decide +kernel
theorem dW_680 : decode code 680 = .ok (.iaload, 1) := by decide +kernel
theorem dW_681 : decode code 681 = .ok (.invokevirtual 69, 3) := by decide +kernel
theorem dW_684 : decode code 684 = .ok (.aload_n 2, 1) := by decide +kernel
theorem dW_685 : decode code 685 = .ok (.aload_n 0, 1) := by decide +kernel
theorem dW_686 : decode code 686 = .ok (.iload_n 3, 1) := by decide +kernel
theorem dW_687 : decode code 687 = .ok (.iconst 1, 1) := by decide +kernel
theorem dW_688 : decode code 688 = .ok (.iadd, 1) := by decide +kernel
theorem dW_689 : decode code 689 = .ok (.iaload, 1) := by decide +kernel
theorem dW_690 : decode code 690 = .ok (.aload_n 0, 1) := by decide +kernel
theorem dW_691 : decode code 691 = .ok (.iload_n 3, 1) := by decide +kernel
theorem dW_692 : decode code 692 = .ok (.iconst 2, 1) := by decide +kernel
