/-! the law decoded -/
theorem dL_469 : decode code 469 = .ok (.aload_n 0, 1) := by decide +kernel
theorem dL_470 : decode code 470 = .ok (.iload_n 3, 1) := by decide +kernel
theorem dL_471 : decode code 471 = .ok (.iconst 3, 1) := by decide +kernel
theorem dL_472 : decode code 472 = .ok (.iadd, 1) := by decide +kernel
theorem dL_473 : decode code 473 = .ok (.iaload, 1) := by decide +kernel
theorem dL_474 : decode code 474 = .ok (.invokevirtual 39, 3) := by decide +kernel
theorem dL_477 : decode code 477 = .ok (.if_icmp .eq 970, 3) := by decide +kernel
theorem dL_482 : decode code 482 = .ok (.aload_n 1, 1) := by decide +kernel
theorem dL_483 : decode code 483 = .ok (.aload_n 0, 1) := by decide +kernel
theorem dL_484 : decode code 484 = .ok (.iload_n 3, 1) := by decide +kernel
theorem dL_485 : decode code 485 = .ok (.iconst 1, 1) := by decide +kernel
theorem dL_486 : decode code 486 = .ok (.iadd, 1) := by decide +kernel
theorem dL_487 : decode code 487 = .ok (.iaload, 1) := by decide +kernel
theorem dL_488 : decode code 488 = .ok (.aload_n 0, 1) := by decide +kernel
theorem dL_489 : decode code 489 = .ok (.iload_n 3, 1) := by decide +kernel
theorem dL_490 : decode code 490 = .ok (.iconst 2, 1) := by decide +kernel
theorem dL_491 : decode code 491 = .ok (.iadd, 1) := by decide +kernel
theorem dL_492 : decode code 492 = .ok (.iaload, 1) := by decide +kernel
theorem dL_493 : decode code 493 = .ok (.aload_n 0, 1) := by decide +kernel
theorem dL_494 : decode code 494 = .ok (.iload_n 3, 1) := by decide +kernel
theorem dL_495 : decode code 495 = .ok (.iconst 3, 1) := by decide +kernel
theorem dL_496 : decode code 496 = .ok (.iadd, 1) := by decide +kernel
theorem dL_497 : decode code 497 = .ok (.iaload, 1) := by decide +kernel
theorem dL_498 : decode code 498 = .ok (.invokevirtual 40, 3) := by decide +kernel
theorem dL_501 : decode code 501 = .ok (.aload_n 2, 1) := by decide +kernel
theorem dL_502 : decode code 502 = .ok (.aload_n 0, 1) := by decide +kernel
theorem dL_503 : decode code 503 = .ok (.iload_n 3, 1) := by decide +kernel
theorem dL_504 : decode code 504 = .ok (.iconst 1, 1) := by decide +kernel
theorem dL_505 : decode code 505 = .ok (.iadd, 1) := by decide +kernel
theorem dL_506 : decode code 506 = .ok (.iaload, 1) := by decide +kernel
theorem dL_507 : decode code 507 = .ok (.aload_n 0, 1) := by decide +kernel
theorem dL_508 : decode code 508 = .ok (.iload_n 3, 1) := by decide +kernel
theorem dL_509 : decode code 509 = .ok (.iconst 2, 1) := by decide +kernel
theorem dL_510 : decode code 510 = .ok (.iadd, 1) := by decide +kernel
theorem dL_511 : decode code 511 = .ok (.iaload, 1) := by decide +kernel
theorem dL_512 : decode code 512 = .ok (.aload_n 0, 1) := by decide +kernel
theorem dL_513 : decode code 513 = .ok (.iload_n 3, 1) := by decide +kernel
theorem dL_514 : decode code 514 = .ok (.iconst 3, 1) := by decide +kernel
theorem dL_515 : decode code 515 = .ok (.iadd, 1) := by decide +kernel
theorem dL_516 : decode code 516 = .ok (.iaload, 1) := by decide +kernel
theorem dL_517 : decode code 517 = .ok (.invokevirtual 43, 3) := by decide +kernel
theorem dL_520 : decode code 520 = .ok (.if_icmp .eq 927, 3) := by decide +kernel
theorem dL_525 : decode code 525 = .ok (.aload_n 1, 1) := by decide +kernel
theorem dL_526 : decode code 526 = .ok (.aload_n 0, 1) := by decide +kernel
theorem dL_527 : decode code 527 = .ok (.iload_n 3, 1) := by decide +kernel
theorem dL_528 : decode code 528 = .ok (.iconst 1, 1) := by decide +kernel
theorem dL_529 : decode code 529 = .ok (.iadd, 1) := by decide +kernel
theorem dL_530 : decode code 530 = .ok (.iaload, 1) := by decide +kernel
theorem dL_531 : decode code 531 = .ok (.invokevirtual 44, 3) := by decide +kernel
theorem dL_534 : decode code 534 = .ok (.aload_n 2, 1) := by decide +kernel
theorem dL_535 : decode code 535 = .ok (.aload_n 0, 1) := by decide +kernel
theorem dL_536 : decode code 536 = .ok (.iload_n 3, 1) := by decide +kernel
theorem dL_537 : decode code 537 = .ok (.iconst 1, 1) := by decide +kernel
theorem dL_538 : decode code 538 = .ok (.iadd, 1) := by decide +kernel
theorem dL_539 : decode code 539 = .ok (.iaload, 1) := by decide +kernel
theorem dL_540 : decode code 540 = .ok (.invokevirtual 48, 3) := by decide +kernel
theorem dL_543 : decode code 543 = .ok (.if_icmp .eq 904, 3) := by decide +kernel
theorem dL_548 : decode code 548 = .ok (.aload_n 1, 1) := by decide +kernel
theorem dL_549 : decode code 549 = .ok (.aload_n 0, 1) := by decide +kernel
theorem dL_550 : decode code 550 = .ok (.iload_n 3, 1) := by decide +kernel
theorem dL_551 : decode code 551 = .ok (.iconst 1, 1) := by decide +kernel
theorem dL_552 : decode code 552 = .ok (.iadd, 1) := by decide +kernel
theorem dL_553 : decode code 553 = .ok (.iaload, 1) := by decide +kernel
theorem dL_554 : decode code 554 = .ok (.aload_n 0, 1) := by decide +kernel
theorem dL_555 : decode code 555 = .ok (.iload_n 3, 1) := by decide +kernel
theorem dL_556 : decode code 556 = .ok (.iconst 2, 1) := by decide +kernel
theorem dL_557 : decode code 557 = .ok (.iadd, 1) := by decide +kernel
theorem dL_558 : decode code 558 = .ok (.iaload, 1) := by decide +kernel
theorem dL_559 : decode code 559 = .ok (.invokevirtual 49, 3) := by decide +kernel
theorem dL_562 : decode code 562 = .ok (.aload_n 2, 1) := by decide +kernel
theorem dL_563 : decode code 563 = .ok (.aload_n 0, 1) := by decide +kernel
theorem dL_564 : decode code 564 = .ok (.iload_n 3, 1) := by decide +kernel
theorem dL_565 : decode code 565 = .ok (.iconst 1, 1) := by decide +kernel
theorem dL_566 : decode code 566 = .ok (.iadd, 1) := by decide +kernel
theorem dL_567 : decode code 567 = .ok (.iaload, 1) := by decide +kernel
theorem dL_568 : decode code 568 = .ok (.aload_n 0, 1) := by decide +kernel
theorem dL_569 : decode code 569 = .ok (.iload_n 3, 1) := by decide +kernel
theorem dL_570 : decode code 570 = .ok (.iconst 2, 1) := by decide +kernel
theorem dL_571 : decode code 571 = .ok (.iadd, 1) := by decide +kernel
theorem dL_572 : decode code 572 = .ok (.iaload, 1) := by decide +kernel
theorem dL_573 : decode code 573 = .ok (.invokevirtual 52, 3) := by decide +kernel
theorem dL_576 : decode code 576 = .ok (.if_icmp .eq 871, 3) := by decide +kernel
theorem dL_581 : decode code 581 = .ok (.aload_n 1, 1) := by decide +kernel
theorem dL_582 : decode code 582 = .ok (.aload_n 0, 1) := by decide +kernel
theorem dL_583 : decode code 583 = .ok (.iload_n 3, 1) := by decide +kernel
theorem dL_584 : decode code 584 = .ok (.iconst 1, 1) := by decide +kernel
theorem dL_585 : decode code 585 = .ok (.iadd, 1) := by decide +kernel
theorem dL_586 : decode code 586 = .ok (.iaload, 1) := by decide +kernel
theorem dL_587 : decode code 587 = .ok (.aload_n 0, 1) := by decide +kernel
theorem dL_588 : decode code 588 = .ok (.iload_n 3, 1) := by decide +kernel
theorem dL_589 : decode code 589 = .ok (.iconst 2, 1) := by decide +kernel
theorem dL_590 : decode code 590 = .ok (.iadd, 1) := by decide +kernel
theorem dL_591 : decode code 591 = .ok (.iaload, 1) := by decide +kernel
theorem dL_592 : decode code 592 = .ok (.aload_n 0, 1) := by decide +kernel
theorem dL_593 : decode code 593 = .ok (.iload_n 3, 1) := by decide +kernel
theorem dL_594 : decode code 594 = .ok (.iconst 3, 1) := by decide +kernel
theorem dL_595 : decode code 595 = .ok (.iadd, 1) := by decide +kernel
theorem dL_596 : decode code 596 = .ok (.iaload, 1) := by decide +kernel
theorem dL_597 : decode code 597 = .ok (.aload_n 0, 1) := by decide +kernel
theorem dL_598 : decode code 598 = .ok (.iload_n 3, 1) := by decide +kernel
theorem dL_599 : decode code 599 = .ok (.iconst 4, 1) := by decide +kernel
theorem dL_600 : decode code 600 = .ok (.iadd, 1) := by decide +kernel
theorem dL_601 : decode code 601 = .ok (.iaload, 1) := by decide +kernel
theorem dL_602 : decode code 602 = .ok (.aload_n 0, 1) := by decide +kernel
theorem dL_603 : decode code 603 = .ok (.iload_n 3, 1) := by decide +kernel
theorem dL_604 : decode code 604 = .ok (.iconst 5, 1) := by decide +kernel
theorem dL_605 : decode code 605 = .ok (.iadd, 1) := by decide +kernel
theorem dL_606 : decode code 606 = .ok (.iaload, 1) := by decide +kernel
theorem dL_607 : decode code 607 = .ok (.invokevirtual 53, 3) := by decide +kernel
theorem dL_610 : decode code 610 = .ok (.aload_n 2, 1) := by decide +kernel
theorem dL_611 : decode code 611 = .ok (.aload_n 0, 1) := by decide +kernel
theorem dL_612 : decode code 612 = .ok (.iload_n 3, 1) := by decide +kernel
theorem dL_613 : decode code 613 = .ok (.iconst 1, 1) := by decide +kernel
theorem dL_614 : decode code 614 = .ok (.iadd, 1) := by decide +kernel
theorem dL_615 : decode code 615 = .ok (.iaload, 1) := by decide +kernel
theorem dL_616 : decode code 616 = .ok (.aload_n 0, 1) := by decide +kernel
theorem dL_617 : decode code 617 = .ok (.iload_n 3, 1) := by decide +kernel
theorem dL_618 : decode code 618 = .ok (.iconst 2, 1) := by decide +kernel
theorem dL_619 : decode code 619 = .ok (.iadd, 1) := by decide +kernel
theorem dL_620 : decode code 620 = .ok (.iaload, 1) := by decide +kernel
theorem dL_621 : decode code 621 = .ok (.aload_n 0, 1) := by decide +kernel
theorem dL_622 : decode code 622 = .ok (.iload_n 3, 1) := by decide +kernel
theorem dL_623 : decode code 623 = .ok (.iconst 3, 1) := by decide +kernel
theorem dL_624 : decode code 624 = .ok (.iadd, 1) := by decide +kernel
theorem dL_625 : decode code 625 = .ok (.iaload, 1) := by decide +kernel
theorem dL_626 : decode code 626 = .ok (.aload_n 0, 1) := by decide +kernel
theorem dL_627 : decode code 627 = .ok (.iload_n 3, 1) := by decide +kernel
theorem dL_628 : decode code 628 = .ok (.iconst 4, 1) := by decide +kernel
theorem dL_629 : decode code 629 = .ok (.iadd, 1) := by decide +kernel
theorem dL_630 : decode code 630 = .ok (.iaload, 1) := by decide +kernel
theorem dL_631 : decode code 631 = .ok (.aload_n 0, 1) := by decide +kernel
theorem dL_632 : decode code 632 = .ok (.iload_n 3, 1) := by decide +kernel
theorem dL_633 : decode code 633 = .ok (.iconst 5, 1) := by decide +kernel
theorem dL_634 : decode code 634 = .ok (.iadd, 1) := by decide +kernel
theorem dL_635 : decode code 635 = .ok (.iaload, 1) := by decide +kernel
theorem dL_636 : decode code 636 = .ok (.invokevirtual 57, 3) := by decide +kernel
theorem dL_639 : decode code 639 = .ok (.if_icmp .eq 808, 3) := by decide +kernel
theorem dL_644 : decode code 644 = .ok (.aload_n 1, 1) := by decide +kernel
theorem dL_645 : decode code 645 = .ok (.aload_n 0, 1) := by decide +kernel
theorem dL_646 : decode code 646 = .ok (.iload_n 3, 1) := by decide +kernel
theorem dL_647 : decode code 647 = .ok (.iconst 1, 1) := by decide +kernel
theorem dL_648 : decode code 648 = .ok (.iadd, 1) := by decide +kernel
theorem dL_649 : decode code 649 = .ok (.iaload, 1) := by decide +kernel
theorem dL_650 : decode code 650 = .ok (.invokevirtual 58, 3) := by decide +kernel
theorem dL_653 : decode code 653 = .ok (.aload_n 2, 1) := by decide +kernel
theorem dL_654 : decode code 654 = .ok (.aload_n 0, 1) := by decide +kernel
theorem dL_655 : decode code 655 = .ok (.iload_n 3, 1) := by decide +kernel
theorem dL_656 : decode code 656 = .ok (.iconst 1, 1) := by decide +kernel
theorem dL_657 : decode code 657 = .ok (.iadd, 1) := by decide +kernel
theorem dL_658 : decode code 658 = .ok (.iaload, 1) := by decide +kernel
theorem dL_659 : decode code 659 = .ok (.invokevirtual 61, 3) := by decide +kernel
theorem dL_662 : decode code 662 = .ok (.if_icmp .eq 785, 3) := by decide +kernel
theorem dL_667 : decode code 667 = .ok (.aload_n 1, 1) := by decide +kernel
theorem dL_668 : decode code 668 = .ok (.invokevirtual 62, 3) := by decide +kernel
theorem dL_671 : decode code 671 = .ok (.aload_n 2, 1) := by decide +kernel
theorem dL_672 : decode code 672 = .ok (.invokevirtual 66, 3) := by decide +kernel
theorem dL_675 : decode code 675 = .ok (.if_icmp .eq 772, 3) := by decide +kernel
theorem dL_680 : decode code 680 = .ok (.aload_n 1, 1) := by decide +kernel
theorem dL_681 : decode code 681 = .ok (.invokevirtual 67, 3) := by decide +kernel
theorem dL_684 : decode code 684 = .ok (.aload_n 2, 1) := by decide +kernel
theorem dL_685 : decode code 685 = .ok (.invokevirtual 70, 3) := by decide +kernel
theorem dL_688 : decode code 688 = .ok (.if_icmp .eq 759, 3) := by decide +kernel
theorem dL_693 : decode code 693 = .ok (.aload_n 1, 1) := by decide +kernel
theorem dL_694 : decode code 694 = .ok (.invokevirtual 71, 3) := by decide +kernel
theorem dL_697 : decode code 697 = .ok (.aload_n 2, 1) := by decide +kernel
theorem dL_698 : decode code 698 = .ok (.invokevirtual 74, 3) := by decide +kernel
theorem dL_701 : decode code 701 = .ok (.if_icmp .eq 746, 3) := by decide +kernel
theorem dL_706 : decode code 706 = .ok (.aload_n 1, 1) := by decide +kernel
theorem dL_707 : decode code 707 = .ok (.invokevirtual 75, 3) := by decide +kernel
theorem dL_710 : decode code 710 = .ok (.aload_n 2, 1) := by decide +kernel
theorem dL_711 : decode code 711 = .ok (.invokevirtual 78, 3) := by decide +kernel
theorem dL_714 : decode code 714 = .ok (.if_icmp .eq 733, 3) := by decide +kernel
theorem dL_719 : decode code 719 = .ok (.aload_n 1, 1) := by decide +kernel
theorem dL_720 : decode code 720 = .ok (.aload_n 0, 1) := by decide +kernel
theorem dL_721 : decode code 721 = .ok (.iload_n 3, 1) := by decide +kernel
theorem dL_722 : decode code 722 = .ok (.iconst 1, 1) := by decide +kernel
theorem dL_723 : decode code 723 = .ok (.iadd, 1) := by decide +kernel
theorem dL_724 : decode code 724 = .ok (.iaload, 1) := by decide +kernel
theorem dL_725 : decode code 725 = .ok (.invokevirtual 79, 3) := by decide +kernel
theorem dL_728 : decode code 728 = .ok (.aload_n 2, 1) := by decide +kernel
theorem dL_729 : decode code 729 = .ok (.aload_n 0, 1) := by decide +kernel
theorem dL_730 : decode code 730 = .ok (.iload_n 3, 1) := by decide +kernel
theorem dL_731 : decode code 731 = .ok (.iconst 1, 1) := by decide +kernel
theorem dL_732 : decode code 732 = .ok (.iadd, 1) := by decide +kernel
theorem dL_733 : decode code 733 = .ok (.iaload, 1) := by decide +kernel
theorem dL_734 : decode code 734 = .ok (.invokevirtual 82, 3) := by decide +kernel
theorem dL_737 : decode code 737 = .ok (.if_icmp .eq 710, 3) := by decide +kernel
theorem dL_742 : decode code 742 = .ok (.aload_n 1, 1) := by decide +kernel
theorem dL_743 : decode code 743 = .ok (.aload_n 0, 1) := by decide +kernel
theorem dL_744 : decode code 744 = .ok (.iload_n 3, 1) := by decide +kernel
theorem dL_745 : decode code 745 = .ok (.iconst 1, 1) := by decide +kernel
theorem dL_746 : decode code 746 = .ok (.iadd, 1) := by decide +kernel
theorem dL_747 : decode code 747 = .ok (.iaload, 1) := by decide +kernel
theorem dL_748 : decode code 748 = .ok (.invokevirtual 83, 3) := by decide +kernel
theorem dL_751 : decode code 751 = .ok (.aload_n 2, 1) := by decide +kernel
theorem dL_752 : decode code 752 = .ok (.aload_n 0, 1) := by decide +kernel
theorem dL_753 : decode code 753 = .ok (.iload_n 3, 1) := by decide +kernel
theorem dL_754 : decode code 754 = .ok (.iconst 1, 1) := by decide +kernel
theorem dL_755 : decode code 755 = .ok (.iadd, 1) := by decide +kernel
theorem dL_756 : decode code 756 = .ok (.iaload, 1) := by decide +kernel
theorem dL_757 : decode code 757 = .ok (.invokevirtual 86, 3) := by decide +kernel
theorem dL_760 : decode code 760 = .ok (.if_icmp .eq 687, 3) := by decide +kernel
theorem dL_765 : decode code 765 = .ok (.aload_n 1, 1) := by decide +kernel
theorem dL_766 : decode code 766 = .ok (.aload_n 0, 1) := by decide +kernel
theorem dL_767 : decode code 767 = .ok (.iload_n 3, 1) := by decide +kernel
theorem dL_768 : decode code 768 = .ok (.iconst 1, 1) := by decide +kernel
theorem dL_769 : decode code 769 = .ok (.iadd, 1) := by decide +kernel
theorem dL_770 : decode code 770 = .ok (.iaload, 1) := by decide +kernel
theorem dL_771 : decode code 771 = .ok (.invokevirtual 87, 3) := by decide +kernel
theorem dL_774 : decode code 774 = .ok (.aload_n 2, 1) := by decide +kernel
theorem dL_775 : decode code 775 = .ok (.aload_n 0, 1) := by decide +kernel
theorem dL_776 : decode code 776 = .ok (.iload_n 3, 1) := by decide +kernel
theorem dL_777 : decode code 777 = .ok (.iconst 1, 1) := by decide +kernel
theorem dL_778 : decode code 778 = .ok (.iadd, 1) := by decide +kernel
theorem dL_779 : decode code 779 = .ok (.iaload, 1) := by decide +kernel
theorem dL_780 : decode code 780 = .ok (.invokevirtual 90, 3) := by decide +kernel
theorem dL_783 : decode code 783 = .ok (.if_icmp .eq 664, 3) := by decide +kernel
theorem dL_788 : decode code 788 = .ok (.aload_n 1, 1) := by decide +kernel
theorem dL_789 : decode code 789 = .ok (.invokevirtual 91, 3) := by decide +kernel
theorem dL_792 : decode code 792 = .ok (.aload_n 2, 1) := by decide +kernel
theorem dL_793 : decode code 793 = .ok (.invokevirtual 94, 3) := by decide +kernel
theorem dL_796 : decode code 796 = .ok (.if_icmp .eq 651, 3) := by decide +kernel
theorem dL_801 : decode code 801 = .ok (.aload_n 1, 1) := by decide +kernel
theorem dL_802 : decode code 802 = .ok (.aload_n 0, 1) := by decide +kernel
theorem dL_803 : decode code 803 = .ok (.iload_n 3, 1) := by decide +kernel
