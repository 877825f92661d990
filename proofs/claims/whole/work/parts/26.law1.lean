set_option maxRecDepth 100000 in
theorem d240_529 : decode (xmb 240) 529 = .ok (.istore 6, 2) := by decide +kernel
set_option maxRecDepth 100000 in
theorem d240_531 : decode (xmb 240) 531 = .ok (.aload_n 2, 1) := by decide +kernel
set_option maxRecDepth 100000 in
theorem d240_532 : decode (xmb 240) 532 = .ok (.invokevirtual 115, 3) := by decide +kernel
set_option maxRecDepth 100000 in
theorem d240_535 : decode (xmb 240) 535 = .ok (.iload 5, 2) := by decide +kernel
set_option maxRecDepth 100000 in
theorem d240_537 : decode (xmb 240) 537 = .ok (.if_icmp .eq 5, 3) := by decide +kernel
set_option maxRecDepth 100000 in
theorem d240_540 : decode (xmb 240) 540 = .ok (.iconst 0, 1) := by decide +kernel
set_option maxRecDepth 100000 in
theorem d240_541 : decode (xmb 240) 541 = .ok (.ireturn, 1) := by decide +kernel
set_option maxRecDepth 100000 in
theorem d240_542 : decode (xmb 240) 542 = .ok (.iload 5, 2) := by decide +kernel
set_option maxRecDepth 100000 in
theorem d240_544 : decode (xmb 240) 544 = .ok (.ifCond .ne 15, 3) := by decide +kernel
set_option maxRecDepth 100000 in
theorem d240_547 : decode (xmb 240) 547 = .ok (.aload_n 3, 1) := by decide +kernel
set_option maxRecDepth 100000 in
theorem d240_548 : decode (xmb 240) 548 = .ok (.iconst 0, 1) := by decide +kernel
set_option maxRecDepth 100000 in
theorem d240_549 : decode (xmb 240) 549 = .ok (.laload, 1) := by decide +kernel
set_option maxRecDepth 100000 in
theorem d240_550 : decode (xmb 240) 550 = .ok (.iload 6, 2) := by decide +kernel
set_option maxRecDepth 100000 in
theorem d240_552 : decode (xmb 240) 552 = .ok (.i2l, 1) := by decide +kernel
set_option maxRecDepth 100000 in
theorem d240_553 : decode (xmb 240) 553 = .ok (.lcmp, 1) := by decide +kernel
set_option maxRecDepth 100000 in
theorem d240_554 : decode (xmb 240) 554 = .ok (.ifCond .eq 5, 3) := by decide +kernel
set_option maxRecDepth 100000 in
theorem d240_557 : decode (xmb 240) 557 = .ok (.iconst 0, 1) := by decide +kernel
set_option maxRecDepth 100000 in
theorem d240_558 : decode (xmb 240) 558 = .ok (.ireturn, 1) := by decide +kernel
set_option maxRecDepth 100000 in
theorem d240_559 : decode (xmb 240) 559 = .ok (.goto 1552, 3) := by decide +kernel
set_option maxRecDepth 100000 in
theorem d240_562 : decode (xmb 240) 562 = .ok (.aload_n 1, 1) := by decide +kernel
set_option maxRecDepth 100000 in
theorem d240_563 : decode (xmb 240) 563 = .ok (.aload_n 0, 1) := by decide +kernel
set_option maxRecDepth 100000 in
theorem d240_564 : decode (xmb 240) 564 = .ok (.iload 4, 2) := by decide +kernel
set_option maxRecDepth 100000 in
theorem d240_566 : decode (xmb 240) 566 = .ok (.iconst 1, 1) := by decide +kernel
set_option maxRecDepth 100000 in
theorem d240_567 : decode (xmb 240) 567 = .ok (.iadd, 1) := by decide +kernel
set_option maxRecDepth 100000 in
theorem d240_568 : decode (xmb 240) 568 = .ok (.iaload, 1) := by decide +kernel
set_option maxRecDepth 100000 in
theorem d240_569 : decode (xmb 240) 569 = .ok (.aload_n 3, 1) := by decide +kernel
set_option maxRecDepth 100000 in
theorem d240_570 : decode (xmb 240) 570 = .ok (.invokestatic 143, 3) := by decide +kernel
set_option maxRecDepth 100000 in
theorem d240_573 : decode (xmb 240) 573 = .ok (.istore 5, 2) := by decide +kernel
set_option maxRecDepth 100000 in
theorem d240_575 : decode (xmb 240) 575 = .ok (.aload_n 2, 1) := by decide +kernel
set_option maxRecDepth 100000 in
theorem d240_576 : decode (xmb 240) 576 = .ok (.aload_n 0, 1) := by decide +kernel
set_option maxRecDepth 100000 in
theorem d240_577 : decode (xmb 240) 577 = .ok (.iload 4, 2) := by decide +kernel
set_option maxRecDepth 100000 in
theorem d240_579 : decode (xmb 240) 579 = .ok (.iconst 1, 1) := by decide +kernel
set_option maxRecDepth 100000 in
theorem d240_580 : decode (xmb 240) 580 = .ok (.iadd, 1) := by decide +kernel
set_option maxRecDepth 100000 in
theorem d240_581 : decode (xmb 240) 581 = .ok (.iaload, 1) := by decide +kernel
set_option maxRecDepth 100000 in
theorem d240_582 : decode (xmb 240) 582 = .ok (.invokevirtual 145, 3) := by decide +kernel
set_option maxRecDepth 100000 in
theorem d240_585 : decode (xmb 240) 585 = .ok (.istore 6, 2) := by decide +kernel
set_option maxRecDepth 100000 in
theorem d240_587 : decode (xmb 240) 587 = .ok (.aload_n 2, 1) := by decide +kernel
set_option maxRecDepth 100000 in
theorem d240_588 : decode (xmb 240) 588 = .ok (.invokevirtual 115, 3) := by decide +kernel
set_option maxRecDepth 100000 in
theorem d240_591 : decode (xmb 240) 591 = .ok (.iload 5, 2) := by decide +kernel
set_option maxRecDepth 100000 in
theorem d240_593 : decode (xmb 240) 593 = .ok (.if_icmp .eq 5, 3) := by decide +kernel
set_option maxRecDepth 100000 in
theorem d240_596 : decode (xmb 240) 596 = .ok (.iconst 0, 1) := by decide +kernel
set_option maxRecDepth 100000 in
theorem d240_597 : decode (xmb 240) 597 = .ok (.ireturn, 1) := by decide +kernel
set_option maxRecDepth 100000 in
theorem d240_598 : decode (xmb 240) 598 = .ok (.iload 5, 2) := by decide +kernel
set_option maxRecDepth 100000 in
theorem d240_600 : decode (xmb 240) 600 = .ok (.ifCond .ne 15, 3) := by decide +kernel
set_option maxRecDepth 100000 in
theorem d240_603 : decode (xmb 240) 603 = .ok (.aload_n 3, 1) := by decide +kernel
set_option maxRecDepth 100000 in
theorem d240_604 : decode (xmb 240) 604 = .ok (.iconst 0, 1) := by decide +kernel
set_option maxRecDepth 100000 in
theorem d240_605 : decode (xmb 240) 605 = .ok (.laload, 1) := by decide +kernel
set_option maxRecDepth 100000 in
theorem d240_606 : decode (xmb 240) 606 = .ok (.iload 6, 2) := by decide +kernel
set_option maxRecDepth 100000 in
theorem d240_608 : decode (xmb 240) 608 = .ok (.i2l, 1) := by decide +kernel
set_option maxRecDepth 100000 in
theorem d240_609 : decode (xmb 240) 609 = .ok (.lcmp, 1) := by decide +kernel
set_option maxRecDepth 100000 in
theorem d240_610 : decode (xmb 240) 610 = .ok (.ifCond .eq 5, 3) := by decide +kernel
set_option maxRecDepth 100000 in
theorem d240_613 : decode (xmb 240) 613 = .ok (.iconst 0, 1) := by decide +kernel
set_option maxRecDepth 100000 in
theorem d240_614 : decode (xmb 240) 614 = .ok (.ireturn, 1) := by decide +kernel
set_option maxRecDepth 100000 in
theorem d240_615 : decode (xmb 240) 615 = .ok (.goto 1496, 3) := by decide +kernel
set_option maxRecDepth 100000 in
theorem d240_618 : decode (xmb 240) 618 = .ok (.aload_n 1, 1) := by decide +kernel
set_option maxRecDepth 100000 in
theorem d240_619 : decode (xmb 240) 619 = .ok (.aload_n 0, 1) := by decide +kernel
set_option maxRecDepth 100000 in
theorem d240_620 : decode (xmb 240) 620 = .ok (.iload 4, 2) := by decide +kernel
set_option maxRecDepth 100000 in
theorem d240_622 : decode (xmb 240) 622 = .ok (.iconst 1, 1) := by decide +kernel
set_option maxRecDepth 100000 in
theorem d240_623 : decode (xmb 240) 623 = .ok (.iadd, 1) := by decide +kernel
set_option maxRecDepth 100000 in
theorem d240_624 : decode (xmb 240) 624 = .ok (.iaload, 1) := by decide +kernel
set_option maxRecDepth 100000 in
theorem d240_625 : decode (xmb 240) 625 = .ok (.aload_n 3, 1) := by decide +kernel
set_option maxRecDepth 100000 in
theorem d240_626 : decode (xmb 240) 626 = .ok (.invokestatic 146, 3) := by decide +kernel
set_option maxRecDepth 100000 in
theorem d240_629 : decode (xmb 240) 629 = .ok (.istore 5, 2) := by decide +kernel
set_option maxRecDepth 100000 in
theorem d240_631 : decode (xmb 240) 631 = .ok (.aload_n 2, 1) := by decide +kernel
set_option maxRecDepth 100000 in
theorem d240_632 : decode (xmb 240) 632 = .ok (.aload_n 0, 1) := by decide +kernel
set_option maxRecDepth 100000 in
theorem d240_633 : decode (xmb 240) 633 = .ok (.iload 4, 2) := by decide +kernel
set_option maxRecDepth 100000 in
theorem d240_635 : decode (xmb 240) 635 = .ok (.iconst 1, 1) := by decide +kernel
set_option maxRecDepth 100000 in
theorem d240_636 : decode (xmb 240) 636 = .ok (.iadd, 1) := by decide +kernel
set_option maxRecDepth 100000 in
theorem d240_637 : decode (xmb 240) 637 = .ok (.iaload, 1) := by decide +kernel
set_option maxRecDepth 100000 in
theorem d240_638 : decode (xmb 240) 638 = .ok (.invokevirtual 148, 3) := by decide +kernel
set_option maxRecDepth 100000 in
theorem d240_641 : decode (xmb 240) 641 = .ok (.istore 6, 2) := by decide +kernel
set_option maxRecDepth 100000 in
theorem d240_643 : decode (xmb 240) 643 = .ok (.aload_n 2, 1) := by decide +kernel
set_option maxRecDepth 100000 in
theorem d240_644 : decode (xmb 240) 644 = .ok (.invokevirtual 115, 3) := by decide +kernel
set_option maxRecDepth 100000 in
theorem d240_647 : decode (xmb 240) 647 = .ok (.iload 5, 2) := by decide +kernel
set_option maxRecDepth 100000 in
theorem d240_649 : decode (xmb 240) 649 = .ok (.if_icmp .eq 5, 3) := by decide +kernel
set_option maxRecDepth 100000 in
theorem d240_652 : decode (xmb 240) 652 = .ok (.iconst 0, 1) := by decide +kernel
set_option maxRecDepth 100000 in
theorem d240_653 : decode (xmb 240) 653 = .ok (.ireturn, 1) := by decide +kernel
set_option maxRecDepth 100000 in
theorem d240_654 : decode (xmb 240) 654 = .ok (.iload 5, 2) := by decide +kernel
set_option maxRecDepth 100000 in
theorem d240_656 : decode (xmb 240) 656 = .ok (.ifCond .ne 15, 3) := by decide +kernel
set_option maxRecDepth 100000 in
theorem d240_659 : decode (xmb 240) 659 = .ok (.aload_n 3, 1) := by decide +kernel
set_option maxRecDepth 100000 in
theorem d240_660 : decode (xmb 240) 660 = .ok (.iconst 0, 1) := by decide +kernel
set_option maxRecDepth 100000 in
theorem d240_661 : decode (xmb 240) 661 = .ok (.laload, 1) := by decide +kernel
set_option maxRecDepth 100000 in
theorem d240_662 : decode (xmb 240) 662 = .ok (.iload 6, 2) := by decide +kernel
set_option maxRecDepth 100000 in
theorem d240_664 : decode (xmb 240) 664 = .ok (.i2l, 1) := by decide +kernel
set_option maxRecDepth 100000 in
theorem d240_665 : decode (xmb 240) 665 = .ok (.lcmp, 1) := by decide +kernel
set_option maxRecDepth 100000 in
theorem d240_666 : decode (xmb 240) 666 = .ok (.ifCond .eq 5, 3) := by decide +kernel
set_option maxRecDepth 100000 in
theorem d240_669 : decode (xmb 240) 669 = .ok (.iconst 0, 1) := by decide +kernel
set_option maxRecDepth 100000 in
theorem d240_670 : decode (xmb 240) 670 = .ok (.ireturn, 1) := by decide +kernel
set_option maxRecDepth 100000 in
theorem d240_671 : decode (xmb 240) 671 = .ok (.goto 1440, 3) := by decide +kernel
set_option maxRecDepth 100000 in
theorem d240_674 : decode (xmb 240) 674 = .ok (.aload_n 1, 1) := by decide +kernel
set_option maxRecDepth 100000 in
theorem d240_675 : decode (xmb 240) 675 = .ok (.aload_n 0, 1) := by decide +kernel
set_option maxRecDepth 100000 in
theorem d240_676 : decode (xmb 240) 676 = .ok (.iload 4, 2) := by decide +kernel
set_option maxRecDepth 100000 in
theorem d240_678 : decode (xmb 240) 678 = .ok (.iconst 1, 1) := by decide +kernel
set_option maxRecDepth 100000 in
theorem d240_679 : decode (xmb 240) 679 = .ok (.iadd, 1) := by decide +kernel
set_option maxRecDepth 100000 in
theorem d240_680 : decode (xmb 240) 680 = .ok (.iaload, 1) := by decide +kernel
set_option maxRecDepth 100000 in
theorem d240_681 : decode (xmb 240) 681 = .ok (.aload_n 3, 1) := by decide +kernel
set_option maxRecDepth 100000 in
theorem d240_682 : decode (xmb 240) 682 = .ok (.invokestatic 149, 3) := by decide +kernel
set_option maxRecDepth 100000 in
theorem d240_685 : decode (xmb 240) 685 = .ok (.istore 5, 2) := by decide +kernel
set_option maxRecDepth 100000 in
theorem d240_687 : decode (xmb 240) 687 = .ok (.aload_n 2, 1) := by decide +kernel
set_option maxRecDepth 100000 in
theorem d240_688 : decode (xmb 240) 688 = .ok (.aload_n 0, 1) := by decide +kernel
set_option maxRecDepth 100000 in
theorem d240_689 : decode (xmb 240) 689 = .ok (.iload 4, 2) := by decide +kernel
set_option maxRecDepth 100000 in
theorem d240_691 : decode (xmb 240) 691 = .ok (.iconst 1, 1) := by decide +kernel
set_option maxRecDepth 100000 in
theorem d240_692 : decode (xmb 240) 692 = .ok (.iadd, 1) := by decide +kernel
set_option maxRecDepth 100000 in
theorem d240_693 : decode (xmb 240) 693 = .ok (.iaload, 1) := by decide +kernel
set_option maxRecDepth 100000 in
theorem d240_694 : decode (xmb 240) 694 = .ok (.invokevirtual 151, 3) := by decide +kernel
set_option maxRecDepth 100000 in
theorem d240_697 : decode (xmb 240) 697 = .ok (.istore 6, 2) := by decide +kernel
set_option maxRecDepth 100000 in
theorem d240_699 : decode (xmb 240) 699 = .ok (.aload_n 2, 1) := by decide +kernel
set_option maxRecDepth 100000 in
theorem d240_700 : decode (xmb 240) 700 = .ok (.invokevirtual 115, 3) := by decide +kernel
set_option maxRecDepth 100000 in
theorem d240_703 : decode (xmb 240) 703 = .ok (.iload 5, 2) := by decide +kernel
set_option maxRecDepth 100000 in
theorem d240_705 : decode (xmb 240) 705 = .ok (.if_icmp .eq 5, 3) := by decide +kernel
set_option maxRecDepth 100000 in
theorem d240_708 : decode (xmb 240) 708 = .ok (.iconst 0, 1) := by decide +kernel
set_option maxRecDepth 100000 in
theorem d240_709 : decode (xmb 240) 709 = .ok (.ireturn, 1) := by decide +kernel
set_option maxRecDepth 100000 in
theorem d240_710 : decode (xmb 240) 710 = .ok (.iload 5, 2) := by decide +kernel
set_option maxRecDepth 100000 in
theorem d240_712 : decode (xmb 240) 712 = .ok (.ifCond .ne 15, 3) := by decide +kernel
set_option maxRecDepth 100000 in
theorem d240_715 : decode (xmb 240) 715 = .ok (.aload_n 3, 1) := by decide +kernel
set_option maxRecDepth 100000 in
theorem d240_716 : decode (xmb 240) 716 = .ok (.iconst 0, 1) := by decide +kernel
set_option maxRecDepth 100000 in
theorem d240_717 : decode (xmb 240) 717 = .ok (.laload, 1) := by decide +kernel
set_option maxRecDepth 100000 in
theorem d240_718 : decode (xmb 240) 718 = .ok (.iload 6, 2) := by decide +kernel
set_option maxRecDepth 100000 in
theorem d240_720 : decode (xmb 240) 720 = .ok (.i2l, 1) := by decide +kernel
set_option maxRecDepth 100000 in
theorem d240_721 : decode (xmb 240) 721 = .ok (.lcmp, 1) := by decide +kernel
set_option maxRecDepth 100000 in
theorem d240_722 : decode (xmb 240) 722 = .ok (.ifCond .eq 5, 3) := by decide +kernel
set_option maxRecDepth 100000 in
theorem d240_725 : decode (xmb 240) 725 = .ok (.iconst 0, 1) := by decide +kernel
set_option maxRecDepth 100000 in
theorem d240_726 : decode (xmb 240) 726 = .ok (.ireturn, 1) := by decide +kernel
set_option maxRecDepth 100000 in
theorem d240_727 : decode (xmb 240) 727 = .ok (.goto 1384, 3) := by decide +kernel
set_option maxRecDepth 100000 in
theorem d240_730 : decode (xmb 240) 730 = .ok (.aload_n 1, 1) := by decide +kernel
set_option maxRecDepth 100000 in
theorem d240_731 : decode (xmb 240) 731 = .ok (.aload_n 0, 1) := by decide +kernel
set_option maxRecDepth 100000 in
theorem d240_732 : decode (xmb 240) 732 = .ok (.iload 4, 2) := by decide +kernel
set_option maxRecDepth 100000 in
theorem d240_734 : decode (xmb 240) 734 = .ok (.iconst 1, 1) := by decide +kernel
set_option maxRecDepth 100000 in
theorem d240_735 : decode (xmb 240) 735 = .ok (.iadd, 1) := by decide +kernel
set_option maxRecDepth 100000 in
theorem d240_736 : decode (xmb 240) 736 = .ok (.iaload, 1) := by decide +kernel
set_option maxRecDepth 100000 in
theorem d240_737 : decode (xmb 240) 737 = .ok (.aload_n 0, 1) := by decide +kernel
set_option maxRecDepth 100000 in
theorem d240_738 : decode (xmb 240) 738 = .ok (.iload 4, 2) := by decide +kernel
set_option maxRecDepth 100000 in
theorem d240_740 : decode (xmb 240) 740 = .ok (.iconst 2, 1) := by decide +kernel
set_option maxRecDepth 100000 in
theorem d240_741 : decode (xmb 240) 741 = .ok (.iadd, 1) := by decide +kernel
set_option maxRecDepth 100000 in
theorem d240_742 : decode (xmb 240) 742 = .ok (.iaload, 1) := by decide +kernel
set_option maxRecDepth 100000 in
theorem d240_743 : decode (xmb 240) 743 = .ok (.aload_n 3, 1) := by decide +kernel
set_option maxRecDepth 100000 in
theorem d240_744 : decode (xmb 240) 744 = .ok (.invokestatic 152, 3) := by decide +kernel
set_option maxRecDepth 100000 in
theorem d240_747 : decode (xmb 240) 747 = .ok (.istore 5, 2) := by decide +kernel
set_option maxRecDepth 100000 in
theorem d240_749 : decode (xmb 240) 749 = .ok (.aload_n 2, 1) := by decide +kernel
set_option maxRecDepth 100000 in
theorem d240_750 : decode (xmb 240) 750 = .ok (.aload_n 0, 1) := by decide +kernel
set_option maxRecDepth 100000 in
theorem d240_751 : decode (xmb 240) 751 = .ok (.iload 4, 2) := by decide +kernel
set_option maxRecDepth 100000 in
theorem d240_753 : decode (xmb 240) 753 = .ok (.iconst 1, 1) := by decide +kernel
set_option maxRecDepth 100000 in
theorem d240_754 : decode (xmb 240) 754 = .ok (.iadd, 1) := by decide +kernel
set_option maxRecDepth 100000 in
theorem d240_755 : decode (xmb 240) 755 = .ok (.iaload, 1) := by decide +kernel
set_option maxRecDepth 100000 in
theorem d240_756 : decode (xmb 240) 756 = .ok (.aload_n 0, 1) := by decide +kernel
set_option maxRecDepth 100000 in
theorem d240_757 : decode (xmb 240) 757 = .ok (.iload 4, 2) := by decide +kernel
set_option maxRecDepth 100000 in
theorem d240_759 : decode (xmb 240) 759 = .ok (.iconst 2, 1) := by decide +kernel
set_option maxRecDepth 100000 in
theorem d240_760 : decode (xmb 240) 760 = .ok (.iadd, 1) := by decide +kernel
set_option maxRecDepth 100000 in
theorem d240_761 : decode (xmb 240) 761 = .ok (.iaload, 1) := by decide +kernel
set_option maxRecDepth 100000 in
theorem d240_762 : decode (xmb 240) 762 = .ok (.invokevirtual 154, 3) := by decide +kernel
set_option maxRecDepth 100000 in
theorem d240_765 : decode (xmb 240) 765 = .ok (.istore 6, 2) := by decide +kernel
set_option maxRecDepth 100000 in
theorem d240_767 : decode (xmb 240) 767 = .ok (.aload_n 2, 1) := by decide +kernel
set_option maxRecDepth 100000 in
theorem d240_768 : decode (xmb 240) 768 = .ok (.invokevirtual 115, 3) := by decide +kernel
set_option maxRecDepth 100000 in
theorem d240_771 : decode (xmb 240) 771 = .ok (.iload 5, 2) := by decide +kernel
set_option maxRecDepth 100000 in
theorem d240_773 : decode (xmb 240) 773 = .ok (.if_icmp .eq 5, 3) := by decide +kernel
set_option maxRecDepth 100000 in
theorem d240_776 : decode (xmb 240) 776 = .ok (.iconst 0, 1) := by decide +kernel
set_option maxRecDepth 100000 in
theorem d240_777 : decode (xmb 240) 777 = .ok (.ireturn, 1) := by decide +kernel
set_option maxRecDepth 100000 in
theorem d240_778 : decode (xmb 240) 778 = .ok (.iload 5, 2) := by decide +kernel
set_option maxRecDepth 100000 in
theorem d240_780 : decode (xmb 240) 780 = .ok (.ifCond .ne 15, 3) := by decide +kernel
set_option maxRecDepth 100000 in
theorem d240_783 : decode (xmb 240) 783 = .ok (.aload_n 3, 1) := by decide +kernel
set_option maxRecDepth 100000 in
theorem d240_784 : decode (xmb 240) 784 = .ok (.iconst 0, 1) := by decide +kernel
set_option maxRecDepth 100000 in
theorem d240_785 : decode (xmb 240) 785 = .ok (.laload, 1) := by decide +kernel
set_option maxRecDepth 100000 in
theorem d240_786 : decode (xmb 240) 786 = .ok (.iload 6, 2) := by decide +kernel
set_option maxRecDepth 100000 in
theorem d240_788 : decode (xmb 240) 788 = .ok (.i2l, 1) := by decide +kernel
set_option maxRecDepth 100000 in
theorem d240_789 : decode (xmb 240) 789 = .ok (.lcmp, 1) := by decide +kernel
set_option maxRecDepth 100000 in
theorem d240_790 : decode (xmb 240) 790 = .ok (.ifCond .eq 5, 3) := by decide +kernel
set_option maxRecDepth 100000 in
theorem d240_793 : decode (xmb 240) 793 = .ok (.iconst 0, 1) := by decide +kernel
set_option maxRecDepth 100000 in
theorem d240_794 : decode (xmb 240) 794 = .ok (.ireturn, 1) := by decide +kernel
set_option maxRecDepth 100000 in
theorem d240_795 : decode (xmb 240) 795 = .ok (.goto 1316, 3) := by decide +kernel
set_option maxRecDepth 100000 in
theorem d240_798 : decode (xmb 240) 798 = .ok (.aload_n 1, 1) := by decide +kernel
set_option maxRecDepth 100000 in
theorem d240_799 : decode (xmb 240) 799 = .ok (.aload_n 0, 1) := by decide +kernel
set_option maxRecDepth 100000 in
theorem d240_800 : decode (xmb 240) 800 = .ok (.iload 4, 2) := by decide +kernel
set_option maxRecDepth 100000 in
theorem d240_802 : decode (xmb 240) 802 = .ok (.iconst 1, 1) := by decide +kernel
set_option maxRecDepth 100000 in
theorem d240_803 : decode (xmb 240) 803 = .ok (.iadd, 1) := by decide +kernel
set_option maxRecDepth 100000 in
theorem d240_804 : decode (xmb 240) 804 = .ok (.iaload, 1) := by decide +kernel
set_option maxRecDepth 100000 in
theorem d240_805 : decode (xmb 240) 805 = .ok (.aload_n 3, 1) := by decide +kernel
set_option maxRecDepth 100000 in
theorem d240_806 : decode (xmb 240) 806 = .ok (.invokestatic 155, 3) := by decide +kernel
set_option maxRecDepth 100000 in
theorem d240_809 : decode (xmb 240) 809 = .ok (.istore 5, 2) := by decide +kernel
set_option maxRecDepth 100000 in
theorem d240_811 : decode (xmb 240) 811 = .ok (.aload_n 2, 1) := by decide +kernel
set_option maxRecDepth 100000 in
theorem d240_812 : decode (xmb 240) 812 = .ok (.aload_n 0, 1) := by decide +kernel
set_option maxRecDepth 100000 in
theorem d240_813 : decode (xmb 240) 813 = .ok (.iload 4, 2) := by decide +kernel
set_option maxRecDepth 100000 in
theorem d240_815 : decode (xmb 240) 815 = .ok (.iconst 1, 1) := by decide +kernel
set_option maxRecDepth 100000 in
theorem d240_816 : decode (xmb 240) 816 = .ok (.iadd, 1) := by decide +kernel
set_option maxRecDepth 100000 in
theorem d240_817 : decode (xmb 240) 817 = .ok (.iaload, 1) := by decide +kernel
set_option maxRecDepth 100000 in
theorem d240_818 : decode (xmb 240) 818 = .ok (.invokevirtual 157, 3) := by decide +kernel
set_option maxRecDepth 100000 in
theorem d240_821 : decode (xmb 240) 821 = .ok (.istore 6, 2) := by decide +kernel
set_option maxRecDepth 100000 in
theorem d240_823 : decode (xmb 240) 823 = .ok (.aload_n 2, 1) := by decide +kernel
set_option maxRecDepth 100000 in
theorem d240_824 : decode (xmb 240) 824 = .ok (.invokevirtual 115, 3) := by decide +kernel
set_option maxRecDepth 100000 in
theorem d240_827 : decode (xmb 240) 827 = .ok (.iload 5, 2) := by decide +kernel
set_option maxRecDepth 100000 in
theorem d240_829 : decode (xmb 240) 829 = .ok (.if_icmp .eq 5, 3) := by decide +kernel
set_option maxRecDepth 100000 in
theorem d240_832 : decode (xmb 240) 832 = .ok (.iconst 0, 1) := by decide +kernel
set_option maxRecDepth 100000 in
theorem d240_833 : decode (xmb 240) 833 = .ok (.ireturn, 1) := by decide +kernel
set_option maxRecDepth 100000 in
theorem d240_834 : decode (xmb 240) 834 = .ok (.iload 5, 2) := by decide +kernel
set_option maxRecDepth 100000 in
theorem d240_836 : decode (xmb 240) 836 = .ok (.ifCond .ne 15, 3) := by decide +kernel
set_option maxRecDepth 100000 in
theorem d240_839 : decode (xmb 240) 839 = .ok (.aload_n 3, 1) := by decide +kernel
set_option maxRecDepth 100000 in
theorem d240_840 : decode (xmb 240) 840 = .ok (.iconst 0, 1) := by decide +kernel
set_option maxRecDepth 100000 in
theorem d240_841 : decode (xmb 240) 841 = .ok (.laload, 1) := by decide +kernel
set_option maxRecDepth 100000 in
theorem d240_842 : decode (xmb 240) 842 = .ok (.iload 6, 2) := by decide +kernel
set_option maxRecDepth 100000 in
theorem d240_844 : decode (xmb 240) 844 = .ok (.i2l, 1) := by decide +kernel
set_option maxRecDepth 100000 in
theorem d240_845 : decode (xmb 240) 845 = .ok (.lcmp, 1) := by decide +kernel
set_option maxRecDepth 100000 in
theorem d240_846 : decode (xmb 240) 846 = .ok (.ifCond .eq 5, 3) := by decide +kernel
set_option maxRecDepth 100000 in
theorem d240_849 : decode (xmb 240) 849 = .ok (.iconst 0, 1) := by decide +kernel
set_option maxRecDepth 100000 in
theorem d240_850 : decode (xmb 240) 850 = .ok (.ireturn, 1) := by decide +kernel
set_option maxRecDepth 100000 in
theorem d240_851 : decode (xmb 240) 851 = .ok (.goto 1260, 3) := by decide +kernel
set_option maxRecDepth 100000 in
theorem d240_854 : decode (xmb 240) 854 = .ok (.aload_n 1, 1) := by decide +kernel
set_option maxRecDepth 100000 in
theorem d240_855 : decode (xmb 240) 855 = .ok (.aload_n 0, 1) := by decide +kernel
set_option maxRecDepth 100000 in
theorem d240_856 : decode (xmb 240) 856 = .ok (.iload 4, 2) := by decide +kernel
set_option maxRecDepth 100000 in
theorem d240_858 : decode (xmb 240) 858 = .ok (.iconst 1, 1) := by decide +kernel
set_option maxRecDepth 100000 in
theorem d240_859 : decode (xmb 240) 859 = .ok (.iadd, 1) := by decide +kernel
set_option maxRecDepth 100000 in
theorem d240_860 : decode (xmb 240) 860 = .ok (.iaload, 1) := by decide +kernel
set_option maxRecDepth 100000 in
theorem d240_861 : decode (xmb 240) 861 = .ok (.aload_n 0, 1) := by decide +kernel
set_option maxRecDepth 100000 in
theorem d240_862 : decode (xmb 240) 862 = .ok (.iload 4, 2) := by decide +kernel
set_option maxRecDepth 100000 in
theorem d240_864 : decode (xmb 240) 864 = .ok (.iconst 2, 1) := by decide +kernel
set_option maxRecDepth 100000 in
theorem d240_865 : decode (xmb 240) 865 = .ok (.iadd, 1) := by decide +kernel
set_option maxRecDepth 100000 in
theorem d240_866 : decode (xmb 240) 866 = .ok (.iaload, 1) := by decide +kernel
set_option maxRecDepth 100000 in
theorem d240_867 : decode (xmb 240) 867 = .ok (.aload_n 3, 1) := by decide +kernel
set_option maxRecDepth 100000 in
theorem d240_868 : decode (xmb 240) 868 = .ok (.invokestatic 158, 3) := by decide +kernel
set_option maxRecDepth 100000 in
theorem d240_871 : decode (xmb 240) 871 = .ok (.istore 5, 2) := by decide +kernel
set_option maxRecDepth 100000 in
theorem d240_873 : decode (xmb 240) 873 = .ok (.aload_n 2, 1) := by decide +kernel
set_option maxRecDepth 100000 in
theorem d240_874 : decode (xmb 240) 874 = .ok (.aload_n 0, 1) := by decide +kernel
set_option maxRecDepth 100000 in
theorem d240_875 : decode (xmb 240) 875 = .ok (.iload 4, 2) := by decide +kernel
set_option maxRecDepth 100000 in
theorem d240_877 : decode (xmb 240) 877 = .ok (.iconst 1, 1) := by decide +kernel
set_option maxRecDepth 100000 in
theorem d240_878 : decode (xmb 240) 878 = .ok (.iadd, 1) := by decide +kernel
set_option maxRecDepth 100000 in
theorem d240_879 : decode (xmb 240) 879 = .ok (.iaload, 1) := by decide +kernel
set_option maxRecDepth 100000 in
theorem d240_880 : decode (xmb 240) 880 = .ok (.aload_n 0, 1) := by decide +kernel
set_option maxRecDepth 100000 in
theorem d240_881 : decode (xmb 240) 881 = .ok (.iload 4, 2) := by decide +kernel
set_option maxRecDepth 100000 in
theorem d240_883 : decode (xmb 240) 883 = .ok (.iconst 2, 1) := by decide +kernel
set_option maxRecDepth 100000 in
theorem d240_884 : decode (xmb 240) 884 = .ok (.iadd, 1) := by decide +kernel
set_option maxRecDepth 100000 in
theorem d240_885 : decode (xmb 240) 885 = .ok (.iaload, 1) := by decide +kernel
set_option maxRecDepth 100000 in
theorem d240_886 : decode (xmb 240) 886 = .ok (.invokevirtual 160, 3) := by decide +kernel
set_option maxRecDepth 100000 in
theorem d240_889 : decode (xmb 240) 889 = .ok (.istore 6, 2) := by decide +kernel
set_option maxRecDepth 100000 in
theorem d240_891 : decode (xmb 240) 891 = .ok (.aload_n 2, 1) := by decide +kernel
set_option maxRecDepth 100000 in
theorem d240_892 : decode (xmb 240) 892 = .ok (.invokevirtual 115, 3) := by decide +kernel
set_option maxRecDepth 100000 in
theorem d240_895 : decode (xmb 240) 895 = .ok (.iload 5, 2) := by decide +kernel
set_option maxRecDepth 100000 in
theorem d240_897 : decode (xmb 240) 897 = .ok (.if_icmp .eq 5, 3) := by decide +kernel
set_option maxRecDepth 100000 in
theorem d240_900 : decode (xmb 240) 900 = .ok (.iconst 0, 1) := by decide +kernel
set_option maxRecDepth 100000 in
theorem d240_901 : decode (xmb 240) 901 = .ok (.ireturn, 1) := by decide +kernel
set_option maxRecDepth 100000 in
theorem d240_902 : decode (xmb 240) 902 = .ok (.iload 5, 2) := by decide +kernel
set_option maxRecDepth 100000 in
theorem d240_904 : decode (xmb 240) 904 = .ok (.ifCond .ne 15, 3) := by decide +kernel
set_option maxRecDepth 100000 in
theorem d240_907 : decode (xmb 240) 907 = .ok (.aload_n 3, 1) := by decide +kernel
set_option maxRecDepth 100000 in
theorem d240_908 : decode (xmb 240) 908 = .ok (.iconst 0, 1) := by decide +kernel
set_option maxRecDepth 100000 in
theorem d240_909 : decode (xmb 240) 909 = .ok (.laload, 1) := by decide +kernel
set_option maxRecDepth 100000 in
theorem d240_910 : decode (xmb 240) 910 = .ok (.iload 6, 2) := by decide +kernel
set_option maxRecDepth 100000 in
theorem d240_912 : decode (xmb 240) 912 = .ok (.i2l, 1) := by decide +kernel
set_option maxRecDepth 100000 in
theorem d240_913 : decode (xmb 240) 913 = .ok (.lcmp, 1) := by decide +kernel
set_option maxRecDepth 100000 in
theorem d240_914 : decode (xmb 240) 914 = .ok (.ifCond .eq 5, 3) := by decide +kernel
set_option maxRecDepth 100000 in
theorem d240_917 : decode (xmb 240) 917 = .ok (.iconst 0, 1) := by decide +kernel
set_option maxRecDepth 100000 in
theorem d240_918 : decode (xmb 240) 918 = .ok (.ireturn, 1) := by decide +kernel
set_option maxRecDepth 100000 in
theorem d240_919 : decode (xmb 240) 919 = .ok (.goto 1192, 3) := by decide +kernel
set_option maxRecDepth 100000 in
theorem d240_922 : decode (xmb 240) 922 = .ok (.aload_n 1, 1) := by decide +kernel
