set_option maxRecDepth 100000 in
theorem d136_526 : decode (xmb 136) 526 = .ok (.iconst 4, 1) := by decide +kernel
set_option maxRecDepth 100000 in
theorem d136_527 : decode (xmb 136) 527 = .ok (.iconst 4, 1) := by decide +kernel
set_option maxRecDepth 100000 in
theorem d136_528 : decode (xmb 136) 528 = .ok (.invokestatic 160, 3) := by decide +kernel
set_option maxRecDepth 100000 in
theorem d136_531 : decode (xmb 136) 531 = .ok (.ldc2_w 17, 3) := by decide +kernel
set_option maxRecDepth 100000 in
theorem d136_534 : decode (xmb 136) 534 = .ok (.lcmp, 1) := by decide +kernel
set_option maxRecDepth 100000 in
theorem d136_535 : decode (xmb 136) 535 = .ok (.ifCond .ne 177, 3) := by decide +kernel
set_option maxRecDepth 100000 in
theorem d136_538 : decode (xmb 136) 538 = .ok (.aload_n 0, 1) := by decide +kernel
set_option maxRecDepth 100000 in
theorem d136_539 : decode (xmb 136) 539 = .ok (.iconst 5, 1) := by decide +kernel
set_option maxRecDepth 100000 in
theorem d136_540 : decode (xmb 136) 540 = .ok (.iconst 0, 1) := by decide +kernel
set_option maxRecDepth 100000 in
theorem d136_541 : decode (xmb 136) 541 = .ok (.invokestatic 160, 3) := by decide +kernel
set_option maxRecDepth 100000 in
theorem d136_544 : decode (xmb 136) 544 = .ok (.ldc2_w 17, 3) := by decide +kernel
set_option maxRecDepth 100000 in
theorem d136_547 : decode (xmb 136) 547 = .ok (.lcmp, 1) := by decide +kernel
set_option maxRecDepth 100000 in
theorem d136_548 : decode (xmb 136) 548 = .ok (.ifCond .ne 164, 3) := by decide +kernel
set_option maxRecDepth 100000 in
theorem d136_551 : decode (xmb 136) 551 = .ok (.aload_n 0, 1) := by decide +kernel
set_option maxRecDepth 100000 in
theorem d136_552 : decode (xmb 136) 552 = .ok (.iconst 4, 1) := by decide +kernel
set_option maxRecDepth 100000 in
theorem d136_553 : decode (xmb 136) 553 = .ok (.iconst 2, 1) := by decide +kernel
set_option maxRecDepth 100000 in
theorem d136_554 : decode (xmb 136) 554 = .ok (.invokestatic 162, 3) := by decide +kernel
set_option maxRecDepth 100000 in
theorem d136_557 : decode (xmb 136) 557 = .ok (.ldc2_w 36, 3) := by decide +kernel
set_option maxRecDepth 100000 in
theorem d136_560 : decode (xmb 136) 560 = .ok (.lcmp, 1) := by decide +kernel
set_option maxRecDepth 100000 in
theorem d136_561 : decode (xmb 136) 561 = .ok (.ifCond .ne 151, 3) := by decide +kernel
set_option maxRecDepth 100000 in
theorem d136_564 : decode (xmb 136) 564 = .ok (.aload_n 0, 1) := by decide +kernel
set_option maxRecDepth 100000 in
theorem d136_565 : decode (xmb 136) 565 = .ok (.iconst 3, 1) := by decide +kernel
set_option maxRecDepth 100000 in
theorem d136_566 : decode (xmb 136) 566 = .ok (.iconst 2, 1) := by decide +kernel
set_option maxRecDepth 100000 in
theorem d136_567 : decode (xmb 136) 567 = .ok (.invokestatic 162, 3) := by decide +kernel
set_option maxRecDepth 100000 in
theorem d136_570 : decode (xmb 136) 570 = .ok (.ldc2_w 17, 3) := by decide +kernel
set_option maxRecDepth 100000 in
theorem d136_573 : decode (xmb 136) 573 = .ok (.lcmp, 1) := by decide +kernel
set_option maxRecDepth 100000 in
theorem d136_574 : decode (xmb 136) 574 = .ok (.ifCond .ne 138, 3) := by decide +kernel
set_option maxRecDepth 100000 in
theorem d136_577 : decode (xmb 136) 577 = .ok (.aload_n 0, 1) := by decide +kernel
set_option maxRecDepth 100000 in
theorem d136_578 : decode (xmb 136) 578 = .ok (.iconst 0, 1) := by decide +kernel
set_option maxRecDepth 100000 in
theorem d136_579 : decode (xmb 136) 579 = .ok (.iconst 0, 1) := by decide +kernel
set_option maxRecDepth 100000 in
theorem d136_580 : decode (xmb 136) 580 = .ok (.invokestatic 164, 3) := by decide +kernel
set_option maxRecDepth 100000 in
theorem d136_583 : decode (xmb 136) 583 = .ok (.ldc2_w 17, 3) := by decide +kernel
set_option maxRecDepth 100000 in
theorem d136_586 : decode (xmb 136) 586 = .ok (.lcmp, 1) := by decide +kernel
set_option maxRecDepth 100000 in
theorem d136_587 : decode (xmb 136) 587 = .ok (.ifCond .ne 125, 3) := by decide +kernel
set_option maxRecDepth 100000 in
theorem d136_590 : decode (xmb 136) 590 = .ok (.aload_n 0, 1) := by decide +kernel
set_option maxRecDepth 100000 in
theorem d136_591 : decode (xmb 136) 591 = .ok (.iconst 1, 1) := by decide +kernel
set_option maxRecDepth 100000 in
theorem d136_592 : decode (xmb 136) 592 = .ok (.iconst 2, 1) := by decide +kernel
set_option maxRecDepth 100000 in
theorem d136_593 : decode (xmb 136) 593 = .ok (.invokestatic 164, 3) := by decide +kernel
set_option maxRecDepth 100000 in
theorem d136_596 : decode (xmb 136) 596 = .ok (.ldc2_w 17, 3) := by decide +kernel
set_option maxRecDepth 100000 in
theorem d136_599 : decode (xmb 136) 599 = .ok (.lcmp, 1) := by decide +kernel
set_option maxRecDepth 100000 in
theorem d136_600 : decode (xmb 136) 600 = .ok (.ifCond .ne 112, 3) := by decide +kernel
set_option maxRecDepth 100000 in
theorem d136_603 : decode (xmb 136) 603 = .ok (.aload_n 0, 1) := by decide +kernel
set_option maxRecDepth 100000 in
theorem d136_604 : decode (xmb 136) 604 = .ok (.iload 4, 2) := by decide +kernel
set_option maxRecDepth 100000 in
theorem d136_606 : decode (xmb 136) 606 = .ok (.invokestatic 166, 3) := by decide +kernel
set_option maxRecDepth 100000 in
theorem d136_609 : decode (xmb 136) 609 = .ok (.ldc2_w 36, 3) := by decide +kernel
set_option maxRecDepth 100000 in
theorem d136_612 : decode (xmb 136) 612 = .ok (.lcmp, 1) := by decide +kernel
set_option maxRecDepth 100000 in
theorem d136_613 : decode (xmb 136) 613 = .ok (.ifCond .ne 99, 3) := by decide +kernel
set_option maxRecDepth 100000 in
theorem d136_616 : decode (xmb 136) 616 = .ok (.aload_n 0, 1) := by decide +kernel
set_option maxRecDepth 100000 in
theorem d136_617 : decode (xmb 136) 617 = .ok (.iconst 2, 1) := by decide +kernel
set_option maxRecDepth 100000 in
theorem d136_618 : decode (xmb 136) 618 = .ok (.iconst 1, 1) := by decide +kernel
set_option maxRecDepth 100000 in
theorem d136_619 : decode (xmb 136) 619 = .ok (.invokestatic 168, 3) := by decide +kernel
set_option maxRecDepth 100000 in
theorem d136_622 : decode (xmb 136) 622 = .ok (.ldc2_w 17, 3) := by decide +kernel
set_option maxRecDepth 100000 in
theorem d136_625 : decode (xmb 136) 625 = .ok (.lcmp, 1) := by decide +kernel
set_option maxRecDepth 100000 in
theorem d136_626 : decode (xmb 136) 626 = .ok (.ifCond .ne 86, 3) := by decide +kernel
set_option maxRecDepth 100000 in
theorem d136_629 : decode (xmb 136) 629 = .ok (.aload_n 0, 1) := by decide +kernel
set_option maxRecDepth 100000 in
theorem d136_630 : decode (xmb 136) 630 = .ok (.iconst 0, 1) := by decide +kernel
set_option maxRecDepth 100000 in
theorem d136_631 : decode (xmb 136) 631 = .ok (.lconst 0, 1) := by decide +kernel
set_option maxRecDepth 100000 in
theorem d136_632 : decode (xmb 136) 632 = .ok (.invokestatic 170, 3) := by decide +kernel
set_option maxRecDepth 100000 in
theorem d136_635 : decode (xmb 136) 635 = .ok (.ldc2_w 17, 3) := by decide +kernel
set_option maxRecDepth 100000 in
theorem d136_638 : decode (xmb 136) 638 = .ok (.lcmp, 1) := by decide +kernel
set_option maxRecDepth 100000 in
theorem d136_639 : decode (xmb 136) 639 = .ok (.ifCond .ne 73, 3) := by decide +kernel
set_option maxRecDepth 100000 in
theorem d136_642 : decode (xmb 136) 642 = .ok (.aload_n 0, 1) := by decide +kernel
set_option maxRecDepth 100000 in
theorem d136_643 : decode (xmb 136) 643 = .ok (.iconst 3, 1) := by decide +kernel
set_option maxRecDepth 100000 in
theorem d136_644 : decode (xmb 136) 644 = .ok (.ldc2_w 174, 3) := by decide +kernel
set_option maxRecDepth 100000 in
theorem d136_647 : decode (xmb 136) 647 = .ok (.invokestatic 170, 3) := by decide +kernel
set_option maxRecDepth 100000 in
theorem d136_650 : decode (xmb 136) 650 = .ok (.ldc2_w 17, 3) := by decide +kernel
set_option maxRecDepth 100000 in
theorem d136_653 : decode (xmb 136) 653 = .ok (.lcmp, 1) := by decide +kernel
set_option maxRecDepth 100000 in
theorem d136_654 : decode (xmb 136) 654 = .ok (.ifCond .ne 58, 3) := by decide +kernel
set_option maxRecDepth 100000 in
theorem d136_657 : decode (xmb 136) 657 = .ok (.aload_n 0, 1) := by decide +kernel
set_option maxRecDepth 100000 in
theorem d136_658 : decode (xmb 136) 658 = .ok (.lconst 1, 1) := by decide +kernel
set_option maxRecDepth 100000 in
theorem d136_659 : decode (xmb 136) 659 = .ok (.iconst 0, 1) := by decide +kernel
set_option maxRecDepth 100000 in
theorem d136_660 : decode (xmb 136) 660 = .ok (.invokestatic 176, 3) := by decide +kernel
set_option maxRecDepth 100000 in
theorem d136_663 : decode (xmb 136) 663 = .ok (.ldc2_w 17, 3) := by decide +kernel
set_option maxRecDepth 100000 in
theorem d136_666 : decode (xmb 136) 666 = .ok (.lcmp, 1) := by decide +kernel
set_option maxRecDepth 100000 in
theorem d136_667 : decode (xmb 136) 667 = .ok (.ifCond .ne 45, 3) := by decide +kernel
set_option maxRecDepth 100000 in
theorem d136_670 : decode (xmb 136) 670 = .ok (.aload_n 0, 1) := by decide +kernel
set_option maxRecDepth 100000 in
theorem d136_671 : decode (xmb 136) 671 = .ok (.iconst 2, 1) := by decide +kernel
set_option maxRecDepth 100000 in
theorem d136_672 : decode (xmb 136) 672 = .ok (.invokestatic 179, 3) := by decide +kernel
set_option maxRecDepth 100000 in
theorem d136_675 : decode (xmb 136) 675 = .ok (.ldc2_w 36, 3) := by decide +kernel
set_option maxRecDepth 100000 in
theorem d136_678 : decode (xmb 136) 678 = .ok (.lcmp, 1) := by decide +kernel
set_option maxRecDepth 100000 in
theorem d136_679 : decode (xmb 136) 679 = .ok (.ifCond .ne 33, 3) := by decide +kernel
set_option maxRecDepth 100000 in
theorem d136_682 : decode (xmb 136) 682 = .ok (.aload_n 0, 1) := by decide +kernel
set_option maxRecDepth 100000 in
theorem d136_683 : decode (xmb 136) 683 = .ok (.iconst 2, 1) := by decide +kernel
set_option maxRecDepth 100000 in
theorem d136_684 : decode (xmb 136) 684 = .ok (.invokestatic 181, 3) := by decide +kernel
set_option maxRecDepth 100000 in
theorem d136_687 : decode (xmb 136) 687 = .ok (.ldc2_w 36, 3) := by decide +kernel
set_option maxRecDepth 100000 in
theorem d136_690 : decode (xmb 136) 690 = .ok (.lcmp, 1) := by decide +kernel
set_option maxRecDepth 100000 in
theorem d136_691 : decode (xmb 136) 691 = .ok (.ifCond .ne 21, 3) := by decide +kernel
set_option maxRecDepth 100000 in
theorem d136_694 : decode (xmb 136) 694 = .ok (.aload_n 0, 1) := by decide +kernel
set_option maxRecDepth 100000 in
theorem d136_695 : decode (xmb 136) 695 = .ok (.sipush 256, 3) := by decide +kernel
set_option maxRecDepth 100000 in
theorem d136_698 : decode (xmb 136) 698 = .ok (.invokestatic 183, 3) := by decide +kernel
set_option maxRecDepth 100000 in
theorem d136_701 : decode (xmb 136) 701 = .ok (.ldc2_w 17, 3) := by decide +kernel
set_option maxRecDepth 100000 in
theorem d136_704 : decode (xmb 136) 704 = .ok (.lcmp, 1) := by decide +kernel
set_option maxRecDepth 100000 in
theorem d136_705 : decode (xmb 136) 705 = .ok (.ifCond .ne 7, 3) := by decide +kernel
set_option maxRecDepth 100000 in
theorem d136_708 : decode (xmb 136) 708 = .ok (.iconst 1, 1) := by decide +kernel
set_option maxRecDepth 100000 in
theorem d136_709 : decode (xmb 136) 709 = .ok (.goto 4, 3) := by decide +kernel
set_option maxRecDepth 100000 in
theorem d136_712 : decode (xmb 136) 712 = .ok (.iconst 0, 1) := by decide +kernel
set_option maxRecDepth 100000 in
theorem d136_713 : decode (xmb 136) 713 = .ok (.istore 5, 2) := by decide +kernel
set_option maxRecDepth 100000 in
theorem d136_715 : decode (xmb 136) 715 = .ok (.iload 5, 2) := by decide +kernel
set_option maxRecDepth 100000 in
theorem d136_717 : decode (xmb 136) 717 = .ok (.ifCond .eq 16, 3) := by decide +kernel
set_option maxRecDepth 100000 in
theorem d136_720 : decode (xmb 136) 720 = .ok (.aload_n 0, 1) := by decide +kernel
set_option maxRecDepth 100000 in
theorem d136_721 : decode (xmb 136) 721 = .ok (.invokestatic 133, 3) := by decide +kernel
set_option maxRecDepth 100000 in
theorem d136_724 : decode (xmb 136) 724 = .ok (.lload_n 1, 1) := by decide +kernel
set_option maxRecDepth 100000 in
theorem d136_725 : decode (xmb 136) 725 = .ok (.lcmp, 1) := by decide +kernel
set_option maxRecDepth 100000 in
theorem d136_726 : decode (xmb 136) 726 = .ok (.ifCond .ne 7, 3) := by decide +kernel
set_option maxRecDepth 100000 in
theorem d136_729 : decode (xmb 136) 729 = .ok (.iconst 1, 1) := by decide +kernel
set_option maxRecDepth 100000 in
theorem d136_730 : decode (xmb 136) 730 = .ok (.goto 4, 3) := by decide +kernel
set_option maxRecDepth 100000 in
theorem d136_733 : decode (xmb 136) 733 = .ok (.iconst 0, 1) := by decide +kernel
set_option maxRecDepth 100000 in
theorem d136_734 : decode (xmb 136) 734 = .ok (.ireturn, 1) := by decide +kernel
set_option maxRecDepth 100000 in
theorem d137_0 : decode (xmb 137) 0 = .ok (.iconst 1, 1) := by decide +kernel
set_option maxRecDepth 100000 in
theorem d137_1 : decode (xmb 137) 1 = .ok (.istore_n 1, 1) := by decide +kernel
set_option maxRecDepth 100000 in
theorem d137_2 : decode (xmb 137) 2 = .ok (.lconst 0, 1) := by decide +kernel
set_option maxRecDepth 100000 in
theorem d137_3 : decode (xmb 137) 3 = .ok (.lstore_n 2, 1) := by decide +kernel
set_option maxRecDepth 100000 in
theorem d137_4 : decode (xmb 137) 4 = .ok (.iconst 0, 1) := by decide +kernel
set_option maxRecDepth 100000 in
theorem d137_5 : decode (xmb 137) 5 = .ok (.istore 4, 2) := by decide +kernel
set_option maxRecDepth 100000 in
theorem d137_7 : decode (xmb 137) 7 = .ok (.iload 4, 2) := by decide +kernel
set_option maxRecDepth 100000 in
theorem d137_9 : decode (xmb 137) 9 = .ok (.i2l, 1) := by decide +kernel
set_option maxRecDepth 100000 in
theorem d137_10 : decode (xmb 137) 10 = .ok (.aload_n 0, 1) := by decide +kernel
set_option maxRecDepth 100000 in
theorem d137_11 : decode (xmb 137) 11 = .ok (.iconst 0, 1) := by decide +kernel
set_option maxRecDepth 100000 in
theorem d137_12 : decode (xmb 137) 12 = .ok (.invokestatic 117, 3) := by decide +kernel
set_option maxRecDepth 100000 in
theorem d137_15 : decode (xmb 137) 15 = .ok (.lcmp, 1) := by decide +kernel
set_option maxRecDepth 100000 in
theorem d137_16 : decode (xmb 137) 16 = .ok (.ifCond .ge 190, 3) := by decide +kernel
set_option maxRecDepth 100000 in
theorem d137_19 : decode (xmb 137) 19 = .ok (.iload_n 1, 1) := by decide +kernel
set_option maxRecDepth 100000 in
theorem d137_20 : decode (xmb 137) 20 = .ok (.ifCond .eq 186, 3) := by decide +kernel
set_option maxRecDepth 100000 in
theorem d137_23 : decode (xmb 137) 23 = .ok (.ldc2_w 185, 3) := by decide +kernel
set_option maxRecDepth 100000 in
theorem d137_26 : decode (xmb 137) 26 = .ok (.aload_n 0, 1) := by decide +kernel
set_option maxRecDepth 100000 in
theorem d137_27 : decode (xmb 137) 27 = .ok (.iload 4, 2) := by decide +kernel
set_option maxRecDepth 100000 in
theorem d137_29 : decode (xmb 137) 29 = .ok (.iconst 0, 1) := by decide +kernel
set_option maxRecDepth 100000 in
theorem d137_30 : decode (xmb 137) 30 = .ok (.invokestatic 137, 3) := by decide +kernel
set_option maxRecDepth 100000 in
theorem d137_33 : decode (xmb 137) 33 = .ok (.lmul, 1) := by decide +kernel
set_option maxRecDepth 100000 in
theorem d137_34 : decode (xmb 137) 34 = .ok (.ldc2_w 187, 3) := by decide +kernel
set_option maxRecDepth 100000 in
theorem d137_37 : decode (xmb 137) 37 = .ok (.aload_n 0, 1) := by decide +kernel
set_option maxRecDepth 100000 in
theorem d137_38 : decode (xmb 137) 38 = .ok (.iload 4, 2) := by decide +kernel
set_option maxRecDepth 100000 in
theorem d137_40 : decode (xmb 137) 40 = .ok (.iconst 1, 1) := by decide +kernel
set_option maxRecDepth 100000 in
theorem d137_41 : decode (xmb 137) 41 = .ok (.invokestatic 137, 3) := by decide +kernel
set_option maxRecDepth 100000 in
theorem d137_44 : decode (xmb 137) 44 = .ok (.lmul, 1) := by decide +kernel
set_option maxRecDepth 100000 in
theorem d137_45 : decode (xmb 137) 45 = .ok (.ladd, 1) := by decide +kernel
set_option maxRecDepth 100000 in
theorem d137_46 : decode (xmb 137) 46 = .ok (.ldc2_w 189, 3) := by decide +kernel
set_option maxRecDepth 100000 in
theorem d137_49 : decode (xmb 137) 49 = .ok (.aload_n 0, 1) := by decide +kernel
set_option maxRecDepth 100000 in
theorem d137_50 : decode (xmb 137) 50 = .ok (.iload 4, 2) := by decide +kernel
set_option maxRecDepth 100000 in
theorem d137_52 : decode (xmb 137) 52 = .ok (.iconst 2, 1) := by decide +kernel
set_option maxRecDepth 100000 in
theorem d137_53 : decode (xmb 137) 53 = .ok (.invokestatic 137, 3) := by decide +kernel
set_option maxRecDepth 100000 in
theorem d137_56 : decode (xmb 137) 56 = .ok (.lmul, 1) := by decide +kernel
set_option maxRecDepth 100000 in
theorem d137_57 : decode (xmb 137) 57 = .ok (.ladd, 1) := by decide +kernel
set_option maxRecDepth 100000 in
theorem d137_58 : decode (xmb 137) 58 = .ok (.ldc2_w 191, 3) := by decide +kernel
set_option maxRecDepth 100000 in
theorem d137_61 : decode (xmb 137) 61 = .ok (.aload_n 0, 1) := by decide +kernel
set_option maxRecDepth 100000 in
theorem d137_62 : decode (xmb 137) 62 = .ok (.iload 4, 2) := by decide +kernel
set_option maxRecDepth 100000 in
theorem d137_64 : decode (xmb 137) 64 = .ok (.iconst 3, 1) := by decide +kernel
set_option maxRecDepth 100000 in
theorem d137_65 : decode (xmb 137) 65 = .ok (.invokestatic 137, 3) := by decide +kernel
set_option maxRecDepth 100000 in
theorem d137_68 : decode (xmb 137) 68 = .ok (.lmul, 1) := by decide +kernel
set_option maxRecDepth 100000 in
theorem d137_69 : decode (xmb 137) 69 = .ok (.ladd, 1) := by decide +kernel
set_option maxRecDepth 100000 in
theorem d137_70 : decode (xmb 137) 70 = .ok (.lstore 5, 2) := by decide +kernel
set_option maxRecDepth 100000 in
theorem d137_72 : decode (xmb 137) 72 = .ok (.aload_n 0, 1) := by decide +kernel
set_option maxRecDepth 100000 in
theorem d137_73 : decode (xmb 137) 73 = .ok (.iload 4, 2) := by decide +kernel
set_option maxRecDepth 100000 in
theorem d137_75 : decode (xmb 137) 75 = .ok (.iconst 0, 1) := by decide +kernel
set_option maxRecDepth 100000 in
theorem d137_76 : decode (xmb 137) 76 = .ok (.invokestatic 137, 3) := by decide +kernel
set_option maxRecDepth 100000 in
theorem d137_79 : decode (xmb 137) 79 = .ok (.aload_n 0, 1) := by decide +kernel
set_option maxRecDepth 100000 in
theorem d137_80 : decode (xmb 137) 80 = .ok (.iload 4, 2) := by decide +kernel
set_option maxRecDepth 100000 in
theorem d137_82 : decode (xmb 137) 82 = .ok (.iconst 1, 1) := by decide +kernel
set_option maxRecDepth 100000 in
theorem d137_83 : decode (xmb 137) 83 = .ok (.invokestatic 137, 3) := by decide +kernel
set_option maxRecDepth 100000 in
theorem d137_86 : decode (xmb 137) 86 = .ok (.ladd, 1) := by decide +kernel
set_option maxRecDepth 100000 in
theorem d137_87 : decode (xmb 137) 87 = .ok (.aload_n 0, 1) := by decide +kernel
set_option maxRecDepth 100000 in
theorem d137_88 : decode (xmb 137) 88 = .ok (.iload 4, 2) := by decide +kernel
set_option maxRecDepth 100000 in
theorem d137_90 : decode (xmb 137) 90 = .ok (.iconst 2, 1) := by decide +kernel
set_option maxRecDepth 100000 in
theorem d137_91 : decode (xmb 137) 91 = .ok (.invokestatic 137, 3) := by decide +kernel
set_option maxRecDepth 100000 in
theorem d137_94 : decode (xmb 137) 94 = .ok (.ladd, 1) := by decide +kernel
set_option maxRecDepth 100000 in
theorem d137_95 : decode (xmb 137) 95 = .ok (.aload_n 0, 1) := by decide +kernel
set_option maxRecDepth 100000 in
theorem d137_96 : decode (xmb 137) 96 = .ok (.iload 4, 2) := by decide +kernel
set_option maxRecDepth 100000 in
theorem d137_98 : decode (xmb 137) 98 = .ok (.iconst 3, 1) := by decide +kernel
set_option maxRecDepth 100000 in
theorem d137_99 : decode (xmb 137) 99 = .ok (.invokestatic 137, 3) := by decide +kernel
set_option maxRecDepth 100000 in
theorem d137_102 : decode (xmb 137) 102 = .ok (.ladd, 1) := by decide +kernel
set_option maxRecDepth 100000 in
theorem d137_103 : decode (xmb 137) 103 = .ok (.lstore 7, 2) := by decide +kernel
set_option maxRecDepth 100000 in
theorem d137_105 : decode (xmb 137) 105 = .ok (.aload_n 0, 1) := by decide +kernel
set_option maxRecDepth 100000 in
theorem d137_106 : decode (xmb 137) 106 = .ok (.iload 4, 2) := by decide +kernel
set_option maxRecDepth 100000 in
theorem d137_108 : decode (xmb 137) 108 = .ok (.iconst 4, 1) := by decide +kernel
set_option maxRecDepth 100000 in
theorem d137_109 : decode (xmb 137) 109 = .ok (.invokestatic 128, 3) := by decide +kernel
set_option maxRecDepth 100000 in
theorem d137_112 : decode (xmb 137) 112 = .ok (.lstore 9, 2) := by decide +kernel
set_option maxRecDepth 100000 in
theorem d137_114 : decode (xmb 137) 114 = .ok (.lload_n 2, 1) := by decide +kernel
set_option maxRecDepth 100000 in
theorem d137_115 : decode (xmb 137) 115 = .ok (.lload 7, 2) := by decide +kernel
set_option maxRecDepth 100000 in
theorem d137_117 : decode (xmb 137) 117 = .ok (.ladd, 1) := by decide +kernel
set_option maxRecDepth 100000 in
theorem d137_118 : decode (xmb 137) 118 = .ok (.lstore_n 2, 1) := by decide +kernel
set_option maxRecDepth 100000 in
theorem d137_119 : decode (xmb 137) 119 = .ok (.lload 5, 2) := by decide +kernel
set_option maxRecDepth 100000 in
theorem d137_121 : decode (xmb 137) 121 = .ok (.aload_n 0, 1) := by decide +kernel
set_option maxRecDepth 100000 in
theorem d137_122 : decode (xmb 137) 122 = .ok (.iload 4, 2) := by decide +kernel
set_option maxRecDepth 100000 in
theorem d137_124 : decode (xmb 137) 124 = .ok (.iconst 2, 1) := by decide +kernel
set_option maxRecDepth 100000 in
theorem d137_125 : decode (xmb 137) 125 = .ok (.invokestatic 128, 3) := by decide +kernel
set_option maxRecDepth 100000 in
theorem d137_128 : decode (xmb 137) 128 = .ok (.lcmp, 1) := by decide +kernel
set_option maxRecDepth 100000 in
theorem d137_129 : decode (xmb 137) 129 = .ok (.ifCond .ne 69, 3) := by decide +kernel
set_option maxRecDepth 100000 in
theorem d137_132 : decode (xmb 137) 132 = .ok (.lload 7, 2) := by decide +kernel
set_option maxRecDepth 100000 in
theorem d137_134 : decode (xmb 137) 134 = .ok (.aload_n 0, 1) := by decide +kernel
set_option maxRecDepth 100000 in
theorem d137_135 : decode (xmb 137) 135 = .ok (.iload 4, 2) := by decide +kernel
set_option maxRecDepth 100000 in
theorem d137_137 : decode (xmb 137) 137 = .ok (.iconst 3, 1) := by decide +kernel
set_option maxRecDepth 100000 in
theorem d137_138 : decode (xmb 137) 138 = .ok (.invokestatic 128, 3) := by decide +kernel
set_option maxRecDepth 100000 in
theorem d137_141 : decode (xmb 137) 141 = .ok (.lcmp, 1) := by decide +kernel
set_option maxRecDepth 100000 in
theorem d137_142 : decode (xmb 137) 142 = .ok (.ifCond .ne 56, 3) := by decide +kernel
set_option maxRecDepth 100000 in
theorem d137_145 : decode (xmb 137) 145 = .ok (.lload 9, 2) := by decide +kernel
set_option maxRecDepth 100000 in
theorem d137_147 : decode (xmb 137) 147 = .ok (.lload 5, 2) := by decide +kernel
set_option maxRecDepth 100000 in
theorem d137_149 : decode (xmb 137) 149 = .ok (.aload_n 0, 1) := by decide +kernel
set_option maxRecDepth 100000 in
theorem d137_150 : decode (xmb 137) 150 = .ok (.iload 4, 2) := by decide +kernel
set_option maxRecDepth 100000 in
theorem d137_152 : decode (xmb 137) 152 = .ok (.iconst 1, 1) := by decide +kernel
set_option maxRecDepth 100000 in
theorem d137_153 : decode (xmb 137) 153 = .ok (.invokestatic 128, 3) := by decide +kernel
set_option maxRecDepth 100000 in
theorem d137_156 : decode (xmb 137) 156 = .ok (.lsub, 1) := by decide +kernel
set_option maxRecDepth 100000 in
theorem d137_157 : decode (xmb 137) 157 = .ok (.lcmp, 1) := by decide +kernel
set_option maxRecDepth 100000 in
theorem d137_158 : decode (xmb 137) 158 = .ok (.ifCond .ne 40, 3) := by decide +kernel
set_option maxRecDepth 100000 in
theorem d137_161 : decode (xmb 137) 161 = .ok (.lload 9, 2) := by decide +kernel
set_option maxRecDepth 100000 in
theorem d137_163 : decode (xmb 137) 163 = .ok (.ldc2_w 193, 3) := by decide +kernel
set_option maxRecDepth 100000 in
theorem d137_166 : decode (xmb 137) 166 = .ok (.ldc2_w 191, 3) := by decide +kernel
set_option maxRecDepth 100000 in
theorem d137_169 : decode (xmb 137) 169 = .ok (.invokestatic 195, 3) := by decide +kernel
set_option maxRecDepth 100000 in
theorem d137_172 : decode (xmb 137) 172 = .ok (.ifCond .eq 26, 3) := by decide +kernel
set_option maxRecDepth 100000 in
theorem d137_175 : decode (xmb 137) 175 = .ok (.aload_n 0, 1) := by decide +kernel
set_option maxRecDepth 100000 in
theorem d137_176 : decode (xmb 137) 176 = .ok (.iconst 1, 1) := by decide +kernel
set_option maxRecDepth 100000 in
theorem d137_177 : decode (xmb 137) 177 = .ok (.invokestatic 122, 3) := by decide +kernel
set_option maxRecDepth 100000 in
theorem d137_180 : decode (xmb 137) 180 = .ok (.ldc2_w 199, 3) := by decide +kernel
set_option maxRecDepth 100000 in
theorem d137_183 : decode (xmb 137) 183 = .ok (.lcmp, 1) := by decide +kernel
set_option maxRecDepth 100000 in
theorem d137_184 : decode (xmb 137) 184 = .ok (.ifCond .ne 10, 3) := by decide +kernel
set_option maxRecDepth 100000 in
theorem d137_187 : decode (xmb 137) 187 = .ok (.lload 9, 2) := by decide +kernel
set_option maxRecDepth 100000 in
theorem d137_189 : decode (xmb 137) 189 = .ok (.lconst 0, 1) := by decide +kernel
set_option maxRecDepth 100000 in
theorem d137_190 : decode (xmb 137) 190 = .ok (.lcmp, 1) := by decide +kernel
set_option maxRecDepth 100000 in
theorem d137_191 : decode (xmb 137) 191 = .ok (.ifCond .lt 7, 3) := by decide +kernel
set_option maxRecDepth 100000 in
theorem d137_194 : decode (xmb 137) 194 = .ok (.iconst 1, 1) := by decide +kernel
set_option maxRecDepth 100000 in
theorem d137_195 : decode (xmb 137) 195 = .ok (.goto 4, 3) := by decide +kernel
set_option maxRecDepth 100000 in
theorem d137_198 : decode (xmb 137) 198 = .ok (.iconst 0, 1) := by decide +kernel
set_option maxRecDepth 100000 in
theorem d137_199 : decode (xmb 137) 199 = .ok (.istore_n 1, 1) := by decide +kernel
set_option maxRecDepth 100000 in
theorem d137_200 : decode (xmb 137) 200 = .ok (.iinc 4 1, 3) := by decide +kernel
set_option maxRecDepth 100000 in
theorem d137_203 : decode (xmb 137) 203 = .ok (.goto (-196), 3) := by decide +kernel
set_option maxRecDepth 100000 in
theorem d137_206 : decode (xmb 137) 206 = .ok (.aload_n 0, 1) := by decide +kernel
set_option maxRecDepth 100000 in
theorem d137_207 : decode (xmb 137) 207 = .ok (.iconst 5, 1) := by decide +kernel
set_option maxRecDepth 100000 in
theorem d137_208 : decode (xmb 137) 208 = .ok (.invokestatic 117, 3) := by decide +kernel
set_option maxRecDepth 100000 in
theorem d137_211 : decode (xmb 137) 211 = .ok (.l2i, 1) := by decide +kernel
set_option maxRecDepth 100000 in
theorem d137_212 : decode (xmb 137) 212 = .ok (.istore 4, 2) := by decide +kernel
set_option maxRecDepth 100000 in
theorem d137_214 : decode (xmb 137) 214 = .ok (.iconst 0, 1) := by decide +kernel
set_option maxRecDepth 100000 in
theorem d137_215 : decode (xmb 137) 215 = .ok (.istore 5, 2) := by decide +kernel
set_option maxRecDepth 100000 in
theorem d137_217 : decode (xmb 137) 217 = .ok (.lconst 0, 1) := by decide +kernel
set_option maxRecDepth 100000 in
theorem d137_218 : decode (xmb 137) 218 = .ok (.lstore 6, 2) := by decide +kernel
set_option maxRecDepth 100000 in
theorem d137_220 : decode (xmb 137) 220 = .ok (.lconst 0, 1) := by decide +kernel
set_option maxRecDepth 100000 in
theorem d137_221 : decode (xmb 137) 221 = .ok (.lstore 8, 2) := by decide +kernel
set_option maxRecDepth 100000 in
theorem d137_223 : decode (xmb 137) 223 = .ok (.iconst 0, 1) := by decide +kernel
set_option maxRecDepth 100000 in
theorem d137_224 : decode (xmb 137) 224 = .ok (.istore 10, 2) := by decide +kernel
set_option maxRecDepth 100000 in
theorem d137_226 : decode (xmb 137) 226 = .ok (.iload 10, 2) := by decide +kernel
set_option maxRecDepth 100000 in
theorem d137_228 : decode (xmb 137) 228 = .ok (.i2l, 1) := by decide +kernel
set_option maxRecDepth 100000 in
theorem d137_229 : decode (xmb 137) 229 = .ok (.aload_n 0, 1) := by decide +kernel
set_option maxRecDepth 100000 in
theorem d137_230 : decode (xmb 137) 230 = .ok (.iconst 1, 1) := by decide +kernel
set_option maxRecDepth 100000 in
theorem d137_231 : decode (xmb 137) 231 = .ok (.invokestatic 117, 3) := by decide +kernel
set_option maxRecDepth 100000 in
theorem d137_234 : decode (xmb 137) 234 = .ok (.lcmp, 1) := by decide +kernel
set_option maxRecDepth 100000 in
theorem d137_235 : decode (xmb 137) 235 = .ok (.ifCond .ge 440, 3) := by decide +kernel
set_option maxRecDepth 100000 in
theorem d137_238 : decode (xmb 137) 238 = .ok (.iload_n 1, 1) := by decide +kernel
set_option maxRecDepth 100000 in
theorem d137_239 : decode (xmb 137) 239 = .ok (.ifCond .eq 436, 3) := by decide +kernel
set_option maxRecDepth 100000 in
theorem d137_242 : decode (xmb 137) 242 = .ok (.aload_n 0, 1) := by decide +kernel
set_option maxRecDepth 100000 in
theorem d137_243 : decode (xmb 137) 243 = .ok (.iload 10, 2) := by decide +kernel
set_option maxRecDepth 100000 in
theorem d137_245 : decode (xmb 137) 245 = .ok (.bipush 7, 2) := by decide +kernel
set_option maxRecDepth 100000 in
theorem d137_247 : decode (xmb 137) 247 = .ok (.invokestatic 131, 3) := by decide +kernel
