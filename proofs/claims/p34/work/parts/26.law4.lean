set_option maxRecDepth 100000 in
theorem d137_724 : decode (xmb 137) 724 = .ok (.ifCond .eq 15, 3) := by decide +kernel
set_option maxRecDepth 100000 in
theorem d137_727 : decode (xmb 137) 727 = .ok (.lload 13, 2) := by decide +kernel
set_option maxRecDepth 100000 in
theorem d137_729 : decode (xmb 137) 729 = .ok (.lload 10, 2) := by decide +kernel
set_option maxRecDepth 100000 in
theorem d137_731 : decode (xmb 137) 731 = .ok (.lcmp, 1) := by decide +kernel
set_option maxRecDepth 100000 in
theorem d137_732 : decode (xmb 137) 732 = .ok (.ifCond .lt 7, 3) := by decide +kernel
set_option maxRecDepth 100000 in
theorem d137_735 : decode (xmb 137) 735 = .ok (.iconst 1, 1) := by decide +kernel
set_option maxRecDepth 100000 in
theorem d137_736 : decode (xmb 137) 736 = .ok (.goto 4, 3) := by decide +kernel
set_option maxRecDepth 100000 in
theorem d137_739 : decode (xmb 137) 739 = .ok (.iconst 0, 1) := by decide +kernel
set_option maxRecDepth 100000 in
theorem d137_740 : decode (xmb 137) 740 = .ok (.istore_n 1, 1) := by decide +kernel
set_option maxRecDepth 100000 in
theorem d137_741 : decode (xmb 137) 741 = .ok (.lload 13, 2) := by decide +kernel
set_option maxRecDepth 100000 in
theorem d137_743 : decode (xmb 137) 743 = .ok (.lstore 10, 2) := by decide +kernel
set_option maxRecDepth 100000 in
theorem d137_745 : decode (xmb 137) 745 = .ok (.iinc 12 1, 3) := by decide +kernel
set_option maxRecDepth 100000 in
theorem d137_748 : decode (xmb 137) 748 = .ok (.goto (-65), 3) := by decide +kernel
set_option maxRecDepth 100000 in
theorem d137_751 : decode (xmb 137) 751 = .ok (.iload_n 1, 1) := by decide +kernel
set_option maxRecDepth 100000 in
theorem d137_752 : decode (xmb 137) 752 = .ok (.ifCond .eq 121, 3) := by decide +kernel
set_option maxRecDepth 100000 in
theorem d137_755 : decode (xmb 137) 755 = .ok (.aload_n 0, 1) := by decide +kernel
set_option maxRecDepth 100000 in
theorem d137_756 : decode (xmb 137) 756 = .ok (.iconst 4, 1) := by decide +kernel
set_option maxRecDepth 100000 in
theorem d137_757 : decode (xmb 137) 757 = .ok (.invokestatic 117, 3) := by decide +kernel
set_option maxRecDepth 100000 in
theorem d137_760 : decode (xmb 137) 760 = .ok (.lload_n 2, 1) := by decide +kernel
set_option maxRecDepth 100000 in
theorem d137_761 : decode (xmb 137) 761 = .ok (.lcmp, 1) := by decide +kernel
set_option maxRecDepth 100000 in
theorem d137_762 : decode (xmb 137) 762 = .ok (.ifCond .ne 111, 3) := by decide +kernel
set_option maxRecDepth 100000 in
theorem d137_765 : decode (xmb 137) 765 = .ok (.aload_n 0, 1) := by decide +kernel
set_option maxRecDepth 100000 in
theorem d137_766 : decode (xmb 137) 766 = .ok (.bipush 6, 2) := by decide +kernel
set_option maxRecDepth 100000 in
theorem d137_768 : decode (xmb 137) 768 = .ok (.invokestatic 117, 3) := by decide +kernel
set_option maxRecDepth 100000 in
theorem d137_771 : decode (xmb 137) 771 = .ok (.iload 5, 2) := by decide +kernel
set_option maxRecDepth 100000 in
theorem d137_773 : decode (xmb 137) 773 = .ok (.i2l, 1) := by decide +kernel
set_option maxRecDepth 100000 in
theorem d137_774 : decode (xmb 137) 774 = .ok (.lcmp, 1) := by decide +kernel
set_option maxRecDepth 100000 in
theorem d137_775 : decode (xmb 137) 775 = .ok (.ifCond .ne 98, 3) := by decide +kernel
set_option maxRecDepth 100000 in
theorem d137_778 : decode (xmb 137) 778 = .ok (.aload_n 0, 1) := by decide +kernel
set_option maxRecDepth 100000 in
theorem d137_779 : decode (xmb 137) 779 = .ok (.bipush 8, 2) := by decide +kernel
set_option maxRecDepth 100000 in
theorem d137_781 : decode (xmb 137) 781 = .ok (.invokestatic 117, 3) := by decide +kernel
set_option maxRecDepth 100000 in
theorem d137_784 : decode (xmb 137) 784 = .ok (.lload 6, 2) := by decide +kernel
set_option maxRecDepth 100000 in
theorem d137_786 : decode (xmb 137) 786 = .ok (.lcmp, 1) := by decide +kernel
set_option maxRecDepth 100000 in
theorem d137_787 : decode (xmb 137) 787 = .ok (.ifCond .ne 86, 3) := by decide +kernel
set_option maxRecDepth 100000 in
theorem d137_790 : decode (xmb 137) 790 = .ok (.aload_n 0, 1) := by decide +kernel
set_option maxRecDepth 100000 in
theorem d137_791 : decode (xmb 137) 791 = .ok (.bipush 7, 2) := by decide +kernel
set_option maxRecDepth 100000 in
theorem d137_793 : decode (xmb 137) 793 = .ok (.invokestatic 117, 3) := by decide +kernel
set_option maxRecDepth 100000 in
theorem d137_796 : decode (xmb 137) 796 = .ok (.lload 8, 2) := by decide +kernel
set_option maxRecDepth 100000 in
theorem d137_798 : decode (xmb 137) 798 = .ok (.lcmp, 1) := by decide +kernel
set_option maxRecDepth 100000 in
theorem d137_799 : decode (xmb 137) 799 = .ok (.ifCond .ne 74, 3) := by decide +kernel
set_option maxRecDepth 100000 in
theorem d137_802 : decode (xmb 137) 802 = .ok (.aload_n 0, 1) := by decide +kernel
set_option maxRecDepth 100000 in
theorem d137_803 : decode (xmb 137) 803 = .ok (.aload_n 0, 1) := by decide +kernel
set_option maxRecDepth 100000 in
theorem d137_804 : decode (xmb 137) 804 = .ok (.iconst 1, 1) := by decide +kernel
set_option maxRecDepth 100000 in
theorem d137_805 : decode (xmb 137) 805 = .ok (.invokestatic 117, 3) := by decide +kernel
set_option maxRecDepth 100000 in
theorem d137_808 : decode (xmb 137) 808 = .ok (.l2i, 1) := by decide +kernel
set_option maxRecDepth 100000 in
theorem d137_809 : decode (xmb 137) 809 = .ok (.iload 5, 2) := by decide +kernel
set_option maxRecDepth 100000 in
theorem d137_811 : decode (xmb 137) 811 = .ok (.isub, 1) := by decide +kernel
set_option maxRecDepth 100000 in
theorem d137_812 : decode (xmb 137) 812 = .ok (.invokestatic 148, 3) := by decide +kernel
set_option maxRecDepth 100000 in
theorem d137_815 : decode (xmb 137) 815 = .ok (.ldc2_w 36, 3) := by decide +kernel
set_option maxRecDepth 100000 in
theorem d137_818 : decode (xmb 137) 818 = .ok (.lcmp, 1) := by decide +kernel
set_option maxRecDepth 100000 in
theorem d137_819 : decode (xmb 137) 819 = .ok (.ifCond .ne 54, 3) := by decide +kernel
set_option maxRecDepth 100000 in
theorem d137_822 : decode (xmb 137) 822 = .ok (.aload_n 0, 1) := by decide +kernel
set_option maxRecDepth 100000 in
theorem d137_823 : decode (xmb 137) 823 = .ok (.iload 4, 2) := by decide +kernel
set_option maxRecDepth 100000 in
theorem d137_825 : decode (xmb 137) 825 = .ok (.sipush 1500, 3) := by decide +kernel
set_option maxRecDepth 100000 in
theorem d137_828 : decode (xmb 137) 828 = .ok (.if_icmp .ge 8, 3) := by decide +kernel
set_option maxRecDepth 100000 in
theorem d137_831 : decode (xmb 137) 831 = .ok (.iload 4, 2) := by decide +kernel
set_option maxRecDepth 100000 in
theorem d137_833 : decode (xmb 137) 833 = .ok (.goto 6, 3) := by decide +kernel
set_option maxRecDepth 100000 in
theorem d137_836 : decode (xmb 137) 836 = .ok (.sipush 1500, 3) := by decide +kernel
set_option maxRecDepth 100000 in
theorem d137_839 : decode (xmb 137) 839 = .ok (.bipush 9, 2) := by decide +kernel
set_option maxRecDepth 100000 in
theorem d137_841 : decode (xmb 137) 841 = .ok (.invokestatic 150, 3) := by decide +kernel
set_option maxRecDepth 100000 in
theorem d137_844 : decode (xmb 137) 844 = .ok (.iload 4, 2) := by decide +kernel
set_option maxRecDepth 100000 in
theorem d137_846 : decode (xmb 137) 846 = .ok (.sipush 1500, 3) := by decide +kernel
set_option maxRecDepth 100000 in
theorem d137_849 : decode (xmb 137) 849 = .ok (.if_icmp .ge 15, 3) := by decide +kernel
set_option maxRecDepth 100000 in
theorem d137_852 : decode (xmb 137) 852 = .ok (.aload_n 0, 1) := by decide +kernel
set_option maxRecDepth 100000 in
theorem d137_853 : decode (xmb 137) 853 = .ok (.iconst 1, 1) := by decide +kernel
set_option maxRecDepth 100000 in
theorem d137_854 : decode (xmb 137) 854 = .ok (.invokestatic 117, 3) := by decide +kernel
set_option maxRecDepth 100000 in
theorem d137_857 : decode (xmb 137) 857 = .ok (.iload 5, 2) := by decide +kernel
set_option maxRecDepth 100000 in
theorem d137_859 : decode (xmb 137) 859 = .ok (.i2l, 1) := by decide +kernel
set_option maxRecDepth 100000 in
theorem d137_860 : decode (xmb 137) 860 = .ok (.lsub, 1) := by decide +kernel
set_option maxRecDepth 100000 in
theorem d137_861 : decode (xmb 137) 861 = .ok (.goto 4, 3) := by decide +kernel
set_option maxRecDepth 100000 in
theorem d137_864 : decode (xmb 137) 864 = .ok (.lconst 0, 1) := by decide +kernel
set_option maxRecDepth 100000 in
theorem d137_865 : decode (xmb 137) 865 = .ok (.lcmp, 1) := by decide +kernel
set_option maxRecDepth 100000 in
theorem d137_866 : decode (xmb 137) 866 = .ok (.ifCond .lt 7, 3) := by decide +kernel
set_option maxRecDepth 100000 in
theorem d137_869 : decode (xmb 137) 869 = .ok (.iconst 1, 1) := by decide +kernel
set_option maxRecDepth 100000 in
theorem d137_870 : decode (xmb 137) 870 = .ok (.goto 4, 3) := by decide +kernel
set_option maxRecDepth 100000 in
theorem d137_873 : decode (xmb 137) 873 = .ok (.iconst 0, 1) := by decide +kernel
set_option maxRecDepth 100000 in
theorem d137_874 : decode (xmb 137) 874 = .ok (.ireturn, 1) := by decide +kernel
set_option maxRecDepth 100000 in
theorem d138_0 : decode (xmb 138) 0 = .ok (.aload_n 0, 1) := by decide +kernel
set_option maxRecDepth 100000 in
theorem d138_1 : decode (xmb 138) 1 = .ok (.invokestatic 133, 3) := by decide +kernel
set_option maxRecDepth 100000 in
theorem d138_4 : decode (xmb 138) 4 = .ok (.lstore_n 2, 1) := by decide +kernel
set_option maxRecDepth 100000 in
theorem d138_5 : decode (xmb 138) 5 = .ok (.aload_n 0, 1) := by decide +kernel
set_option maxRecDepth 100000 in
theorem d138_6 : decode (xmb 138) 6 = .ok (.iconst 1, 1) := by decide +kernel
set_option maxRecDepth 100000 in
theorem d138_7 : decode (xmb 138) 7 = .ok (.invokestatic 179, 3) := by decide +kernel
set_option maxRecDepth 100000 in
theorem d138_10 : decode (xmb 138) 10 = .ok (.aload_n 0, 1) := by decide +kernel
set_option maxRecDepth 100000 in
theorem d138_11 : decode (xmb 138) 11 = .ok (.iconst 1, 1) := by decide +kernel
set_option maxRecDepth 100000 in
theorem d138_12 : decode (xmb 138) 12 = .ok (.invokestatic 117, 3) := by decide +kernel
set_option maxRecDepth 100000 in
theorem d138_15 : decode (xmb 138) 15 = .ok (.lcmp, 1) := by decide +kernel
set_option maxRecDepth 100000 in
theorem d138_16 : decode (xmb 138) 16 = .ok (.ifCond .ne 36, 3) := by decide +kernel
set_option maxRecDepth 100000 in
theorem d138_19 : decode (xmb 138) 19 = .ok (.aload_n 0, 1) := by decide +kernel
set_option maxRecDepth 100000 in
theorem d138_20 : decode (xmb 138) 20 = .ok (.iload_n 1, 1) := by decide +kernel
set_option maxRecDepth 100000 in
theorem d138_21 : decode (xmb 138) 21 = .ok (.i2l, 1) := by decide +kernel
set_option maxRecDepth 100000 in
theorem d138_22 : decode (xmb 138) 22 = .ok (.bipush 6, 2) := by decide +kernel
set_option maxRecDepth 100000 in
theorem d138_24 : decode (xmb 138) 24 = .ok (.invokestatic 176, 3) := by decide +kernel
set_option maxRecDepth 100000 in
theorem d138_27 : decode (xmb 138) 27 = .ok (.aload_n 0, 1) := by decide +kernel
set_option maxRecDepth 100000 in
theorem d138_28 : decode (xmb 138) 28 = .ok (.iload_n 1, 1) := by decide +kernel
set_option maxRecDepth 100000 in
theorem d138_29 : decode (xmb 138) 29 = .ok (.i2l, 1) := by decide +kernel
set_option maxRecDepth 100000 in
theorem d138_30 : decode (xmb 138) 30 = .ok (.bipush 6, 2) := by decide +kernel
set_option maxRecDepth 100000 in
theorem d138_32 : decode (xmb 138) 32 = .ok (.invokestatic 176, 3) := by decide +kernel
set_option maxRecDepth 100000 in
theorem d138_35 : decode (xmb 138) 35 = .ok (.lcmp, 1) := by decide +kernel
set_option maxRecDepth 100000 in
theorem d138_36 : decode (xmb 138) 36 = .ok (.ifCond .ne 16, 3) := by decide +kernel
set_option maxRecDepth 100000 in
theorem d138_39 : decode (xmb 138) 39 = .ok (.aload_n 0, 1) := by decide +kernel
set_option maxRecDepth 100000 in
theorem d138_40 : decode (xmb 138) 40 = .ok (.invokestatic 133, 3) := by decide +kernel
set_option maxRecDepth 100000 in
theorem d138_43 : decode (xmb 138) 43 = .ok (.lload_n 2, 1) := by decide +kernel
set_option maxRecDepth 100000 in
theorem d138_44 : decode (xmb 138) 44 = .ok (.lcmp, 1) := by decide +kernel
set_option maxRecDepth 100000 in
theorem d138_45 : decode (xmb 138) 45 = .ok (.ifCond .ne 7, 3) := by decide +kernel
set_option maxRecDepth 100000 in
theorem d138_48 : decode (xmb 138) 48 = .ok (.iconst 1, 1) := by decide +kernel
set_option maxRecDepth 100000 in
theorem d138_49 : decode (xmb 138) 49 = .ok (.goto 4, 3) := by decide +kernel
set_option maxRecDepth 100000 in
theorem d138_52 : decode (xmb 138) 52 = .ok (.iconst 0, 1) := by decide +kernel
set_option maxRecDepth 100000 in
theorem d138_53 : decode (xmb 138) 53 = .ok (.istore 4, 2) := by decide +kernel
set_option maxRecDepth 100000 in
theorem d138_55 : decode (xmb 138) 55 = .ok (.iload_n 1, 1) := by decide +kernel
set_option maxRecDepth 100000 in
theorem d138_56 : decode (xmb 138) 56 = .ok (.iconst 4, 1) := by decide +kernel
set_option maxRecDepth 100000 in
theorem d138_57 : decode (xmb 138) 57 = .ok (.irem, 1) := by decide +kernel
set_option maxRecDepth 100000 in
theorem d138_58 : decode (xmb 138) 58 = .ok (.istore 5, 2) := by decide +kernel
set_option maxRecDepth 100000 in
theorem d138_60 : decode (xmb 138) 60 = .ok (.aload_n 0, 1) := by decide +kernel
set_option maxRecDepth 100000 in
theorem d138_61 : decode (xmb 138) 61 = .ok (.iload 5, 2) := by decide +kernel
set_option maxRecDepth 100000 in
theorem d138_63 : decode (xmb 138) 63 = .ok (.invokestatic 126, 3) := by decide +kernel
set_option maxRecDepth 100000 in
theorem d138_66 : decode (xmb 138) 66 = .ok (.l2i, 1) := by decide +kernel
set_option maxRecDepth 100000 in
theorem d138_67 : decode (xmb 138) 67 = .ok (.istore 6, 2) := by decide +kernel
set_option maxRecDepth 100000 in
theorem d138_69 : decode (xmb 138) 69 = .ok (.iload 6, 2) := by decide +kernel
set_option maxRecDepth 100000 in
theorem d138_71 : decode (xmb 138) 71 = .ok (.iconst 3, 1) := by decide +kernel
set_option maxRecDepth 100000 in
theorem d138_72 : decode (xmb 138) 72 = .ok (.if_icmp .ge 103, 3) := by decide +kernel
set_option maxRecDepth 100000 in
theorem d138_75 : decode (xmb 138) 75 = .ok (.iload 4, 2) := by decide +kernel
set_option maxRecDepth 100000 in
theorem d138_77 : decode (xmb 138) 77 = .ok (.ifCond .eq 98, 3) := by decide +kernel
set_option maxRecDepth 100000 in
theorem d138_80 : decode (xmb 138) 80 = .ok (.aload_n 0, 1) := by decide +kernel
set_option maxRecDepth 100000 in
theorem d138_81 : decode (xmb 138) 81 = .ok (.iload 5, 2) := by decide +kernel
set_option maxRecDepth 100000 in
theorem d138_83 : decode (xmb 138) 83 = .ok (.iconst 0, 1) := by decide +kernel
set_option maxRecDepth 100000 in
theorem d138_84 : decode (xmb 138) 84 = .ok (.invokestatic 162, 3) := by decide +kernel
set_option maxRecDepth 100000 in
theorem d138_87 : decode (xmb 138) 87 = .ok (.lstore 7, 2) := by decide +kernel
set_option maxRecDepth 100000 in
theorem d138_89 : decode (xmb 138) 89 = .ok (.aload_n 0, 1) := by decide +kernel
set_option maxRecDepth 100000 in
theorem d138_90 : decode (xmb 138) 90 = .ok (.iload 5, 2) := by decide +kernel
set_option maxRecDepth 100000 in
theorem d138_92 : decode (xmb 138) 92 = .ok (.iconst 1, 1) := by decide +kernel
set_option maxRecDepth 100000 in
theorem d138_93 : decode (xmb 138) 93 = .ok (.invokestatic 162, 3) := by decide +kernel
set_option maxRecDepth 100000 in
theorem d138_96 : decode (xmb 138) 96 = .ok (.lstore 9, 2) := by decide +kernel
set_option maxRecDepth 100000 in
theorem d138_98 : decode (xmb 138) 98 = .ok (.lload 9, 2) := by decide +kernel
set_option maxRecDepth 100000 in
theorem d138_100 : decode (xmb 138) 100 = .ok (.aload_n 0, 1) := by decide +kernel
set_option maxRecDepth 100000 in
theorem d138_101 : decode (xmb 138) 101 = .ok (.bipush 6, 2) := by decide +kernel
set_option maxRecDepth 100000 in
theorem d138_103 : decode (xmb 138) 103 = .ok (.invokestatic 117, 3) := by decide +kernel
set_option maxRecDepth 100000 in
theorem d138_106 : decode (xmb 138) 106 = .ok (.lcmp, 1) := by decide +kernel
set_option maxRecDepth 100000 in
theorem d138_107 : decode (xmb 138) 107 = .ok (.ifCond .gt 65, 3) := by decide +kernel
set_option maxRecDepth 100000 in
theorem d138_110 : decode (xmb 138) 110 = .ok (.aload_n 0, 1) := by decide +kernel
set_option maxRecDepth 100000 in
theorem d138_111 : decode (xmb 138) 111 = .ok (.iload 5, 2) := by decide +kernel
set_option maxRecDepth 100000 in
theorem d138_113 : decode (xmb 138) 113 = .ok (.iload 6, 2) := by decide +kernel
set_option maxRecDepth 100000 in
theorem d138_115 : decode (xmb 138) 115 = .ok (.iconst 1, 1) := by decide +kernel
set_option maxRecDepth 100000 in
theorem d138_116 : decode (xmb 138) 116 = .ok (.iadd, 1) := by decide +kernel
set_option maxRecDepth 100000 in
theorem d138_117 : decode (xmb 138) 117 = .ok (.invokestatic 158, 3) := by decide +kernel
set_option maxRecDepth 100000 in
theorem d138_120 : decode (xmb 138) 120 = .ok (.iload 6, 2) := by decide +kernel
set_option maxRecDepth 100000 in
theorem d138_122 : decode (xmb 138) 122 = .ok (.i2l, 1) := by decide +kernel
set_option maxRecDepth 100000 in
theorem d138_123 : decode (xmb 138) 123 = .ok (.lcmp, 1) := by decide +kernel
set_option maxRecDepth 100000 in
theorem d138_124 : decode (xmb 138) 124 = .ok (.ifCond .ne 48, 3) := by decide +kernel
set_option maxRecDepth 100000 in
theorem d138_127 : decode (xmb 138) 127 = .ok (.aload_n 0, 1) := by decide +kernel
set_option maxRecDepth 100000 in
theorem d138_128 : decode (xmb 138) 128 = .ok (.iconst 5, 1) := by decide +kernel
set_option maxRecDepth 100000 in
theorem d138_129 : decode (xmb 138) 129 = .ok (.invokestatic 117, 3) := by decide +kernel
set_option maxRecDepth 100000 in
theorem d138_132 : decode (xmb 138) 132 = .ok (.lload 7, 2) := by decide +kernel
set_option maxRecDepth 100000 in
theorem d138_134 : decode (xmb 138) 134 = .ok (.lcmp, 1) := by decide +kernel
set_option maxRecDepth 100000 in
theorem d138_135 : decode (xmb 138) 135 = .ok (.ifCond .ne 37, 3) := by decide +kernel
set_option maxRecDepth 100000 in
theorem d138_138 : decode (xmb 138) 138 = .ok (.aload_n 0, 1) := by decide +kernel
set_option maxRecDepth 100000 in
theorem d138_139 : decode (xmb 138) 139 = .ok (.bipush 6, 2) := by decide +kernel
set_option maxRecDepth 100000 in
theorem d138_141 : decode (xmb 138) 141 = .ok (.invokestatic 117, 3) := by decide +kernel
set_option maxRecDepth 100000 in
theorem d138_144 : decode (xmb 138) 144 = .ok (.lload 9, 2) := by decide +kernel
set_option maxRecDepth 100000 in
theorem d138_146 : decode (xmb 138) 146 = .ok (.lcmp, 1) := by decide +kernel
set_option maxRecDepth 100000 in
theorem d138_147 : decode (xmb 138) 147 = .ok (.ifCond .ne 25, 3) := by decide +kernel
set_option maxRecDepth 100000 in
theorem d138_150 : decode (xmb 138) 150 = .ok (.aload_n 0, 1) := by decide +kernel
set_option maxRecDepth 100000 in
theorem d138_151 : decode (xmb 138) 151 = .ok (.invokestatic 205, 3) := by decide +kernel
set_option maxRecDepth 100000 in
theorem d138_154 : decode (xmb 138) 154 = .ok (.lconst 0, 1) := by decide +kernel
set_option maxRecDepth 100000 in
theorem d138_155 : decode (xmb 138) 155 = .ok (.lcmp, 1) := by decide +kernel
set_option maxRecDepth 100000 in
theorem d138_156 : decode (xmb 138) 156 = .ok (.ifCond .lt 16, 3) := by decide +kernel
set_option maxRecDepth 100000 in
theorem d138_159 : decode (xmb 138) 159 = .ok (.aload_n 0, 1) := by decide +kernel
set_option maxRecDepth 100000 in
theorem d138_160 : decode (xmb 138) 160 = .ok (.invokestatic 133, 3) := by decide +kernel
set_option maxRecDepth 100000 in
theorem d138_163 : decode (xmb 138) 163 = .ok (.lload_n 2, 1) := by decide +kernel
set_option maxRecDepth 100000 in
theorem d138_164 : decode (xmb 138) 164 = .ok (.lcmp, 1) := by decide +kernel
set_option maxRecDepth 100000 in
theorem d138_165 : decode (xmb 138) 165 = .ok (.ifCond .ne 7, 3) := by decide +kernel
set_option maxRecDepth 100000 in
theorem d138_168 : decode (xmb 138) 168 = .ok (.iconst 1, 1) := by decide +kernel
set_option maxRecDepth 100000 in
theorem d138_169 : decode (xmb 138) 169 = .ok (.goto 4, 3) := by decide +kernel
set_option maxRecDepth 100000 in
theorem d138_172 : decode (xmb 138) 172 = .ok (.iconst 0, 1) := by decide +kernel
set_option maxRecDepth 100000 in
theorem d138_173 : decode (xmb 138) 173 = .ok (.istore 4, 2) := by decide +kernel
set_option maxRecDepth 100000 in
theorem d138_175 : decode (xmb 138) 175 = .ok (.iconst 1, 1) := by decide +kernel
set_option maxRecDepth 100000 in
theorem d138_176 : decode (xmb 138) 176 = .ok (.iload_n 1, 1) := by decide +kernel
set_option maxRecDepth 100000 in
theorem d138_177 : decode (xmb 138) 177 = .ok (.bipush 24, 2) := by decide +kernel
set_option maxRecDepth 100000 in
theorem d138_179 : decode (xmb 138) 179 = .ok (.irem, 1) := by decide +kernel
set_option maxRecDepth 100000 in
theorem d138_180 : decode (xmb 138) 180 = .ok (.iadd, 1) := by decide +kernel
set_option maxRecDepth 100000 in
theorem d138_181 : decode (xmb 138) 181 = .ok (.istore 7, 2) := by decide +kernel
set_option maxRecDepth 100000 in
theorem d138_183 : decode (xmb 138) 183 = .ok (.aload_n 0, 1) := by decide +kernel
set_option maxRecDepth 100000 in
theorem d138_184 : decode (xmb 138) 184 = .ok (.iload 7, 2) := by decide +kernel
set_option maxRecDepth 100000 in
theorem d138_186 : decode (xmb 138) 186 = .ok (.iconst 0, 1) := by decide +kernel
set_option maxRecDepth 100000 in
theorem d138_187 : decode (xmb 138) 187 = .ok (.invokestatic 164, 3) := by decide +kernel
set_option maxRecDepth 100000 in
theorem d138_190 : decode (xmb 138) 190 = .ok (.lstore 8, 2) := by decide +kernel
set_option maxRecDepth 100000 in
theorem d138_192 : decode (xmb 138) 192 = .ok (.aload_n 0, 1) := by decide +kernel
set_option maxRecDepth 100000 in
theorem d138_193 : decode (xmb 138) 193 = .ok (.iload 7, 2) := by decide +kernel
set_option maxRecDepth 100000 in
theorem d138_195 : decode (xmb 138) 195 = .ok (.iconst 1, 1) := by decide +kernel
set_option maxRecDepth 100000 in
theorem d138_196 : decode (xmb 138) 196 = .ok (.invokestatic 164, 3) := by decide +kernel
set_option maxRecDepth 100000 in
theorem d138_199 : decode (xmb 138) 199 = .ok (.lstore 10, 2) := by decide +kernel
set_option maxRecDepth 100000 in
theorem d138_201 : decode (xmb 138) 201 = .ok (.iconst 1, 1) := by decide +kernel
set_option maxRecDepth 100000 in
theorem d138_202 : decode (xmb 138) 202 = .ok (.iload_n 1, 1) := by decide +kernel
set_option maxRecDepth 100000 in
theorem d138_203 : decode (xmb 138) 203 = .ok (.bipush 24, 2) := by decide +kernel
set_option maxRecDepth 100000 in
theorem d138_205 : decode (xmb 138) 205 = .ok (.idiv, 1) := by decide +kernel
set_option maxRecDepth 100000 in
theorem d138_206 : decode (xmb 138) 206 = .ok (.iload 7, 2) := by decide +kernel
set_option maxRecDepth 100000 in
theorem d138_208 : decode (xmb 138) 208 = .ok (.irem, 1) := by decide +kernel
set_option maxRecDepth 100000 in
theorem d138_209 : decode (xmb 138) 209 = .ok (.iadd, 1) := by decide +kernel
set_option maxRecDepth 100000 in
theorem d138_210 : decode (xmb 138) 210 = .ok (.istore 12, 2) := by decide +kernel
set_option maxRecDepth 100000 in
theorem d138_212 : decode (xmb 138) 212 = .ok (.aload_n 0, 1) := by decide +kernel
set_option maxRecDepth 100000 in
theorem d138_213 : decode (xmb 138) 213 = .ok (.iload 12, 2) := by decide +kernel
set_option maxRecDepth 100000 in
theorem d138_215 : decode (xmb 138) 215 = .ok (.iload 7, 2) := by decide +kernel
set_option maxRecDepth 100000 in
theorem d138_217 : decode (xmb 138) 217 = .ok (.invokestatic 168, 3) := by decide +kernel
set_option maxRecDepth 100000 in
theorem d138_220 : decode (xmb 138) 220 = .ok (.l2i, 1) := by decide +kernel
set_option maxRecDepth 100000 in
theorem d138_221 : decode (xmb 138) 221 = .ok (.istore 13, 2) := by decide +kernel
set_option maxRecDepth 100000 in
theorem d138_223 : decode (xmb 138) 223 = .ok (.iload 4, 2) := by decide +kernel
set_option maxRecDepth 100000 in
theorem d138_225 : decode (xmb 138) 225 = .ok (.ifCond .eq 82, 3) := by decide +kernel
set_option maxRecDepth 100000 in
theorem d138_228 : decode (xmb 138) 228 = .ok (.iload 13, 2) := by decide +kernel
set_option maxRecDepth 100000 in
theorem d138_230 : decode (xmb 138) 230 = .ok (.i2l, 1) := by decide +kernel
set_option maxRecDepth 100000 in
theorem d138_231 : decode (xmb 138) 231 = .ok (.iload 12, 2) := by decide +kernel
set_option maxRecDepth 100000 in
theorem d138_233 : decode (xmb 138) 233 = .ok (.i2l, 1) := by decide +kernel
set_option maxRecDepth 100000 in
theorem d138_234 : decode (xmb 138) 234 = .ok (.iload 7, 2) := by decide +kernel
set_option maxRecDepth 100000 in
theorem d138_236 : decode (xmb 138) 236 = .ok (.i2l, 1) := by decide +kernel
set_option maxRecDepth 100000 in
theorem d138_237 : decode (xmb 138) 237 = .ok (.invokestatic 195, 3) := by decide +kernel
set_option maxRecDepth 100000 in
theorem d138_240 : decode (xmb 138) 240 = .ok (.ifCond .eq 67, 3) := by decide +kernel
set_option maxRecDepth 100000 in
theorem d138_243 : decode (xmb 138) 243 = .ok (.aload_n 0, 1) := by decide +kernel
set_option maxRecDepth 100000 in
theorem d138_244 : decode (xmb 138) 244 = .ok (.iload 13, 2) := by decide +kernel
set_option maxRecDepth 100000 in
theorem d138_246 : decode (xmb 138) 246 = .ok (.iconst 1, 1) := by decide +kernel
set_option maxRecDepth 100000 in
theorem d138_247 : decode (xmb 138) 247 = .ok (.invokestatic 164, 3) := by decide +kernel
set_option maxRecDepth 100000 in
theorem d138_250 : decode (xmb 138) 250 = .ok (.lload 10, 2) := by decide +kernel
set_option maxRecDepth 100000 in
theorem d138_252 : decode (xmb 138) 252 = .ok (.lcmp, 1) := by decide +kernel
set_option maxRecDepth 100000 in
theorem d138_253 : decode (xmb 138) 253 = .ok (.ifCond .gt 54, 3) := by decide +kernel
set_option maxRecDepth 100000 in
theorem d138_256 : decode (xmb 138) 256 = .ok (.aload_n 0, 1) := by decide +kernel
set_option maxRecDepth 100000 in
theorem d138_257 : decode (xmb 138) 257 = .ok (.aload_n 0, 1) := by decide +kernel
set_option maxRecDepth 100000 in
theorem d138_258 : decode (xmb 138) 258 = .ok (.iconst 2, 1) := by decide +kernel
set_option maxRecDepth 100000 in
theorem d138_259 : decode (xmb 138) 259 = .ok (.invokestatic 117, 3) := by decide +kernel
set_option maxRecDepth 100000 in
theorem d138_262 : decode (xmb 138) 262 = .ok (.l2i, 1) := by decide +kernel
set_option maxRecDepth 100000 in
theorem d138_263 : decode (xmb 138) 263 = .ok (.iload 7, 2) := by decide +kernel
set_option maxRecDepth 100000 in
theorem d138_265 : decode (xmb 138) 265 = .ok (.invokestatic 154, 3) := by decide +kernel
set_option maxRecDepth 100000 in
theorem d138_268 : decode (xmb 138) 268 = .ok (.lload 8, 2) := by decide +kernel
set_option maxRecDepth 100000 in
theorem d138_270 : decode (xmb 138) 270 = .ok (.lcmp, 1) := by decide +kernel
set_option maxRecDepth 100000 in
theorem d138_271 : decode (xmb 138) 271 = .ok (.ifCond .ne 36, 3) := by decide +kernel
set_option maxRecDepth 100000 in
theorem d138_274 : decode (xmb 138) 274 = .ok (.aload_n 0, 1) := by decide +kernel
set_option maxRecDepth 100000 in
theorem d138_275 : decode (xmb 138) 275 = .ok (.iconst 4, 1) := by decide +kernel
set_option maxRecDepth 100000 in
theorem d138_276 : decode (xmb 138) 276 = .ok (.invokestatic 117, 3) := by decide +kernel
set_option maxRecDepth 100000 in
theorem d138_279 : decode (xmb 138) 279 = .ok (.lload 8, 2) := by decide +kernel
set_option maxRecDepth 100000 in
theorem d138_281 : decode (xmb 138) 281 = .ok (.lcmp, 1) := by decide +kernel
set_option maxRecDepth 100000 in
theorem d138_282 : decode (xmb 138) 282 = .ok (.ifCond .ne 25, 3) := by decide +kernel
set_option maxRecDepth 100000 in
theorem d138_285 : decode (xmb 138) 285 = .ok (.aload_n 0, 1) := by decide +kernel
set_option maxRecDepth 100000 in
theorem d138_286 : decode (xmb 138) 286 = .ok (.invokestatic 205, 3) := by decide +kernel
set_option maxRecDepth 100000 in
theorem d138_289 : decode (xmb 138) 289 = .ok (.lconst 0, 1) := by decide +kernel
set_option maxRecDepth 100000 in
theorem d138_290 : decode (xmb 138) 290 = .ok (.lcmp, 1) := by decide +kernel
set_option maxRecDepth 100000 in
theorem d138_291 : decode (xmb 138) 291 = .ok (.ifCond .lt 16, 3) := by decide +kernel
set_option maxRecDepth 100000 in
theorem d138_294 : decode (xmb 138) 294 = .ok (.aload_n 0, 1) := by decide +kernel
set_option maxRecDepth 100000 in
theorem d138_295 : decode (xmb 138) 295 = .ok (.invokestatic 133, 3) := by decide +kernel
set_option maxRecDepth 100000 in
theorem d138_298 : decode (xmb 138) 298 = .ok (.lload_n 2, 1) := by decide +kernel
set_option maxRecDepth 100000 in
theorem d138_299 : decode (xmb 138) 299 = .ok (.lcmp, 1) := by decide +kernel
set_option maxRecDepth 100000 in
theorem d138_300 : decode (xmb 138) 300 = .ok (.ifCond .ne 7, 3) := by decide +kernel
set_option maxRecDepth 100000 in
theorem d138_303 : decode (xmb 138) 303 = .ok (.iconst 1, 1) := by decide +kernel
set_option maxRecDepth 100000 in
theorem d138_304 : decode (xmb 138) 304 = .ok (.goto 4, 3) := by decide +kernel
