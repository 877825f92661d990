theorem d132_52 : decode (xmb 132) 52 = .ok (.bipush 15, 2) := by decide +kernel
theorem d132_54 : decode (xmb 132) 54 = .ok (.iaload, 1) := by decide +kernel
theorem d132_55 : decode (xmb 132) 55 = .ok (.if_icmp .ge 49, 3) := by decide +kernel
theorem d132_58 : decode (xmb 132) 58 = .ok (.aload_n 1, 1) := by decide +kernel
theorem d132_59 : decode (xmb 132) 59 = .ok (.bipush 72, 2) := by decide +kernel
theorem d132_61 : decode (xmb 132) 61 = .ok (.iload 5, 2) := by decide +kernel
theorem d132_63 : decode (xmb 132) 63 = .ok (.iadd, 1) := by decide +kernel
theorem d132_64 : decode (xmb 132) 64 = .ok (.iaload, 1) := by decide +kernel
theorem d132_65 : decode (xmb 132) 65 = .ok (.iload_n 3, 1) := by decide +kernel
theorem d132_66 : decode (xmb 132) 66 = .ok (.invokestatic 54, 3) := by decide +kernel
theorem d132_69 : decode (xmb 132) 69 = .ok (.ifCond .eq 25, 3) := by decide +kernel
theorem d132_72 : decode (xmb 132) 72 = .ok (.aload_n 0, 1) := by decide +kernel
theorem d132_73 : decode (xmb 132) 73 = .ok (.getfield 38, 3) := by decide +kernel
theorem d132_76 : decode (xmb 132) 76 = .ok (.iload 5, 2) := by decide +kernel
theorem d132_78 : decode (xmb 132) 78 = .ok (.iaload, 1) := by decide +kernel
theorem d132_79 : decode (xmb 132) 79 = .ok (.iload 4, 2) := by decide +kernel
theorem d132_81 : decode (xmb 132) 81 = .ok (.if_icmp .le 13, 3) := by decide +kernel
theorem d132_84 : decode (xmb 132) 84 = .ok (.aload_n 0, 1) := by decide +kernel
theorem d132_85 : decode (xmb 132) 85 = .ok (.getfield 38, 3) := by decide +kernel
theorem d132_88 : decode (xmb 132) 88 = .ok (.iload 5, 2) := by decide +kernel
theorem d132_90 : decode (xmb 132) 90 = .ok (.iaload, 1) := by decide +kernel
theorem d132_91 : decode (xmb 132) 91 = .ok (.goto 5, 3) := by decide +kernel
theorem d132_94 : decode (xmb 132) 94 = .ok (.iload 4, 2) := by decide +kernel
theorem d132_96 : decode (xmb 132) 96 = .ok (.istore 4, 2) := by decide +kernel
theorem d132_98 : decode (xmb 132) 98 = .ok (.iinc 5 1, 3) := by decide +kernel
theorem d132_101 : decode (xmb 132) 101 = .ok (.goto (-52), 3) := by decide +kernel
theorem d132_104 : decode (xmb 132) 104 = .ok (.aload_n 0, 1) := by decide +kernel
theorem d132_105 : decode (xmb 132) 105 = .ok (.getfield 38, 3) := by decide +kernel
theorem d132_108 : decode (xmb 132) 108 = .ok (.iload_n 3, 1) := by decide +kernel
theorem d132_109 : decode (xmb 132) 109 = .ok (.aload_n 1, 1) := by decide +kernel
theorem d132_110 : decode (xmb 132) 110 = .ok (.bipush 16, 2) := by decide +kernel
theorem d132_112 : decode (xmb 132) 112 = .ok (.iload_n 3, 1) := by decide +kernel
theorem d132_113 : decode (xmb 132) 113 = .ok (.iadd, 1) := by decide +kernel
theorem d132_114 : decode (xmb 132) 114 = .ok (.iaload, 1) := by decide +kernel
theorem d132_115 : decode (xmb 132) 115 = .ok (.iload 4, 2) := by decide +kernel
theorem d132_117 : decode (xmb 132) 117 = .ok (.iadd, 1) := by decide +kernel
theorem d132_118 : decode (xmb 132) 118 = .ok (.iastore, 1) := by decide +kernel
theorem d132_119 : decode (xmb 132) 119 = .ok (.iinc 3 1, 3) := by decide +kernel
theorem d132_122 : decode (xmb 132) 122 = .ok (.goto (-87), 3) := by decide +kernel
theorem d132_125 : decode (xmb 132) 125 = .ok (.iinc 2 1, 3) := by decide +kernel
theorem d132_128 : decode (xmb 132) 128 = .ok (.goto (-103), 3) := by decide +kernel
theorem d132_131 : decode (xmb 132) 131 = .ok (.return_, 1) := by decide +kernel
theorem d133_0 : decode (xmb 133) 0 = .ok (.aload_n 0, 1) := by decide +kernel
theorem d133_1 : decode (xmb 133) 1 = .ok (.aload_n 1, 1) := by decide +kernel
theorem d133_2 : decode (xmb 133) 2 = .ok (.invokevirtual 98, 3) := by decide +kernel
theorem d133_5 : decode (xmb 133) 5 = .ok (.iconst 0, 1) := by decide +kernel
theorem d133_6 : decode (xmb 133) 6 = .ok (.istore_n 2, 1) := by decide +kernel
theorem d133_7 : decode (xmb 133) 7 = .ok (.iconst 0, 1) := by decide +kernel
theorem d133_8 : decode (xmb 133) 8 = .ok (.istore_n 3, 1) := by decide +kernel
theorem d133_9 : decode (xmb 133) 9 = .ok (.iload_n 3, 1) := by decide +kernel
theorem d133_10 : decode (xmb 133) 10 = .ok (.aload_n 1, 1) := by decide +kernel
theorem d133_11 : decode (xmb 133) 11 = .ok (.bipush 15, 2) := by decide +kernel
theorem d133_13 : decode (xmb 133) 13 = .ok (.iaload, 1) := by decide +kernel
theorem d133_14 : decode (xmb 133) 14 = .ok (.if_icmp .ge 30, 3) := by decide +kernel
theorem d133_17 : decode (xmb 133) 17 = .ok (.aload_n 0, 1) := by decide +kernel
theorem d133_18 : decode (xmb 133) 18 = .ok (.getfield 38, 3) := by decide +kernel
theorem d133_21 : decode (xmb 133) 21 = .ok (.iload_n 3, 1) := by decide +kernel
theorem d133_22 : decode (xmb 133) 22 = .ok (.iaload, 1) := by decide +kernel
theorem d133_23 : decode (xmb 133) 23 = .ok (.iload_n 2, 1) := by decide +kernel
theorem d133_24 : decode (xmb 133) 24 = .ok (.if_icmp .le 12, 3) := by decide +kernel
theorem d133_27 : decode (xmb 133) 27 = .ok (.aload_n 0, 1) := by decide +kernel
theorem d133_28 : decode (xmb 133) 28 = .ok (.getfield 38, 3) := by decide +kernel
theorem d133_31 : decode (xmb 133) 31 = .ok (.iload_n 3, 1) := by decide +kernel
theorem d133_32 : decode (xmb 133) 32 = .ok (.iaload, 1) := by decide +kernel
theorem d133_33 : decode (xmb 133) 33 = .ok (.goto 4, 3) := by decide +kernel
theorem d133_36 : decode (xmb 133) 36 = .ok (.iload_n 2, 1) := by decide +kernel
theorem d133_37 : decode (xmb 133) 37 = .ok (.istore_n 2, 1) := by decide +kernel
theorem d133_38 : decode (xmb 133) 38 = .ok (.iinc 3 1, 3) := by decide +kernel
theorem d133_41 : decode (xmb 133) 41 = .ok (.goto (-32), 3) := by decide +kernel
theorem d133_44 : decode (xmb 133) 44 = .ok (.iload_n 2, 1) := by decide +kernel
theorem d133_45 : decode (xmb 133) 45 = .ok (.ireturn, 1) := by decide +kernel
theorem d134_0 : decode (xmb 134) 0 = .ok (.aload_n 0, 1) := by decide +kernel
theorem d134_1 : decode (xmb 134) 1 = .ok (.getfield 29, 3) := by decide +kernel
theorem d134_4 : decode (xmb 134) 4 = .ok (.iload_n 1, 1) := by decide +kernel
theorem d134_5 : decode (xmb 134) 5 = .ok (.iaload, 1) := by decide +kernel
theorem d134_6 : decode (xmb 134) 6 = .ok (.iconst (-1), 1) := by decide +kernel
theorem d134_7 : decode (xmb 134) 7 = .ok (.if_icmp .eq 27, 3) := by decide +kernel
theorem d134_10 : decode (xmb 134) 10 = .ok (.aload_n 0, 1) := by decide +kernel
theorem d134_11 : decode (xmb 134) 11 = .ok (.getfield 29, 3) := by decide +kernel
theorem d134_14 : decode (xmb 134) 14 = .ok (.iload_n 1, 1) := by decide +kernel
theorem d134_15 : decode (xmb 134) 15 = .ok (.iaload, 1) := by decide +kernel
theorem d134_16 : decode (xmb 134) 16 = .ok (.iload_n 2, 1) := by decide +kernel
theorem d134_17 : decode (xmb 134) 17 = .ok (.if_icmp .gt 17, 3) := by decide +kernel
theorem d134_20 : decode (xmb 134) 20 = .ok (.iload_n 2, 1) := by decide +kernel
theorem d134_21 : decode (xmb 134) 21 = .ok (.aload_n 0, 1) := by decide +kernel
theorem d134_22 : decode (xmb 134) 22 = .ok (.getfield 32, 3) := by decide +kernel
theorem d134_25 : decode (xmb 134) 25 = .ok (.iload_n 1, 1) := by decide +kernel
theorem d134_26 : decode (xmb 134) 26 = .ok (.iaload, 1) := by decide +kernel
theorem d134_27 : decode (xmb 134) 27 = .ok (.if_icmp .ge 7, 3) := by decide +kernel
theorem d134_30 : decode (xmb 134) 30 = .ok (.iconst 1, 1) := by decide +kernel
theorem d134_31 : decode (xmb 134) 31 = .ok (.goto 4, 3) := by decide +kernel
theorem d134_34 : decode (xmb 134) 34 = .ok (.iconst 0, 1) := by decide +kernel
theorem d134_35 : decode (xmb 134) 35 = .ok (.ireturn, 1) := by decide +kernel
theorem d135_0 : decode (xmb 135) 0 = .ok (.iconst 0, 1) := by decide +kernel
theorem d135_1 : decode (xmb 135) 1 = .ok (.istore_n 3, 1) := by decide +kernel
theorem d135_2 : decode (xmb 135) 2 = .ok (.iconst 0, 1) := by decide +kernel
theorem d135_3 : decode (xmb 135) 3 = .ok (.istore 4, 2) := by decide +kernel
theorem d135_5 : decode (xmb 135) 5 = .ok (.iload 4, 2) := by decide +kernel
theorem d135_7 : decode (xmb 135) 7 = .ok (.aload_n 1, 1) := by decide +kernel
theorem d135_8 : decode (xmb 135) 8 = .ok (.bipush 15, 2) := by decide +kernel
theorem d135_10 : decode (xmb 135) 10 = .ok (.iaload, 1) := by decide +kernel
theorem d135_11 : decode (xmb 135) 11 = .ok (.if_icmp .ge 38, 3) := by decide +kernel
theorem d135_14 : decode (xmb 135) 14 = .ok (.iload_n 3, 1) := by decide +kernel
theorem d135_15 : decode (xmb 135) 15 = .ok (.aload_n 1, 1) := by decide +kernel
theorem d135_16 : decode (xmb 135) 16 = .ok (.bipush 44, 2) := by decide +kernel
theorem d135_18 : decode (xmb 135) 18 = .ok (.iload 4, 2) := by decide +kernel
theorem d135_20 : decode (xmb 135) 20 = .ok (.iadd, 1) := by decide +kernel
theorem d135_21 : decode (xmb 135) 21 = .ok (.iaload, 1) := by decide +kernel
theorem d135_22 : decode (xmb 135) 22 = .ok (.iconst 1, 1) := by decide +kernel
theorem d135_23 : decode (xmb 135) 23 = .ok (.if_icmp .ne 17, 3) := by decide +kernel
theorem d135_26 : decode (xmb 135) 26 = .ok (.aload_n 0, 1) := by decide +kernel
theorem d135_27 : decode (xmb 135) 27 = .ok (.iload 4, 2) := by decide +kernel
theorem d135_29 : decode (xmb 135) 29 = .ok (.iload_n 2, 1) := by decide +kernel
theorem d135_30 : decode (xmb 135) 30 = .ok (.invokevirtual 101, 3) := by decide +kernel
theorem d135_33 : decode (xmb 135) 33 = .ok (.ifCond .eq 7, 3) := by decide +kernel
theorem d135_36 : decode (xmb 135) 36 = .ok (.iconst 1, 1) := by decide +kernel
theorem d135_37 : decode (xmb 135) 37 = .ok (.goto 4, 3) := by decide +kernel
theorem d135_40 : decode (xmb 135) 40 = .ok (.iconst 0, 1) := by decide +kernel
theorem d135_41 : decode (xmb 135) 41 = .ok (.iadd, 1) := by decide +kernel
theorem d135_42 : decode (xmb 135) 42 = .ok (.istore_n 3, 1) := by decide +kernel
theorem d135_43 : decode (xmb 135) 43 = .ok (.iinc 4 1, 3) := by decide +kernel
theorem d135_46 : decode (xmb 135) 46 = .ok (.goto (-41), 3) := by decide +kernel
theorem d135_49 : decode (xmb 135) 49 = .ok (.iload_n 3, 1) := by decide +kernel
theorem d135_50 : decode (xmb 135) 50 = .ok (.ireturn, 1) := by decide +kernel
theorem d136_0 : decode (xmb 136) 0 = .ok (.iconst 0, 1) := by decide +kernel
theorem d136_1 : decode (xmb 136) 1 = .ok (.istore 4, 2) := by decide +kernel
theorem d136_3 : decode (xmb 136) 3 = .ok (.iconst 0, 1) := by decide +kernel
theorem d136_4 : decode (xmb 136) 4 = .ok (.istore 5, 2) := by decide +kernel
theorem d136_6 : decode (xmb 136) 6 = .ok (.iload 5, 2) := by decide +kernel
theorem d136_8 : decode (xmb 136) 8 = .ok (.aload_n 1, 1) := by decide +kernel
theorem d136_9 : decode (xmb 136) 9 = .ok (.bipush 15, 2) := by decide +kernel
theorem d136_11 : decode (xmb 136) 11 = .ok (.iaload, 1) := by decide +kernel
theorem d136_12 : decode (xmb 136) 12 = .ok (.if_icmp .ge 40, 3) := by decide +kernel
theorem d136_15 : decode (xmb 136) 15 = .ok (.iload 4, 2) := by decide +kernel
theorem d136_17 : decode (xmb 136) 17 = .ok (.aload_n 1, 1) := by decide +kernel
theorem d136_18 : decode (xmb 136) 18 = .ok (.bipush 30, 2) := by decide +kernel
theorem d136_20 : decode (xmb 136) 20 = .ok (.iload 5, 2) := by decide +kernel
theorem d136_22 : decode (xmb 136) 22 = .ok (.iadd, 1) := by decide +kernel
theorem d136_23 : decode (xmb 136) 23 = .ok (.iaload, 1) := by decide +kernel
theorem d136_24 : decode (xmb 136) 24 = .ok (.iload_n 2, 1) := by decide +kernel
theorem d136_25 : decode (xmb 136) 25 = .ok (.if_icmp .ne 17, 3) := by decide +kernel
theorem d136_28 : decode (xmb 136) 28 = .ok (.aload_n 0, 1) := by decide +kernel
theorem d136_29 : decode (xmb 136) 29 = .ok (.iload 5, 2) := by decide +kernel
theorem d136_31 : decode (xmb 136) 31 = .ok (.iload_n 3, 1) := by decide +kernel
theorem d136_32 : decode (xmb 136) 32 = .ok (.invokevirtual 101, 3) := by decide +kernel
theorem d136_35 : decode (xmb 136) 35 = .ok (.ifCond .eq 7, 3) := by decide +kernel
theorem d136_38 : decode (xmb 136) 38 = .ok (.iconst 1, 1) := by decide +kernel
theorem d136_39 : decode (xmb 136) 39 = .ok (.goto 4, 3) := by decide +kernel
theorem d136_42 : decode (xmb 136) 42 = .ok (.iconst 0, 1) := by decide +kernel
theorem d136_43 : decode (xmb 136) 43 = .ok (.iadd, 1) := by decide +kernel
theorem d136_44 : decode (xmb 136) 44 = .ok (.istore 4, 2) := by decide +kernel
theorem d136_46 : decode (xmb 136) 46 = .ok (.iinc 5 1, 3) := by decide +kernel
theorem d136_49 : decode (xmb 136) 49 = .ok (.goto (-43), 3) := by decide +kernel
theorem d136_52 : decode (xmb 136) 52 = .ok (.iload 4, 2) := by decide +kernel
theorem d136_54 : decode (xmb 136) 54 = .ok (.ireturn, 1) := by decide +kernel
theorem d137_0 : decode (xmb 137) 0 = .ok (.iconst 0, 1) := by decide +kernel
theorem d137_1 : decode (xmb 137) 1 = .ok (.istore 4, 2) := by decide +kernel
theorem d137_3 : decode (xmb 137) 3 = .ok (.iconst 0, 1) := by decide +kernel
theorem d137_4 : decode (xmb 137) 4 = .ok (.istore 5, 2) := by decide +kernel
theorem d137_6 : decode (xmb 137) 6 = .ok (.iload 5, 2) := by decide +kernel
theorem d137_8 : decode (xmb 137) 8 = .ok (.aload_n 1, 1) := by decide +kernel
theorem d137_9 : decode (xmb 137) 9 = .ok (.bipush 15, 2) := by decide +kernel
theorem d137_11 : decode (xmb 137) 11 = .ok (.iaload, 1) := by decide +kernel
theorem d137_12 : decode (xmb 137) 12 = .ok (.if_icmp .ge 80, 3) := by decide +kernel
theorem d137_15 : decode (xmb 137) 15 = .ok (.aload_n 0, 1) := by decide +kernel
theorem d137_16 : decode (xmb 137) 16 = .ok (.getfield 29, 3) := by decide +kernel
theorem d137_19 : decode (xmb 137) 19 = .ok (.iload 5, 2) := by decide +kernel
theorem d137_21 : decode (xmb 137) 21 = .ok (.iaload, 1) := by decide +kernel
theorem d137_22 : decode (xmb 137) 22 = .ok (.iconst (-1), 1) := by decide +kernel
theorem d137_23 : decode (xmb 137) 23 = .ok (.if_icmp .eq 34, 3) := by decide +kernel
theorem d137_26 : decode (xmb 137) 26 = .ok (.aload_n 0, 1) := by decide +kernel
theorem d137_27 : decode (xmb 137) 27 = .ok (.getfield 32, 3) := by decide +kernel
theorem d137_30 : decode (xmb 137) 30 = .ok (.iload 5, 2) := by decide +kernel
theorem d137_32 : decode (xmb 137) 32 = .ok (.iaload, 1) := by decide +kernel
theorem d137_33 : decode (xmb 137) 33 = .ok (.iload_n 3, 1) := by decide +kernel
theorem d137_34 : decode (xmb 137) 34 = .ok (.if_icmp .gt 23, 3) := by decide +kernel
theorem d137_37 : decode (xmb 137) 37 = .ok (.iload_n 3, 1) := by decide +kernel
theorem d137_38 : decode (xmb 137) 38 = .ok (.aload_n 0, 1) := by decide +kernel
theorem d137_39 : decode (xmb 137) 39 = .ok (.getfield 32, 3) := by decide +kernel
theorem d137_42 : decode (xmb 137) 42 = .ok (.iload 5, 2) := by decide +kernel
theorem d137_44 : decode (xmb 137) 44 = .ok (.iaload, 1) := by decide +kernel
theorem d137_45 : decode (xmb 137) 45 = .ok (.aload_n 1, 1) := by decide +kernel
theorem d137_46 : decode (xmb 137) 46 = .ok (.bipush 92, 2) := by decide +kernel
theorem d137_48 : decode (xmb 137) 48 = .ok (.iaload, 1) := by decide +kernel
theorem d137_49 : decode (xmb 137) 49 = .ok (.iadd, 1) := by decide +kernel
theorem d137_50 : decode (xmb 137) 50 = .ok (.if_icmp .ge 7, 3) := by decide +kernel
theorem d137_53 : decode (xmb 137) 53 = .ok (.iconst 1, 1) := by decide +kernel
theorem d137_54 : decode (xmb 137) 54 = .ok (.goto 4, 3) := by decide +kernel
theorem d137_57 : decode (xmb 137) 57 = .ok (.iconst 0, 1) := by decide +kernel
theorem d137_58 : decode (xmb 137) 58 = .ok (.istore 6, 2) := by decide +kernel
theorem d137_60 : decode (xmb 137) 60 = .ok (.iload 4, 2) := by decide +kernel
theorem d137_62 : decode (xmb 137) 62 = .ok (.aload_n 1, 1) := by decide +kernel
theorem d137_63 : decode (xmb 137) 63 = .ok (.bipush 30, 2) := by decide +kernel
theorem d137_65 : decode (xmb 137) 65 = .ok (.iload 5, 2) := by decide +kernel
theorem d137_67 : decode (xmb 137) 67 = .ok (.iadd, 1) := by decide +kernel
theorem d137_68 : decode (xmb 137) 68 = .ok (.iaload, 1) := by decide +kernel
theorem d137_69 : decode (xmb 137) 69 = .ok (.iload_n 2, 1) := by decide +kernel
theorem d137_70 : decode (xmb 137) 70 = .ok (.if_icmp .ne 12, 3) := by decide +kernel
theorem d137_73 : decode (xmb 137) 73 = .ok (.iload 6, 2) := by decide +kernel
theorem d137_75 : decode (xmb 137) 75 = .ok (.ifCond .eq 7, 3) := by decide +kernel
theorem d137_78 : decode (xmb 137) 78 = .ok (.iconst 1, 1) := by decide +kernel
theorem d137_79 : decode (xmb 137) 79 = .ok (.goto 4, 3) := by decide +kernel
theorem d137_82 : decode (xmb 137) 82 = .ok (.iconst 0, 1) := by decide +kernel
theorem d137_83 : decode (xmb 137) 83 = .ok (.iadd, 1) := by decide +kernel
theorem d137_84 : decode (xmb 137) 84 = .ok (.istore 4, 2) := by decide +kernel
theorem d137_86 : decode (xmb 137) 86 = .ok (.iinc 5 1, 3) := by decide +kernel
theorem d137_89 : decode (xmb 137) 89 = .ok (.goto (-83), 3) := by decide +kernel
theorem d137_92 : decode (xmb 137) 92 = .ok (.iload 4, 2) := by decide +kernel
theorem d137_94 : decode (xmb 137) 94 = .ok (.ireturn, 1) := by decide +kernel
theorem d138_0 : decode (xmb 138) 0 = .ok (.iconst 0, 1) := by decide +kernel
theorem d138_1 : decode (xmb 138) 1 = .ok (.istore_n 3, 1) := by decide +kernel
theorem d138_2 : decode (xmb 138) 2 = .ok (.iconst 0, 1) := by decide +kernel
theorem d138_3 : decode (xmb 138) 3 = .ok (.istore 4, 2) := by decide +kernel
theorem d138_5 : decode (xmb 138) 5 = .ok (.iload 4, 2) := by decide +kernel
theorem d138_7 : decode (xmb 138) 7 = .ok (.aload_n 1, 1) := by decide +kernel
theorem d138_8 : decode (xmb 138) 8 = .ok (.bipush 15, 2) := by decide +kernel
theorem d138_10 : decode (xmb 138) 10 = .ok (.iaload, 1) := by decide +kernel
theorem d138_11 : decode (xmb 138) 11 = .ok (.if_icmp .ge 39, 3) := by decide +kernel
theorem d138_14 : decode (xmb 138) 14 = .ok (.iload_n 3, 1) := by decide +kernel
theorem d138_15 : decode (xmb 138) 15 = .ok (.aload_n 0, 1) := by decide +kernel
theorem d138_16 : decode (xmb 138) 16 = .ok (.getfield 29, 3) := by decide +kernel
theorem d138_19 : decode (xmb 138) 19 = .ok (.iload 4, 2) := by decide +kernel
theorem d138_21 : decode (xmb 138) 21 = .ok (.iaload, 1) := by decide +kernel
theorem d138_22 : decode (xmb 138) 22 = .ok (.iconst (-1), 1) := by decide +kernel
theorem d138_23 : decode (xmb 138) 23 = .ok (.if_icmp .eq 18, 3) := by decide +kernel
theorem d138_26 : decode (xmb 138) 26 = .ok (.aload_n 0, 1) := by decide +kernel
theorem d138_27 : decode (xmb 138) 27 = .ok (.getfield 32, 3) := by decide +kernel
theorem d138_30 : decode (xmb 138) 30 = .ok (.iload 4, 2) := by decide +kernel
theorem d138_32 : decode (xmb 138) 32 = .ok (.iaload, 1) := by decide +kernel
theorem d138_33 : decode (xmb 138) 33 = .ok (.iload_n 2, 1) := by decide +kernel
theorem d138_34 : decode (xmb 138) 34 = .ok (.if_icmp .gt 7, 3) := by decide +kernel
theorem d138_37 : decode (xmb 138) 37 = .ok (.iconst 1, 1) := by decide +kernel
theorem d138_38 : decode (xmb 138) 38 = .ok (.goto 4, 3) := by decide +kernel
theorem d138_41 : decode (xmb 138) 41 = .ok (.iconst 0, 1) := by decide +kernel
theorem d138_42 : decode (xmb 138) 42 = .ok (.iadd, 1) := by decide +kernel
theorem d138_43 : decode (xmb 138) 43 = .ok (.istore_n 3, 1) := by decide +kernel
theorem d138_44 : decode (xmb 138) 44 = .ok (.iinc 4 1, 3) := by decide +kernel
theorem d138_47 : decode (xmb 138) 47 = .ok (.goto (-42), 3) := by decide +kernel
theorem d138_50 : decode (xmb 138) 50 = .ok (.iload_n 3, 1) := by decide +kernel
theorem d138_51 : decode (xmb 138) 51 = .ok (.ireturn, 1) := by decide +kernel
theorem d139_0 : decode (xmb 139) 0 = .ok (.aload_n 0, 1) := by decide +kernel
theorem d139_1 : decode (xmb 139) 1 = .ok (.getfield 29, 3) := by decide +kernel
theorem d139_4 : decode (xmb 139) 4 = .ok (.iload_n 2, 1) := by decide +kernel
theorem d139_5 : decode (xmb 139) 5 = .ok (.iaload, 1) := by decide +kernel
theorem d139_6 : decode (xmb 139) 6 = .ok (.iconst (-1), 1) := by decide +kernel
theorem d139_7 : decode (xmb 139) 7 = .ok (.if_icmp .ne 7, 3) := by decide +kernel
theorem d139_10 : decode (xmb 139) 10 = .ok (.iconst 1, 1) := by decide +kernel
theorem d139_11 : decode (xmb 139) 11 = .ok (.goto 4, 3) := by decide +kernel
theorem d139_14 : decode (xmb 139) 14 = .ok (.iconst 0, 1) := by decide +kernel
theorem d139_15 : decode (xmb 139) 15 = .ok (.istore 4, 2) := by decide +kernel
theorem d139_17 : decode (xmb 139) 17 = .ok (.iconst 0, 1) := by decide +kernel
theorem d139_18 : decode (xmb 139) 18 = .ok (.istore 5, 2) := by decide +kernel
theorem d139_20 : decode (xmb 139) 20 = .ok (.iload 5, 2) := by decide +kernel
theorem d139_22 : decode (xmb 139) 22 = .ok (.aload_n 1, 1) := by decide +kernel
theorem d139_23 : decode (xmb 139) 23 = .ok (.bipush 15, 2) := by decide +kernel
theorem d139_25 : decode (xmb 139) 25 = .ok (.iaload, 1) := by decide +kernel
theorem d139_26 : decode (xmb 139) 26 = .ok (.if_icmp .ge 57, 3) := by decide +kernel
theorem d139_29 : decode (xmb 139) 29 = .ok (.iload 4, 2) := by decide +kernel
theorem d139_31 : decode (xmb 139) 31 = .ok (.ifCond .eq 52, 3) := by decide +kernel
theorem d139_34 : decode (xmb 139) 34 = .ok (.aload_n 1, 1) := by decide +kernel
theorem d139_35 : decode (xmb 139) 35 = .ok (.bipush 72, 2) := by decide +kernel
theorem d139_37 : decode (xmb 139) 37 = .ok (.iload_n 2, 1) := by decide +kernel
theorem d139_38 : decode (xmb 139) 38 = .ok (.iadd, 1) := by decide +kernel
theorem d139_39 : decode (xmb 139) 39 = .ok (.iaload, 1) := by decide +kernel
theorem d139_40 : decode (xmb 139) 40 = .ok (.iload 5, 2) := by decide +kernel
theorem d139_42 : decode (xmb 139) 42 = .ok (.invokestatic 54, 3) := by decide +kernel
theorem d139_45 : decode (xmb 139) 45 = .ok (.ifCond .eq 25, 3) := by decide +kernel
theorem d139_48 : decode (xmb 139) 48 = .ok (.aload_n 0, 1) := by decide +kernel
theorem d139_49 : decode (xmb 139) 49 = .ok (.getfield 29, 3) := by decide +kernel
theorem d139_52 : decode (xmb 139) 52 = .ok (.iload 5, 2) := by decide +kernel
theorem d139_54 : decode (xmb 139) 54 = .ok (.iaload, 1) := by decide +kernel
theorem d139_55 : decode (xmb 139) 55 = .ok (.iconst (-1), 1) := by decide +kernel
theorem d139_56 : decode (xmb 139) 56 = .ok (.if_icmp .eq 18, 3) := by decide +kernel
theorem d139_59 : decode (xmb 139) 59 = .ok (.aload_n 0, 1) := by decide +kernel
theorem d139_60 : decode (xmb 139) 60 = .ok (.getfield 32, 3) := by decide +kernel
theorem d139_63 : decode (xmb 139) 63 = .ok (.iload 5, 2) := by decide +kernel
theorem d139_65 : decode (xmb 139) 65 = .ok (.iaload, 1) := by decide +kernel
theorem d139_66 : decode (xmb 139) 66 = .ok (.iload_n 3, 1) := by decide +kernel
theorem d139_67 : decode (xmb 139) 67 = .ok (.if_icmp .gt 7, 3) := by decide +kernel
theorem d139_70 : decode (xmb 139) 70 = .ok (.iconst 1, 1) := by decide +kernel
theorem d139_71 : decode (xmb 139) 71 = .ok (.goto 4, 3) := by decide +kernel
theorem d139_74 : decode (xmb 139) 74 = .ok (.iconst 0, 1) := by decide +kernel
theorem d139_75 : decode (xmb 139) 75 = .ok (.istore 4, 2) := by decide +kernel
theorem d139_77 : decode (xmb 139) 77 = .ok (.iinc 5 1, 3) := by decide +kernel
theorem d139_80 : decode (xmb 139) 80 = .ok (.goto (-60), 3) := by decide +kernel
theorem d139_83 : decode (xmb 139) 83 = .ok (.aload_n 1, 1) := by decide +kernel
theorem d139_84 : decode (xmb 139) 84 = .ok (.bipush 30, 2) := by decide +kernel
theorem d139_86 : decode (xmb 139) 86 = .ok (.iload_n 2, 1) := by decide +kernel
theorem d139_87 : decode (xmb 139) 87 = .ok (.iadd, 1) := by decide +kernel
theorem d139_88 : decode (xmb 139) 88 = .ok (.iaload, 1) := by decide +kernel
theorem d139_89 : decode (xmb 139) 89 = .ok (.istore 5, 2) := by decide +kernel
theorem d139_91 : decode (xmb 139) 91 = .ok (.iload 4, 2) := by decide +kernel
theorem d139_93 : decode (xmb 139) 93 = .ok (.ifCond .eq 29, 3) := by decide +kernel
theorem d139_96 : decode (xmb 139) 96 = .ok (.aload_n 1, 1) := by decide +kernel
theorem d139_97 : decode (xmb 139) 97 = .ok (.bipush 44, 2) := by decide +kernel
theorem d139_99 : decode (xmb 139) 99 = .ok (.iload_n 2, 1) := by decide +kernel
theorem d139_100 : decode (xmb 139) 100 = .ok (.iadd, 1) := by decide +kernel
theorem d139_101 : decode (xmb 139) 101 = .ok (.iaload, 1) := by decide +kernel
theorem d139_102 : decode (xmb 139) 102 = .ok (.ifCond .eq 16, 3) := by decide +kernel
theorem d139_105 : decode (xmb 139) 105 = .ok (.aload_n 0, 1) := by decide +kernel
theorem d139_106 : decode (xmb 139) 106 = .ok (.aload_n 1, 1) := by decide +kernel
theorem d139_107 : decode (xmb 139) 107 = .ok (.iload_n 3, 1) := by decide +kernel
theorem d139_108 : decode (xmb 139) 108 = .ok (.invokevirtual 104, 3) := by decide +kernel
theorem d139_111 : decode (xmb 139) 111 = .ok (.aload_n 1, 1) := by decide +kernel
theorem d139_112 : decode (xmb 139) 112 = .ok (.bipush 93, 2) := by decide +kernel
theorem d139_114 : decode (xmb 139) 114 = .ok (.iaload, 1) := by decide +kernel
theorem d139_115 : decode (xmb 139) 115 = .ok (.if_icmp .ge 7, 3) := by decide +kernel
theorem d139_118 : decode (xmb 139) 118 = .ok (.iconst 1, 1) := by decide +kernel
theorem d139_119 : decode (xmb 139) 119 = .ok (.goto 4, 3) := by decide +kernel
theorem d139_122 : decode (xmb 139) 122 = .ok (.iconst 0, 1) := by decide +kernel
theorem d139_123 : decode (xmb 139) 123 = .ok (.istore 4, 2) := by decide +kernel
theorem d139_125 : decode (xmb 139) 125 = .ok (.iload 4, 2) := by decide +kernel
theorem d139_127 : decode (xmb 139) 127 = .ok (.ifCond .eq 40, 3) := by decide +kernel
theorem d139_130 : decode (xmb 139) 130 = .ok (.iload 5, 2) := by decide +kernel
theorem d139_132 : decode (xmb 139) 132 = .ok (.iconst (-1), 1) := by decide +kernel
theorem d139_133 : decode (xmb 139) 133 = .ok (.if_icmp .eq 30, 3) := by decide +kernel
theorem d139_136 : decode (xmb 139) 136 = .ok (.aload_n 0, 1) := by decide +kernel
theorem d139_137 : decode (xmb 139) 137 = .ok (.aload_n 1, 1) := by decide +kernel
theorem d139_138 : decode (xmb 139) 138 = .ok (.iload 5, 2) := by decide +kernel
theorem d139_140 : decode (xmb 139) 140 = .ok (.iload_n 3, 1) := by decide +kernel
theorem d139_141 : decode (xmb 139) 141 = .ok (.invokevirtual 107, 3) := by decide +kernel
theorem d139_144 : decode (xmb 139) 144 = .ok (.aload_n 0, 1) := by decide +kernel
theorem d139_145 : decode (xmb 139) 145 = .ok (.aload_n 1, 1) := by decide +kernel
theorem d139_146 : decode (xmb 139) 146 = .ok (.iload 5, 2) := by decide +kernel
theorem d139_148 : decode (xmb 139) 148 = .ok (.iload_n 3, 1) := by decide +kernel
theorem d139_149 : decode (xmb 139) 149 = .ok (.invokevirtual 110, 3) := by decide +kernel
theorem d139_152 : decode (xmb 139) 152 = .ok (.iadd, 1) := by decide +kernel
theorem d139_153 : decode (xmb 139) 153 = .ok (.aload_n 1, 1) := by decide +kernel
theorem d139_154 : decode (xmb 139) 154 = .ok (.bipush 86, 2) := by decide +kernel
theorem d139_156 : decode (xmb 139) 156 = .ok (.iload 5, 2) := by decide +kernel
theorem d139_158 : decode (xmb 139) 158 = .ok (.iadd, 1) := by decide +kernel
theorem d139_159 : decode (xmb 139) 159 = .ok (.iaload, 1) := by decide +kernel
theorem d139_160 : decode (xmb 139) 160 = .ok (.if_icmp .ge 7, 3) := by decide +kernel
theorem d139_163 : decode (xmb 139) 163 = .ok (.iconst 1, 1) := by decide +kernel
theorem d139_164 : decode (xmb 139) 164 = .ok (.goto 4, 3) := by decide +kernel
theorem d139_167 : decode (xmb 139) 167 = .ok (.iconst 0, 1) := by decide +kernel
theorem d139_168 : decode (xmb 139) 168 = .ok (.ireturn, 1) := by decide +kernel
theorem d140_0 : decode (xmb 140) 0 = .ok (.aload_n 1, 1) := by decide +kernel
theorem d140_1 : decode (xmb 140) 1 = .ok (.bipush 94, 2) := by decide +kernel
theorem d140_3 : decode (xmb 140) 3 = .ok (.iaload, 1) := by decide +kernel
theorem d140_4 : decode (xmb 140) 4 = .ok (.tableswitch 55 1 3 #[28, 35, 42], 28) := by decide +kernel
theorem d140_32 : decode (xmb 140) 32 = .ok (.aload_n 1, 1) := by decide +kernel
theorem d140_33 : decode (xmb 140) 33 = .ok (.bipush 16, 2) := by decide +kernel
theorem d140_35 : decode (xmb 140) 35 = .ok (.iload_n 2, 1) := by decide +kernel
theorem d140_36 : decode (xmb 140) 36 = .ok (.iadd, 1) := by decide +kernel
theorem d140_37 : decode (xmb 140) 37 = .ok (.iaload, 1) := by decide +kernel
theorem d140_38 : decode (xmb 140) 38 = .ok (.ireturn, 1) := by decide +kernel
theorem d140_39 : decode (xmb 140) 39 = .ok (.aload_n 0, 1) := by decide +kernel
theorem d140_40 : decode (xmb 140) 40 = .ok (.getfield 38, 3) := by decide +kernel
theorem d140_43 : decode (xmb 140) 43 = .ok (.iload_n 2, 1) := by decide +kernel
theorem d140_44 : decode (xmb 140) 44 = .ok (.iaload, 1) := by decide +kernel
theorem d140_45 : decode (xmb 140) 45 = .ok (.ireturn, 1) := by decide +kernel
theorem d140_46 : decode (xmb 140) 46 = .ok (.aload_n 1, 1) := by decide +kernel
theorem d140_47 : decode (xmb 140) 47 = .ok (.iload_n 2, 1) := by decide +kernel
theorem d140_48 : decode (xmb 140) 48 = .ok (.invokestatic 113, 3) := by decide +kernel
theorem d140_51 : decode (xmb 140) 51 = .ok (.aload_n 1, 1) := by decide +kernel
theorem d140_52 : decode (xmb 140) 52 = .ok (.bipush 15, 2) := by decide +kernel
theorem d140_54 : decode (xmb 140) 54 = .ok (.iaload, 1) := by decide +kernel
theorem d140_55 : decode (xmb 140) 55 = .ok (.invokestatic 116, 3) := by decide +kernel
theorem d140_58 : decode (xmb 140) 58 = .ok (.ireturn, 1) := by decide +kernel
theorem d140_59 : decode (xmb 140) 59 = .ok (.iconst 0, 1) := by decide +kernel
theorem d140_60 : decode (xmb 140) 60 = .ok (.ireturn, 1) := by decide +kernel
theorem d141_0 : decode (xmb 141) 0 = .ok (.iconst (-1), 1) := by decide +kernel
theorem d141_1 : decode (xmb 141) 1 = .ok (.istore_n 3, 1) := by decide +kernel
theorem d141_2 : decode (xmb 141) 2 = .ok (.iconst 0, 1) := by decide +kernel
theorem d141_3 : decode (xmb 141) 3 = .ok (.istore 4, 2) := by decide +kernel
theorem d141_5 : decode (xmb 141) 5 = .ok (.iload 4, 2) := by decide +kernel
theorem d141_7 : decode (xmb 141) 7 = .ok (.aload_n 1, 1) := by decide +kernel
theorem d141_8 : decode (xmb 141) 8 = .ok (.bipush 15, 2) := by decide +kernel
theorem d141_10 : decode (xmb 141) 10 = .ok (.iaload, 1) := by decide +kernel
theorem d141_11 : decode (xmb 141) 11 = .ok (.if_icmp .ge 44, 3) := by decide +kernel
theorem d141_14 : decode (xmb 141) 14 = .ok (.aload_n 0, 1) := by decide +kernel
theorem d141_15 : decode (xmb 141) 15 = .ok (.aload_n 1, 1) := by decide +kernel
theorem d141_16 : decode (xmb 141) 16 = .ok (.iload 4, 2) := by decide +kernel
theorem d141_18 : decode (xmb 141) 18 = .ok (.iload_n 2, 1) := by decide +kernel
theorem d141_19 : decode (xmb 141) 19 = .ok (.invokevirtual 120, 3) := by decide +kernel
theorem d141_22 : decode (xmb 141) 22 = .ok (.ifCond .eq 27, 3) := by decide +kernel
theorem d141_25 : decode (xmb 141) 25 = .ok (.iload_n 3, 1) := by decide +kernel
theorem d141_26 : decode (xmb 141) 26 = .ok (.iconst (-1), 1) := by decide +kernel
theorem d141_27 : decode (xmb 141) 27 = .ok (.if_icmp .eq 19, 3) := by decide +kernel
theorem d141_30 : decode (xmb 141) 30 = .ok (.aload_n 0, 1) := by decide +kernel
theorem d141_31 : decode (xmb 141) 31 = .ok (.aload_n 1, 1) := by decide +kernel
theorem d141_32 : decode (xmb 141) 32 = .ok (.iload 4, 2) := by decide +kernel
theorem d141_34 : decode (xmb 141) 34 = .ok (.invokevirtual 124, 3) := by decide +kernel
theorem d141_37 : decode (xmb 141) 37 = .ok (.aload_n 0, 1) := by decide +kernel
theorem d141_38 : decode (xmb 141) 38 = .ok (.aload_n 1, 1) := by decide +kernel
theorem d141_39 : decode (xmb 141) 39 = .ok (.iload_n 3, 1) := by decide +kernel
theorem d141_40 : decode (xmb 141) 40 = .ok (.invokevirtual 124, 3) := by decide +kernel
theorem d141_43 : decode (xmb 141) 43 = .ok (.if_icmp .le 6, 3) := by decide +kernel
theorem d141_46 : decode (xmb 141) 46 = .ok (.iload 4, 2) := by decide +kernel
theorem d141_48 : decode (xmb 141) 48 = .ok (.istore_n 3, 1) := by decide +kernel
theorem d141_49 : decode (xmb 141) 49 = .ok (.iinc 4 1, 3) := by decide +kernel
theorem d141_52 : decode (xmb 141) 52 = .ok (.goto (-47), 3) := by decide +kernel
theorem d141_55 : decode (xmb 141) 55 = .ok (.iload_n 3, 1) := by decide +kernel
theorem d141_56 : decode (xmb 141) 56 = .ok (.ireturn, 1) := by decide +kernel
theorem d142_0 : decode (xmb 142) 0 = .ok (.iconst (-1), 1) := by decide +kernel
theorem d142_1 : decode (xmb 142) 1 = .ok (.istore_n 3, 1) := by decide +kernel
theorem d142_2 : decode (xmb 142) 2 = .ok (.iconst 0, 1) := by decide +kernel
theorem d142_3 : decode (xmb 142) 3 = .ok (.istore 4, 2) := by decide +kernel
theorem d142_5 : decode (xmb 142) 5 = .ok (.iload 4, 2) := by decide +kernel
theorem d142_7 : decode (xmb 142) 7 = .ok (.aload_n 1, 1) := by decide +kernel
theorem d142_8 : decode (xmb 142) 8 = .ok (.bipush 15, 2) := by decide +kernel
theorem d142_10 : decode (xmb 142) 10 = .ok (.iaload, 1) := by decide +kernel
theorem d142_11 : decode (xmb 142) 11 = .ok (.if_icmp .ge 93, 3) := by decide +kernel
theorem d142_14 : decode (xmb 142) 14 = .ok (.aload_n 0, 1) := by decide +kernel
theorem d142_15 : decode (xmb 142) 15 = .ok (.getfield 29, 3) := by decide +kernel
theorem d142_18 : decode (xmb 142) 18 = .ok (.iload 4, 2) := by decide +kernel
theorem d142_20 : decode (xmb 142) 20 = .ok (.iaload, 1) := by decide +kernel
theorem d142_21 : decode (xmb 142) 21 = .ok (.iconst (-1), 1) := by decide +kernel
theorem d142_22 : decode (xmb 142) 22 = .ok (.if_icmp .eq 76, 3) := by decide +kernel
theorem d142_25 : decode (xmb 142) 25 = .ok (.aload_n 0, 1) := by decide +kernel
theorem d142_26 : decode (xmb 142) 26 = .ok (.getfield 32, 3) := by decide +kernel
theorem d142_29 : decode (xmb 142) 29 = .ok (.iload 4, 2) := by decide +kernel
theorem d142_31 : decode (xmb 142) 31 = .ok (.iaload, 1) := by decide +kernel
theorem d142_32 : decode (xmb 142) 32 = .ok (.aload_n 1, 1) := by decide +kernel
theorem d142_33 : decode (xmb 142) 33 = .ok (.bipush 92, 2) := by decide +kernel
theorem d142_35 : decode (xmb 142) 35 = .ok (.iaload, 1) := by decide +kernel
theorem d142_36 : decode (xmb 142) 36 = .ok (.iadd, 1) := by decide +kernel
theorem d142_37 : decode (xmb 142) 37 = .ok (.istore 5, 2) := by decide +kernel
theorem d142_39 : decode (xmb 142) 39 = .ok (.aload_n 0, 1) := by decide +kernel
theorem d142_40 : decode (xmb 142) 40 = .ok (.getfield 32, 3) := by decide +kernel
theorem d142_43 : decode (xmb 142) 43 = .ok (.iload 4, 2) := by decide +kernel
theorem d142_45 : decode (xmb 142) 45 = .ok (.iaload, 1) := by decide +kernel
theorem d142_46 : decode (xmb 142) 46 = .ok (.iload_n 2, 1) := by decide +kernel
theorem d142_47 : decode (xmb 142) 47 = .ok (.if_icmp .le 13, 3) := by decide +kernel
theorem d142_50 : decode (xmb 142) 50 = .ok (.aload_n 0, 1) := by decide +kernel
theorem d142_51 : decode (xmb 142) 51 = .ok (.getfield 32, 3) := by decide +kernel
theorem d142_54 : decode (xmb 142) 54 = .ok (.iload 4, 2) := by decide +kernel
theorem d142_56 : decode (xmb 142) 56 = .ok (.iaload, 1) := by decide +kernel
theorem d142_57 : decode (xmb 142) 57 = .ok (.goto 15, 3) := by decide +kernel
theorem d142_60 : decode (xmb 142) 60 = .ok (.iload 5, 2) := by decide +kernel
theorem d142_62 : decode (xmb 142) 62 = .ok (.iload_n 2, 1) := by decide +kernel
theorem d142_63 : decode (xmb 142) 63 = .ok (.if_icmp .le 8, 3) := by decide +kernel
theorem d142_66 : decode (xmb 142) 66 = .ok (.iload 5, 2) := by decide +kernel
theorem d142_68 : decode (xmb 142) 68 = .ok (.goto 4, 3) := by decide +kernel
theorem d142_71 : decode (xmb 142) 71 = .ok (.iconst (-1), 1) := by decide +kernel
theorem d142_72 : decode (xmb 142) 72 = .ok (.istore 6, 2) := by decide +kernel
theorem d142_74 : decode (xmb 142) 74 = .ok (.iload 6, 2) := by decide +kernel
theorem d142_76 : decode (xmb 142) 76 = .ok (.iconst (-1), 1) := by decide +kernel
theorem d142_77 : decode (xmb 142) 77 = .ok (.if_icmp .eq 19, 3) := by decide +kernel
theorem d142_80 : decode (xmb 142) 80 = .ok (.iload_n 3, 1) := by decide +kernel
theorem d142_81 : decode (xmb 142) 81 = .ok (.iconst (-1), 1) := by decide +kernel
theorem d142_82 : decode (xmb 142) 82 = .ok (.if_icmp .eq 9, 3) := by decide +kernel
theorem d142_85 : decode (xmb 142) 85 = .ok (.iload 6, 2) := by decide +kernel
theorem d142_87 : decode (xmb 142) 87 = .ok (.iload_n 3, 1) := by decide +kernel
theorem d142_88 : decode (xmb 142) 88 = .ok (.if_icmp .ge 8, 3) := by decide +kernel
theorem d142_91 : decode (xmb 142) 91 = .ok (.iload 6, 2) := by decide +kernel
theorem d142_93 : decode (xmb 142) 93 = .ok (.goto 4, 3) := by decide +kernel
theorem d142_96 : decode (xmb 142) 96 = .ok (.iload_n 3, 1) := by decide +kernel
theorem d142_97 : decode (xmb 142) 97 = .ok (.istore_n 3, 1) := by decide +kernel
theorem d142_98 : decode (xmb 142) 98 = .ok (.iinc 4 1, 3) := by decide +kernel
theorem d142_101 : decode (xmb 142) 101 = .ok (.goto (-96), 3) := by decide +kernel
theorem d142_104 : decode (xmb 142) 104 = .ok (.iload_n 3, 1) := by decide +kernel
theorem d142_105 : decode (xmb 142) 105 = .ok (.ireturn, 1) := by decide +kernel
theorem d143_0 : decode (xmb 143) 0 = .ok (.aload_n 0, 1) := by decide +kernel
theorem d143_1 : decode (xmb 143) 1 = .ok (.iconst 0, 1) := by decide +kernel
theorem d143_2 : decode (xmb 143) 2 = .ok (.putfield 127, 3) := by decide +kernel
theorem d143_5 : decode (xmb 143) 5 = .ok (.iconst 0, 1) := by decide +kernel
theorem d143_6 : decode (xmb 143) 6 = .ok (.istore_n 2, 1) := by decide +kernel
theorem d143_7 : decode (xmb 143) 7 = .ok (.iload_n 2, 1) := by decide +kernel
theorem d143_8 : decode (xmb 143) 8 = .ok (.bipush 14, 2) := by decide +kernel
theorem d143_10 : decode (xmb 143) 10 = .ok (.if_icmp .ge 23, 3) := by decide +kernel
theorem d143_13 : decode (xmb 143) 13 = .ok (.aload_n 0, 1) := by decide +kernel
theorem d143_14 : decode (xmb 143) 14 = .ok (.getfield 29, 3) := by decide +kernel
theorem d143_17 : decode (xmb 143) 17 = .ok (.iload_n 2, 1) := by decide +kernel
theorem d143_18 : decode (xmb 143) 18 = .ok (.iconst (-1), 1) := by decide +kernel
theorem d143_19 : decode (xmb 143) 19 = .ok (.iastore, 1) := by decide +kernel
theorem d143_20 : decode (xmb 143) 20 = .ok (.aload_n 0, 1) := by decide +kernel
theorem d143_21 : decode (xmb 143) 21 = .ok (.getfield 32, 3) := by decide +kernel
theorem d143_24 : decode (xmb 143) 24 = .ok (.iload_n 2, 1) := by decide +kernel
theorem d143_25 : decode (xmb 143) 25 = .ok (.iconst (-1), 1) := by decide +kernel
theorem d143_26 : decode (xmb 143) 26 = .ok (.iastore, 1) := by decide +kernel
theorem d143_27 : decode (xmb 143) 27 = .ok (.iinc 2 1, 3) := by decide +kernel
theorem d143_30 : decode (xmb 143) 30 = .ok (.goto (-23), 3) := by decide +kernel
theorem d143_33 : decode (xmb 143) 33 = .ok (.aload_n 0, 1) := by decide +kernel
theorem d143_34 : decode (xmb 143) 34 = .ok (.aload_n 1, 1) := by decide +kernel
theorem d143_35 : decode (xmb 143) 35 = .ok (.invokevirtual 98, 3) := by decide +kernel
theorem d143_38 : decode (xmb 143) 38 = .ok (.iconst 0, 1) := by decide +kernel
theorem d143_39 : decode (xmb 143) 39 = .ok (.istore_n 2, 1) := by decide +kernel
theorem d143_40 : decode (xmb 143) 40 = .ok (.iload_n 2, 1) := by decide +kernel
theorem d143_41 : decode (xmb 143) 41 = .ok (.iconst (-1), 1) := by decide +kernel
theorem d143_42 : decode (xmb 143) 42 = .ok (.if_icmp .eq 76, 3) := by decide +kernel
theorem d143_45 : decode (xmb 143) 45 = .ok (.aload_n 0, 1) := by decide +kernel
theorem d143_46 : decode (xmb 143) 46 = .ok (.aload_n 1, 1) := by decide +kernel
theorem d143_47 : decode (xmb 143) 47 = .ok (.iload_n 2, 1) := by decide +kernel
theorem d143_48 : decode (xmb 143) 48 = .ok (.invokevirtual 130, 3) := by decide +kernel
theorem d143_51 : decode (xmb 143) 51 = .ok (.istore_n 3, 1) := by decide +kernel
theorem d143_52 : decode (xmb 143) 52 = .ok (.iload_n 3, 1) := by decide +kernel
theorem d143_53 : decode (xmb 143) 53 = .ok (.iconst (-1), 1) := by decide +kernel
theorem d143_54 : decode (xmb 143) 54 = .ok (.if_icmp .eq 54, 3) := by decide +kernel
theorem d143_57 : decode (xmb 143) 57 = .ok (.aload_n 0, 1) := by decide +kernel
theorem d143_58 : decode (xmb 143) 58 = .ok (.getfield 29, 3) := by decide +kernel
theorem d143_61 : decode (xmb 143) 61 = .ok (.iload_n 3, 1) := by decide +kernel
theorem d143_62 : decode (xmb 143) 62 = .ok (.iload_n 2, 1) := by decide +kernel
theorem d143_63 : decode (xmb 143) 63 = .ok (.iastore, 1) := by decide +kernel
theorem d143_64 : decode (xmb 143) 64 = .ok (.aload_n 0, 1) := by decide +kernel
theorem d143_65 : decode (xmb 143) 65 = .ok (.getfield 32, 3) := by decide +kernel
theorem d143_68 : decode (xmb 143) 68 = .ok (.iload_n 3, 1) := by decide +kernel
theorem d143_69 : decode (xmb 143) 69 = .ok (.iload_n 2, 1) := by decide +kernel
theorem d143_70 : decode (xmb 143) 70 = .ok (.aload_n 1, 1) := by decide +kernel
theorem d143_71 : decode (xmb 143) 71 = .ok (.bipush 16, 2) := by decide +kernel
theorem d143_73 : decode (xmb 143) 73 = .ok (.iload_n 3, 1) := by decide +kernel
theorem d143_74 : decode (xmb 143) 74 = .ok (.iadd, 1) := by decide +kernel
theorem d143_75 : decode (xmb 143) 75 = .ok (.iaload, 1) := by decide +kernel
theorem d143_76 : decode (xmb 143) 76 = .ok (.iadd, 1) := by decide +kernel
theorem d143_77 : decode (xmb 143) 77 = .ok (.iastore, 1) := by decide +kernel
theorem d143_78 : decode (xmb 143) 78 = .ok (.aload_n 0, 1) := by decide +kernel
theorem d143_79 : decode (xmb 143) 79 = .ok (.getfield 35, 3) := by decide +kernel
theorem d143_82 : decode (xmb 143) 82 = .ok (.aload_n 0, 1) := by decide +kernel
theorem d143_83 : decode (xmb 143) 83 = .ok (.getfield 127, 3) := by decide +kernel
theorem d143_86 : decode (xmb 143) 86 = .ok (.iload_n 3, 1) := by decide +kernel
theorem d143_87 : decode (xmb 143) 87 = .ok (.iastore, 1) := by decide +kernel
theorem d143_88 : decode (xmb 143) 88 = .ok (.aload_n 0, 1) := by decide +kernel
theorem d143_89 : decode (xmb 143) 89 = .ok (.dup, 1) := by decide +kernel
theorem d143_90 : decode (xmb 143) 90 = .ok (.getfield 127, 3) := by decide +kernel
theorem d143_93 : decode (xmb 143) 93 = .ok (.iconst 1, 1) := by decide +kernel
theorem d143_94 : decode (xmb 143) 94 = .ok (.iadd, 1) := by decide +kernel
theorem d143_95 : decode (xmb 143) 95 = .ok (.putfield 127, 3) := by decide +kernel
theorem d143_98 : decode (xmb 143) 98 = .ok (.aload_n 0, 1) := by decide +kernel
theorem d143_99 : decode (xmb 143) 99 = .ok (.aload_n 1, 1) := by decide +kernel
theorem d143_100 : decode (xmb 143) 100 = .ok (.iload_n 2, 1) := by decide +kernel
theorem d143_101 : decode (xmb 143) 101 = .ok (.invokevirtual 130, 3) := by decide +kernel
theorem d143_104 : decode (xmb 143) 104 = .ok (.istore_n 3, 1) := by decide +kernel
theorem d143_105 : decode (xmb 143) 105 = .ok (.goto (-53), 3) := by decide +kernel
theorem d143_108 : decode (xmb 143) 108 = .ok (.aload_n 0, 1) := by decide +kernel
theorem d143_109 : decode (xmb 143) 109 = .ok (.aload_n 1, 1) := by decide +kernel
theorem d143_110 : decode (xmb 143) 110 = .ok (.iload_n 2, 1) := by decide +kernel
theorem d143_111 : decode (xmb 143) 111 = .ok (.invokevirtual 133, 3) := by decide +kernel
theorem d143_114 : decode (xmb 143) 114 = .ok (.istore_n 2, 1) := by decide +kernel
theorem d143_115 : decode (xmb 143) 115 = .ok (.goto (-75), 3) := by decide +kernel
theorem d143_118 : decode (xmb 143) 118 = .ok (.return_, 1) := by decide +kernel
theorem d144_0 : decode (xmb 144) 0 = .ok (.aload_n 0, 1) := by decide +kernel
theorem d144_1 : decode (xmb 144) 1 = .ok (.aload_n 1, 1) := by decide +kernel
theorem d144_2 : decode (xmb 144) 2 = .ok (.invokevirtual 136, 3) := by decide +kernel
theorem d144_5 : decode (xmb 144) 5 = .ok (.iconst 0, 1) := by decide +kernel
theorem d144_6 : decode (xmb 144) 6 = .ok (.istore_n 2, 1) := by decide +kernel
theorem d144_7 : decode (xmb 144) 7 = .ok (.iconst 0, 1) := by decide +kernel
theorem d144_8 : decode (xmb 144) 8 = .ok (.istore_n 3, 1) := by decide +kernel
theorem d144_9 : decode (xmb 144) 9 = .ok (.iload_n 3, 1) := by decide +kernel
theorem d144_10 : decode (xmb 144) 10 = .ok (.aload_n 1, 1) := by decide +kernel
theorem d144_11 : decode (xmb 144) 11 = .ok (.bipush 15, 2) := by decide +kernel
theorem d144_13 : decode (xmb 144) 13 = .ok (.iaload, 1) := by decide +kernel
theorem d144_14 : decode (xmb 144) 14 = .ok (.if_icmp .ge 30, 3) := by decide +kernel
theorem d144_17 : decode (xmb 144) 17 = .ok (.aload_n 0, 1) := by decide +kernel
theorem d144_18 : decode (xmb 144) 18 = .ok (.getfield 32, 3) := by decide +kernel
theorem d144_21 : decode (xmb 144) 21 = .ok (.iload_n 3, 1) := by decide +kernel
theorem d144_22 : decode (xmb 144) 22 = .ok (.iaload, 1) := by decide +kernel
theorem d144_23 : decode (xmb 144) 23 = .ok (.iload_n 2, 1) := by decide +kernel
theorem d144_24 : decode (xmb 144) 24 = .ok (.if_icmp .le 12, 3) := by decide +kernel
theorem d144_27 : decode (xmb 144) 27 = .ok (.aload_n 0, 1) := by decide +kernel
theorem d144_28 : decode (xmb 144) 28 = .ok (.getfield 32, 3) := by decide +kernel
theorem d144_31 : decode (xmb 144) 31 = .ok (.iload_n 3, 1) := by decide +kernel
theorem d144_32 : decode (xmb 144) 32 = .ok (.iaload, 1) := by decide +kernel
theorem d144_33 : decode (xmb 144) 33 = .ok (.goto 4, 3) := by decide +kernel
theorem d144_36 : decode (xmb 144) 36 = .ok (.iload_n 2, 1) := by decide +kernel
theorem d144_37 : decode (xmb 144) 37 = .ok (.istore_n 2, 1) := by decide +kernel
theorem d144_38 : decode (xmb 144) 38 = .ok (.iinc 3 1, 3) := by decide +kernel
theorem d144_41 : decode (xmb 144) 41 = .ok (.goto (-32), 3) := by decide +kernel
theorem d144_44 : decode (xmb 144) 44 = .ok (.iload_n 2, 1) := by decide +kernel
theorem d144_45 : decode (xmb 144) 45 = .ok (.ireturn, 1) := by decide +kernel
theorem d145_0 : decode (xmb 145) 0 = .ok (.aload_n 0, 1) := by decide +kernel
theorem d145_1 : decode (xmb 145) 1 = .ok (.aload_n 1, 1) := by decide +kernel
theorem d145_2 : decode (xmb 145) 2 = .ok (.invokevirtual 136, 3) := by decide +kernel
theorem d145_5 : decode (xmb 145) 5 = .ok (.aload_n 1, 1) := by decide +kernel
theorem d145_6 : decode (xmb 145) 6 = .ok (.bipush 15, 2) := by decide +kernel
theorem d145_8 : decode (xmb 145) 8 = .ok (.iaload, 1) := by decide +kernel
theorem d145_9 : decode (xmb 145) 9 = .ok (.aload_n 0, 1) := by decide +kernel
theorem d145_10 : decode (xmb 145) 10 = .ok (.getfield 127, 3) := by decide +kernel
theorem d145_13 : decode (xmb 145) 13 = .ok (.isub, 1) := by decide +kernel
theorem d145_14 : decode (xmb 145) 14 = .ok (.ireturn, 1) := by decide +kernel
theorem d146_0 : decode (xmb 146) 0 = .ok (.aload_n 0, 1) := by decide +kernel
theorem d146_1 : decode (xmb 146) 1 = .ok (.iload_n 1, 1) := by decide +kernel
theorem d146_2 : decode (xmb 146) 2 = .ok (.iaload, 1) := by decide +kernel
theorem d146_3 : decode (xmb 146) 3 = .ok (.istore_n 3, 1) := by decide +kernel
theorem d146_4 : decode (xmb 146) 4 = .ok (.aload_n 0, 1) := by decide +kernel
theorem d146_5 : decode (xmb 146) 5 = .ok (.iload_n 1, 1) := by decide +kernel
theorem d146_6 : decode (xmb 146) 6 = .ok (.iload_n 2, 1) := by decide +kernel
theorem d146_7 : decode (xmb 146) 7 = .ok (.iastore, 1) := by decide +kernel
theorem d146_8 : decode (xmb 146) 8 = .ok (.iload_n 3, 1) := by decide +kernel
theorem d146_9 : decode (xmb 146) 9 = .ok (.ireturn, 1) := by decide +kernel
theorem d147_0 : decode (xmb 147) 0 = .ok (.aload_n 0, 1) := by decide +kernel
theorem d147_1 : decode (xmb 147) 1 = .ok (.iconst 1, 1) := by decide +kernel
theorem d147_2 : decode (xmb 147) 2 = .ok (.aload_n 0, 1) := by decide +kernel
theorem d147_3 : decode (xmb 147) 3 = .ok (.iconst 0, 1) := by decide +kernel
theorem d147_4 : decode (xmb 147) 4 = .ok (.iaload, 1) := by decide +kernel
theorem d147_5 : decode (xmb 147) 5 = .ok (.iadd, 1) := by decide +kernel
theorem d147_6 : decode (xmb 147) 6 = .ok (.iload_n 1, 1) := by decide +kernel
theorem d147_7 : decode (xmb 147) 7 = .ok (.iastore, 1) := by decide +kernel
theorem d147_8 : decode (xmb 147) 8 = .ok (.aload_n 0, 1) := by decide +kernel
theorem d147_9 : decode (xmb 147) 9 = .ok (.iconst 0, 1) := by decide +kernel
theorem d147_10 : decode (xmb 147) 10 = .ok (.dup2, 1) := by decide +kernel
theorem d147_11 : decode (xmb 147) 11 = .ok (.iaload, 1) := by decide +kernel
theorem d147_12 : decode (xmb 147) 12 = .ok (.iconst 1, 1) := by decide +kernel
theorem d147_13 : decode (xmb 147) 13 = .ok (.iadd, 1) := by decide +kernel
theorem d147_14 : decode (xmb 147) 14 = .ok (.iastore, 1) := by decide +kernel
theorem d147_15 : decode (xmb 147) 15 = .ok (.aload_n 0, 1) := by decide +kernel
theorem d147_16 : decode (xmb 147) 16 = .ok (.iconst 0, 1) := by decide +kernel
theorem d147_17 : decode (xmb 147) 17 = .ok (.iaload, 1) := by decide +kernel
theorem d147_18 : decode (xmb 147) 18 = .ok (.iconst 1, 1) := by decide +kernel
theorem d147_19 : decode (xmb 147) 19 = .ok (.isub, 1) := by decide +kernel
theorem d147_20 : decode (xmb 147) 20 = .ok (.ireturn, 1) := by decide +kernel
theorem d148_0 : decode (xmb 148) 0 = .ok (.aload_n 0, 1) := by decide +kernel
theorem d148_1 : decode (xmb 148) 1 = .ok (.bipush 13, 2) := by decide +kernel
theorem d148_3 : decode (xmb 148) 3 = .ok (.iload_n 1, 1) := by decide +kernel
theorem d148_4 : decode (xmb 148) 4 = .ok (.iastore, 1) := by decide +kernel
theorem d148_5 : decode (xmb 148) 5 = .ok (.aload_n 0, 1) := by decide +kernel
theorem d148_6 : decode (xmb 148) 6 = .ok (.bipush 14, 2) := by decide +kernel
theorem d148_8 : decode (xmb 148) 8 = .ok (.iload_n 2, 1) := by decide +kernel
theorem d148_9 : decode (xmb 148) 9 = .ok (.iastore, 1) := by decide +kernel
theorem d148_10 : decode (xmb 148) 10 = .ok (.aload_n 0, 1) := by decide +kernel
theorem d148_11 : decode (xmb 148) 11 = .ok (.invokestatic 139, 3) := by decide +kernel
theorem d148_14 : decode (xmb 148) 14 = .ok (.ireturn, 1) := by decide +kernel
theorem d149_0 : decode (xmb 149) 0 = .ok (.iload_n 0, 1) := by decide +kernel
theorem d149_1 : decode (xmb 149) 1 = .ok (.invokestatic 142, 3) := by decide +kernel
theorem d149_4 : decode (xmb 149) 4 = .ok (.ifCond .eq 21, 3) := by decide +kernel
theorem d149_7 : decode (xmb 149) 7 = .ok (.iload_n 1, 1) := by decide +kernel
theorem d149_8 : decode (xmb 149) 8 = .ok (.i2l, 1) := by decide +kernel
theorem d149_9 : decode (xmb 149) 9 = .ok (.ldc2_w 146, 3) := by decide +kernel
theorem d149_12 : decode (xmb 149) 12 = .ok (.ldc2_w 62, 3) := by decide +kernel
theorem d149_15 : decode (xmb 149) 15 = .ok (.invokestatic 58, 3) := by decide +kernel
theorem d149_18 : decode (xmb 149) 18 = .ok (.ifCond .eq 7, 3) := by decide +kernel
theorem d149_21 : decode (xmb 149) 21 = .ok (.iconst 1, 1) := by decide +kernel
theorem d149_22 : decode (xmb 149) 22 = .ok (.goto 4, 3) := by decide +kernel
theorem d149_25 : decode (xmb 149) 25 = .ok (.iconst 0, 1) := by decide +kernel
theorem d149_26 : decode (xmb 149) 26 = .ok (.ireturn, 1) := by decide +kernel
theorem d150_0 : decode (xmb 150) 0 = .ok (.aload_n 0, 1) := by decide +kernel
theorem d150_1 : decode (xmb 150) 1 = .ok (.bipush 15, 2) := by decide +kernel
theorem d150_3 : decode (xmb 150) 3 = .ok (.iaload, 1) := by decide +kernel
theorem d150_4 : decode (xmb 150) 4 = .ok (.istore 4, 2) := by decide +kernel
theorem d150_6 : decode (xmb 150) 6 = .ok (.aload_n 0, 1) := by decide +kernel
theorem d150_7 : decode (xmb 150) 7 = .ok (.bipush 16, 2) := by decide +kernel
theorem d150_9 : decode (xmb 150) 9 = .ok (.iload 4, 2) := by decide +kernel
theorem d150_11 : decode (xmb 150) 11 = .ok (.iadd, 1) := by decide +kernel
theorem d150_12 : decode (xmb 150) 12 = .ok (.iload_n 1, 1) := by decide +kernel
theorem d150_13 : decode (xmb 150) 13 = .ok (.iastore, 1) := by decide +kernel
theorem d150_14 : decode (xmb 150) 14 = .ok (.aload_n 0, 1) := by decide +kernel
theorem d150_15 : decode (xmb 150) 15 = .ok (.bipush 30, 2) := by decide +kernel
theorem d150_17 : decode (xmb 150) 17 = .ok (.iload 4, 2) := by decide +kernel
theorem d150_19 : decode (xmb 150) 19 = .ok (.iadd, 1) := by decide +kernel
theorem d150_20 : decode (xmb 150) 20 = .ok (.iload_n 2, 1) := by decide +kernel
theorem d150_21 : decode (xmb 150) 21 = .ok (.iastore, 1) := by decide +kernel
theorem d150_22 : decode (xmb 150) 22 = .ok (.aload_n 0, 1) := by decide +kernel
theorem d150_23 : decode (xmb 150) 23 = .ok (.bipush 44, 2) := by decide +kernel
theorem d150_25 : decode (xmb 150) 25 = .ok (.iload 4, 2) := by decide +kernel
theorem d150_27 : decode (xmb 150) 27 = .ok (.iadd, 1) := by decide +kernel
theorem d150_28 : decode (xmb 150) 28 = .ok (.iload_n 3, 1) := by decide +kernel
theorem d150_29 : decode (xmb 150) 29 = .ok (.ifCond .eq 7, 3) := by decide +kernel
theorem d150_32 : decode (xmb 150) 32 = .ok (.iconst 1, 1) := by decide +kernel
theorem d150_33 : decode (xmb 150) 33 = .ok (.goto 4, 3) := by decide +kernel
theorem d150_36 : decode (xmb 150) 36 = .ok (.iconst 0, 1) := by decide +kernel
theorem d150_37 : decode (xmb 150) 37 = .ok (.iastore, 1) := by decide +kernel
theorem d150_38 : decode (xmb 150) 38 = .ok (.aload_n 0, 1) := by decide +kernel
theorem d150_39 : decode (xmb 150) 39 = .ok (.bipush 58, 2) := by decide +kernel
theorem d150_41 : decode (xmb 150) 41 = .ok (.iload 4, 2) := by decide +kernel
theorem d150_43 : decode (xmb 150) 43 = .ok (.iadd, 1) := by decide +kernel
theorem d150_44 : decode (xmb 150) 44 = .ok (.iconst 0, 1) := by decide +kernel
theorem d150_45 : decode (xmb 150) 45 = .ok (.iastore, 1) := by decide +kernel
theorem d150_46 : decode (xmb 150) 46 = .ok (.aload_n 0, 1) := by decide +kernel
theorem d150_47 : decode (xmb 150) 47 = .ok (.bipush 72, 2) := by decide +kernel
theorem d150_49 : decode (xmb 150) 49 = .ok (.iload 4, 2) := by decide +kernel
theorem d150_51 : decode (xmb 150) 51 = .ok (.iadd, 1) := by decide +kernel
theorem d150_52 : decode (xmb 150) 52 = .ok (.iconst 0, 1) := by decide +kernel
theorem d150_53 : decode (xmb 150) 53 = .ok (.iastore, 1) := by decide +kernel
theorem d150_54 : decode (xmb 150) 54 = .ok (.aload_n 0, 1) := by decide +kernel
theorem d150_55 : decode (xmb 150) 55 = .ok (.bipush 15, 2) := by decide +kernel
theorem d150_57 : decode (xmb 150) 57 = .ok (.dup2, 1) := by decide +kernel
theorem d150_58 : decode (xmb 150) 58 = .ok (.iaload, 1) := by decide +kernel
theorem d150_59 : decode (xmb 150) 59 = .ok (.iconst 1, 1) := by decide +kernel
theorem d150_60 : decode (xmb 150) 60 = .ok (.iadd, 1) := by decide +kernel
theorem d150_61 : decode (xmb 150) 61 = .ok (.iastore, 1) := by decide +kernel
theorem d150_62 : decode (xmb 150) 62 = .ok (.iload 4, 2) := by decide +kernel
theorem d150_64 : decode (xmb 150) 64 = .ok (.ireturn, 1) := by decide +kernel
theorem d151_0 : decode (xmb 151) 0 = .ok (.aload_n 0, 1) := by decide +kernel
theorem d151_1 : decode (xmb 151) 1 = .ok (.bipush 58, 2) := by decide +kernel
theorem d151_3 : decode (xmb 151) 3 = .ok (.iload_n 1, 1) := by decide +kernel
theorem d151_4 : decode (xmb 151) 4 = .ok (.iadd, 1) := by decide +kernel
theorem d151_5 : decode (xmb 151) 5 = .ok (.iaload, 1) := by decide +kernel
theorem d151_6 : decode (xmb 151) 6 = .ok (.iconst 1, 1) := by decide +kernel
theorem d151_7 : decode (xmb 151) 7 = .ok (.iload_n 2, 1) := by decide +kernel
theorem d151_8 : decode (xmb 151) 8 = .ok (.ishl, 1) := by decide +kernel
theorem d151_9 : decode (xmb 151) 9 = .ok (.iconst (-1), 1) := by decide +kernel
theorem d151_10 : decode (xmb 151) 10 = .ok (.ixor, 1) := by decide +kernel
theorem d151_11 : decode (xmb 151) 11 = .ok (.iand, 1) := by decide +kernel
theorem d151_12 : decode (xmb 151) 12 = .ok (.istore 4, 2) := by decide +kernel
theorem d151_14 : decode (xmb 151) 14 = .ok (.aload_n 0, 1) := by decide +kernel
theorem d151_15 : decode (xmb 151) 15 = .ok (.bipush 58, 2) := by decide +kernel
theorem d151_17 : decode (xmb 151) 17 = .ok (.iload_n 1, 1) := by decide +kernel
theorem d151_18 : decode (xmb 151) 18 = .ok (.iadd, 1) := by decide +kernel
theorem d151_19 : decode (xmb 151) 19 = .ok (.iload_n 3, 1) := by decide +kernel
theorem d151_20 : decode (xmb 151) 20 = .ok (.ifCond .eq 12, 3) := by decide +kernel
theorem d151_23 : decode (xmb 151) 23 = .ok (.iload 4, 2) := by decide +kernel
theorem d151_25 : decode (xmb 151) 25 = .ok (.iconst 1, 1) := by decide +kernel
theorem d151_26 : decode (xmb 151) 26 = .ok (.iload_n 2, 1) := by decide +kernel
theorem d151_27 : decode (xmb 151) 27 = .ok (.ishl, 1) := by decide +kernel
theorem d151_28 : decode (xmb 151) 28 = .ok (.ior, 1) := by decide +kernel
theorem d151_29 : decode (xmb 151) 29 = .ok (.goto 5, 3) := by decide +kernel
theorem d151_32 : decode (xmb 151) 32 = .ok (.iload 4, 2) := by decide +kernel
theorem d151_34 : decode (xmb 151) 34 = .ok (.iastore, 1) := by decide +kernel
theorem d151_35 : decode (xmb 151) 35 = .ok (.aload_n 0, 1) := by decide +kernel
theorem d151_36 : decode (xmb 151) 36 = .ok (.bipush 58, 2) := by decide +kernel
theorem d151_38 : decode (xmb 151) 38 = .ok (.iload_n 1, 1) := by decide +kernel
theorem d151_39 : decode (xmb 151) 39 = .ok (.iadd, 1) := by decide +kernel
theorem d151_40 : decode (xmb 151) 40 = .ok (.iaload, 1) := by decide +kernel
theorem d151_41 : decode (xmb 151) 41 = .ok (.bipush 12, 2) := by decide +kernel
theorem d151_43 : decode (xmb 151) 43 = .ok (.invokestatic 116, 3) := by decide +kernel
theorem d151_46 : decode (xmb 151) 46 = .ok (.ireturn, 1) := by decide +kernel
theorem d152_0 : decode (xmb 152) 0 = .ok (.iload_n 3, 1) := by decide +kernel
theorem d152_1 : decode (xmb 152) 1 = .ok (.ifCond .eq 20, 3) := by decide +kernel
theorem d152_4 : decode (xmb 152) 4 = .ok (.iload_n 1, 1) := by decide +kernel
theorem d152_5 : decode (xmb 152) 5 = .ok (.iload_n 2, 1) := by decide +kernel
theorem d152_6 : decode (xmb 152) 6 = .ok (.if_icmp .eq 19, 3) := by decide +kernel
theorem d152_9 : decode (xmb 152) 9 = .ok (.aload_n 0, 1) := by decide +kernel
theorem d152_10 : decode (xmb 152) 10 = .ok (.iload_n 2, 1) := by decide +kernel
theorem d152_11 : decode (xmb 152) 11 = .ok (.invokestatic 148, 3) := by decide +kernel
theorem d152_14 : decode (xmb 152) 14 = .ok (.iload_n 1, 1) := by decide +kernel
theorem d152_15 : decode (xmb 152) 15 = .ok (.invokestatic 54, 3) := by decide +kernel
theorem d152_18 : decode (xmb 152) 18 = .ok (.ifCond .ne 7, 3) := by decide +kernel
theorem d152_21 : decode (xmb 152) 21 = .ok (.iconst 1, 1) := by decide +kernel
theorem d152_22 : decode (xmb 152) 22 = .ok (.goto 4, 3) := by decide +kernel
theorem d152_25 : decode (xmb 152) 25 = .ok (.iconst 0, 1) := by decide +kernel
theorem d152_26 : decode (xmb 152) 26 = .ok (.ireturn, 1) := by decide +kernel
theorem d153_0 : decode (xmb 153) 0 = .ok (.aload_n 0, 1) := by decide +kernel
theorem d153_1 : decode (xmb 153) 1 = .ok (.bipush 72, 2) := by decide +kernel
theorem d153_3 : decode (xmb 153) 3 = .ok (.iload_n 1, 1) := by decide +kernel
theorem d153_4 : decode (xmb 153) 4 = .ok (.iadd, 1) := by decide +kernel
theorem d153_5 : decode (xmb 153) 5 = .ok (.iaload, 1) := by decide +kernel
theorem d153_6 : decode (xmb 153) 6 = .ok (.iconst 1, 1) := by decide +kernel
theorem d153_7 : decode (xmb 153) 7 = .ok (.iload_n 2, 1) := by decide +kernel
theorem d153_8 : decode (xmb 153) 8 = .ok (.ishl, 1) := by decide +kernel
theorem d153_9 : decode (xmb 153) 9 = .ok (.iconst (-1), 1) := by decide +kernel
theorem d153_10 : decode (xmb 153) 10 = .ok (.ixor, 1) := by decide +kernel
theorem d153_11 : decode (xmb 153) 11 = .ok (.iand, 1) := by decide +kernel
theorem d153_12 : decode (xmb 153) 12 = .ok (.istore 4, 2) := by decide +kernel
theorem d153_14 : decode (xmb 153) 14 = .ok (.aload_n 0, 1) := by decide +kernel
theorem d153_15 : decode (xmb 153) 15 = .ok (.bipush 72, 2) := by decide +kernel
theorem d153_17 : decode (xmb 153) 17 = .ok (.iload_n 1, 1) := by decide +kernel
theorem d153_18 : decode (xmb 153) 18 = .ok (.iadd, 1) := by decide +kernel
theorem d153_19 : decode (xmb 153) 19 = .ok (.iload_n 3, 1) := by decide +kernel
theorem d153_20 : decode (xmb 153) 20 = .ok (.ifCond .eq 12, 3) := by decide +kernel
theorem d153_23 : decode (xmb 153) 23 = .ok (.iload 4, 2) := by decide +kernel
theorem d153_25 : decode (xmb 153) 25 = .ok (.iconst 1, 1) := by decide +kernel
theorem d153_26 : decode (xmb 153) 26 = .ok (.iload_n 2, 1) := by decide +kernel
theorem d153_27 : decode (xmb 153) 27 = .ok (.ishl, 1) := by decide +kernel
theorem d153_28 : decode (xmb 153) 28 = .ok (.ior, 1) := by decide +kernel
theorem d153_29 : decode (xmb 153) 29 = .ok (.goto 5, 3) := by decide +kernel
theorem d153_32 : decode (xmb 153) 32 = .ok (.iload 4, 2) := by decide +kernel
theorem d153_34 : decode (xmb 153) 34 = .ok (.iastore, 1) := by decide +kernel
theorem d153_35 : decode (xmb 153) 35 = .ok (.aload_n 0, 1) := by decide +kernel
theorem d153_36 : decode (xmb 153) 36 = .ok (.bipush 72, 2) := by decide +kernel
theorem d153_38 : decode (xmb 153) 38 = .ok (.iload_n 1, 1) := by decide +kernel
theorem d153_39 : decode (xmb 153) 39 = .ok (.iadd, 1) := by decide +kernel
theorem d153_40 : decode (xmb 153) 40 = .ok (.iaload, 1) := by decide +kernel
theorem d153_41 : decode (xmb 153) 41 = .ok (.bipush 14, 2) := by decide +kernel
theorem d153_43 : decode (xmb 153) 43 = .ok (.invokestatic 116, 3) := by decide +kernel
theorem d153_46 : decode (xmb 153) 46 = .ok (.ireturn, 1) := by decide +kernel
theorem d154_0 : decode (xmb 154) 0 = .ok (.aload_n 0, 1) := by decide +kernel
theorem d154_1 : decode (xmb 154) 1 = .ok (.getfield 151, 3) := by decide +kernel
theorem d154_4 : decode (xmb 154) 4 = .ok (.bipush 14, 2) := by decide +kernel
theorem d154_6 : decode (xmb 154) 6 = .ok (.if_icmp .ne 43, 3) := by decide +kernel
theorem d154_9 : decode (xmb 154) 9 = .ok (.iconst 0, 1) := by decide +kernel
theorem d154_10 : decode (xmb 154) 10 = .ok (.istore_n 1, 1) := by decide +kernel
theorem d154_11 : decode (xmb 154) 11 = .ok (.iload_n 1, 1) := by decide +kernel
theorem d154_12 : decode (xmb 154) 12 = .ok (.sipush 1235, 3) := by decide +kernel
theorem d154_15 : decode (xmb 154) 15 = .ok (.if_icmp .ge 24, 3) := by decide +kernel
theorem d154_18 : decode (xmb 154) 18 = .ok (.aload_n 0, 1) := by decide +kernel
theorem d154_19 : decode (xmb 154) 19 = .ok (.getfield 19, 3) := by decide +kernel
theorem d154_22 : decode (xmb 154) 22 = .ok (.iload_n 1, 1) := by decide +kernel
theorem d154_23 : decode (xmb 154) 23 = .ok (.aload_n 0, 1) := by decide +kernel
theorem d154_24 : decode (xmb 154) 24 = .ok (.getfield 19, 3) := by decide +kernel
theorem d154_27 : decode (xmb 154) 27 = .ok (.bipush 95, 2) := by decide +kernel
theorem d154_29 : decode (xmb 154) 29 = .ok (.iload_n 1, 1) := by decide +kernel
theorem d154_30 : decode (xmb 154) 30 = .ok (.iadd, 1) := by decide +kernel
theorem d154_31 : decode (xmb 154) 31 = .ok (.iaload, 1) := by decide +kernel
theorem d154_32 : decode (xmb 154) 32 = .ok (.iastore, 1) := by decide +kernel
theorem d154_33 : decode (xmb 154) 33 = .ok (.iinc 1 1, 3) := by decide +kernel
theorem d154_36 : decode (xmb 154) 36 = .ok (.goto (-25), 3) := by decide +kernel
theorem d154_39 : decode (xmb 154) 39 = .ok (.aload_n 0, 1) := by decide +kernel
theorem d154_40 : decode (xmb 154) 40 = .ok (.dup, 1) := by decide +kernel
theorem d154_41 : decode (xmb 154) 41 = .ok (.getfield 151, 3) := by decide +kernel
theorem d154_44 : decode (xmb 154) 44 = .ok (.iconst 1, 1) := by decide +kernel
theorem d154_45 : decode (xmb 154) 45 = .ok (.isub, 1) := by decide +kernel
theorem d154_46 : decode (xmb 154) 46 = .ok (.putfield 151, 3) := by decide +kernel
theorem d154_49 : decode (xmb 154) 49 = .ok (.iconst 0, 1) := by decide +kernel
theorem d154_50 : decode (xmb 154) 50 = .ok (.istore_n 1, 1) := by decide +kernel
theorem d154_51 : decode (xmb 154) 51 = .ok (.iload_n 1, 1) := by decide +kernel
theorem d154_52 : decode (xmb 154) 52 = .ok (.bipush 95, 2) := by decide +kernel
theorem d154_54 : decode (xmb 154) 54 = .ok (.if_icmp .ge 29, 3) := by decide +kernel
theorem d154_57 : decode (xmb 154) 57 = .ok (.aload_n 0, 1) := by decide +kernel
theorem d154_58 : decode (xmb 154) 58 = .ok (.getfield 19, 3) := by decide +kernel
theorem d154_61 : decode (xmb 154) 61 = .ok (.bipush 95, 2) := by decide +kernel
theorem d154_63 : decode (xmb 154) 63 = .ok (.aload_n 0, 1) := by decide +kernel
theorem d154_64 : decode (xmb 154) 64 = .ok (.getfield 151, 3) := by decide +kernel
theorem d154_67 : decode (xmb 154) 67 = .ok (.imul, 1) := by decide +kernel
theorem d154_68 : decode (xmb 154) 68 = .ok (.iload_n 1, 1) := by decide +kernel
theorem d154_69 : decode (xmb 154) 69 = .ok (.iadd, 1) := by decide +kernel
theorem d154_70 : decode (xmb 154) 70 = .ok (.aload_n 0, 1) := by decide +kernel
theorem d154_71 : decode (xmb 154) 71 = .ok (.getfield 7, 3) := by decide +kernel
theorem d154_74 : decode (xmb 154) 74 = .ok (.iload_n 1, 1) := by decide +kernel
theorem d154_75 : decode (xmb 154) 75 = .ok (.iaload, 1) := by decide +kernel
theorem d154_76 : decode (xmb 154) 76 = .ok (.iastore, 1) := by decide +kernel
theorem d154_77 : decode (xmb 154) 77 = .ok (.iinc 1 1, 3) := by decide +kernel
theorem d154_80 : decode (xmb 154) 80 = .ok (.goto (-29), 3) := by decide +kernel
theorem d154_83 : decode (xmb 154) 83 = .ok (.aload_n 0, 1) := by decide +kernel
theorem d154_84 : decode (xmb 154) 84 = .ok (.dup, 1) := by decide +kernel
theorem d154_85 : decode (xmb 154) 85 = .ok (.getfield 151, 3) := by decide +kernel
theorem d154_88 : decode (xmb 154) 88 = .ok (.iconst 1, 1) := by decide +kernel
theorem d154_89 : decode (xmb 154) 89 = .ok (.iadd, 1) := by decide +kernel
theorem d154_90 : decode (xmb 154) 90 = .ok (.putfield 151, 3) := by decide +kernel
theorem d154_93 : decode (xmb 154) 93 = .ok (.return_, 1) := by decide +kernel
theorem d155_0 : decode (xmb 155) 0 = .ok (.aload_n 0, 1) := by decide +kernel
theorem d155_1 : decode (xmb 155) 1 = .ok (.iload_n 1, 1) := by decide +kernel
theorem d155_2 : decode (xmb 155) 2 = .ok (.i2l, 1) := by decide +kernel
theorem d155_3 : decode (xmb 155) 3 = .ok (.lconst 0, 1) := by decide +kernel
theorem d155_4 : decode (xmb 155) 4 = .ok (.ldc2_w 154, 3) := by decide +kernel
theorem d155_7 : decode (xmb 155) 7 = .ok (.invokestatic 58, 3) := by decide +kernel
theorem d155_10 : decode (xmb 155) 10 = .ok (.ifCond .ne 7, 3) := by decide +kernel
theorem d155_13 : decode (xmb 155) 13 = .ok (.iconst 1, 1) := by decide +kernel
theorem d155_14 : decode (xmb 155) 14 = .ok (.goto 17, 3) := by decide +kernel
theorem d155_17 : decode (xmb 155) 17 = .ok (.aload_n 0, 1) := by decide +kernel
theorem d155_18 : decode (xmb 155) 18 = .ok (.getfield 156, 3) := by decide +kernel
theorem d155_21 : decode (xmb 155) 21 = .ok (.bipush 120, 2) := by decide +kernel
theorem d155_23 : decode (xmb 155) 23 = .ok (.if_icmp .ne 7, 3) := by decide +kernel
theorem d155_26 : decode (xmb 155) 26 = .ok (.iconst 2, 1) := by decide +kernel
theorem d155_27 : decode (xmb 155) 27 = .ok (.goto 4, 3) := by decide +kernel
theorem d155_30 : decode (xmb 155) 30 = .ok (.iconst 0, 1) := by decide +kernel
theorem d155_31 : decode (xmb 155) 31 = .ok (.invokevirtual 159, 3) := by decide +kernel
theorem d155_34 : decode (xmb 155) 34 = .ok (.ifCond .eq 5, 3) := by decide +kernel
theorem d155_37 : decode (xmb 155) 37 = .ok (.iconst 0, 1) := by decide +kernel
theorem d155_38 : decode (xmb 155) 38 = .ok (.ireturn, 1) := by decide +kernel
theorem d155_39 : decode (xmb 155) 39 = .ok (.aload_n 0, 1) := by decide +kernel
theorem d155_40 : decode (xmb 155) 40 = .ok (.getfield 41, 3) := by decide +kernel
theorem d155_43 : decode (xmb 155) 43 = .ok (.aload_n 0, 1) := by decide +kernel
theorem d155_44 : decode (xmb 155) 44 = .ok (.getfield 156, 3) := by decide +kernel
theorem d155_47 : decode (xmb 155) 47 = .ok (.iload_n 1, 1) := by decide +kernel
theorem d155_48 : decode (xmb 155) 48 = .ok (.iastore, 1) := by decide +kernel
theorem d155_49 : decode (xmb 155) 49 = .ok (.aload_n 0, 1) := by decide +kernel
theorem d155_50 : decode (xmb 155) 50 = .ok (.dup, 1) := by decide +kernel
theorem d155_51 : decode (xmb 155) 51 = .ok (.getfield 156, 3) := by decide +kernel
theorem d155_54 : decode (xmb 155) 54 = .ok (.iconst 1, 1) := by decide +kernel
theorem d155_55 : decode (xmb 155) 55 = .ok (.iadd, 1) := by decide +kernel
theorem d155_56 : decode (xmb 155) 56 = .ok (.putfield 156, 3) := by decide +kernel
theorem d155_59 : decode (xmb 155) 59 = .ok (.aload_n 0, 1) := by decide +kernel
theorem d155_60 : decode (xmb 155) 60 = .ok (.getfield 156, 3) := by decide +kernel
theorem d155_63 : decode (xmb 155) 63 = .ok (.ireturn, 1) := by decide +kernel
theorem d156_0 : decode (xmb 156) 0 = .ok (.aload_n 0, 1) := by decide +kernel
theorem d156_1 : decode (xmb 156) 1 = .ok (.iconst 0, 1) := by decide +kernel
theorem d156_2 : decode (xmb 156) 2 = .ok (.putfield 48, 3) := by decide +kernel
theorem d156_5 : decode (xmb 156) 5 = .ok (.aload_n 0, 1) := by decide +kernel
theorem d156_6 : decode (xmb 156) 6 = .ok (.getfield 156, 3) := by decide +kernel
theorem d156_9 : decode (xmb 156) 9 = .ok (.istore_n 1, 1) := by decide +kernel
theorem d156_10 : decode (xmb 156) 10 = .ok (.aload_n 0, 1) := by decide +kernel
theorem d156_11 : decode (xmb 156) 11 = .ok (.iconst 0, 1) := by decide +kernel
theorem d156_12 : decode (xmb 156) 12 = .ok (.putfield 156, 3) := by decide +kernel
theorem d156_15 : decode (xmb 156) 15 = .ok (.iload_n 1, 1) := by decide +kernel
theorem d156_16 : decode (xmb 156) 16 = .ok (.ireturn, 1) := by decide +kernel
theorem d157_0 : decode (xmb 157) 0 = .ok (.aload_n 0, 1) := by decide +kernel
theorem d157_1 : decode (xmb 157) 1 = .ok (.getfield 162, 3) := by decide +kernel
theorem d157_4 : decode (xmb 157) 4 = .ok (.aload_n 0, 1) := by decide +kernel
theorem d157_5 : decode (xmb 157) 5 = .ok (.getfield 156, 3) := by decide +kernel
theorem d157_8 : decode (xmb 157) 8 = .ok (.if_icmp .ge 15, 3) := by decide +kernel
theorem d157_11 : decode (xmb 157) 11 = .ok (.aload_n 0, 1) := by decide +kernel
theorem d157_12 : decode (xmb 157) 12 = .ok (.getfield 41, 3) := by decide +kernel
theorem d157_15 : decode (xmb 157) 15 = .ok (.aload_n 0, 1) := by decide +kernel
theorem d157_16 : decode (xmb 157) 16 = .ok (.getfield 162, 3) := by decide +kernel
theorem d157_19 : decode (xmb 157) 19 = .ok (.iaload, 1) := by decide +kernel
theorem d157_20 : decode (xmb 157) 20 = .ok (.goto 4, 3) := by decide +kernel
theorem d157_23 : decode (xmb 157) 23 = .ok (.iconst (-1), 1) := by decide +kernel
theorem d157_24 : decode (xmb 157) 24 = .ok (.ireturn, 1) := by decide +kernel
theorem d158_0 : decode (xmb 158) 0 = .ok (.aload_n 0, 1) := by decide +kernel
theorem d158_1 : decode (xmb 158) 1 = .ok (.aload_n 0, 1) := by decide +kernel
theorem d158_2 : decode (xmb 158) 2 = .ok (.getfield 165, 3) := by decide +kernel
theorem d158_5 : decode (xmb 158) 5 = .ok (.ifCond .eq 11, 3) := by decide +kernel
theorem d158_8 : decode (xmb 158) 8 = .ok (.iload_n 1, 1) := by decide +kernel
theorem d158_9 : decode (xmb 158) 9 = .ok (.ifCond .eq 7, 3) := by decide +kernel
theorem d158_12 : decode (xmb 158) 12 = .ok (.iconst 1, 1) := by decide +kernel
theorem d158_13 : decode (xmb 158) 13 = .ok (.goto 4, 3) := by decide +kernel
theorem d158_16 : decode (xmb 158) 16 = .ok (.iconst 0, 1) := by decide +kernel
theorem d158_17 : decode (xmb 158) 17 = .ok (.putfield 165, 3) := by decide +kernel
theorem d158_20 : decode (xmb 158) 20 = .ok (.aload_n 0, 1) := by decide +kernel
theorem d158_21 : decode (xmb 158) 21 = .ok (.dup, 1) := by decide +kernel
theorem d158_22 : decode (xmb 158) 22 = .ok (.getfield 162, 3) := by decide +kernel
theorem d158_25 : decode (xmb 158) 25 = .ok (.aload_n 0, 1) := by decide +kernel
theorem d158_26 : decode (xmb 158) 26 = .ok (.getfield 165, 3) := by decide +kernel
theorem d158_29 : decode (xmb 158) 29 = .ok (.ifCond .eq 7, 3) := by decide +kernel
theorem d158_32 : decode (xmb 158) 32 = .ok (.iconst 1, 1) := by decide +kernel
theorem d158_33 : decode (xmb 158) 33 = .ok (.goto 4, 3) := by decide +kernel
theorem d158_36 : decode (xmb 158) 36 = .ok (.iconst 0, 1) := by decide +kernel
theorem d158_37 : decode (xmb 158) 37 = .ok (.iadd, 1) := by decide +kernel
theorem d158_38 : decode (xmb 158) 38 = .ok (.putfield 162, 3) := by decide +kernel
theorem d158_41 : decode (xmb 158) 41 = .ok (.return_, 1) := by decide +kernel
theorem d159_0 : decode (xmb 159) 0 = .ok (.aload_n 0, 1) := by decide +kernel
theorem d159_1 : decode (xmb 159) 1 = .ok (.invokevirtual 169, 3) := by decide +kernel
theorem d159_4 : decode (xmb 159) 4 = .ok (.bipush 48, 2) := by decide +kernel
theorem d159_6 : decode (xmb 159) 6 = .ok (.isub, 1) := by decide +kernel
theorem d159_7 : decode (xmb 159) 7 = .ok (.istore_n 3, 1) := by decide +kernel
theorem d159_8 : decode (xmb 159) 8 = .ok (.aload_n 0, 1) := by decide +kernel
theorem d159_9 : decode (xmb 159) 9 = .ok (.iload_n 3, 1) := by decide +kernel
theorem d159_10 : decode (xmb 159) 10 = .ok (.i2l, 1) := by decide +kernel
theorem d159_11 : decode (xmb 159) 11 = .ok (.iload_n 1, 1) := by decide +kernel
theorem d159_12 : decode (xmb 159) 12 = .ok (.i2l, 1) := by decide +kernel
theorem d159_13 : decode (xmb 159) 13 = .ok (.iload_n 2, 1) := by decide +kernel
theorem d159_14 : decode (xmb 159) 14 = .ok (.i2l, 1) := by decide +kernel
theorem d159_15 : decode (xmb 159) 15 = .ok (.invokestatic 58, 3) := by decide +kernel
theorem d159_18 : decode (xmb 159) 18 = .ok (.invokevirtual 173, 3) := by decide +kernel
theorem d159_21 : decode (xmb 159) 21 = .ok (.aload_n 0, 1) := by decide +kernel
theorem d159_22 : decode (xmb 159) 22 = .ok (.getfield 165, 3) := by decide +kernel
theorem d159_25 : decode (xmb 159) 25 = .ok (.ifCond .eq 7, 3) := by decide +kernel
theorem d159_28 : decode (xmb 159) 28 = .ok (.iload_n 3, 1) := by decide +kernel
theorem d159_29 : decode (xmb 159) 29 = .ok (.goto 4, 3) := by decide +kernel
theorem d159_32 : decode (xmb 159) 32 = .ok (.iload_n 1, 1) := by decide +kernel
theorem d159_33 : decode (xmb 159) 33 = .ok (.ireturn, 1) := by decide +kernel
theorem d160_0 : decode (xmb 160) 0 = .ok (.aload_n 0, 1) := by decide +kernel
theorem d160_1 : decode (xmb 160) 1 = .ok (.iload_n 1, 1) := by decide +kernel
theorem d160_2 : decode (xmb 160) 2 = .ok (.bipush 10, 2) := by decide +kernel
theorem d160_4 : decode (xmb 160) 4 = .ok (.idiv, 1) := by decide +kernel
theorem d160_5 : decode (xmb 160) 5 = .ok (.iload_n 2, 1) := by decide +kernel
theorem d160_6 : decode (xmb 160) 6 = .ok (.bipush 10, 2) := by decide +kernel
theorem d160_8 : decode (xmb 160) 8 = .ok (.idiv, 1) := by decide +kernel
theorem d160_9 : decode (xmb 160) 9 = .ok (.invokevirtual 177, 3) := by decide +kernel
theorem d160_12 : decode (xmb 160) 12 = .ok (.istore_n 3, 1) := by decide +kernel
theorem d160_13 : decode (xmb 160) 13 = .ok (.bipush 10, 2) := by decide +kernel
theorem d160_15 : decode (xmb 160) 15 = .ok (.iload_n 3, 1) := by decide +kernel
theorem d160_16 : decode (xmb 160) 16 = .ok (.imul, 1) := by decide +kernel
theorem d160_17 : decode (xmb 160) 17 = .ok (.aload_n 0, 1) := by decide +kernel
theorem d160_18 : decode (xmb 160) 18 = .ok (.iload_n 3, 1) := by decide +kernel
theorem d160_19 : decode (xmb 160) 19 = .ok (.iload_n 1, 1) := by decide +kernel
theorem d160_20 : decode (xmb 160) 20 = .ok (.bipush 10, 2) := by decide +kernel
theorem d160_22 : decode (xmb 160) 22 = .ok (.idiv, 1) := by decide +kernel
theorem d160_23 : decode (xmb 160) 23 = .ok (.if_icmp .ne 10, 3) := by decide +kernel
theorem d160_26 : decode (xmb 160) 26 = .ok (.iload_n 1, 1) := by decide +kernel
theorem d160_27 : decode (xmb 160) 27 = .ok (.bipush 10, 2) := by decide +kernel
theorem d160_29 : decode (xmb 160) 29 = .ok (.irem, 1) := by decide +kernel
theorem d160_30 : decode (xmb 160) 30 = .ok (.goto 4, 3) := by decide +kernel
theorem d160_33 : decode (xmb 160) 33 = .ok (.iconst 0, 1) := by decide +kernel
theorem d160_34 : decode (xmb 160) 34 = .ok (.iload_n 3, 1) := by decide +kernel
theorem d160_35 : decode (xmb 160) 35 = .ok (.iload_n 2, 1) := by decide +kernel
theorem d160_36 : decode (xmb 160) 36 = .ok (.bipush 10, 2) := by decide +kernel
theorem d160_38 : decode (xmb 160) 38 = .ok (.idiv, 1) := by decide +kernel
theorem d160_39 : decode (xmb 160) 39 = .ok (.if_icmp .ne 10, 3) := by decide +kernel
theorem d160_42 : decode (xmb 160) 42 = .ok (.iload_n 2, 1) := by decide +kernel
theorem d160_43 : decode (xmb 160) 43 = .ok (.bipush 10, 2) := by decide +kernel
theorem d160_45 : decode (xmb 160) 45 = .ok (.irem, 1) := by decide +kernel
theorem d160_46 : decode (xmb 160) 46 = .ok (.goto 5, 3) := by decide +kernel
theorem d160_49 : decode (xmb 160) 49 = .ok (.bipush 9, 2) := by decide +kernel
theorem d160_51 : decode (xmb 160) 51 = .ok (.invokevirtual 177, 3) := by decide +kernel
theorem d160_54 : decode (xmb 160) 54 = .ok (.iadd, 1) := by decide +kernel
theorem d160_55 : decode (xmb 160) 55 = .ok (.ireturn, 1) := by decide +kernel
theorem d161_0 : decode (xmb 161) 0 = .ok (.aload_n 0, 1) := by decide +kernel
theorem d161_1 : decode (xmb 161) 1 = .ok (.dup, 1) := by decide +kernel
theorem d161_2 : decode (xmb 161) 2 = .ok (.getfield 180, 3) := by decide +kernel
theorem d161_5 : decode (xmb 161) 5 = .ok (.aload_n 0, 1) := by decide +kernel
theorem d161_6 : decode (xmb 161) 6 = .ok (.getfield 165, 3) := by decide +kernel
theorem d161_9 : decode (xmb 161) 9 = .ok (.ifCond .eq 11, 3) := by decide +kernel
theorem d161_12 : decode (xmb 161) 12 = .ok (.iload_n 1, 1) := by decide +kernel
theorem d161_13 : decode (xmb 161) 13 = .ok (.ifCond .ne 7, 3) := by decide +kernel
theorem d161_16 : decode (xmb 161) 16 = .ok (.iconst 1, 1) := by decide +kernel
theorem d161_17 : decode (xmb 161) 17 = .ok (.goto 4, 3) := by decide +kernel
theorem d161_20 : decode (xmb 161) 20 = .ok (.iconst 0, 1) := by decide +kernel
theorem d161_21 : decode (xmb 161) 21 = .ok (.iadd, 1) := by decide +kernel
theorem d161_22 : decode (xmb 161) 22 = .ok (.putfield 180, 3) := by decide +kernel
theorem d161_25 : decode (xmb 161) 25 = .ok (.aload_n 0, 1) := by decide +kernel
theorem d161_26 : decode (xmb 161) 26 = .ok (.getfield 165, 3) := by decide +kernel
theorem d161_29 : decode (xmb 161) 29 = .ok (.ifCond .eq 11, 3) := by decide +kernel
theorem d161_32 : decode (xmb 161) 32 = .ok (.iload_n 1, 1) := by decide +kernel
theorem d161_33 : decode (xmb 161) 33 = .ok (.ifCond .eq 7, 3) := by decide +kernel
theorem d161_36 : decode (xmb 161) 36 = .ok (.iconst 1, 1) := by decide +kernel
theorem d161_37 : decode (xmb 161) 37 = .ok (.goto 4, 3) := by decide +kernel
theorem d161_40 : decode (xmb 161) 40 = .ok (.iconst 0, 1) := by decide +kernel
theorem d161_41 : decode (xmb 161) 41 = .ok (.ireturn, 1) := by decide +kernel
theorem d162_0 : decode (xmb 162) 0 = .ok (.iload_n 0, 1) := by decide +kernel
theorem d162_1 : decode (xmb 162) 1 = .ok (.bipush 112, 2) := by decide +kernel
theorem d162_3 : decode (xmb 162) 3 = .ok (.if_icmp .ne 7, 3) := by decide +kernel
theorem d162_6 : decode (xmb 162) 6 = .ok (.iconst 0, 1) := by decide +kernel
theorem d162_7 : decode (xmb 162) 7 = .ok (.goto 34, 3) := by decide +kernel
theorem d162_10 : decode (xmb 162) 10 = .ok (.iload_n 0, 1) := by decide +kernel
theorem d162_11 : decode (xmb 162) 11 = .ok (.bipush 116, 2) := by decide +kernel
theorem d162_13 : decode (xmb 162) 13 = .ok (.if_icmp .ne 7, 3) := by decide +kernel
theorem d162_16 : decode (xmb 162) 16 = .ok (.iconst 1, 1) := by decide +kernel
theorem d162_17 : decode (xmb 162) 17 = .ok (.goto 24, 3) := by decide +kernel
theorem d162_20 : decode (xmb 162) 20 = .ok (.iload_n 0, 1) := by decide +kernel
theorem d162_21 : decode (xmb 162) 21 = .ok (.bipush 84, 2) := by decide +kernel
theorem d162_23 : decode (xmb 162) 23 = .ok (.if_icmp .ne 7, 3) := by decide +kernel
theorem d162_26 : decode (xmb 162) 26 = .ok (.iconst 2, 1) := by decide +kernel
theorem d162_27 : decode (xmb 162) 27 = .ok (.goto 14, 3) := by decide +kernel
theorem d162_30 : decode (xmb 162) 30 = .ok (.iload_n 0, 1) := by decide +kernel
theorem d162_31 : decode (xmb 162) 31 = .ok (.bipush 99, 2) := by decide +kernel
theorem d162_33 : decode (xmb 162) 33 = .ok (.if_icmp .ne 7, 3) := by decide +kernel
theorem d162_36 : decode (xmb 162) 36 = .ok (.iconst 3, 1) := by decide +kernel
theorem d162_37 : decode (xmb 162) 37 = .ok (.goto 4, 3) := by decide +kernel
theorem d162_40 : decode (xmb 162) 40 = .ok (.iconst (-1), 1) := by decide +kernel
theorem d162_41 : decode (xmb 162) 41 = .ok (.ireturn, 1) := by decide +kernel
theorem d163_0 : decode (xmb 163) 0 = .ok (.aload_n 0, 1) := by decide +kernel
theorem d163_1 : decode (xmb 163) 1 = .ok (.iconst 0, 1) := by decide +kernel
theorem d163_2 : decode (xmb 163) 2 = .ok (.bipush 99, 2) := by decide +kernel
theorem d163_4 : decode (xmb 163) 4 = .ok (.invokevirtual 183, 3) := by decide +kernel
theorem d163_7 : decode (xmb 163) 7 = .ok (.istore_n 1, 1) := by decide +kernel
theorem d163_8 : decode (xmb 163) 8 = .ok (.iconst 0, 1) := by decide +kernel
theorem d163_9 : decode (xmb 163) 9 = .ok (.istore_n 2, 1) := by decide +kernel
theorem d163_10 : decode (xmb 163) 10 = .ok (.iconst 1, 1) := by decide +kernel
theorem d163_11 : decode (xmb 163) 11 = .ok (.istore_n 3, 1) := by decide +kernel
theorem d163_12 : decode (xmb 163) 12 = .ok (.aload_n 0, 1) := by decide +kernel
theorem d163_13 : decode (xmb 163) 13 = .ok (.getfield 165, 3) := by decide +kernel
theorem d163_16 : decode (xmb 163) 16 = .ok (.ifCond .eq 67, 3) := by decide +kernel
theorem d163_19 : decode (xmb 163) 19 = .ok (.aload_n 0, 1) := by decide +kernel
theorem d163_20 : decode (xmb 163) 20 = .ok (.invokevirtual 169, 3) := by decide +kernel
theorem d163_23 : decode (xmb 163) 23 = .ok (.bipush 43, 2) := by decide +kernel
theorem d163_25 : decode (xmb 163) 25 = .ok (.if_icmp .ne 58, 3) := by decide +kernel
theorem d163_28 : decode (xmb 163) 28 = .ok (.aload_n 0, 1) := by decide +kernel
theorem d163_29 : decode (xmb 163) 29 = .ok (.dup, 1) := by decide +kernel
theorem d163_30 : decode (xmb 163) 30 = .ok (.getfield 162, 3) := by decide +kernel
theorem d163_33 : decode (xmb 163) 33 = .ok (.iconst 1, 1) := by decide +kernel
theorem d163_34 : decode (xmb 163) 34 = .ok (.iadd, 1) := by decide +kernel
theorem d163_35 : decode (xmb 163) 35 = .ok (.putfield 162, 3) := by decide +kernel
theorem d163_38 : decode (xmb 163) 38 = .ok (.aload_n 0, 1) := by decide +kernel
theorem d163_39 : decode (xmb 163) 39 = .ok (.iconst 1, 1) := by decide +kernel
theorem d163_40 : decode (xmb 163) 40 = .ok (.bipush 7, 2) := by decide +kernel
theorem d163_42 : decode (xmb 163) 42 = .ok (.invokevirtual 177, 3) := by decide +kernel
theorem d163_45 : decode (xmb 163) 45 = .ok (.istore_n 2, 1) := by decide +kernel
theorem d163_46 : decode (xmb 163) 46 = .ok (.aload_n 0, 1) := by decide +kernel
theorem d163_47 : decode (xmb 163) 47 = .ok (.aload_n 0, 1) := by decide +kernel
theorem d163_48 : decode (xmb 163) 48 = .ok (.invokevirtual 169, 3) := by decide +kernel
theorem d163_51 : decode (xmb 163) 51 = .ok (.bipush 47, 2) := by decide +kernel
theorem d163_53 : decode (xmb 163) 53 = .ok (.if_icmp .ne 7, 3) := by decide +kernel
theorem d163_56 : decode (xmb 163) 56 = .ok (.iconst 1, 1) := by decide +kernel
theorem d163_57 : decode (xmb 163) 57 = .ok (.goto 4, 3) := by decide +kernel
theorem d163_60 : decode (xmb 163) 60 = .ok (.iconst 0, 1) := by decide +kernel
theorem d163_61 : decode (xmb 163) 61 = .ok (.invokevirtual 173, 3) := by decide +kernel
theorem d163_64 : decode (xmb 163) 64 = .ok (.aload_n 0, 1) := by decide +kernel
theorem d163_65 : decode (xmb 163) 65 = .ok (.iload_n 2, 1) := by decide +kernel
theorem d163_66 : decode (xmb 163) 66 = .ok (.iconst 1, 1) := by decide +kernel
theorem d163_67 : decode (xmb 163) 67 = .ok (.if_icmp .ge 7, 3) := by decide +kernel
theorem d163_70 : decode (xmb 163) 70 = .ok (.iconst 2, 1) := by decide +kernel
theorem d163_71 : decode (xmb 163) 71 = .ok (.goto 6, 3) := by decide +kernel
theorem d163_74 : decode (xmb 163) 74 = .ok (.iload_n 2, 1) := by decide +kernel
theorem d163_75 : decode (xmb 163) 75 = .ok (.iconst 1, 1) := by decide +kernel
theorem d163_76 : decode (xmb 163) 76 = .ok (.iadd, 1) := by decide +kernel
theorem d163_77 : decode (xmb 163) 77 = .ok (.bipush 8, 2) := by decide +kernel
theorem d163_79 : decode (xmb 163) 79 = .ok (.invokevirtual 177, 3) := by decide +kernel
theorem d163_82 : decode (xmb 163) 82 = .ok (.istore_n 3, 1) := by decide +kernel
theorem d163_83 : decode (xmb 163) 83 = .ok (.aload_n 0, 1) := by decide +kernel
theorem d163_84 : decode (xmb 163) 84 = .ok (.invokevirtual 169, 3) := by decide +kernel
theorem d163_87 : decode (xmb 163) 87 = .ok (.invokestatic 186, 3) := by decide +kernel
theorem d163_90 : decode (xmb 163) 90 = .ok (.istore 4, 2) := by decide +kernel
theorem d163_92 : decode (xmb 163) 92 = .ok (.aload_n 0, 1) := by decide +kernel
theorem d163_93 : decode (xmb 163) 93 = .ok (.iload 4, 2) := by decide +kernel
theorem d163_95 : decode (xmb 163) 95 = .ok (.iconst (-1), 1) := by decide +kernel
theorem d163_96 : decode (xmb 163) 96 = .ok (.if_icmp .eq 7, 3) := by decide +kernel
theorem d163_99 : decode (xmb 163) 99 = .ok (.iconst 1, 1) := by decide +kernel
theorem d163_100 : decode (xmb 163) 100 = .ok (.goto 4, 3) := by decide +kernel
theorem d163_103 : decode (xmb 163) 103 = .ok (.iconst 0, 1) := by decide +kernel
theorem d163_104 : decode (xmb 163) 104 = .ok (.invokevirtual 173, 3) := by decide +kernel
theorem d163_107 : decode (xmb 163) 107 = .ok (.aload_n 0, 1) := by decide +kernel
theorem d163_108 : decode (xmb 163) 108 = .ok (.getfield 165, 3) := by decide +kernel
theorem d163_111 : decode (xmb 163) 111 = .ok (.ifCond .eq 63, 3) := by decide +kernel
theorem d163_114 : decode (xmb 163) 114 = .ok (.iload 4, 2) := by decide +kernel
theorem d163_116 : decode (xmb 163) 116 = .ok (.invokestatic 76, 3) := by decide +kernel
theorem d163_119 : decode (xmb 163) 119 = .ok (.iload_n 1, 1) := by decide +kernel
theorem d163_120 : decode (xmb 163) 120 = .ok (.imul, 1) := by decide +kernel
theorem d163_121 : decode (xmb 163) 121 = .ok (.iload 4, 2) := by decide +kernel
theorem d163_123 : decode (xmb 163) 123 = .ok (.invokestatic 76, 3) := by decide +kernel
theorem d163_126 : decode (xmb 163) 126 = .ok (.iload_n 2, 1) := by decide +kernel
theorem d163_127 : decode (xmb 163) 127 = .ok (.imul, 1) := by decide +kernel
theorem d163_128 : decode (xmb 163) 128 = .ok (.iload_n 3, 1) := by decide +kernel
theorem d163_129 : decode (xmb 163) 129 = .ok (.idiv, 1) := by decide +kernel
theorem d163_130 : decode (xmb 163) 130 = .ok (.iadd, 1) := by decide +kernel
theorem d163_131 : decode (xmb 163) 131 = .ok (.istore 5, 2) := by decide +kernel
theorem d163_133 : decode (xmb 163) 133 = .ok (.aload_n 0, 1) := by decide +kernel
theorem d163_134 : decode (xmb 163) 134 = .ok (.iload 5, 2) := by decide +kernel
theorem d163_136 : decode (xmb 163) 136 = .ok (.invokestatic 189, 3) := by decide +kernel
theorem d163_139 : decode (xmb 163) 139 = .ok (.ifCond .eq 18, 3) := by decide +kernel
theorem d163_142 : decode (xmb 163) 142 = .ok (.aload_n 0, 1) := by decide +kernel
theorem d163_143 : decode (xmb 163) 143 = .ok (.getfield 16, 3) := by decide +kernel
theorem d163_146 : decode (xmb 163) 146 = .ok (.iconst 0, 1) := by decide +kernel
theorem d163_147 : decode (xmb 163) 147 = .ok (.iaload, 1) := by decide +kernel
theorem d163_148 : decode (xmb 163) 148 = .ok (.bipush 12, 2) := by decide +kernel
theorem d163_150 : decode (xmb 163) 150 = .ok (.if_icmp .ge 7, 3) := by decide +kernel
theorem d163_153 : decode (xmb 163) 153 = .ok (.iconst 1, 1) := by decide +kernel
theorem d163_154 : decode (xmb 163) 154 = .ok (.goto 4, 3) := by decide +kernel
theorem d163_157 : decode (xmb 163) 157 = .ok (.iconst 0, 1) := by decide +kernel
theorem d163_158 : decode (xmb 163) 158 = .ok (.invokevirtual 192, 3) := by decide +kernel
theorem d163_161 : decode (xmb 163) 161 = .ok (.ifCond .eq 13, 3) := by decide +kernel
theorem d163_164 : decode (xmb 163) 164 = .ok (.aload_n 0, 1) := by decide +kernel
theorem d163_165 : decode (xmb 163) 165 = .ok (.getfield 16, 3) := by decide +kernel
theorem d163_168 : decode (xmb 163) 168 = .ok (.iload 5, 2) := by decide +kernel
theorem d163_170 : decode (xmb 163) 170 = .ok (.invokestatic 196, 3) := by decide +kernel
theorem d163_173 : decode (xmb 163) 173 = .ok (.pop, 1) := by decide +kernel
theorem d163_174 : decode (xmb 163) 174 = .ok (.return_, 1) := by decide +kernel
theorem d164_0 : decode (xmb 164) 0 = .ok (.aload_n 0, 1) := by decide +kernel
theorem d164_1 : decode (xmb 164) 1 = .ok (.iconst 1, 1) := by decide +kernel
theorem d164_2 : decode (xmb 164) 2 = .ok (.bipush 90, 2) := by decide +kernel
theorem d164_4 : decode (xmb 164) 4 = .ok (.invokevirtual 183, 3) := by decide +kernel
theorem d164_7 : decode (xmb 164) 7 = .ok (.istore_n 1, 1) := by decide +kernel
theorem d164_8 : decode (xmb 164) 8 = .ok (.aload_n 0, 1) := by decide +kernel
theorem d164_9 : decode (xmb 164) 9 = .ok (.iconst 0, 1) := by decide +kernel
theorem d164_10 : decode (xmb 164) 10 = .ok (.iconst 4, 1) := by decide +kernel
theorem d164_11 : decode (xmb 164) 11 = .ok (.invokevirtual 177, 3) := by decide +kernel
theorem d164_14 : decode (xmb 164) 14 = .ok (.istore_n 2, 1) := by decide +kernel
theorem d164_15 : decode (xmb 164) 15 = .ok (.aload_n 0, 1) := by decide +kernel
theorem d164_16 : decode (xmb 164) 16 = .ok (.iconst 0, 1) := by decide +kernel
theorem d164_17 : decode (xmb 164) 17 = .ok (.iconst 1, 1) := by decide +kernel
theorem d164_18 : decode (xmb 164) 18 = .ok (.invokevirtual 177, 3) := by decide +kernel
theorem d164_21 : decode (xmb 164) 21 = .ok (.istore_n 3, 1) := by decide +kernel
theorem d164_22 : decode (xmb 164) 22 = .ok (.aload_n 0, 1) := by decide +kernel
theorem d164_23 : decode (xmb 164) 23 = .ok (.aload_n 0, 1) := by decide +kernel
theorem d164_24 : decode (xmb 164) 24 = .ok (.getfield 16, 3) := by decide +kernel
theorem d164_27 : decode (xmb 164) 27 = .ok (.bipush 15, 2) := by decide +kernel
theorem d164_29 : decode (xmb 164) 29 = .ok (.iaload, 1) := by decide +kernel
theorem d164_30 : decode (xmb 164) 30 = .ok (.bipush 14, 2) := by decide +kernel
theorem d164_32 : decode (xmb 164) 32 = .ok (.if_icmp .ge 7, 3) := by decide +kernel
theorem d164_35 : decode (xmb 164) 35 = .ok (.iconst 1, 1) := by decide +kernel
theorem d164_36 : decode (xmb 164) 36 = .ok (.goto 4, 3) := by decide +kernel
theorem d164_39 : decode (xmb 164) 39 = .ok (.iconst 0, 1) := by decide +kernel
theorem d164_40 : decode (xmb 164) 40 = .ok (.invokevirtual 192, 3) := by decide +kernel
theorem d164_43 : decode (xmb 164) 43 = .ok (.ifCond .eq 32, 3) := by decide +kernel
theorem d164_46 : decode (xmb 164) 46 = .ok (.aload_n 0, 1) := by decide +kernel
theorem d164_47 : decode (xmb 164) 47 = .ok (.getfield 16, 3) := by decide +kernel
theorem d164_50 : decode (xmb 164) 50 = .ok (.iload_n 1, 1) := by decide +kernel
theorem d164_51 : decode (xmb 164) 51 = .ok (.iload_n 2, 1) := by decide +kernel
theorem d164_52 : decode (xmb 164) 52 = .ok (.iconst 4, 1) := by decide +kernel
theorem d164_53 : decode (xmb 164) 53 = .ok (.if_icmp .ne 7, 3) := by decide +kernel
theorem d164_56 : decode (xmb 164) 56 = .ok (.iconst (-1), 1) := by decide +kernel
theorem d164_57 : decode (xmb 164) 57 = .ok (.goto 4, 3) := by decide +kernel
theorem d164_60 : decode (xmb 164) 60 = .ok (.iload_n 2, 1) := by decide +kernel
theorem d164_61 : decode (xmb 164) 61 = .ok (.iload_n 3, 1) := by decide +kernel
theorem d164_62 : decode (xmb 164) 62 = .ok (.iconst 1, 1) := by decide +kernel
theorem d164_63 : decode (xmb 164) 63 = .ok (.if_icmp .ne 7, 3) := by decide +kernel
theorem d164_66 : decode (xmb 164) 66 = .ok (.iconst 1, 1) := by decide +kernel
theorem d164_67 : decode (xmb 164) 67 = .ok (.goto 4, 3) := by decide +kernel
theorem d164_70 : decode (xmb 164) 70 = .ok (.iconst 0, 1) := by decide +kernel
theorem d164_71 : decode (xmb 164) 71 = .ok (.invokestatic 199, 3) := by decide +kernel
theorem d164_74 : decode (xmb 164) 74 = .ok (.pop, 1) := by decide +kernel
theorem d164_75 : decode (xmb 164) 75 = .ok (.return_, 1) := by decide +kernel
theorem d165_0 : decode (xmb 165) 0 = .ok (.aload_n 0, 1) := by decide +kernel
theorem d165_1 : decode (xmb 165) 1 = .ok (.iconst 0, 1) := by decide +kernel
theorem d165_2 : decode (xmb 165) 2 = .ok (.bipush 13, 2) := by decide +kernel
theorem d165_4 : decode (xmb 165) 4 = .ok (.invokevirtual 183, 3) := by decide +kernel
theorem d165_7 : decode (xmb 165) 7 = .ok (.istore_n 1, 1) := by decide +kernel
theorem d165_8 : decode (xmb 165) 8 = .ok (.aload_n 0, 1) := by decide +kernel
theorem d165_9 : decode (xmb 165) 9 = .ok (.iconst 0, 1) := by decide +kernel
theorem d165_10 : decode (xmb 165) 10 = .ok (.bipush 11, 2) := by decide +kernel
theorem d165_12 : decode (xmb 165) 12 = .ok (.invokevirtual 183, 3) := by decide +kernel
theorem d165_15 : decode (xmb 165) 15 = .ok (.istore_n 2, 1) := by decide +kernel
theorem d165_16 : decode (xmb 165) 16 = .ok (.aload_n 0, 1) := by decide +kernel
theorem d165_17 : decode (xmb 165) 17 = .ok (.aload_n 0, 1) := by decide +kernel
theorem d165_18 : decode (xmb 165) 18 = .ok (.getfield 16, 3) := by decide +kernel
theorem d165_21 : decode (xmb 165) 21 = .ok (.iload_n 1, 1) := by decide +kernel
theorem d165_22 : decode (xmb 165) 22 = .ok (.invokestatic 203, 3) := by decide +kernel
theorem d165_25 : decode (xmb 165) 25 = .ok (.ifCond .eq 18, 3) := by decide +kernel
theorem d165_28 : decode (xmb 165) 28 = .ok (.aload_n 0, 1) := by decide +kernel
theorem d165_29 : decode (xmb 165) 29 = .ok (.getfield 16, 3) := by decide +kernel
theorem d165_32 : decode (xmb 165) 32 = .ok (.iload_n 2, 1) := by decide +kernel
theorem d165_33 : decode (xmb 165) 33 = .ok (.invokestatic 207, 3) := by decide +kernel
theorem d165_36 : decode (xmb 165) 36 = .ok (.ifCond .eq 7, 3) := by decide +kernel
theorem d165_39 : decode (xmb 165) 39 = .ok (.iconst 1, 1) := by decide +kernel
theorem d165_40 : decode (xmb 165) 40 = .ok (.goto 4, 3) := by decide +kernel
theorem d165_43 : decode (xmb 165) 43 = .ok (.iconst 0, 1) := by decide +kernel
theorem d165_44 : decode (xmb 165) 44 = .ok (.invokevirtual 192, 3) := by decide +kernel
theorem d165_47 : decode (xmb 165) 47 = .ok (.ifCond .eq 14, 3) := by decide +kernel
theorem d165_50 : decode (xmb 165) 50 = .ok (.aload_n 0, 1) := by decide +kernel
theorem d165_51 : decode (xmb 165) 51 = .ok (.getfield 16, 3) := by decide +kernel
theorem d165_54 : decode (xmb 165) 54 = .ok (.iload_n 1, 1) := by decide +kernel
theorem d165_55 : decode (xmb 165) 55 = .ok (.iload_n 2, 1) := by decide +kernel
theorem d165_56 : decode (xmb 165) 56 = .ok (.iconst 1, 1) := by decide +kernel
theorem d165_57 : decode (xmb 165) 57 = .ok (.invokestatic 210, 3) := by decide +kernel
theorem d165_60 : decode (xmb 165) 60 = .ok (.pop, 1) := by decide +kernel
theorem d165_61 : decode (xmb 165) 61 = .ok (.return_, 1) := by decide +kernel
theorem d166_0 : decode (xmb 166) 0 = .ok (.aload_n 0, 1) := by decide +kernel
theorem d166_1 : decode (xmb 166) 1 = .ok (.iconst 0, 1) := by decide +kernel
theorem d166_2 : decode (xmb 166) 2 = .ok (.bipush 13, 2) := by decide +kernel
theorem d166_4 : decode (xmb 166) 4 = .ok (.invokevirtual 183, 3) := by decide +kernel
theorem d166_7 : decode (xmb 166) 7 = .ok (.istore_n 1, 1) := by decide +kernel
theorem d166_8 : decode (xmb 166) 8 = .ok (.aload_n 0, 1) := by decide +kernel
theorem d166_9 : decode (xmb 166) 9 = .ok (.iconst 0, 1) := by decide +kernel
theorem d166_10 : decode (xmb 166) 10 = .ok (.bipush 13, 2) := by decide +kernel
theorem d166_12 : decode (xmb 166) 12 = .ok (.invokevirtual 183, 3) := by decide +kernel
theorem d166_15 : decode (xmb 166) 15 = .ok (.istore_n 2, 1) := by decide +kernel
theorem d166_16 : decode (xmb 166) 16 = .ok (.aload_n 0, 1) := by decide +kernel
theorem d166_17 : decode (xmb 166) 17 = .ok (.getfield 16, 3) := by decide +kernel
theorem d166_20 : decode (xmb 166) 20 = .ok (.iload_n 1, 1) := by decide +kernel
theorem d166_21 : decode (xmb 166) 21 = .ok (.invokestatic 203, 3) := by decide +kernel
theorem d166_24 : decode (xmb 166) 24 = .ok (.ifCond .eq 18, 3) := by decide +kernel
theorem d166_27 : decode (xmb 166) 27 = .ok (.aload_n 0, 1) := by decide +kernel
theorem d166_28 : decode (xmb 166) 28 = .ok (.getfield 16, 3) := by decide +kernel
theorem d166_31 : decode (xmb 166) 31 = .ok (.iload_n 2, 1) := by decide +kernel
theorem d166_32 : decode (xmb 166) 32 = .ok (.invokestatic 203, 3) := by decide +kernel
theorem d166_35 : decode (xmb 166) 35 = .ok (.ifCond .eq 7, 3) := by decide +kernel
theorem d166_38 : decode (xmb 166) 38 = .ok (.iconst 1, 1) := by decide +kernel
theorem d166_39 : decode (xmb 166) 39 = .ok (.goto 4, 3) := by decide +kernel
theorem d166_42 : decode (xmb 166) 42 = .ok (.iconst 0, 1) := by decide +kernel
theorem d166_43 : decode (xmb 166) 43 = .ok (.istore_n 3, 1) := by decide +kernel
theorem d166_44 : decode (xmb 166) 44 = .ok (.aload_n 0, 1) := by decide +kernel
theorem d166_45 : decode (xmb 166) 45 = .ok (.iload_n 3, 1) := by decide +kernel
theorem d166_46 : decode (xmb 166) 46 = .ok (.ifCond .eq 20, 3) := by decide +kernel
theorem d166_49 : decode (xmb 166) 49 = .ok (.aload_n 0, 1) := by decide +kernel
theorem d166_50 : decode (xmb 166) 50 = .ok (.getfield 16, 3) := by decide +kernel
theorem d166_53 : decode (xmb 166) 53 = .ok (.iload_n 1, 1) := by decide +kernel
theorem d166_54 : decode (xmb 166) 54 = .ok (.iload_n 2, 1) := by decide +kernel
theorem d166_55 : decode (xmb 166) 55 = .ok (.iconst 1, 1) := by decide +kernel
theorem d166_56 : decode (xmb 166) 56 = .ok (.invokestatic 213, 3) := by decide +kernel
theorem d166_59 : decode (xmb 166) 59 = .ok (.ifCond .eq 7, 3) := by decide +kernel
theorem d166_62 : decode (xmb 166) 62 = .ok (.iconst 1, 1) := by decide +kernel
theorem d166_63 : decode (xmb 166) 63 = .ok (.goto 4, 3) := by decide +kernel
theorem d166_66 : decode (xmb 166) 66 = .ok (.iconst 0, 1) := by decide +kernel
theorem d166_67 : decode (xmb 166) 67 = .ok (.invokevirtual 192, 3) := by decide +kernel
theorem d166_70 : decode (xmb 166) 70 = .ok (.ifCond .eq 14, 3) := by decide +kernel
theorem d166_73 : decode (xmb 166) 73 = .ok (.aload_n 0, 1) := by decide +kernel
theorem d166_74 : decode (xmb 166) 74 = .ok (.getfield 16, 3) := by decide +kernel
theorem d166_77 : decode (xmb 166) 77 = .ok (.iload_n 1, 1) := by decide +kernel
theorem d166_78 : decode (xmb 166) 78 = .ok (.iload_n 2, 1) := by decide +kernel
theorem d166_79 : decode (xmb 166) 79 = .ok (.iconst 1, 1) := by decide +kernel
theorem d166_80 : decode (xmb 166) 80 = .ok (.invokestatic 217, 3) := by decide +kernel
theorem d166_83 : decode (xmb 166) 83 = .ok (.pop, 1) := by decide +kernel
theorem d166_84 : decode (xmb 166) 84 = .ok (.return_, 1) := by decide +kernel
theorem d167_0 : decode (xmb 167) 0 = .ok (.iload_n 1, 1) := by decide +kernel
theorem d167_1 : decode (xmb 167) 1 = .ok (.lookupswitch 87 #[(107, 27), (118, 61)], 27) := by decide +kernel
theorem d167_28 : decode (xmb 167) 28 = .ok (.aload_n 0, 1) := by decide +kernel
theorem d167_29 : decode (xmb 167) 29 = .ok (.iconst 0, 1) := by decide +kernel
theorem d167_30 : decode (xmb 167) 30 = .ok (.iconst 3, 1) := by decide +kernel
theorem d167_31 : decode (xmb 167) 31 = .ok (.invokevirtual 177, 3) := by decide +kernel
theorem d167_34 : decode (xmb 167) 34 = .ok (.istore_n 2, 1) := by decide +kernel
theorem d167_35 : decode (xmb 167) 35 = .ok (.aload_n 0, 1) := by decide +kernel
theorem d167_36 : decode (xmb 167) 36 = .ok (.iconst 0, 1) := by decide +kernel
theorem d167_37 : decode (xmb 167) 37 = .ok (.iconst 3, 1) := by decide +kernel
theorem d167_38 : decode (xmb 167) 38 = .ok (.invokevirtual 177, 3) := by decide +kernel
theorem d167_41 : decode (xmb 167) 41 = .ok (.istore_n 3, 1) := by decide +kernel
theorem d167_42 : decode (xmb 167) 42 = .ok (.aload_n 0, 1) := by decide +kernel
theorem d167_43 : decode (xmb 167) 43 = .ok (.getfield 165, 3) := by decide +kernel
theorem d167_46 : decode (xmb 167) 46 = .ok (.ifCond .eq 64, 3) := by decide +kernel
theorem d167_49 : decode (xmb 167) 49 = .ok (.aload_n 0, 1) := by decide +kernel
theorem d167_50 : decode (xmb 167) 50 = .ok (.getfield 16, 3) := by decide +kernel
theorem d167_53 : decode (xmb 167) 53 = .ok (.bipush 86, 2) := by decide +kernel
theorem d167_55 : decode (xmb 167) 55 = .ok (.iload_n 2, 1) := by decide +kernel
theorem d167_56 : decode (xmb 167) 56 = .ok (.iadd, 1) := by decide +kernel
theorem d167_57 : decode (xmb 167) 57 = .ok (.iload_n 3, 1) := by decide +kernel
theorem d167_58 : decode (xmb 167) 58 = .ok (.iastore, 1) := by decide +kernel
theorem d167_59 : decode (xmb 167) 59 = .ok (.goto 51, 3) := by decide +kernel
theorem d167_62 : decode (xmb 167) 62 = .ok (.aload_n 0, 1) := by decide +kernel
theorem d167_63 : decode (xmb 167) 63 = .ok (.iconst 1, 1) := by decide +kernel
theorem d167_64 : decode (xmb 167) 64 = .ok (.bipush 24, 2) := by decide +kernel
theorem d167_66 : decode (xmb 167) 66 = .ok (.invokevirtual 183, 3) := by decide +kernel
theorem d167_69 : decode (xmb 167) 69 = .ok (.istore_n 3, 1) := by decide +kernel
theorem d167_70 : decode (xmb 167) 70 = .ok (.aload_n 0, 1) := by decide +kernel
theorem d167_71 : decode (xmb 167) 71 = .ok (.getfield 165, 3) := by decide +kernel
theorem d167_74 : decode (xmb 167) 74 = .ok (.ifCond .eq 36, 3) := by decide +kernel
theorem d167_77 : decode (xmb 167) 77 = .ok (.aload_n 0, 1) := by decide +kernel
theorem d167_78 : decode (xmb 167) 78 = .ok (.getfield 16, 3) := by decide +kernel
theorem d167_81 : decode (xmb 167) 81 = .ok (.bipush 14, 2) := by decide +kernel
theorem d167_83 : decode (xmb 167) 83 = .ok (.iload_n 3, 1) := by decide +kernel
theorem d167_84 : decode (xmb 167) 84 = .ok (.iastore, 1) := by decide +kernel
theorem d167_85 : decode (xmb 167) 85 = .ok (.goto 25, 3) := by decide +kernel
theorem d167_88 : decode (xmb 167) 88 = .ok (.aload_n 0, 1) := by decide +kernel
theorem d167_89 : decode (xmb 167) 89 = .ok (.iconst 0, 1) := by decide +kernel
theorem d167_90 : decode (xmb 167) 90 = .ok (.iconst 3, 1) := by decide +kernel
theorem d167_91 : decode (xmb 167) 91 = .ok (.invokevirtual 177, 3) := by decide +kernel
theorem d167_94 : decode (xmb 167) 94 = .ok (.istore_n 3, 1) := by decide +kernel
theorem d167_95 : decode (xmb 167) 95 = .ok (.aload_n 0, 1) := by decide +kernel
theorem d167_96 : decode (xmb 167) 96 = .ok (.getfield 165, 3) := by decide +kernel
theorem d167_99 : decode (xmb 167) 99 = .ok (.ifCond .eq 11, 3) := by decide +kernel
theorem d167_102 : decode (xmb 167) 102 = .ok (.aload_n 0, 1) := by decide +kernel
theorem d167_103 : decode (xmb 167) 103 = .ok (.getfield 16, 3) := by decide +kernel
theorem d167_106 : decode (xmb 167) 106 = .ok (.bipush 94, 2) := by decide +kernel
theorem d167_108 : decode (xmb 167) 108 = .ok (.iload_n 3, 1) := by decide +kernel
theorem d167_109 : decode (xmb 167) 109 = .ok (.iastore, 1) := by decide +kernel
theorem d167_110 : decode (xmb 167) 110 = .ok (.return_, 1) := by decide +kernel
theorem d168_0 : decode (xmb 168) 0 = .ok (.aload_n 0, 1) := by decide +kernel
theorem d168_1 : decode (xmb 168) 1 = .ok (.invokevirtual 169, 3) := by decide +kernel
theorem d168_4 : decode (xmb 168) 4 = .ok (.istore_n 1, 1) := by decide +kernel
theorem d168_5 : decode (xmb 168) 5 = .ok (.aload_n 0, 1) := by decide +kernel
theorem d168_6 : decode (xmb 168) 6 = .ok (.iload_n 1, 1) := by decide +kernel
theorem d168_7 : decode (xmb 168) 7 = .ok (.bipush 105, 2) := by decide +kernel
theorem d168_9 : decode (xmb 168) 9 = .ok (.if_icmp .eq 39, 3) := by decide +kernel
theorem d168_12 : decode (xmb 168) 12 = .ok (.iload_n 1, 1) := by decide +kernel
theorem d168_13 : decode (xmb 168) 13 = .ok (.bipush 115, 2) := by decide +kernel
theorem d168_15 : decode (xmb 168) 15 = .ok (.if_icmp .eq 33, 3) := by decide +kernel
theorem d168_18 : decode (xmb 168) 18 = .ok (.iload_n 1, 1) := by decide +kernel
theorem d168_19 : decode (xmb 168) 19 = .ok (.bipush 117, 2) := by decide +kernel
theorem d168_21 : decode (xmb 168) 21 = .ok (.if_icmp .eq 27, 3) := by decide +kernel
theorem d168_24 : decode (xmb 168) 24 = .ok (.iload_n 1, 1) := by decide +kernel
theorem d168_25 : decode (xmb 168) 25 = .ok (.bipush 110, 2) := by decide +kernel
theorem d168_27 : decode (xmb 168) 27 = .ok (.if_icmp .eq 21, 3) := by decide +kernel
theorem d168_30 : decode (xmb 168) 30 = .ok (.iload_n 1, 1) := by decide +kernel
theorem d168_31 : decode (xmb 168) 31 = .ok (.bipush 107, 2) := by decide +kernel
theorem d168_33 : decode (xmb 168) 33 = .ok (.if_icmp .eq 15, 3) := by decide +kernel
theorem d168_36 : decode (xmb 168) 36 = .ok (.iload_n 1, 1) := by decide +kernel
theorem d168_37 : decode (xmb 168) 37 = .ok (.bipush 118, 2) := by decide +kernel
theorem d168_39 : decode (xmb 168) 39 = .ok (.if_icmp .eq 9, 3) := by decide +kernel
theorem d168_42 : decode (xmb 168) 42 = .ok (.iload_n 1, 1) := by decide +kernel
theorem d168_43 : decode (xmb 168) 43 = .ok (.bipush 114, 2) := by decide +kernel
theorem d168_45 : decode (xmb 168) 45 = .ok (.if_icmp .ne 7, 3) := by decide +kernel
theorem d168_48 : decode (xmb 168) 48 = .ok (.iconst 1, 1) := by decide +kernel
theorem d168_49 : decode (xmb 168) 49 = .ok (.goto 4, 3) := by decide +kernel
theorem d168_52 : decode (xmb 168) 52 = .ok (.iconst 0, 1) := by decide +kernel
theorem d168_53 : decode (xmb 168) 53 = .ok (.invokevirtual 173, 3) := by decide +kernel
theorem d168_56 : decode (xmb 168) 56 = .ok (.aload_n 0, 1) := by decide +kernel
theorem d168_57 : decode (xmb 168) 57 = .ok (.getfield 165, 3) := by decide +kernel
theorem d168_60 : decode (xmb 168) 60 = .ok (.ifCond .ne 4, 3) := by decide +kernel
theorem d168_63 : decode (xmb 168) 63 = .ok (.return_, 1) := by decide +kernel
theorem d168_64 : decode (xmb 168) 64 = .ok (.iload_n 1, 1) := by decide +kernel
theorem d168_65 : decode (xmb 168) 65 = .ok (.lookupswitch 71 #[(105, 43), (110, 64), (115, 50), (117, 57)], 43) := by decide +kernel
theorem d168_108 : decode (xmb 168) 108 = .ok (.aload_n 0, 1) := by decide +kernel
theorem d168_109 : decode (xmb 168) 109 = .ok (.invokevirtual 220, 3) := by decide +kernel
theorem d168_112 : decode (xmb 168) 112 = .ok (.goto 29, 3) := by decide +kernel
theorem d168_115 : decode (xmb 168) 115 = .ok (.aload_n 0, 1) := by decide +kernel
theorem d168_116 : decode (xmb 168) 116 = .ok (.invokevirtual 223, 3) := by decide +kernel
theorem d168_119 : decode (xmb 168) 119 = .ok (.goto 22, 3) := by decide +kernel
theorem d168_122 : decode (xmb 168) 122 = .ok (.aload_n 0, 1) := by decide +kernel
theorem d168_123 : decode (xmb 168) 123 = .ok (.invokevirtual 226, 3) := by decide +kernel
theorem d168_126 : decode (xmb 168) 126 = .ok (.goto 15, 3) := by decide +kernel
theorem d168_129 : decode (xmb 168) 129 = .ok (.aload_n 0, 1) := by decide +kernel
theorem d168_130 : decode (xmb 168) 130 = .ok (.invokevirtual 229, 3) := by decide +kernel
theorem d168_133 : decode (xmb 168) 133 = .ok (.goto 8, 3) := by decide +kernel
theorem d168_136 : decode (xmb 168) 136 = .ok (.aload_n 0, 1) := by decide +kernel
theorem d168_137 : decode (xmb 168) 137 = .ok (.iload_n 1, 1) := by decide +kernel
theorem d168_138 : decode (xmb 168) 138 = .ok (.invokevirtual 232, 3) := by decide +kernel
theorem d168_141 : decode (xmb 168) 141 = .ok (.return_, 1) := by decide +kernel
theorem d169_0 : decode (xmb 169) 0 = .ok (.aload_n 0, 1) := by decide +kernel
theorem d169_1 : decode (xmb 169) 1 = .ok (.iconst 0, 1) := by decide +kernel
theorem d169_2 : decode (xmb 169) 2 = .ok (.putfield 162, 3) := by decide +kernel
theorem d169_5 : decode (xmb 169) 5 = .ok (.aload_n 0, 1) := by decide +kernel
theorem d169_6 : decode (xmb 169) 6 = .ok (.iconst 1, 1) := by decide +kernel
theorem d169_7 : decode (xmb 169) 7 = .ok (.putfield 165, 3) := by decide +kernel
theorem d169_10 : decode (xmb 169) 10 = .ok (.aload_n 0, 1) := by decide +kernel
theorem d169_11 : decode (xmb 169) 11 = .ok (.iconst 0, 1) := by decide +kernel
theorem d169_12 : decode (xmb 169) 12 = .ok (.putfield 180, 3) := by decide +kernel
theorem d169_15 : decode (xmb 169) 15 = .ok (.aload_n 0, 1) := by decide +kernel
theorem d169_16 : decode (xmb 169) 16 = .ok (.getfield 16, 3) := by decide +kernel
theorem d169_19 : decode (xmb 169) 19 = .ok (.invokestatic 44, 3) := by decide +kernel
theorem d169_22 : decode (xmb 169) 22 = .ok (.aload_n 0, 1) := by decide +kernel
theorem d169_23 : decode (xmb 169) 23 = .ok (.aload_n 0, 1) := by decide +kernel
theorem d169_24 : decode (xmb 169) 24 = .ok (.invokevirtual 169, 3) := by decide +kernel
theorem d169_27 : decode (xmb 169) 27 = .ok (.bipush 67, 2) := by decide +kernel
theorem d169_29 : decode (xmb 169) 29 = .ok (.if_icmp .ne 7, 3) := by decide +kernel
theorem d169_32 : decode (xmb 169) 32 = .ok (.iconst 1, 1) := by decide +kernel
theorem d169_33 : decode (xmb 169) 33 = .ok (.goto 4, 3) := by decide +kernel
theorem d169_36 : decode (xmb 169) 36 = .ok (.iconst 0, 1) := by decide +kernel
theorem d169_37 : decode (xmb 169) 37 = .ok (.invokevirtual 173, 3) := by decide +kernel
theorem d169_40 : decode (xmb 169) 40 = .ok (.aload_n 0, 1) := by decide +kernel
theorem d169_41 : decode (xmb 169) 41 = .ok (.getfield 165, 3) := by decide +kernel
theorem d169_44 : decode (xmb 169) 44 = .ok (.ifCond .eq 21, 3) := by decide +kernel
theorem d169_47 : decode (xmb 169) 47 = .ok (.aload_n 0, 1) := by decide +kernel
theorem d169_48 : decode (xmb 169) 48 = .ok (.getfield 162, 3) := by decide +kernel
theorem d169_51 : decode (xmb 169) 51 = .ok (.aload_n 0, 1) := by decide +kernel
theorem d169_52 : decode (xmb 169) 52 = .ok (.getfield 156, 3) := by decide +kernel
theorem d169_55 : decode (xmb 169) 55 = .ok (.if_icmp .ge 10, 3) := by decide +kernel
theorem d169_58 : decode (xmb 169) 58 = .ok (.aload_n 0, 1) := by decide +kernel
theorem d169_59 : decode (xmb 169) 59 = .ok (.invokevirtual 236, 3) := by decide +kernel
theorem d169_62 : decode (xmb 169) 62 = .ok (.goto (-22), 3) := by decide +kernel
theorem d169_65 : decode (xmb 169) 65 = .ok (.aload_n 0, 1) := by decide +kernel
theorem d169_66 : decode (xmb 169) 66 = .ok (.getfield 165, 3) := by decide +kernel
theorem d169_69 : decode (xmb 169) 69 = .ok (.ifCond .eq 7, 3) := by decide +kernel
theorem d169_72 : decode (xmb 169) 72 = .ok (.iconst (-1), 1) := by decide +kernel
theorem d169_73 : decode (xmb 169) 73 = .ok (.goto 7, 3) := by decide +kernel
theorem d169_76 : decode (xmb 169) 76 = .ok (.aload_n 0, 1) := by decide +kernel
theorem d169_77 : decode (xmb 169) 77 = .ok (.getfield 162, 3) := by decide +kernel
theorem d169_80 : decode (xmb 169) 80 = .ok (.ireturn, 1) := by decide +kernel
theorem d170_0 : decode (xmb 170) 0 = .ok (.aload_n 0, 1) := by decide +kernel
theorem d170_1 : decode (xmb 170) 1 = .ok (.iconst 0, 1) := by decide +kernel
theorem d170_2 : decode (xmb 170) 2 = .ok (.putfield 48, 3) := by decide +kernel
theorem d170_5 : decode (xmb 170) 5 = .ok (.aload_n 0, 1) := by decide +kernel
theorem d170_6 : decode (xmb 170) 6 = .ok (.invokevirtual 239, 3) := by decide +kernel
theorem d170_9 : decode (xmb 170) 9 = .ok (.ireturn, 1) := by decide +kernel
theorem d171_0 : decode (xmb 171) 0 = .ok (.aload_n 0, 1) := by decide +kernel
theorem d171_1 : decode (xmb 171) 1 = .ok (.aload_n 0, 1) := by decide +kernel
theorem d171_2 : decode (xmb 171) 2 = .ok (.invokevirtual 239, 3) := by decide +kernel
theorem d171_5 : decode (xmb 171) 5 = .ok (.iconst (-1), 1) := by decide +kernel
theorem d171_6 : decode (xmb 171) 6 = .ok (.if_icmp .ne 7, 3) := by decide +kernel
theorem d171_9 : decode (xmb 171) 9 = .ok (.iconst 0, 1) := by decide +kernel
theorem d171_10 : decode (xmb 171) 10 = .ok (.goto 4, 3) := by decide +kernel
theorem d171_13 : decode (xmb 171) 13 = .ok (.iconst 1, 1) := by decide +kernel
theorem d171_14 : decode (xmb 171) 14 = .ok (.invokevirtual 159, 3) := by decide +kernel
theorem d171_17 : decode (xmb 171) 17 = .ok (.ifCond .eq 5, 3) := by decide +kernel
theorem d171_20 : decode (xmb 171) 20 = .ok (.iconst 0, 1) := by decide +kernel
theorem d171_21 : decode (xmb 171) 21 = .ok (.ireturn, 1) := by decide +kernel
theorem d171_22 : decode (xmb 171) 22 = .ok (.aload_n 0, 1) := by decide +kernel
theorem d171_23 : decode (xmb 171) 23 = .ok (.getfield 16, 3) := by decide +kernel
theorem d171_26 : decode (xmb 171) 26 = .ok (.aload_n 0, 1) := by decide +kernel
theorem d171_27 : decode (xmb 171) 27 = .ok (.getfield 7, 3) := by decide +kernel
theorem d171_30 : decode (xmb 171) 30 = .ok (.invokestatic 242, 3) := by decide +kernel
theorem d171_33 : decode (xmb 171) 33 = .ok (.aload_n 0, 1) := by decide +kernel
theorem d171_34 : decode (xmb 171) 34 = .ok (.iconst 0, 1) := by decide +kernel
theorem d171_35 : decode (xmb 171) 35 = .ok (.putfield 151, 3) := by decide +kernel
theorem d171_38 : decode (xmb 171) 38 = .ok (.aload_n 0, 1) := by decide +kernel
theorem d171_39 : decode (xmb 171) 39 = .ok (.getfield 25, 3) := by decide +kernel
theorem d171_42 : decode (xmb 171) 42 = .ok (.iconst 0, 1) := by decide +kernel
theorem d171_43 : decode (xmb 171) 43 = .ok (.iconst 0, 1) := by decide +kernel
theorem d171_44 : decode (xmb 171) 44 = .ok (.bastore, 1) := by decide +kernel
theorem d171_45 : decode (xmb 171) 45 = .ok (.aload_n 0, 1) := by decide +kernel
theorem d171_46 : decode (xmb 171) 46 = .ok (.getfield 25, 3) := by decide +kernel
theorem d171_49 : decode (xmb 171) 49 = .ok (.iconst 1, 1) := by decide +kernel
theorem d171_50 : decode (xmb 171) 50 = .ok (.iconst 0, 1) := by decide +kernel
theorem d171_51 : decode (xmb 171) 51 = .ok (.bastore, 1) := by decide +kernel
theorem d171_52 : decode (xmb 171) 52 = .ok (.aload_n 0, 1) := by decide +kernel
theorem d171_53 : decode (xmb 171) 53 = .ok (.getfield 180, 3) := by decide +kernel
theorem d171_56 : decode (xmb 171) 56 = .ok (.ireturn, 1) := by decide +kernel
theorem d172_0 : decode (xmb 172) 0 = .ok (.iconst 0, 1) := by decide +kernel
theorem d172_1 : decode (xmb 172) 1 = .ok (.istore_n 1, 1) := by decide +kernel
theorem d172_2 : decode (xmb 172) 2 = .ok (.iconst 0, 1) := by decide +kernel
theorem d172_3 : decode (xmb 172) 3 = .ok (.istore_n 2, 1) := by decide +kernel
theorem d172_4 : decode (xmb 172) 4 = .ok (.iload_n 2, 1) := by decide +kernel
theorem d172_5 : decode (xmb 172) 5 = .ok (.aload_n 0, 1) := by decide +kernel
theorem d172_6 : decode (xmb 172) 6 = .ok (.getfield 7, 3) := by decide +kernel
theorem d172_9 : decode (xmb 172) 9 = .ok (.bipush 15, 2) := by decide +kernel
theorem d172_11 : decode (xmb 172) 11 = .ok (.iaload, 1) := by decide +kernel
theorem d172_12 : decode (xmb 172) 12 = .ok (.if_icmp .ge 21, 3) := by decide +kernel
theorem d172_15 : decode (xmb 172) 15 = .ok (.iload_n 1, 1) := by decide +kernel
theorem d172_16 : decode (xmb 172) 16 = .ok (.aload_n 0, 1) := by decide +kernel
theorem d172_17 : decode (xmb 172) 17 = .ok (.getfield 7, 3) := by decide +kernel
theorem d172_20 : decode (xmb 172) 20 = .ok (.bipush 58, 2) := by decide +kernel
theorem d172_22 : decode (xmb 172) 22 = .ok (.iload_n 2, 1) := by decide +kernel
theorem d172_23 : decode (xmb 172) 23 = .ok (.iadd, 1) := by decide +kernel
theorem d172_24 : decode (xmb 172) 24 = .ok (.iaload, 1) := by decide +kernel
theorem d172_25 : decode (xmb 172) 25 = .ok (.ior, 1) := by decide +kernel
theorem d172_26 : decode (xmb 172) 26 = .ok (.istore_n 1, 1) := by decide +kernel
theorem d172_27 : decode (xmb 172) 27 = .ok (.iinc 2 1, 3) := by decide +kernel
theorem d172_30 : decode (xmb 172) 30 = .ok (.goto (-26), 3) := by decide +kernel
theorem d172_33 : decode (xmb 172) 33 = .ok (.aload_n 0, 1) := by decide +kernel
theorem d172_34 : decode (xmb 172) 34 = .ok (.getfield 7, 3) := by decide +kernel
theorem d172_37 : decode (xmb 172) 37 = .ok (.iconst 0, 1) := by decide +kernel
theorem d172_38 : decode (xmb 172) 38 = .ok (.iaload, 1) := by decide +kernel
theorem d172_39 : decode (xmb 172) 39 = .ok (.iload_n 1, 1) := by decide +kernel
theorem d172_40 : decode (xmb 172) 40 = .ok (.aload_n 0, 1) := by decide +kernel
theorem d172_41 : decode (xmb 172) 41 = .ok (.getfield 7, 3) := by decide +kernel
theorem d172_44 : decode (xmb 172) 44 = .ok (.iconst 0, 1) := by decide +kernel
theorem d172_45 : decode (xmb 172) 45 = .ok (.iaload, 1) := by decide +kernel
theorem d172_46 : decode (xmb 172) 46 = .ok (.invokestatic 116, 3) := by decide +kernel
theorem d172_49 : decode (xmb 172) 49 = .ok (.isub, 1) := by decide +kernel
theorem d172_50 : decode (xmb 172) 50 = .ok (.ireturn, 1) := by decide +kernel
theorem d173_0 : decode (xmb 173) 0 = .ok (.iconst 0, 1) := by decide +kernel
theorem d173_1 : decode (xmb 173) 1 = .ok (.istore_n 1, 1) := by decide +kernel
theorem d173_2 : decode (xmb 173) 2 = .ok (.iconst 0, 1) := by decide +kernel
theorem d173_3 : decode (xmb 173) 3 = .ok (.istore_n 2, 1) := by decide +kernel
theorem d173_4 : decode (xmb 173) 4 = .ok (.iload_n 2, 1) := by decide +kernel
theorem d173_5 : decode (xmb 173) 5 = .ok (.aload_n 0, 1) := by decide +kernel
theorem d173_6 : decode (xmb 173) 6 = .ok (.getfield 7, 3) := by decide +kernel
theorem d173_9 : decode (xmb 173) 9 = .ok (.bipush 15, 2) := by decide +kernel
theorem d173_11 : decode (xmb 173) 11 = .ok (.iaload, 1) := by decide +kernel
theorem d173_12 : decode (xmb 173) 12 = .ok (.if_icmp .ge 21, 3) := by decide +kernel
theorem d173_15 : decode (xmb 173) 15 = .ok (.iload_n 1, 1) := by decide +kernel
theorem d173_16 : decode (xmb 173) 16 = .ok (.aload_n 0, 1) := by decide +kernel
theorem d173_17 : decode (xmb 173) 17 = .ok (.getfield 7, 3) := by decide +kernel
theorem d173_20 : decode (xmb 173) 20 = .ok (.bipush 16, 2) := by decide +kernel
theorem d173_22 : decode (xmb 173) 22 = .ok (.iload_n 2, 1) := by decide +kernel
theorem d173_23 : decode (xmb 173) 23 = .ok (.iadd, 1) := by decide +kernel
theorem d173_24 : decode (xmb 173) 24 = .ok (.iaload, 1) := by decide +kernel
theorem d173_25 : decode (xmb 173) 25 = .ok (.iadd, 1) := by decide +kernel
theorem d173_26 : decode (xmb 173) 26 = .ok (.istore_n 1, 1) := by decide +kernel
theorem d173_27 : decode (xmb 173) 27 = .ok (.iinc 2 1, 3) := by decide +kernel
theorem d173_30 : decode (xmb 173) 30 = .ok (.goto (-26), 3) := by decide +kernel
theorem d173_33 : decode (xmb 173) 33 = .ok (.iload_n 1, 1) := by decide +kernel
theorem d173_34 : decode (xmb 173) 34 = .ok (.ireturn, 1) := by decide +kernel
theorem d174_0 : decode (xmb 174) 0 = .ok (.aload_n 0, 1) := by decide +kernel
theorem d174_1 : decode (xmb 174) 1 = .ok (.iload_n 1, 1) := by decide +kernel
theorem d174_2 : decode (xmb 174) 2 = .ok (.i2l, 1) := by decide +kernel
theorem d174_3 : decode (xmb 174) 3 = .ok (.lconst 0, 1) := by decide +kernel
theorem d174_4 : decode (xmb 174) 4 = .ok (.ldc2_w 246, 3) := by decide +kernel
theorem d174_7 : decode (xmb 174) 7 = .ok (.invokestatic 58, 3) := by decide +kernel
theorem d174_10 : decode (xmb 174) 10 = .ok (.ifCond .eq 7, 3) := by decide +kernel
theorem d174_13 : decode (xmb 174) 13 = .ok (.iconst 0, 1) := by decide +kernel
theorem d174_14 : decode (xmb 174) 14 = .ok (.goto 4, 3) := by decide +kernel
theorem d174_17 : decode (xmb 174) 17 = .ok (.iconst 1, 1) := by decide +kernel
theorem d174_18 : decode (xmb 174) 18 = .ok (.invokevirtual 159, 3) := by decide +kernel
theorem d174_21 : decode (xmb 174) 21 = .ok (.ifCond .eq 5, 3) := by decide +kernel
theorem d174_24 : decode (xmb 174) 24 = .ok (.iconst 0, 1) := by decide +kernel
theorem d174_25 : decode (xmb 174) 25 = .ok (.ireturn, 1) := by decide +kernel
theorem d174_26 : decode (xmb 174) 26 = .ok (.iload_n 1, 1) := by decide +kernel
theorem d174_27 : decode (xmb 174) 27 = .ok (.tableswitch 120 0 8 #[49, 56, 64, 72, 80, 88, 97, 106, 115], 49) := by decide +kernel
theorem d174_76 : decode (xmb 174) 76 = .ok (.aload_n 0, 1) := by decide +kernel
theorem d174_77 : decode (xmb 174) 77 = .ok (.getfield 7, 3) := by decide +kernel
theorem d174_80 : decode (xmb 174) 80 = .ok (.iconst 0, 1) := by decide +kernel
theorem d174_81 : decode (xmb 174) 81 = .ok (.iaload, 1) := by decide +kernel
theorem d174_82 : decode (xmb 174) 82 = .ok (.ireturn, 1) := by decide +kernel
theorem d174_83 : decode (xmb 174) 83 = .ok (.aload_n 0, 1) := by decide +kernel
theorem d174_84 : decode (xmb 174) 84 = .ok (.getfield 7, 3) := by decide +kernel
theorem d174_87 : decode (xmb 174) 87 = .ok (.bipush 15, 2) := by decide +kernel
theorem d174_89 : decode (xmb 174) 89 = .ok (.iaload, 1) := by decide +kernel
theorem d174_90 : decode (xmb 174) 90 = .ok (.ireturn, 1) := by decide +kernel
theorem d174_91 : decode (xmb 174) 91 = .ok (.aload_n 0, 1) := by decide +kernel
theorem d174_92 : decode (xmb 174) 92 = .ok (.getfield 7, 3) := by decide +kernel
theorem d174_95 : decode (xmb 174) 95 = .ok (.bipush 13, 2) := by decide +kernel
theorem d174_97 : decode (xmb 174) 97 = .ok (.iaload, 1) := by decide +kernel
theorem d174_98 : decode (xmb 174) 98 = .ok (.ireturn, 1) := by decide +kernel
theorem d174_99 : decode (xmb 174) 99 = .ok (.aload_n 0, 1) := by decide +kernel
theorem d174_100 : decode (xmb 174) 100 = .ok (.getfield 7, 3) := by decide +kernel
theorem d174_103 : decode (xmb 174) 103 = .ok (.bipush 14, 2) := by decide +kernel
theorem d174_105 : decode (xmb 174) 105 = .ok (.iaload, 1) := by decide +kernel
theorem d174_106 : decode (xmb 174) 106 = .ok (.ireturn, 1) := by decide +kernel
theorem d174_107 : decode (xmb 174) 107 = .ok (.aload_n 0, 1) := by decide +kernel
theorem d174_108 : decode (xmb 174) 108 = .ok (.getfield 7, 3) := by decide +kernel
theorem d174_111 : decode (xmb 174) 111 = .ok (.invokestatic 139, 3) := by decide +kernel
theorem d174_114 : decode (xmb 174) 114 = .ok (.ireturn, 1) := by decide +kernel
theorem d174_115 : decode (xmb 174) 115 = .ok (.aload_n 0, 1) := by decide +kernel
theorem d174_116 : decode (xmb 174) 116 = .ok (.aload_n 0, 1) := by decide +kernel
theorem d174_117 : decode (xmb 174) 117 = .ok (.getfield 7, 3) := by decide +kernel
theorem d174_120 : decode (xmb 174) 120 = .ok (.invokevirtual 248, 3) := by decide +kernel
theorem d174_123 : decode (xmb 174) 123 = .ok (.ireturn, 1) := by decide +kernel
theorem d174_124 : decode (xmb 174) 124 = .ok (.aload_n 0, 1) := by decide +kernel
theorem d174_125 : decode (xmb 174) 125 = .ok (.aload_n 0, 1) := by decide +kernel
theorem d174_126 : decode (xmb 174) 126 = .ok (.getfield 7, 3) := by decide +kernel
theorem d174_129 : decode (xmb 174) 129 = .ok (.invokevirtual 251, 3) := by decide +kernel
theorem d174_132 : decode (xmb 174) 132 = .ok (.ireturn, 1) := by decide +kernel
theorem d174_133 : decode (xmb 174) 133 = .ok (.aload_n 0, 1) := by decide +kernel
theorem d174_134 : decode (xmb 174) 134 = .ok (.aload_n 0, 1) := by decide +kernel
theorem d174_135 : decode (xmb 174) 135 = .ok (.getfield 7, 3) := by decide +kernel
theorem d174_138 : decode (xmb 174) 138 = .ok (.invokevirtual 254, 3) := by decide +kernel
theorem d174_141 : decode (xmb 174) 141 = .ok (.ireturn, 1) := by decide +kernel
theorem d174_142 : decode (xmb 174) 142 = .ok (.aload_n 0, 1) := by decide +kernel
theorem d174_143 : decode (xmb 174) 143 = .ok (.invokevirtual 257, 3) := by decide +kernel
theorem d174_146 : decode (xmb 174) 146 = .ok (.ireturn, 1) := by decide +kernel
theorem d174_147 : decode (xmb 174) 147 = .ok (.aload_n 0, 1) := by decide +kernel
theorem d174_148 : decode (xmb 174) 148 = .ok (.invokevirtual 260, 3) := by decide +kernel
theorem d174_151 : decode (xmb 174) 151 = .ok (.ireturn, 1) := by decide +kernel
theorem d175_0 : decode (xmb 175) 0 = .ok (.iconst 0, 1) := by decide +kernel
theorem d175_1 : decode (xmb 175) 1 = .ok (.istore_n 2, 1) := by decide +kernel
theorem d175_2 : decode (xmb 175) 2 = .ok (.iconst 0, 1) := by decide +kernel
theorem d175_3 : decode (xmb 175) 3 = .ok (.istore_n 3, 1) := by decide +kernel
theorem d175_4 : decode (xmb 175) 4 = .ok (.iload_n 3, 1) := by decide +kernel
theorem d175_5 : decode (xmb 175) 5 = .ok (.aload_n 0, 1) := by decide +kernel
theorem d175_6 : decode (xmb 175) 6 = .ok (.getfield 7, 3) := by decide +kernel
theorem d175_9 : decode (xmb 175) 9 = .ok (.bipush 15, 2) := by decide +kernel
theorem d175_11 : decode (xmb 175) 11 = .ok (.iaload, 1) := by decide +kernel
theorem d175_12 : decode (xmb 175) 12 = .ok (.if_icmp .ge 33, 3) := by decide +kernel
theorem d175_15 : decode (xmb 175) 15 = .ok (.iload_n 2, 1) := by decide +kernel
theorem d175_16 : decode (xmb 175) 16 = .ok (.aload_n 0, 1) := by decide +kernel
theorem d175_17 : decode (xmb 175) 17 = .ok (.getfield 7, 3) := by decide +kernel
theorem d175_20 : decode (xmb 175) 20 = .ok (.bipush 58, 2) := by decide +kernel
theorem d175_22 : decode (xmb 175) 22 = .ok (.iload_n 3, 1) := by decide +kernel
theorem d175_23 : decode (xmb 175) 23 = .ok (.iadd, 1) := by decide +kernel
theorem d175_24 : decode (xmb 175) 24 = .ok (.iaload, 1) := by decide +kernel
theorem d175_25 : decode (xmb 175) 25 = .ok (.iload_n 1, 1) := by decide +kernel
theorem d175_26 : decode (xmb 175) 26 = .ok (.invokestatic 54, 3) := by decide +kernel
theorem d175_29 : decode (xmb 175) 29 = .ok (.ifCond .eq 7, 3) := by decide +kernel
theorem d175_32 : decode (xmb 175) 32 = .ok (.iconst 1, 1) := by decide +kernel
theorem d175_33 : decode (xmb 175) 33 = .ok (.goto 4, 3) := by decide +kernel
theorem d175_36 : decode (xmb 175) 36 = .ok (.iconst 0, 1) := by decide +kernel
theorem d175_37 : decode (xmb 175) 37 = .ok (.iadd, 1) := by decide +kernel
theorem d175_38 : decode (xmb 175) 38 = .ok (.istore_n 2, 1) := by decide +kernel
theorem d175_39 : decode (xmb 175) 39 = .ok (.iinc 3 1, 3) := by decide +kernel
theorem d175_42 : decode (xmb 175) 42 = .ok (.goto (-38), 3) := by decide +kernel
theorem d175_45 : decode (xmb 175) 45 = .ok (.iload_n 2, 1) := by decide +kernel
theorem d175_46 : decode (xmb 175) 46 = .ok (.ireturn, 1) := by decide +kernel
theorem d176_0 : decode (xmb 176) 0 = .ok (.aload_n 0, 1) := by decide +kernel
theorem d176_1 : decode (xmb 176) 1 = .ok (.aload_n 0, 1) := by decide +kernel
theorem d176_2 : decode (xmb 176) 2 = .ok (.getfield 7, 3) := by decide +kernel
theorem d176_5 : decode (xmb 176) 5 = .ok (.invokevirtual 136, 3) := by decide +kernel
theorem d176_8 : decode (xmb 176) 8 = .ok (.iconst (-1), 1) := by decide +kernel
theorem d176_9 : decode (xmb 176) 9 = .ok (.istore_n 2, 1) := by decide +kernel
theorem d176_10 : decode (xmb 176) 10 = .ok (.iconst 0, 1) := by decide +kernel
theorem d176_11 : decode (xmb 176) 11 = .ok (.istore_n 3, 1) := by decide +kernel
theorem d176_12 : decode (xmb 176) 12 = .ok (.iload_n 3, 1) := by decide +kernel
theorem d176_13 : decode (xmb 176) 13 = .ok (.aload_n 0, 1) := by decide +kernel
theorem d176_14 : decode (xmb 176) 14 = .ok (.getfield 7, 3) := by decide +kernel
theorem d176_17 : decode (xmb 176) 17 = .ok (.bipush 15, 2) := by decide +kernel
theorem d176_19 : decode (xmb 176) 19 = .ok (.iaload, 1) := by decide +kernel
theorem d176_20 : decode (xmb 176) 20 = .ok (.if_icmp .ge 73, 3) := by decide +kernel
theorem d176_23 : decode (xmb 176) 23 = .ok (.aload_n 0, 1) := by decide +kernel
theorem d176_24 : decode (xmb 176) 24 = .ok (.getfield 7, 3) := by decide +kernel
theorem d176_27 : decode (xmb 176) 27 = .ok (.bipush 58, 2) := by decide +kernel
theorem d176_29 : decode (xmb 176) 29 = .ok (.iload_n 3, 1) := by decide +kernel
theorem d176_30 : decode (xmb 176) 30 = .ok (.iadd, 1) := by decide +kernel
theorem d176_31 : decode (xmb 176) 31 = .ok (.iaload, 1) := by decide +kernel
theorem d176_32 : decode (xmb 176) 32 = .ok (.iload_n 1, 1) := by decide +kernel
theorem d176_33 : decode (xmb 176) 33 = .ok (.invokestatic 54, 3) := by decide +kernel
theorem d176_36 : decode (xmb 176) 36 = .ok (.ifCond .eq 17, 3) := by decide +kernel
theorem d176_39 : decode (xmb 176) 39 = .ok (.aload_n 0, 1) := by decide +kernel
theorem d176_40 : decode (xmb 176) 40 = .ok (.getfield 29, 3) := by decide +kernel
theorem d176_43 : decode (xmb 176) 43 = .ok (.iload_n 3, 1) := by decide +kernel
theorem d176_44 : decode (xmb 176) 44 = .ok (.iaload, 1) := by decide +kernel
theorem d176_45 : decode (xmb 176) 45 = .ok (.iconst (-1), 1) := by decide +kernel
theorem d176_46 : decode (xmb 176) 46 = .ok (.if_icmp .eq 7, 3) := by decide +kernel
theorem d176_49 : decode (xmb 176) 49 = .ok (.iconst 1, 1) := by decide +kernel
theorem d176_50 : decode (xmb 176) 50 = .ok (.goto 4, 3) := by decide +kernel
theorem d176_53 : decode (xmb 176) 53 = .ok (.iconst 0, 1) := by decide +kernel
theorem d176_54 : decode (xmb 176) 54 = .ok (.istore 4, 2) := by decide +kernel
theorem d176_56 : decode (xmb 176) 56 = .ok (.iload 4, 2) := by decide +kernel
theorem d176_58 : decode (xmb 176) 58 = .ok (.ifCond .eq 27, 3) := by decide +kernel
theorem d176_61 : decode (xmb 176) 61 = .ok (.iload_n 2, 1) := by decide +kernel
theorem d176_62 : decode (xmb 176) 62 = .ok (.iconst (-1), 1) := by decide +kernel
theorem d176_63 : decode (xmb 176) 63 = .ok (.if_icmp .eq 13, 3) := by decide +kernel
theorem d176_66 : decode (xmb 176) 66 = .ok (.aload_n 0, 1) := by decide +kernel
theorem d176_67 : decode (xmb 176) 67 = .ok (.getfield 29, 3) := by decide +kernel
theorem d176_70 : decode (xmb 176) 70 = .ok (.iload_n 3, 1) := by decide +kernel
theorem d176_71 : decode (xmb 176) 71 = .ok (.iaload, 1) := by decide +kernel
theorem d176_72 : decode (xmb 176) 72 = .ok (.iload_n 2, 1) := by decide +kernel
theorem d176_73 : decode (xmb 176) 73 = .ok (.if_icmp .ge 12, 3) := by decide +kernel
theorem d176_76 : decode (xmb 176) 76 = .ok (.aload_n 0, 1) := by decide +kernel
theorem d176_77 : decode (xmb 176) 77 = .ok (.getfield 29, 3) := by decide +kernel
theorem d176_80 : decode (xmb 176) 80 = .ok (.iload_n 3, 1) := by decide +kernel
theorem d176_81 : decode (xmb 176) 81 = .ok (.iaload, 1) := by decide +kernel
theorem d176_82 : decode (xmb 176) 82 = .ok (.goto 4, 3) := by decide +kernel
theorem d176_85 : decode (xmb 176) 85 = .ok (.iload_n 2, 1) := by decide +kernel
theorem d176_86 : decode (xmb 176) 86 = .ok (.istore_n 2, 1) := by decide +kernel
theorem d176_87 : decode (xmb 176) 87 = .ok (.iinc 3 1, 3) := by decide +kernel
theorem d176_90 : decode (xmb 176) 90 = .ok (.goto (-78), 3) := by decide +kernel
theorem d176_93 : decode (xmb 176) 93 = .ok (.iload_n 2, 1) := by decide +kernel
theorem d176_94 : decode (xmb 176) 94 = .ok (.ireturn, 1) := by decide +kernel
theorem d177_0 : decode (xmb 177) 0 = .ok (.aload_n 0, 1) := by decide +kernel
theorem d177_1 : decode (xmb 177) 1 = .ok (.aload_n 0, 1) := by decide +kernel
theorem d177_2 : decode (xmb 177) 2 = .ok (.getfield 7, 3) := by decide +kernel
theorem d177_5 : decode (xmb 177) 5 = .ok (.iload_n 1, 1) := by decide +kernel
theorem d177_6 : decode (xmb 177) 6 = .ok (.invokestatic 207, 3) := by decide +kernel
theorem d177_9 : decode (xmb 177) 9 = .ok (.ifCond .ne 7, 3) := by decide +kernel
theorem d177_12 : decode (xmb 177) 12 = .ok (.iconst 1, 1) := by decide +kernel
theorem d177_13 : decode (xmb 177) 13 = .ok (.goto 20, 3) := by decide +kernel
theorem d177_16 : decode (xmb 177) 16 = .ok (.iload_n 2, 1) := by decide +kernel
theorem d177_17 : decode (xmb 177) 17 = .ok (.i2l, 1) := by decide +kernel
theorem d177_18 : decode (xmb 177) 18 = .ok (.lconst 0, 1) := by decide +kernel
theorem d177_19 : decode (xmb 177) 19 = .ok (.ldc2_w 263, 3) := by decide +kernel
theorem d177_22 : decode (xmb 177) 22 = .ok (.invokestatic 58, 3) := by decide +kernel
theorem d177_25 : decode (xmb 177) 25 = .ok (.ifCond .ne 7, 3) := by decide +kernel
theorem d177_28 : decode (xmb 177) 28 = .ok (.iconst 2, 1) := by decide +kernel
theorem d177_29 : decode (xmb 177) 29 = .ok (.goto 4, 3) := by decide +kernel
theorem d177_32 : decode (xmb 177) 32 = .ok (.iconst 0, 1) := by decide +kernel
theorem d177_33 : decode (xmb 177) 33 = .ok (.invokevirtual 159, 3) := by decide +kernel
theorem d177_36 : decode (xmb 177) 36 = .ok (.ifCond .eq 5, 3) := by decide +kernel
theorem d177_39 : decode (xmb 177) 39 = .ok (.iconst 0, 1) := by decide +kernel
theorem d177_40 : decode (xmb 177) 40 = .ok (.ireturn, 1) := by decide +kernel
theorem d177_41 : decode (xmb 177) 41 = .ok (.iload_n 2, 1) := by decide +kernel
theorem d177_42 : decode (xmb 177) 42 = .ok (.tableswitch 98 0 5 #[38, 47, 56, 65, 74, 92], 38) := by decide +kernel
theorem d177_80 : decode (xmb 177) 80 = .ok (.aload_n 0, 1) := by decide +kernel
theorem d177_81 : decode (xmb 177) 81 = .ok (.getfield 7, 3) := by decide +kernel
theorem d177_84 : decode (xmb 177) 84 = .ok (.iconst 1, 1) := by decide +kernel
theorem d177_85 : decode (xmb 177) 85 = .ok (.iload_n 1, 1) := by decide +kernel
theorem d177_86 : decode (xmb 177) 86 = .ok (.iadd, 1) := by decide +kernel
theorem d177_87 : decode (xmb 177) 87 = .ok (.iaload, 1) := by decide +kernel
theorem d177_88 : decode (xmb 177) 88 = .ok (.ireturn, 1) := by decide +kernel
theorem d177_89 : decode (xmb 177) 89 = .ok (.aload_n 0, 1) := by decide +kernel
theorem d177_90 : decode (xmb 177) 90 = .ok (.getfield 7, 3) := by decide +kernel
theorem d177_93 : decode (xmb 177) 93 = .ok (.iload_n 1, 1) := by decide +kernel
theorem d177_94 : decode (xmb 177) 94 = .ok (.invokestatic 84, 3) := by decide +kernel
theorem d177_97 : decode (xmb 177) 97 = .ok (.ireturn, 1) := by decide +kernel
theorem d177_98 : decode (xmb 177) 98 = .ok (.aload_n 0, 1) := by decide +kernel
theorem d177_99 : decode (xmb 177) 99 = .ok (.getfield 7, 3) := by decide +kernel
theorem d177_102 : decode (xmb 177) 102 = .ok (.iload_n 1, 1) := by decide +kernel
theorem d177_103 : decode (xmb 177) 103 = .ok (.invokestatic 88, 3) := by decide +kernel
theorem d177_106 : decode (xmb 177) 106 = .ok (.ireturn, 1) := by decide +kernel
theorem d177_107 : decode (xmb 177) 107 = .ok (.aload_n 0, 1) := by decide +kernel
theorem d177_108 : decode (xmb 177) 108 = .ok (.getfield 7, 3) := by decide +kernel
theorem d177_111 : decode (xmb 177) 111 = .ok (.iload_n 1, 1) := by decide +kernel
theorem d177_112 : decode (xmb 177) 112 = .ok (.invokestatic 95, 3) := by decide +kernel
theorem d177_115 : decode (xmb 177) 115 = .ok (.ireturn, 1) := by decide +kernel
theorem d177_116 : decode (xmb 177) 116 = .ok (.aload_n 0, 1) := by decide +kernel
theorem d177_117 : decode (xmb 177) 117 = .ok (.getfield 7, 3) := by decide +kernel
theorem d177_120 : decode (xmb 177) 120 = .ok (.iload_n 1, 1) := by decide +kernel
theorem d177_121 : decode (xmb 177) 121 = .ok (.invokestatic 88, 3) := by decide +kernel
theorem d177_124 : decode (xmb 177) 124 = .ok (.aload_n 0, 1) := by decide +kernel
theorem d177_125 : decode (xmb 177) 125 = .ok (.getfield 7, 3) := by decide +kernel
theorem d177_128 : decode (xmb 177) 128 = .ok (.iload_n 1, 1) := by decide +kernel
theorem d177_129 : decode (xmb 177) 129 = .ok (.invokestatic 84, 3) := by decide +kernel
theorem d177_132 : decode (xmb 177) 132 = .ok (.isub, 1) := by decide +kernel
theorem d177_133 : decode (xmb 177) 133 = .ok (.ireturn, 1) := by decide +kernel
theorem d177_134 : decode (xmb 177) 134 = .ok (.aload_n 0, 1) := by decide +kernel
theorem d177_135 : decode (xmb 177) 135 = .ok (.iload_n 1, 1) := by decide +kernel
theorem d177_136 : decode (xmb 177) 136 = .ok (.invokevirtual 265, 3) := by decide +kernel
theorem d177_139 : decode (xmb 177) 139 = .ok (.ireturn, 1) := by decide +kernel
theorem d177_140 : decode (xmb 177) 140 = .ok (.aload_n 0, 1) := by decide +kernel
theorem d177_141 : decode (xmb 177) 141 = .ok (.iload_n 1, 1) := by decide +kernel
theorem d177_142 : decode (xmb 177) 142 = .ok (.invokevirtual 268, 3) := by decide +kernel
theorem d177_145 : decode (xmb 177) 145 = .ok (.ireturn, 1) := by decide +kernel
theorem d178_0 : decode (xmb 178) 0 = .ok (.aload_n 0, 1) := by decide +kernel
theorem d178_1 : decode (xmb 178) 1 = .ok (.aload_n 0, 1) := by decide +kernel
theorem d178_2 : decode (xmb 178) 2 = .ok (.getfield 7, 3) := by decide +kernel
theorem d178_5 : decode (xmb 178) 5 = .ok (.iload_n 1, 1) := by decide +kernel
theorem d178_6 : decode (xmb 178) 6 = .ok (.invokestatic 207, 3) := by decide +kernel
theorem d178_9 : decode (xmb 178) 9 = .ok (.ifCond .ne 7, 3) := by decide +kernel
theorem d178_12 : decode (xmb 178) 12 = .ok (.iconst 1, 1) := by decide +kernel
theorem d178_13 : decode (xmb 178) 13 = .ok (.goto 20, 3) := by decide +kernel
theorem d178_16 : decode (xmb 178) 16 = .ok (.iload_n 2, 1) := by decide +kernel
theorem d178_17 : decode (xmb 178) 17 = .ok (.i2l, 1) := by decide +kernel
theorem d178_18 : decode (xmb 178) 18 = .ok (.lconst 0, 1) := by decide +kernel
theorem d178_19 : decode (xmb 178) 19 = .ok (.ldc2_w 62, 3) := by decide +kernel
theorem d178_22 : decode (xmb 178) 22 = .ok (.invokestatic 58, 3) := by decide +kernel
theorem d178_25 : decode (xmb 178) 25 = .ok (.ifCond .ne 7, 3) := by decide +kernel
theorem d178_28 : decode (xmb 178) 28 = .ok (.iconst 2, 1) := by decide +kernel
theorem d178_29 : decode (xmb 178) 29 = .ok (.goto 4, 3) := by decide +kernel
theorem d178_32 : decode (xmb 178) 32 = .ok (.iconst 0, 1) := by decide +kernel
theorem d178_33 : decode (xmb 178) 33 = .ok (.invokevirtual 159, 3) := by decide +kernel
theorem d178_36 : decode (xmb 178) 36 = .ok (.ifCond .eq 5, 3) := by decide +kernel
theorem d178_39 : decode (xmb 178) 39 = .ok (.iconst 0, 1) := by decide +kernel
theorem d178_40 : decode (xmb 178) 40 = .ok (.ireturn, 1) := by decide +kernel
theorem d178_41 : decode (xmb 178) 41 = .ok (.aload_n 0, 1) := by decide +kernel
theorem d178_42 : decode (xmb 178) 42 = .ok (.getfield 7, 3) := by decide +kernel
theorem d178_45 : decode (xmb 178) 45 = .ok (.iload_n 1, 1) := by decide +kernel
theorem d178_46 : decode (xmb 178) 46 = .ok (.iload_n 2, 1) := by decide +kernel
theorem d178_47 : decode (xmb 178) 47 = .ok (.invokestatic 91, 3) := by decide +kernel
theorem d178_50 : decode (xmb 178) 50 = .ok (.ireturn, 1) := by decide +kernel
theorem d179_0 : decode (xmb 179) 0 = .ok (.aload_n 0, 1) := by decide +kernel
theorem d179_1 : decode (xmb 179) 1 = .ok (.aload_n 0, 1) := by decide +kernel
theorem d179_2 : decode (xmb 179) 2 = .ok (.getfield 7, 3) := by decide +kernel
theorem d179_5 : decode (xmb 179) 5 = .ok (.iload_n 1, 1) := by decide +kernel
theorem d179_6 : decode (xmb 179) 6 = .ok (.invokestatic 203, 3) := by decide +kernel
theorem d179_9 : decode (xmb 179) 9 = .ok (.ifCond .ne 7, 3) := by decide +kernel
theorem d179_12 : decode (xmb 179) 12 = .ok (.iconst 1, 1) := by decide +kernel
theorem d179_13 : decode (xmb 179) 13 = .ok (.goto 20, 3) := by decide +kernel
theorem d179_16 : decode (xmb 179) 16 = .ok (.iload_n 2, 1) := by decide +kernel
theorem d179_17 : decode (xmb 179) 17 = .ok (.i2l, 1) := by decide +kernel
theorem d179_18 : decode (xmb 179) 18 = .ok (.lconst 0, 1) := by decide +kernel
theorem d179_19 : decode (xmb 179) 19 = .ok (.ldc2_w 246, 3) := by decide +kernel
theorem d179_22 : decode (xmb 179) 22 = .ok (.invokestatic 58, 3) := by decide +kernel
theorem d179_25 : decode (xmb 179) 25 = .ok (.ifCond .ne 7, 3) := by decide +kernel
theorem d179_28 : decode (xmb 179) 28 = .ok (.iconst 2, 1) := by decide +kernel
theorem d179_29 : decode (xmb 179) 29 = .ok (.goto 4, 3) := by decide +kernel
theorem d179_32 : decode (xmb 179) 32 = .ok (.iconst 0, 1) := by decide +kernel
theorem d179_33 : decode (xmb 179) 33 = .ok (.invokevirtual 159, 3) := by decide +kernel
theorem d179_36 : decode (xmb 179) 36 = .ok (.ifCond .eq 5, 3) := by decide +kernel
theorem d179_39 : decode (xmb 179) 39 = .ok (.iconst 0, 1) := by decide +kernel
theorem d179_40 : decode (xmb 179) 40 = .ok (.ireturn, 1) := by decide +kernel
theorem d179_41 : decode (xmb 179) 41 = .ok (.iload_n 2, 1) := by decide +kernel
theorem d179_42 : decode (xmb 179) 42 = .ok (.tableswitch 142 0 9 #[54, 64, 74, 84, 94, 104, 113, 142, 142, 128], 54) := by decide +kernel
theorem d179_96 : decode (xmb 179) 96 = .ok (.aload_n 0, 1) := by decide +kernel
theorem d179_97 : decode (xmb 179) 97 = .ok (.getfield 7, 3) := by decide +kernel
theorem d179_100 : decode (xmb 179) 100 = .ok (.bipush 16, 2) := by decide +kernel
theorem d179_102 : decode (xmb 179) 102 = .ok (.iload_n 1, 1) := by decide +kernel
theorem d179_103 : decode (xmb 179) 103 = .ok (.iadd, 1) := by decide +kernel
theorem d179_104 : decode (xmb 179) 104 = .ok (.iaload, 1) := by decide +kernel
theorem d179_105 : decode (xmb 179) 105 = .ok (.ireturn, 1) := by decide +kernel
theorem d179_106 : decode (xmb 179) 106 = .ok (.aload_n 0, 1) := by decide +kernel
theorem d179_107 : decode (xmb 179) 107 = .ok (.getfield 7, 3) := by decide +kernel
theorem d179_110 : decode (xmb 179) 110 = .ok (.bipush 30, 2) := by decide +kernel
theorem d179_112 : decode (xmb 179) 112 = .ok (.iload_n 1, 1) := by decide +kernel
theorem d179_113 : decode (xmb 179) 113 = .ok (.iadd, 1) := by decide +kernel
theorem d179_114 : decode (xmb 179) 114 = .ok (.iaload, 1) := by decide +kernel
theorem d179_115 : decode (xmb 179) 115 = .ok (.ireturn, 1) := by decide +kernel
theorem d179_116 : decode (xmb 179) 116 = .ok (.aload_n 0, 1) := by decide +kernel
theorem d179_117 : decode (xmb 179) 117 = .ok (.getfield 7, 3) := by decide +kernel
theorem d179_120 : decode (xmb 179) 120 = .ok (.bipush 44, 2) := by decide +kernel
theorem d179_122 : decode (xmb 179) 122 = .ok (.iload_n 1, 1) := by decide +kernel
theorem d179_123 : decode (xmb 179) 123 = .ok (.iadd, 1) := by decide +kernel
theorem d179_124 : decode (xmb 179) 124 = .ok (.iaload, 1) := by decide +kernel
theorem d179_125 : decode (xmb 179) 125 = .ok (.ireturn, 1) := by decide +kernel
theorem d179_126 : decode (xmb 179) 126 = .ok (.aload_n 0, 1) := by decide +kernel
theorem d179_127 : decode (xmb 179) 127 = .ok (.getfield 7, 3) := by decide +kernel
theorem d179_130 : decode (xmb 179) 130 = .ok (.bipush 58, 2) := by decide +kernel
theorem d179_132 : decode (xmb 179) 132 = .ok (.iload_n 1, 1) := by decide +kernel
theorem d179_133 : decode (xmb 179) 133 = .ok (.iadd, 1) := by decide +kernel
theorem d179_134 : decode (xmb 179) 134 = .ok (.iaload, 1) := by decide +kernel
theorem d179_135 : decode (xmb 179) 135 = .ok (.ireturn, 1) := by decide +kernel
theorem d179_136 : decode (xmb 179) 136 = .ok (.aload_n 0, 1) := by decide +kernel
theorem d179_137 : decode (xmb 179) 137 = .ok (.getfield 7, 3) := by decide +kernel
theorem d179_140 : decode (xmb 179) 140 = .ok (.bipush 72, 2) := by decide +kernel
theorem d179_142 : decode (xmb 179) 142 = .ok (.iload_n 1, 1) := by decide +kernel
theorem d179_143 : decode (xmb 179) 143 = .ok (.iadd, 1) := by decide +kernel
theorem d179_144 : decode (xmb 179) 144 = .ok (.iaload, 1) := by decide +kernel
theorem d179_145 : decode (xmb 179) 145 = .ok (.ireturn, 1) := by decide +kernel
theorem d179_146 : decode (xmb 179) 146 = .ok (.aload_n 0, 1) := by decide +kernel
theorem d179_147 : decode (xmb 179) 147 = .ok (.getfield 7, 3) := by decide +kernel
theorem d179_150 : decode (xmb 179) 150 = .ok (.iload_n 1, 1) := by decide +kernel
theorem d179_151 : decode (xmb 179) 151 = .ok (.invokestatic 113, 3) := by decide +kernel
theorem d179_154 : decode (xmb 179) 154 = .ok (.ireturn, 1) := by decide +kernel
theorem d179_155 : decode (xmb 179) 155 = .ok (.aload_n 0, 1) := by decide +kernel
theorem d179_156 : decode (xmb 179) 156 = .ok (.aload_n 0, 1) := by decide +kernel
theorem d179_157 : decode (xmb 179) 157 = .ok (.getfield 7, 3) := by decide +kernel
theorem d179_160 : decode (xmb 179) 160 = .ok (.invokevirtual 98, 3) := by decide +kernel
theorem d179_163 : decode (xmb 179) 163 = .ok (.aload_n 0, 1) := by decide +kernel
theorem d179_164 : decode (xmb 179) 164 = .ok (.getfield 38, 3) := by decide +kernel
theorem d179_167 : decode (xmb 179) 167 = .ok (.iload_n 1, 1) := by decide +kernel
theorem d179_168 : decode (xmb 179) 168 = .ok (.iaload, 1) := by decide +kernel
theorem d179_169 : decode (xmb 179) 169 = .ok (.ireturn, 1) := by decide +kernel
theorem d179_170 : decode (xmb 179) 170 = .ok (.aload_n 0, 1) := by decide +kernel
theorem d179_171 : decode (xmb 179) 171 = .ok (.getfield 7, 3) := by decide +kernel
theorem d179_174 : decode (xmb 179) 174 = .ok (.iload_n 1, 1) := by decide +kernel
theorem d179_175 : decode (xmb 179) 175 = .ok (.invokestatic 148, 3) := by decide +kernel
theorem d179_178 : decode (xmb 179) 178 = .ok (.bipush 14, 2) := by decide +kernel
theorem d179_180 : decode (xmb 179) 180 = .ok (.invokestatic 116, 3) := by decide +kernel
theorem d179_183 : decode (xmb 179) 183 = .ok (.ireturn, 1) := by decide +kernel
theorem d179_184 : decode (xmb 179) 184 = .ok (.aload_n 0, 1) := by decide +kernel
theorem d179_185 : decode (xmb 179) 185 = .ok (.aload_n 0, 1) := by decide +kernel
theorem d179_186 : decode (xmb 179) 186 = .ok (.getfield 7, 3) := by decide +kernel
theorem d179_189 : decode (xmb 179) 189 = .ok (.invokevirtual 136, 3) := by decide +kernel
theorem d179_192 : decode (xmb 179) 192 = .ok (.iload_n 2, 1) := by decide +kernel
theorem d179_193 : decode (xmb 179) 193 = .ok (.bipush 7, 2) := by decide +kernel
theorem d179_195 : decode (xmb 179) 195 = .ok (.if_icmp .ne 12, 3) := by decide +kernel
theorem d179_198 : decode (xmb 179) 198 = .ok (.aload_n 0, 1) := by decide +kernel
theorem d179_199 : decode (xmb 179) 199 = .ok (.getfield 29, 3) := by decide +kernel
theorem d179_202 : decode (xmb 179) 202 = .ok (.iload_n 1, 1) := by decide +kernel
theorem d179_203 : decode (xmb 179) 203 = .ok (.iaload, 1) := by decide +kernel
theorem d179_204 : decode (xmb 179) 204 = .ok (.goto 9, 3) := by decide +kernel
theorem d179_207 : decode (xmb 179) 207 = .ok (.aload_n 0, 1) := by decide +kernel
theorem d179_208 : decode (xmb 179) 208 = .ok (.getfield 32, 3) := by decide +kernel
theorem d179_211 : decode (xmb 179) 211 = .ok (.iload_n 1, 1) := by decide +kernel
theorem d179_212 : decode (xmb 179) 212 = .ok (.iaload, 1) := by decide +kernel
theorem d179_213 : decode (xmb 179) 213 = .ok (.ireturn, 1) := by decide +kernel
theorem d180_0 : decode (xmb 180) 0 = .ok (.aload_n 0, 1) := by decide +kernel
theorem d180_1 : decode (xmb 180) 1 = .ok (.aload_n 0, 1) := by decide +kernel
theorem d180_2 : decode (xmb 180) 2 = .ok (.getfield 7, 3) := by decide +kernel
theorem d180_5 : decode (xmb 180) 5 = .ok (.invokevirtual 136, 3) := by decide +kernel
theorem d180_8 : decode (xmb 180) 8 = .ok (.aload_n 0, 1) := by decide +kernel
theorem d180_9 : decode (xmb 180) 9 = .ok (.iload_n 1, 1) := by decide +kernel
theorem d180_10 : decode (xmb 180) 10 = .ok (.i2l, 1) := by decide +kernel
theorem d180_11 : decode (xmb 180) 11 = .ok (.lconst 0, 1) := by decide +kernel
theorem d180_12 : decode (xmb 180) 12 = .ok (.aload_n 0, 1) := by decide +kernel
theorem d180_13 : decode (xmb 180) 13 = .ok (.getfield 127, 3) := by decide +kernel
theorem d180_16 : decode (xmb 180) 16 = .ok (.iconst 1, 1) := by decide +kernel
theorem d180_17 : decode (xmb 180) 17 = .ok (.isub, 1) := by decide +kernel
theorem d180_18 : decode (xmb 180) 18 = .ok (.i2l, 1) := by decide +kernel
theorem d180_19 : decode (xmb 180) 19 = .ok (.invokestatic 58, 3) := by decide +kernel
theorem d180_22 : decode (xmb 180) 22 = .ok (.ifCond .eq 7, 3) := by decide +kernel
theorem d180_25 : decode (xmb 180) 25 = .ok (.iconst 0, 1) := by decide +kernel
theorem d180_26 : decode (xmb 180) 26 = .ok (.goto 4, 3) := by decide +kernel
theorem d180_29 : decode (xmb 180) 29 = .ok (.iconst 1, 1) := by decide +kernel
theorem d180_30 : decode (xmb 180) 30 = .ok (.invokevirtual 159, 3) := by decide +kernel
theorem d180_33 : decode (xmb 180) 33 = .ok (.ifCond .eq 5, 3) := by decide +kernel
theorem d180_36 : decode (xmb 180) 36 = .ok (.iconst 0, 1) := by decide +kernel
theorem d180_37 : decode (xmb 180) 37 = .ok (.ireturn, 1) := by decide +kernel
theorem d180_38 : decode (xmb 180) 38 = .ok (.aload_n 0, 1) := by decide +kernel
theorem d180_39 : decode (xmb 180) 39 = .ok (.getfield 35, 3) := by decide +kernel
theorem d180_42 : decode (xmb 180) 42 = .ok (.iload_n 1, 1) := by decide +kernel
theorem d180_43 : decode (xmb 180) 43 = .ok (.iaload, 1) := by decide +kernel
theorem d180_44 : decode (xmb 180) 44 = .ok (.ireturn, 1) := by decide +kernel
theorem d181_0 : decode (xmb 181) 0 = .ok (.aload_n 0, 1) := by decide +kernel
theorem d181_1 : decode (xmb 181) 1 = .ok (.iload_n 1, 1) := by decide +kernel
theorem d181_2 : decode (xmb 181) 2 = .ok (.invokestatic 271, 3) := by decide +kernel
theorem d181_5 : decode (xmb 181) 5 = .ok (.ifCond .eq 7, 3) := by decide +kernel
theorem d181_8 : decode (xmb 181) 8 = .ok (.iconst 0, 1) := by decide +kernel
theorem d181_9 : decode (xmb 181) 9 = .ok (.goto 4, 3) := by decide +kernel
theorem d181_12 : decode (xmb 181) 12 = .ok (.iconst 1, 1) := by decide +kernel
theorem d181_13 : decode (xmb 181) 13 = .ok (.invokevirtual 159, 3) := by decide +kernel
theorem d181_16 : decode (xmb 181) 16 = .ok (.ifCond .eq 5, 3) := by decide +kernel
theorem d181_19 : decode (xmb 181) 19 = .ok (.iconst 0, 1) := by decide +kernel
theorem d181_20 : decode (xmb 181) 20 = .ok (.ireturn, 1) := by decide +kernel
theorem d181_21 : decode (xmb 181) 21 = .ok (.aload_n 0, 1) := by decide +kernel
theorem d181_22 : decode (xmb 181) 22 = .ok (.getfield 7, 3) := by decide +kernel
theorem d181_25 : decode (xmb 181) 25 = .ok (.bipush 86, 2) := by decide +kernel
theorem d181_27 : decode (xmb 181) 27 = .ok (.iload_n 1, 1) := by decide +kernel
theorem d181_28 : decode (xmb 181) 28 = .ok (.iadd, 1) := by decide +kernel
theorem d181_29 : decode (xmb 181) 29 = .ok (.iaload, 1) := by decide +kernel
theorem d181_30 : decode (xmb 181) 30 = .ok (.ireturn, 1) := by decide +kernel
theorem d182_0 : decode (xmb 182) 0 = .ok (.aload_n 0, 1) := by decide +kernel
theorem d182_1 : decode (xmb 182) 1 = .ok (.iload_n 1, 1) := by decide +kernel
theorem d182_2 : decode (xmb 182) 2 = .ok (.i2l, 1) := by decide +kernel
theorem d182_3 : decode (xmb 182) 3 = .ok (.lconst 0, 1) := by decide +kernel
theorem d182_4 : decode (xmb 182) 4 = .ok (.ldc2_w 274, 3) := by decide +kernel
theorem d182_7 : decode (xmb 182) 7 = .ok (.invokestatic 58, 3) := by decide +kernel
theorem d182_10 : decode (xmb 182) 10 = .ok (.ifCond .eq 7, 3) := by decide +kernel
theorem d182_13 : decode (xmb 182) 13 = .ok (.iconst 0, 1) := by decide +kernel
theorem d182_14 : decode (xmb 182) 14 = .ok (.goto 4, 3) := by decide +kernel
theorem d182_17 : decode (xmb 182) 17 = .ok (.iconst 1, 1) := by decide +kernel
theorem d182_18 : decode (xmb 182) 18 = .ok (.invokevirtual 159, 3) := by decide +kernel
theorem d182_21 : decode (xmb 182) 21 = .ok (.ifCond .eq 5, 3) := by decide +kernel
theorem d182_24 : decode (xmb 182) 24 = .ok (.iconst 0, 1) := by decide +kernel
theorem d182_25 : decode (xmb 182) 25 = .ok (.ireturn, 1) := by decide +kernel
theorem d182_26 : decode (xmb 182) 26 = .ok (.aload_n 0, 1) := by decide +kernel
theorem d182_27 : decode (xmb 182) 27 = .ok (.getfield 7, 3) := by decide +kernel
theorem d182_30 : decode (xmb 182) 30 = .ok (.bipush 90, 2) := by decide +kernel
theorem d182_32 : decode (xmb 182) 32 = .ok (.iload_n 1, 1) := by decide +kernel
theorem d182_33 : decode (xmb 182) 33 = .ok (.iadd, 1) := by decide +kernel
theorem d182_34 : decode (xmb 182) 34 = .ok (.iaload, 1) := by decide +kernel
theorem d182_35 : decode (xmb 182) 35 = .ok (.ireturn, 1) := by decide +kernel
theorem d183_0 : decode (xmb 183) 0 = .ok (.aload_n 0, 1) := by decide +kernel
theorem d183_1 : decode (xmb 183) 1 = .ok (.iload_n 1, 1) := by decide +kernel
theorem d183_2 : decode (xmb 183) 2 = .ok (.i2l, 1) := by decide +kernel
theorem d183_3 : decode (xmb 183) 3 = .ok (.lconst 0, 1) := by decide +kernel
theorem d183_4 : decode (xmb 183) 4 = .ok (.ldc2_w 276, 3) := by decide +kernel
theorem d183_7 : decode (xmb 183) 7 = .ok (.invokestatic 58, 3) := by decide +kernel
theorem d183_10 : decode (xmb 183) 10 = .ok (.ifCond .eq 19, 3) := by decide +kernel
theorem d183_13 : decode (xmb 183) 13 = .ok (.iload_n 2, 1) := by decide +kernel
theorem d183_14 : decode (xmb 183) 14 = .ok (.i2l, 1) := by decide +kernel
theorem d183_15 : decode (xmb 183) 15 = .ok (.lconst 0, 1) := by decide +kernel
theorem d183_16 : decode (xmb 183) 16 = .ok (.ldc2_w 246, 3) := by decide +kernel
theorem d183_19 : decode (xmb 183) 19 = .ok (.invokestatic 58, 3) := by decide +kernel
theorem d183_22 : decode (xmb 183) 22 = .ok (.ifCond .eq 7, 3) := by decide +kernel
theorem d183_25 : decode (xmb 183) 25 = .ok (.iconst 0, 1) := by decide +kernel
theorem d183_26 : decode (xmb 183) 26 = .ok (.goto 4, 3) := by decide +kernel
theorem d183_29 : decode (xmb 183) 29 = .ok (.iconst 1, 1) := by decide +kernel
theorem d183_30 : decode (xmb 183) 30 = .ok (.invokevirtual 159, 3) := by decide +kernel
theorem d183_33 : decode (xmb 183) 33 = .ok (.ifCond .eq 5, 3) := by decide +kernel
theorem d183_36 : decode (xmb 183) 36 = .ok (.iconst 0, 1) := by decide +kernel
theorem d183_37 : decode (xmb 183) 37 = .ok (.ireturn, 1) := by decide +kernel
theorem d183_38 : decode (xmb 183) 38 = .ok (.aload_n 0, 1) := by decide +kernel
theorem d183_39 : decode (xmb 183) 39 = .ok (.aload_n 0, 1) := by decide +kernel
theorem d183_40 : decode (xmb 183) 40 = .ok (.getfield 7, 3) := by decide +kernel
theorem d183_43 : decode (xmb 183) 43 = .ok (.invokevirtual 136, 3) := by decide +kernel
theorem d183_46 : decode (xmb 183) 46 = .ok (.iload_n 2, 1) := by decide +kernel
theorem d183_47 : decode (xmb 183) 47 = .ok (.ifCond .ne 13, 3) := by decide +kernel
theorem d183_50 : decode (xmb 183) 50 = .ok (.aload_n 0, 1) := by decide +kernel
theorem d183_51 : decode (xmb 183) 51 = .ok (.aload_n 0, 1) := by decide +kernel
theorem d183_52 : decode (xmb 183) 52 = .ok (.getfield 7, 3) := by decide +kernel
theorem d183_55 : decode (xmb 183) 55 = .ok (.iload_n 1, 1) := by decide +kernel
theorem d183_56 : decode (xmb 183) 56 = .ok (.invokevirtual 104, 3) := by decide +kernel
theorem d183_59 : decode (xmb 183) 59 = .ok (.ireturn, 1) := by decide +kernel
theorem d183_60 : decode (xmb 183) 60 = .ok (.iload_n 2, 1) := by decide +kernel
theorem d183_61 : decode (xmb 183) 61 = .ok (.bipush 9, 2) := by decide +kernel
theorem d183_63 : decode (xmb 183) 63 = .ok (.if_icmp .ne 15, 3) := by decide +kernel
theorem d183_66 : decode (xmb 183) 66 = .ok (.aload_n 0, 1) := by decide +kernel
theorem d183_67 : decode (xmb 183) 67 = .ok (.aload_n 0, 1) := by decide +kernel
theorem d183_68 : decode (xmb 183) 68 = .ok (.getfield 7, 3) := by decide +kernel
theorem d183_71 : decode (xmb 183) 71 = .ok (.iload_n 1, 1) := by decide +kernel
theorem d183_72 : decode (xmb 183) 72 = .ok (.invokevirtual 278, 3) := by decide +kernel
theorem d183_75 : decode (xmb 183) 75 = .ok (.goto 35, 3) := by decide +kernel
theorem d183_78 : decode (xmb 183) 78 = .ok (.iload_n 2, 1) := by decide +kernel
theorem d183_79 : decode (xmb 183) 79 = .ok (.iconst 5, 1) := by decide +kernel
theorem d183_80 : decode (xmb 183) 80 = .ok (.if_icmp .ge 18, 3) := by decide +kernel
theorem d183_83 : decode (xmb 183) 83 = .ok (.aload_n 0, 1) := by decide +kernel
theorem d183_84 : decode (xmb 183) 84 = .ok (.aload_n 0, 1) := by decide +kernel
theorem d183_85 : decode (xmb 183) 85 = .ok (.getfield 7, 3) := by decide +kernel
theorem d183_88 : decode (xmb 183) 88 = .ok (.iload_n 2, 1) := by decide +kernel
theorem d183_89 : decode (xmb 183) 89 = .ok (.iconst 1, 1) := by decide +kernel
theorem d183_90 : decode (xmb 183) 90 = .ok (.isub, 1) := by decide +kernel
theorem d183_91 : decode (xmb 183) 91 = .ok (.iload_n 1, 1) := by decide +kernel
theorem d183_92 : decode (xmb 183) 92 = .ok (.invokevirtual 107, 3) := by decide +kernel
theorem d183_95 : decode (xmb 183) 95 = .ok (.goto 15, 3) := by decide +kernel
theorem d183_98 : decode (xmb 183) 98 = .ok (.aload_n 0, 1) := by decide +kernel
theorem d183_99 : decode (xmb 183) 99 = .ok (.aload_n 0, 1) := by decide +kernel
theorem d183_100 : decode (xmb 183) 100 = .ok (.getfield 7, 3) := by decide +kernel
theorem d183_103 : decode (xmb 183) 103 = .ok (.iload_n 2, 1) := by decide +kernel
theorem d183_104 : decode (xmb 183) 104 = .ok (.iconst 5, 1) := by decide +kernel
theorem d183_105 : decode (xmb 183) 105 = .ok (.isub, 1) := by decide +kernel
theorem d183_106 : decode (xmb 183) 106 = .ok (.iload_n 1, 1) := by decide +kernel
theorem d183_107 : decode (xmb 183) 107 = .ok (.invokevirtual 110, 3) := by decide +kernel
theorem d183_110 : decode (xmb 183) 110 = .ok (.ireturn, 1) := by decide +kernel
theorem d184_0 : decode (xmb 184) 0 = .ok (.aload_n 0, 1) := by decide +kernel
theorem d184_1 : decode (xmb 184) 1 = .ok (.iload_n 1, 1) := by decide +kernel
theorem d184_2 : decode (xmb 184) 2 = .ok (.invokestatic 189, 3) := by decide +kernel
theorem d184_5 : decode (xmb 184) 5 = .ok (.ifCond .ne 7, 3) := by decide +kernel
theorem d184_8 : decode (xmb 184) 8 = .ok (.iconst 1, 1) := by decide +kernel
theorem d184_9 : decode (xmb 184) 9 = .ok (.goto 19, 3) := by decide +kernel
theorem d184_12 : decode (xmb 184) 12 = .ok (.aload_n 0, 1) := by decide +kernel
theorem d184_13 : decode (xmb 184) 13 = .ok (.getfield 7, 3) := by decide +kernel
theorem d184_16 : decode (xmb 184) 16 = .ok (.iconst 0, 1) := by decide +kernel
theorem d184_17 : decode (xmb 184) 17 = .ok (.iaload, 1) := by decide +kernel
theorem d184_18 : decode (xmb 184) 18 = .ok (.bipush 12, 2) := by decide +kernel
theorem d184_20 : decode (xmb 184) 20 = .ok (.if_icmp .ne 7, 3) := by decide +kernel
theorem d184_23 : decode (xmb 184) 23 = .ok (.iconst 2, 1) := by decide +kernel
theorem d184_24 : decode (xmb 184) 24 = .ok (.goto 4, 3) := by decide +kernel
theorem d184_27 : decode (xmb 184) 27 = .ok (.iconst 0, 1) := by decide +kernel
theorem d184_28 : decode (xmb 184) 28 = .ok (.invokevirtual 159, 3) := by decide +kernel
theorem d184_31 : decode (xmb 184) 31 = .ok (.ifCond .eq 5, 3) := by decide +kernel
theorem d184_34 : decode (xmb 184) 34 = .ok (.iconst 0, 1) := by decide +kernel
theorem d184_35 : decode (xmb 184) 35 = .ok (.ireturn, 1) := by decide +kernel
theorem d184_36 : decode (xmb 184) 36 = .ok (.aload_n 0, 1) := by decide +kernel
theorem d184_37 : decode (xmb 184) 37 = .ok (.invokevirtual 281, 3) := by decide +kernel
theorem d184_40 : decode (xmb 184) 40 = .ok (.aload_n 0, 1) := by decide +kernel
theorem d184_41 : decode (xmb 184) 41 = .ok (.getfield 7, 3) := by decide +kernel
theorem d184_44 : decode (xmb 184) 44 = .ok (.iload_n 1, 1) := by decide +kernel
theorem d184_45 : decode (xmb 184) 45 = .ok (.invokestatic 196, 3) := by decide +kernel
theorem d184_48 : decode (xmb 184) 48 = .ok (.ireturn, 1) := by decide +kernel
theorem d185_0 : decode (xmb 185) 0 = .ok (.aload_n 0, 1) := by decide +kernel
theorem d185_1 : decode (xmb 185) 1 = .ok (.aload_n 0, 1) := by decide +kernel
theorem d185_2 : decode (xmb 185) 2 = .ok (.getfield 7, 3) := by decide +kernel
theorem d185_5 : decode (xmb 185) 5 = .ok (.iload_n 1, 1) := by decide +kernel
theorem d185_6 : decode (xmb 185) 6 = .ok (.invokestatic 207, 3) := by decide +kernel
theorem d185_9 : decode (xmb 185) 9 = .ok (.ifCond .ne 7, 3) := by decide +kernel
theorem d185_12 : decode (xmb 185) 12 = .ok (.iconst 1, 1) := by decide +kernel
theorem d185_13 : decode (xmb 185) 13 = .ok (.goto 15, 3) := by decide +kernel
theorem d185_16 : decode (xmb 185) 16 = .ok (.iload_n 2, 1) := by decide +kernel
theorem d185_17 : decode (xmb 185) 17 = .ok (.invokestatic 189, 3) := by decide +kernel
theorem d185_20 : decode (xmb 185) 20 = .ok (.ifCond .ne 7, 3) := by decide +kernel
theorem d185_23 : decode (xmb 185) 23 = .ok (.iconst 2, 1) := by decide +kernel
theorem d185_24 : decode (xmb 185) 24 = .ok (.goto 4, 3) := by decide +kernel
theorem d185_27 : decode (xmb 185) 27 = .ok (.iconst 0, 1) := by decide +kernel
theorem d185_28 : decode (xmb 185) 28 = .ok (.invokevirtual 159, 3) := by decide +kernel
theorem d185_31 : decode (xmb 185) 31 = .ok (.ifCond .eq 5, 3) := by decide +kernel
theorem d185_34 : decode (xmb 185) 34 = .ok (.iconst 0, 1) := by decide +kernel
theorem d185_35 : decode (xmb 185) 35 = .ok (.ireturn, 1) := by decide +kernel
theorem d185_36 : decode (xmb 185) 36 = .ok (.aload_n 0, 1) := by decide +kernel
theorem d185_37 : decode (xmb 185) 37 = .ok (.invokevirtual 281, 3) := by decide +kernel
theorem d185_40 : decode (xmb 185) 40 = .ok (.aload_n 0, 1) := by decide +kernel
theorem d185_41 : decode (xmb 185) 41 = .ok (.getfield 7, 3) := by decide +kernel
theorem d185_44 : decode (xmb 185) 44 = .ok (.iconst 1, 1) := by decide +kernel
theorem d185_45 : decode (xmb 185) 45 = .ok (.iload_n 1, 1) := by decide +kernel
theorem d185_46 : decode (xmb 185) 46 = .ok (.iadd, 1) := by decide +kernel
theorem d185_47 : decode (xmb 185) 47 = .ok (.iload_n 2, 1) := by decide +kernel
theorem d185_48 : decode (xmb 185) 48 = .ok (.invokestatic 284, 3) := by decide +kernel
theorem d185_51 : decode (xmb 185) 51 = .ok (.ireturn, 1) := by decide +kernel
theorem d186_0 : decode (xmb 186) 0 = .ok (.aload_n 0, 1) := by decide +kernel
theorem d186_1 : decode (xmb 186) 1 = .ok (.iload_n 1, 1) := by decide +kernel
theorem d186_2 : decode (xmb 186) 2 = .ok (.invokestatic 287, 3) := by decide +kernel
theorem d186_5 : decode (xmb 186) 5 = .ok (.ifCond .eq 14, 3) := by decide +kernel
theorem d186_8 : decode (xmb 186) 8 = .ok (.iload_n 2, 1) := by decide +kernel
theorem d186_9 : decode (xmb 186) 9 = .ok (.invokestatic 287, 3) := by decide +kernel
theorem d186_12 : decode (xmb 186) 12 = .ok (.ifCond .eq 7, 3) := by decide +kernel
theorem d186_15 : decode (xmb 186) 15 = .ok (.iconst 0, 1) := by decide +kernel
theorem d186_16 : decode (xmb 186) 16 = .ok (.goto 4, 3) := by decide +kernel
theorem d186_19 : decode (xmb 186) 19 = .ok (.iconst 1, 1) := by decide +kernel
theorem d186_20 : decode (xmb 186) 20 = .ok (.invokevirtual 159, 3) := by decide +kernel
theorem d186_23 : decode (xmb 186) 23 = .ok (.ifCond .eq 5, 3) := by decide +kernel
theorem d186_26 : decode (xmb 186) 26 = .ok (.iconst 0, 1) := by decide +kernel
theorem d186_27 : decode (xmb 186) 27 = .ok (.ireturn, 1) := by decide +kernel
theorem d186_28 : decode (xmb 186) 28 = .ok (.aload_n 0, 1) := by decide +kernel
theorem d186_29 : decode (xmb 186) 29 = .ok (.invokevirtual 281, 3) := by decide +kernel
theorem d186_32 : decode (xmb 186) 32 = .ok (.aload_n 0, 1) := by decide +kernel
theorem d186_33 : decode (xmb 186) 33 = .ok (.getfield 7, 3) := by decide +kernel
theorem d186_36 : decode (xmb 186) 36 = .ok (.iload_n 1, 1) := by decide +kernel
theorem d186_37 : decode (xmb 186) 37 = .ok (.iload_n 2, 1) := by decide +kernel
theorem d186_38 : decode (xmb 186) 38 = .ok (.invokestatic 290, 3) := by decide +kernel
theorem d186_41 : decode (xmb 186) 41 = .ok (.ireturn, 1) := by decide +kernel
theorem d187_0 : decode (xmb 187) 0 = .ok (.aload_n 0, 1) := by decide +kernel
theorem d187_1 : decode (xmb 187) 1 = .ok (.iload_n 1, 1) := by decide +kernel
theorem d187_2 : decode (xmb 187) 2 = .ok (.iload_n 2, 1) := by decide +kernel
theorem d187_3 : decode (xmb 187) 3 = .ok (.invokestatic 293, 3) := by decide +kernel
theorem d187_6 : decode (xmb 187) 6 = .ok (.ifCond .ne 7, 3) := by decide +kernel
theorem d187_9 : decode (xmb 187) 9 = .ok (.iconst 1, 1) := by decide +kernel
theorem d187_10 : decode (xmb 187) 10 = .ok (.goto 20, 3) := by decide +kernel
theorem d187_13 : decode (xmb 187) 13 = .ok (.aload_n 0, 1) := by decide +kernel
theorem d187_14 : decode (xmb 187) 14 = .ok (.getfield 7, 3) := by decide +kernel
theorem d187_17 : decode (xmb 187) 17 = .ok (.bipush 15, 2) := by decide +kernel
theorem d187_19 : decode (xmb 187) 19 = .ok (.iaload, 1) := by decide +kernel
theorem d187_20 : decode (xmb 187) 20 = .ok (.bipush 14, 2) := by decide +kernel
theorem d187_22 : decode (xmb 187) 22 = .ok (.if_icmp .ne 7, 3) := by decide +kernel
theorem d187_25 : decode (xmb 187) 25 = .ok (.iconst 2, 1) := by decide +kernel
theorem d187_26 : decode (xmb 187) 26 = .ok (.goto 4, 3) := by decide +kernel
theorem d187_29 : decode (xmb 187) 29 = .ok (.iconst 0, 1) := by decide +kernel
theorem d187_30 : decode (xmb 187) 30 = .ok (.invokevirtual 159, 3) := by decide +kernel
theorem d187_33 : decode (xmb 187) 33 = .ok (.ifCond .eq 5, 3) := by decide +kernel
theorem d187_36 : decode (xmb 187) 36 = .ok (.iconst 0, 1) := by decide +kernel
theorem d187_37 : decode (xmb 187) 37 = .ok (.ireturn, 1) := by decide +kernel
theorem d187_38 : decode (xmb 187) 38 = .ok (.aload_n 0, 1) := by decide +kernel
theorem d187_39 : decode (xmb 187) 39 = .ok (.invokevirtual 281, 3) := by decide +kernel
theorem d187_42 : decode (xmb 187) 42 = .ok (.aload_n 0, 1) := by decide +kernel
theorem d187_43 : decode (xmb 187) 43 = .ok (.getfield 7, 3) := by decide +kernel
theorem d187_46 : decode (xmb 187) 46 = .ok (.iload_n 1, 1) := by decide +kernel
theorem d187_47 : decode (xmb 187) 47 = .ok (.iload_n 2, 1) := by decide +kernel
theorem d187_48 : decode (xmb 187) 48 = .ok (.iload_n 3, 1) := by decide +kernel
theorem d187_49 : decode (xmb 187) 49 = .ok (.invokestatic 199, 3) := by decide +kernel
theorem d187_52 : decode (xmb 187) 52 = .ok (.ireturn, 1) := by decide +kernel
theorem d188_0 : decode (xmb 188) 0 = .ok (.aload_n 0, 1) := by decide +kernel
theorem d188_1 : decode (xmb 188) 1 = .ok (.aload_n 0, 1) := by decide +kernel
theorem d188_2 : decode (xmb 188) 2 = .ok (.getfield 7, 3) := by decide +kernel
theorem d188_5 : decode (xmb 188) 5 = .ok (.iload_n 1, 1) := by decide +kernel
theorem d188_6 : decode (xmb 188) 6 = .ok (.invokestatic 203, 3) := by decide +kernel
theorem d188_9 : decode (xmb 188) 9 = .ok (.ifCond .ne 7, 3) := by decide +kernel
theorem d188_12 : decode (xmb 188) 12 = .ok (.iconst 1, 1) := by decide +kernel
theorem d188_13 : decode (xmb 188) 13 = .ok (.goto 15, 3) := by decide +kernel
theorem d188_16 : decode (xmb 188) 16 = .ok (.iload_n 2, 1) := by decide +kernel
theorem d188_17 : decode (xmb 188) 17 = .ok (.invokestatic 142, 3) := by decide +kernel
theorem d188_20 : decode (xmb 188) 20 = .ok (.ifCond .ne 7, 3) := by decide +kernel
theorem d188_23 : decode (xmb 188) 23 = .ok (.iconst 2, 1) := by decide +kernel
theorem d188_24 : decode (xmb 188) 24 = .ok (.goto 4, 3) := by decide +kernel
theorem d188_27 : decode (xmb 188) 27 = .ok (.iconst 0, 1) := by decide +kernel
theorem d188_28 : decode (xmb 188) 28 = .ok (.invokevirtual 159, 3) := by decide +kernel
theorem d188_31 : decode (xmb 188) 31 = .ok (.ifCond .eq 5, 3) := by decide +kernel
theorem d188_34 : decode (xmb 188) 34 = .ok (.iconst 0, 1) := by decide +kernel
theorem d188_35 : decode (xmb 188) 35 = .ok (.ireturn, 1) := by decide +kernel
theorem d188_36 : decode (xmb 188) 36 = .ok (.aload_n 0, 1) := by decide +kernel
theorem d188_37 : decode (xmb 188) 37 = .ok (.invokevirtual 281, 3) := by decide +kernel
theorem d188_40 : decode (xmb 188) 40 = .ok (.aload_n 0, 1) := by decide +kernel
theorem d188_41 : decode (xmb 188) 41 = .ok (.getfield 7, 3) := by decide +kernel
theorem d188_44 : decode (xmb 188) 44 = .ok (.bipush 16, 2) := by decide +kernel
theorem d188_46 : decode (xmb 188) 46 = .ok (.iload_n 1, 1) := by decide +kernel
theorem d188_47 : decode (xmb 188) 47 = .ok (.iadd, 1) := by decide +kernel
theorem d188_48 : decode (xmb 188) 48 = .ok (.iload_n 2, 1) := by decide +kernel
theorem d188_49 : decode (xmb 188) 49 = .ok (.invokestatic 284, 3) := by decide +kernel
theorem d188_52 : decode (xmb 188) 52 = .ok (.ireturn, 1) := by decide +kernel
theorem d189_0 : decode (xmb 189) 0 = .ok (.aload_n 0, 1) := by decide +kernel
theorem d189_1 : decode (xmb 189) 1 = .ok (.aload_n 0, 1) := by decide +kernel
theorem d189_2 : decode (xmb 189) 2 = .ok (.getfield 7, 3) := by decide +kernel
theorem d189_5 : decode (xmb 189) 5 = .ok (.iload_n 1, 1) := by decide +kernel
theorem d189_6 : decode (xmb 189) 6 = .ok (.invokestatic 203, 3) := by decide +kernel
theorem d189_9 : decode (xmb 189) 9 = .ok (.ifCond .eq 18, 3) := by decide +kernel
theorem d189_12 : decode (xmb 189) 12 = .ok (.aload_n 0, 1) := by decide +kernel
theorem d189_13 : decode (xmb 189) 13 = .ok (.getfield 7, 3) := by decide +kernel
theorem d189_16 : decode (xmb 189) 16 = .ok (.iload_n 2, 1) := by decide +kernel
theorem d189_17 : decode (xmb 189) 17 = .ok (.invokestatic 207, 3) := by decide +kernel
theorem d189_20 : decode (xmb 189) 20 = .ok (.ifCond .eq 7, 3) := by decide +kernel
theorem d189_23 : decode (xmb 189) 23 = .ok (.iconst 0, 1) := by decide +kernel
theorem d189_24 : decode (xmb 189) 24 = .ok (.goto 4, 3) := by decide +kernel
theorem d189_27 : decode (xmb 189) 27 = .ok (.iconst 1, 1) := by decide +kernel
theorem d189_28 : decode (xmb 189) 28 = .ok (.invokevirtual 159, 3) := by decide +kernel
theorem d189_31 : decode (xmb 189) 31 = .ok (.ifCond .eq 5, 3) := by decide +kernel
theorem d189_34 : decode (xmb 189) 34 = .ok (.iconst 0, 1) := by decide +kernel
theorem d189_35 : decode (xmb 189) 35 = .ok (.ireturn, 1) := by decide +kernel
theorem d189_36 : decode (xmb 189) 36 = .ok (.aload_n 0, 1) := by decide +kernel
theorem d189_37 : decode (xmb 189) 37 = .ok (.invokevirtual 281, 3) := by decide +kernel
theorem d189_40 : decode (xmb 189) 40 = .ok (.aload_n 0, 1) := by decide +kernel
theorem d189_41 : decode (xmb 189) 41 = .ok (.getfield 7, 3) := by decide +kernel
theorem d189_44 : decode (xmb 189) 44 = .ok (.iload_n 1, 1) := by decide +kernel
theorem d189_45 : decode (xmb 189) 45 = .ok (.iload_n 2, 1) := by decide +kernel
theorem d189_46 : decode (xmb 189) 46 = .ok (.iload_n 3, 1) := by decide +kernel
theorem d189_47 : decode (xmb 189) 47 = .ok (.invokestatic 210, 3) := by decide +kernel
theorem d189_50 : decode (xmb 189) 50 = .ok (.ireturn, 1) := by decide +kernel
theorem d190_0 : decode (xmb 190) 0 = .ok (.aload_n 0, 1) := by decide +kernel
theorem d190_1 : decode (xmb 190) 1 = .ok (.getfield 7, 3) := by decide +kernel
theorem d190_4 : decode (xmb 190) 4 = .ok (.iload_n 1, 1) := by decide +kernel
theorem d190_5 : decode (xmb 190) 5 = .ok (.invokestatic 203, 3) := by decide +kernel
theorem d190_8 : decode (xmb 190) 8 = .ok (.ifCond .eq 18, 3) := by decide +kernel
theorem d190_11 : decode (xmb 190) 11 = .ok (.aload_n 0, 1) := by decide +kernel
theorem d190_12 : decode (xmb 190) 12 = .ok (.getfield 7, 3) := by decide +kernel
theorem d190_15 : decode (xmb 190) 15 = .ok (.iload_n 2, 1) := by decide +kernel
theorem d190_16 : decode (xmb 190) 16 = .ok (.invokestatic 203, 3) := by decide +kernel
theorem d190_19 : decode (xmb 190) 19 = .ok (.ifCond .eq 7, 3) := by decide +kernel
theorem d190_22 : decode (xmb 190) 22 = .ok (.iconst 1, 1) := by decide +kernel
theorem d190_23 : decode (xmb 190) 23 = .ok (.goto 4, 3) := by decide +kernel
theorem d190_26 : decode (xmb 190) 26 = .ok (.iconst 0, 1) := by decide +kernel
theorem d190_27 : decode (xmb 190) 27 = .ok (.istore 4, 2) := by decide +kernel
theorem d190_29 : decode (xmb 190) 29 = .ok (.aload_n 0, 1) := by decide +kernel
theorem d190_30 : decode (xmb 190) 30 = .ok (.iload 4, 2) := by decide +kernel
theorem d190_32 : decode (xmb 190) 32 = .ok (.ifCond .ne 7, 3) := by decide +kernel
theorem d190_35 : decode (xmb 190) 35 = .ok (.iconst 1, 1) := by decide +kernel
theorem d190_36 : decode (xmb 190) 36 = .ok (.goto 21, 3) := by decide +kernel
theorem d190_39 : decode (xmb 190) 39 = .ok (.aload_n 0, 1) := by decide +kernel
theorem d190_40 : decode (xmb 190) 40 = .ok (.getfield 7, 3) := by decide +kernel
theorem d190_43 : decode (xmb 190) 43 = .ok (.iload_n 1, 1) := by decide +kernel
theorem d190_44 : decode (xmb 190) 44 = .ok (.iload_n 2, 1) := by decide +kernel
theorem d190_45 : decode (xmb 190) 45 = .ok (.iload_n 3, 1) := by decide +kernel
theorem d190_46 : decode (xmb 190) 46 = .ok (.invokestatic 213, 3) := by decide +kernel
theorem d190_49 : decode (xmb 190) 49 = .ok (.ifCond .ne 7, 3) := by decide +kernel
theorem d190_52 : decode (xmb 190) 52 = .ok (.iconst 2, 1) := by decide +kernel
theorem d190_53 : decode (xmb 190) 53 = .ok (.goto 4, 3) := by decide +kernel
theorem d190_56 : decode (xmb 190) 56 = .ok (.iconst 0, 1) := by decide +kernel
theorem d190_57 : decode (xmb 190) 57 = .ok (.invokevirtual 159, 3) := by decide +kernel
theorem d190_60 : decode (xmb 190) 60 = .ok (.ifCond .eq 5, 3) := by decide +kernel
theorem d190_63 : decode (xmb 190) 63 = .ok (.iconst 0, 1) := by decide +kernel
theorem d190_64 : decode (xmb 190) 64 = .ok (.ireturn, 1) := by decide +kernel
theorem d190_65 : decode (xmb 190) 65 = .ok (.aload_n 0, 1) := by decide +kernel
theorem d190_66 : decode (xmb 190) 66 = .ok (.invokevirtual 281, 3) := by decide +kernel
theorem d190_69 : decode (xmb 190) 69 = .ok (.aload_n 0, 1) := by decide +kernel
theorem d190_70 : decode (xmb 190) 70 = .ok (.getfield 7, 3) := by decide +kernel
theorem d190_73 : decode (xmb 190) 73 = .ok (.iload_n 1, 1) := by decide +kernel
theorem d190_74 : decode (xmb 190) 74 = .ok (.iload_n 2, 1) := by decide +kernel
theorem d190_75 : decode (xmb 190) 75 = .ok (.iload_n 3, 1) := by decide +kernel
theorem d190_76 : decode (xmb 190) 76 = .ok (.invokestatic 217, 3) := by decide +kernel
theorem d190_79 : decode (xmb 190) 79 = .ok (.ireturn, 1) := by decide +kernel
theorem d191_0 : decode (xmb 191) 0 = .ok (.aload_n 0, 1) := by decide +kernel
theorem d191_1 : decode (xmb 191) 1 = .ok (.iload_n 1, 1) := by decide +kernel
theorem d191_2 : decode (xmb 191) 2 = .ok (.invokestatic 271, 3) := by decide +kernel
theorem d191_5 : decode (xmb 191) 5 = .ok (.ifCond .ne 7, 3) := by decide +kernel
theorem d191_8 : decode (xmb 191) 8 = .ok (.iconst 1, 1) := by decide +kernel
theorem d191_9 : decode (xmb 191) 9 = .ok (.goto 15, 3) := by decide +kernel
theorem d191_12 : decode (xmb 191) 12 = .ok (.iload_n 2, 1) := by decide +kernel
theorem d191_13 : decode (xmb 191) 13 = .ok (.invokestatic 296, 3) := by decide +kernel
theorem d191_16 : decode (xmb 191) 16 = .ok (.ifCond .ne 7, 3) := by decide +kernel
theorem d191_19 : decode (xmb 191) 19 = .ok (.iconst 2, 1) := by decide +kernel
theorem d191_20 : decode (xmb 191) 20 = .ok (.goto 4, 3) := by decide +kernel
theorem d191_23 : decode (xmb 191) 23 = .ok (.iconst 0, 1) := by decide +kernel
theorem d191_24 : decode (xmb 191) 24 = .ok (.invokevirtual 159, 3) := by decide +kernel
theorem d191_27 : decode (xmb 191) 27 = .ok (.ifCond .eq 5, 3) := by decide +kernel
theorem d191_30 : decode (xmb 191) 30 = .ok (.iconst 0, 1) := by decide +kernel
theorem d191_31 : decode (xmb 191) 31 = .ok (.ireturn, 1) := by decide +kernel
theorem d191_32 : decode (xmb 191) 32 = .ok (.aload_n 0, 1) := by decide +kernel
theorem d191_33 : decode (xmb 191) 33 = .ok (.invokevirtual 281, 3) := by decide +kernel
theorem d191_36 : decode (xmb 191) 36 = .ok (.aload_n 0, 1) := by decide +kernel
theorem d191_37 : decode (xmb 191) 37 = .ok (.getfield 7, 3) := by decide +kernel
theorem d191_40 : decode (xmb 191) 40 = .ok (.bipush 86, 2) := by decide +kernel
theorem d191_42 : decode (xmb 191) 42 = .ok (.iload_n 1, 1) := by decide +kernel
theorem d191_43 : decode (xmb 191) 43 = .ok (.iadd, 1) := by decide +kernel
theorem d191_44 : decode (xmb 191) 44 = .ok (.iload_n 2, 1) := by decide +kernel
theorem d191_45 : decode (xmb 191) 45 = .ok (.invokestatic 284, 3) := by decide +kernel
theorem d191_48 : decode (xmb 191) 48 = .ok (.ireturn, 1) := by decide +kernel
theorem d192_0 : decode (xmb 192) 0 = .ok (.aload_n 0, 1) := by decide +kernel
theorem d192_1 : decode (xmb 192) 1 = .ok (.iload_n 1, 1) := by decide +kernel
theorem d192_2 : decode (xmb 192) 2 = .ok (.iload_n 2, 1) := by decide +kernel
theorem d192_3 : decode (xmb 192) 3 = .ok (.invokestatic 299, 3) := by decide +kernel
theorem d192_6 : decode (xmb 192) 6 = .ok (.ifCond .eq 7, 3) := by decide +kernel
theorem d192_9 : decode (xmb 192) 9 = .ok (.iconst 0, 1) := by decide +kernel
theorem d192_10 : decode (xmb 192) 10 = .ok (.goto 4, 3) := by decide +kernel
theorem d192_13 : decode (xmb 192) 13 = .ok (.iconst 1, 1) := by decide +kernel
theorem d192_14 : decode (xmb 192) 14 = .ok (.invokevirtual 159, 3) := by decide +kernel
theorem d192_17 : decode (xmb 192) 17 = .ok (.ifCond .eq 5, 3) := by decide +kernel
theorem d192_20 : decode (xmb 192) 20 = .ok (.iconst 0, 1) := by decide +kernel
theorem d192_21 : decode (xmb 192) 21 = .ok (.ireturn, 1) := by decide +kernel
theorem d192_22 : decode (xmb 192) 22 = .ok (.aload_n 0, 1) := by decide +kernel
theorem d192_23 : decode (xmb 192) 23 = .ok (.invokevirtual 281, 3) := by decide +kernel
theorem d192_26 : decode (xmb 192) 26 = .ok (.aload_n 0, 1) := by decide +kernel
theorem d192_27 : decode (xmb 192) 27 = .ok (.getfield 7, 3) := by decide +kernel
theorem d192_30 : decode (xmb 192) 30 = .ok (.bipush 90, 2) := by decide +kernel
theorem d192_32 : decode (xmb 192) 32 = .ok (.iload_n 1, 1) := by decide +kernel
theorem d192_33 : decode (xmb 192) 33 = .ok (.iadd, 1) := by decide +kernel
theorem d192_34 : decode (xmb 192) 34 = .ok (.iload_n 2, 1) := by decide +kernel
theorem d192_35 : decode (xmb 192) 35 = .ok (.invokestatic 284, 3) := by decide +kernel
theorem d192_38 : decode (xmb 192) 38 = .ok (.ireturn, 1) := by decide +kernel
theorem d193_0 : decode (xmb 193) 0 = .ok (.aload_n 0, 1) := by decide +kernel
theorem d193_1 : decode (xmb 193) 1 = .ok (.aload_n 0, 1) := by decide +kernel
theorem d193_2 : decode (xmb 193) 2 = .ok (.getfield 151, 3) := by decide +kernel
theorem d193_5 : decode (xmb 193) 5 = .ok (.ifCond .ne 7, 3) := by decide +kernel
theorem d193_8 : decode (xmb 193) 8 = .ok (.iconst 1, 1) := by decide +kernel
theorem d193_9 : decode (xmb 193) 9 = .ok (.goto 4, 3) := by decide +kernel
theorem d193_12 : decode (xmb 193) 12 = .ok (.iconst 0, 1) := by decide +kernel
theorem d193_13 : decode (xmb 193) 13 = .ok (.invokevirtual 159, 3) := by decide +kernel
theorem d193_16 : decode (xmb 193) 16 = .ok (.ifCond .eq 5, 3) := by decide +kernel
theorem d193_19 : decode (xmb 193) 19 = .ok (.iconst 0, 1) := by decide +kernel
theorem d193_20 : decode (xmb 193) 20 = .ok (.ireturn, 1) := by decide +kernel
theorem d193_21 : decode (xmb 193) 21 = .ok (.aload_n 0, 1) := by decide +kernel
theorem d193_22 : decode (xmb 193) 22 = .ok (.dup, 1) := by decide +kernel
theorem d193_23 : decode (xmb 193) 23 = .ok (.getfield 151, 3) := by decide +kernel
theorem d193_26 : decode (xmb 193) 26 = .ok (.iconst 1, 1) := by decide +kernel
theorem d193_27 : decode (xmb 193) 27 = .ok (.isub, 1) := by decide +kernel
theorem d193_28 : decode (xmb 193) 28 = .ok (.putfield 151, 3) := by decide +kernel
theorem d193_31 : decode (xmb 193) 31 = .ok (.iconst 0, 1) := by decide +kernel
theorem d193_32 : decode (xmb 193) 32 = .ok (.istore_n 1, 1) := by decide +kernel
theorem d193_33 : decode (xmb 193) 33 = .ok (.iload_n 1, 1) := by decide +kernel
theorem d193_34 : decode (xmb 193) 34 = .ok (.bipush 95, 2) := by decide +kernel
theorem d193_36 : decode (xmb 193) 36 = .ok (.if_icmp .ge 29, 3) := by decide +kernel
theorem d193_39 : decode (xmb 193) 39 = .ok (.aload_n 0, 1) := by decide +kernel
theorem d193_40 : decode (xmb 193) 40 = .ok (.getfield 7, 3) := by decide +kernel
theorem d193_43 : decode (xmb 193) 43 = .ok (.iload_n 1, 1) := by decide +kernel
theorem d193_44 : decode (xmb 193) 44 = .ok (.aload_n 0, 1) := by decide +kernel
theorem d193_45 : decode (xmb 193) 45 = .ok (.getfield 19, 3) := by decide +kernel
theorem d193_48 : decode (xmb 193) 48 = .ok (.bipush 95, 2) := by decide +kernel
theorem d193_50 : decode (xmb 193) 50 = .ok (.aload_n 0, 1) := by decide +kernel
theorem d193_51 : decode (xmb 193) 51 = .ok (.getfield 151, 3) := by decide +kernel
theorem d193_54 : decode (xmb 193) 54 = .ok (.imul, 1) := by decide +kernel
theorem d193_55 : decode (xmb 193) 55 = .ok (.iload_n 1, 1) := by decide +kernel
theorem d193_56 : decode (xmb 193) 56 = .ok (.iadd, 1) := by decide +kernel
theorem d193_57 : decode (xmb 193) 57 = .ok (.iaload, 1) := by decide +kernel
theorem d193_58 : decode (xmb 193) 58 = .ok (.iastore, 1) := by decide +kernel
theorem d193_59 : decode (xmb 193) 59 = .ok (.iinc 1 1, 3) := by decide +kernel
theorem d193_62 : decode (xmb 193) 62 = .ok (.goto (-29), 3) := by decide +kernel
theorem d193_65 : decode (xmb 193) 65 = .ok (.aload_n 0, 1) := by decide +kernel
theorem d193_66 : decode (xmb 193) 66 = .ok (.getfield 151, 3) := by decide +kernel
theorem d193_69 : decode (xmb 193) 69 = .ok (.ireturn, 1) := by decide +kernel
theorem d194_0 : decode (xmb 194) 0 = .ok (.aload_n 0, 1) := by decide +kernel
theorem d194_1 : decode (xmb 194) 1 = .ok (.iload_n 1, 1) := by decide +kernel
theorem d194_2 : decode (xmb 194) 2 = .ok (.invokestatic 271, 3) := by decide +kernel
theorem d194_5 : decode (xmb 194) 5 = .ok (.ifCond .ne 7, 3) := by decide +kernel
theorem d194_8 : decode (xmb 194) 8 = .ok (.iconst 1, 1) := by decide +kernel
theorem d194_9 : decode (xmb 194) 9 = .ok (.goto 18, 3) := by decide +kernel
theorem d194_12 : decode (xmb 194) 12 = .ok (.iload_n 2, 1) := by decide +kernel
theorem d194_13 : decode (xmb 194) 13 = .ok (.i2l, 1) := by decide +kernel
theorem d194_14 : decode (xmb 194) 14 = .ok (.lconst 0, 1) := by decide +kernel
theorem d194_15 : decode (xmb 194) 15 = .ok (.lconst 1, 1) := by decide +kernel
theorem d194_16 : decode (xmb 194) 16 = .ok (.invokestatic 58, 3) := by decide +kernel
theorem d194_19 : decode (xmb 194) 19 = .ok (.ifCond .ne 7, 3) := by decide +kernel
theorem d194_22 : decode (xmb 194) 22 = .ok (.iconst 2, 1) := by decide +kernel
theorem d194_23 : decode (xmb 194) 23 = .ok (.goto 4, 3) := by decide +kernel
theorem d194_26 : decode (xmb 194) 26 = .ok (.iconst 0, 1) := by decide +kernel
theorem d194_27 : decode (xmb 194) 27 = .ok (.invokevirtual 159, 3) := by decide +kernel
theorem d194_30 : decode (xmb 194) 30 = .ok (.ifCond .eq 5, 3) := by decide +kernel
theorem d194_33 : decode (xmb 194) 33 = .ok (.iconst 0, 1) := by decide +kernel
theorem d194_34 : decode (xmb 194) 34 = .ok (.ireturn, 1) := by decide +kernel
theorem d194_35 : decode (xmb 194) 35 = .ok (.aload_n 0, 1) := by decide +kernel
theorem d194_36 : decode (xmb 194) 36 = .ok (.getfield 7, 3) := by decide +kernel
theorem d194_39 : decode (xmb 194) 39 = .ok (.aload_n 0, 1) := by decide +kernel
theorem d194_40 : decode (xmb 194) 40 = .ok (.getfield 13, 3) := by decide +kernel
theorem d194_43 : decode (xmb 194) 43 = .ok (.invokestatic 242, 3) := by decide +kernel
theorem d194_46 : decode (xmb 194) 46 = .ok (.aload_n 0, 1) := by decide +kernel
theorem d194_47 : decode (xmb 194) 47 = .ok (.getfield 13, 3) := by decide +kernel
theorem d194_50 : decode (xmb 194) 50 = .ok (.bipush 86, 2) := by decide +kernel
theorem d194_52 : decode (xmb 194) 52 = .ok (.iload_n 1, 1) := by decide +kernel
theorem d194_53 : decode (xmb 194) 53 = .ok (.iadd, 1) := by decide +kernel
theorem d194_54 : decode (xmb 194) 54 = .ok (.dup2, 1) := by decide +kernel
theorem d194_55 : decode (xmb 194) 55 = .ok (.iaload, 1) := by decide +kernel
theorem d194_56 : decode (xmb 194) 56 = .ok (.iconst 1, 1) := by decide +kernel
theorem d194_57 : decode (xmb 194) 57 = .ok (.iadd, 1) := by decide +kernel
theorem d194_58 : decode (xmb 194) 58 = .ok (.iastore, 1) := by decide +kernel
theorem d194_59 : decode (xmb 194) 59 = .ok (.iload_n 2, 1) := by decide +kernel
theorem d194_60 : decode (xmb 194) 60 = .ok (.ifCond .ne 14, 3) := by decide +kernel
theorem d194_63 : decode (xmb 194) 63 = .ok (.aload_n 0, 1) := by decide +kernel
theorem d194_64 : decode (xmb 194) 64 = .ok (.aload_n 0, 1) := by decide +kernel
theorem d194_65 : decode (xmb 194) 65 = .ok (.getfield 13, 3) := by decide +kernel
theorem d194_68 : decode (xmb 194) 68 = .ok (.invokevirtual 248, 3) := by decide +kernel
theorem d194_71 : decode (xmb 194) 71 = .ok (.goto 11, 3) := by decide +kernel
theorem d194_74 : decode (xmb 194) 74 = .ok (.aload_n 0, 1) := by decide +kernel
theorem d194_75 : decode (xmb 194) 75 = .ok (.aload_n 0, 1) := by decide +kernel
theorem d194_76 : decode (xmb 194) 76 = .ok (.getfield 13, 3) := by decide +kernel
theorem d194_79 : decode (xmb 194) 79 = .ok (.invokevirtual 251, 3) := by decide +kernel
theorem d194_82 : decode (xmb 194) 82 = .ok (.ireturn, 1) := by decide +kernel
theorem d195_0 : decode (xmb 195) 0 = .ok (.aload_n 0, 1) := by decide +kernel
theorem d195_1 : decode (xmb 195) 1 = .ok (.getfield 7, 3) := by decide +kernel
theorem d195_4 : decode (xmb 195) 4 = .ok (.aload_n 0, 1) := by decide +kernel
theorem d195_5 : decode (xmb 195) 5 = .ok (.getfield 13, 3) := by decide +kernel
theorem d195_8 : decode (xmb 195) 8 = .ok (.invokestatic 242, 3) := by decide +kernel
theorem d195_11 : decode (xmb 195) 11 = .ok (.aload_n 0, 1) := by decide +kernel
theorem d195_12 : decode (xmb 195) 12 = .ok (.getfield 13, 3) := by decide +kernel
theorem d195_15 : decode (xmb 195) 15 = .ok (.bipush 14, 2) := by decide +kernel
theorem d195_17 : decode (xmb 195) 17 = .ok (.iload_n 1, 1) := by decide +kernel
theorem d195_18 : decode (xmb 195) 18 = .ok (.iastore, 1) := by decide +kernel
theorem d195_19 : decode (xmb 195) 19 = .ok (.iload_n 2, 1) := by decide +kernel
theorem d195_20 : decode (xmb 195) 20 = .ok (.ifCond .ne 13, 3) := by decide +kernel
theorem d195_23 : decode (xmb 195) 23 = .ok (.aload_n 0, 1) := by decide +kernel
theorem d195_24 : decode (xmb 195) 24 = .ok (.getfield 13, 3) := by decide +kernel
theorem d195_27 : decode (xmb 195) 27 = .ok (.invokestatic 139, 3) := by decide +kernel
theorem d195_30 : decode (xmb 195) 30 = .ok (.goto 10, 3) := by decide +kernel
theorem d195_33 : decode (xmb 195) 33 = .ok (.aload_n 0, 1) := by decide +kernel
theorem d195_34 : decode (xmb 195) 34 = .ok (.getfield 13, 3) := by decide +kernel
theorem d195_37 : decode (xmb 195) 37 = .ok (.invokestatic 302, 3) := by decide +kernel
theorem d195_40 : decode (xmb 195) 40 = .ok (.ireturn, 1) := by decide +kernel
theorem d196_0 : decode (xmb 196) 0 = .ok (.aload_n 0, 1) := by decide +kernel
theorem d196_1 : decode (xmb 196) 1 = .ok (.iload_n 1, 1) := by decide +kernel
theorem d196_2 : decode (xmb 196) 2 = .ok (.invokestatic 287, 3) := by decide +kernel
theorem d196_5 : decode (xmb 196) 5 = .ok (.ifCond .eq 17, 3) := by decide +kernel
theorem d196_8 : decode (xmb 196) 8 = .ok (.iload_n 2, 1) := by decide +kernel
theorem d196_9 : decode (xmb 196) 9 = .ok (.i2l, 1) := by decide +kernel
theorem d196_10 : decode (xmb 196) 10 = .ok (.lconst 0, 1) := by decide +kernel
theorem d196_11 : decode (xmb 196) 11 = .ok (.lconst 1, 1) := by decide +kernel
theorem d196_12 : decode (xmb 196) 12 = .ok (.invokestatic 58, 3) := by decide +kernel
theorem d196_15 : decode (xmb 196) 15 = .ok (.ifCond .eq 7, 3) := by decide +kernel
theorem d196_18 : decode (xmb 196) 18 = .ok (.iconst 0, 1) := by decide +kernel
theorem d196_19 : decode (xmb 196) 19 = .ok (.goto 4, 3) := by decide +kernel
theorem d196_22 : decode (xmb 196) 22 = .ok (.iconst 1, 1) := by decide +kernel
theorem d196_23 : decode (xmb 196) 23 = .ok (.invokevirtual 159, 3) := by decide +kernel
theorem d196_26 : decode (xmb 196) 26 = .ok (.ifCond .eq 5, 3) := by decide +kernel
theorem d196_29 : decode (xmb 196) 29 = .ok (.iconst 0, 1) := by decide +kernel
theorem d196_30 : decode (xmb 196) 30 = .ok (.ireturn, 1) := by decide +kernel
theorem d196_31 : decode (xmb 196) 31 = .ok (.aload_n 0, 1) := by decide +kernel
theorem d196_32 : decode (xmb 196) 32 = .ok (.iload_n 1, 1) := by decide +kernel
theorem d196_33 : decode (xmb 196) 33 = .ok (.iload_n 2, 1) := by decide +kernel
theorem d196_34 : decode (xmb 196) 34 = .ok (.invokevirtual 305, 3) := by decide +kernel
theorem d196_37 : decode (xmb 196) 37 = .ok (.ireturn, 1) := by decide +kernel
theorem d197_0 : decode (xmb 197) 0 = .ok (.aload_n 0, 1) := by decide +kernel
theorem d197_1 : decode (xmb 197) 1 = .ok (.aload_n 0, 1) := by decide +kernel
theorem d197_2 : decode (xmb 197) 2 = .ok (.getfield 7, 3) := by decide +kernel
theorem d197_5 : decode (xmb 197) 5 = .ok (.iload_n 1, 1) := by decide +kernel
theorem d197_6 : decode (xmb 197) 6 = .ok (.invokestatic 203, 3) := by decide +kernel
theorem d197_9 : decode (xmb 197) 9 = .ok (.ifCond .eq 7, 3) := by decide +kernel
theorem d197_12 : decode (xmb 197) 12 = .ok (.iconst 0, 1) := by decide +kernel
theorem d197_13 : decode (xmb 197) 13 = .ok (.goto 4, 3) := by decide +kernel
theorem d197_16 : decode (xmb 197) 16 = .ok (.iconst 1, 1) := by decide +kernel
theorem d197_17 : decode (xmb 197) 17 = .ok (.invokevirtual 159, 3) := by decide +kernel
theorem d197_20 : decode (xmb 197) 20 = .ok (.ifCond .eq 5, 3) := by decide +kernel
theorem d197_23 : decode (xmb 197) 23 = .ok (.iconst 0, 1) := by decide +kernel
theorem d197_24 : decode (xmb 197) 24 = .ok (.ireturn, 1) := by decide +kernel
theorem d197_25 : decode (xmb 197) 25 = .ok (.aload_n 0, 1) := by decide +kernel
theorem d197_26 : decode (xmb 197) 26 = .ok (.aload_n 0, 1) := by decide +kernel
theorem d197_27 : decode (xmb 197) 27 = .ok (.getfield 7, 3) := by decide +kernel
theorem d197_30 : decode (xmb 197) 30 = .ok (.invokevirtual 248, 3) := by decide +kernel
theorem d197_33 : decode (xmb 197) 33 = .ok (.istore_n 2, 1) := by decide +kernel
theorem d197_34 : decode (xmb 197) 34 = .ok (.aload_n 0, 1) := by decide +kernel
theorem d197_35 : decode (xmb 197) 35 = .ok (.getfield 29, 3) := by decide +kernel
theorem d197_38 : decode (xmb 197) 38 = .ok (.iload_n 1, 1) := by decide +kernel
theorem d197_39 : decode (xmb 197) 39 = .ok (.iaload, 1) := by decide +kernel
theorem d197_40 : decode (xmb 197) 40 = .ok (.iconst (-1), 1) := by decide +kernel
theorem d197_41 : decode (xmb 197) 41 = .ok (.if_icmp .ne 5, 3) := by decide +kernel
theorem d197_44 : decode (xmb 197) 44 = .ok (.iconst (-1), 1) := by decide +kernel
theorem d197_45 : decode (xmb 197) 45 = .ok (.ireturn, 1) := by decide +kernel
theorem d197_46 : decode (xmb 197) 46 = .ok (.aload_n 0, 1) := by decide +kernel
theorem d197_47 : decode (xmb 197) 47 = .ok (.getfield 7, 3) := by decide +kernel
theorem d197_50 : decode (xmb 197) 50 = .ok (.aload_n 0, 1) := by decide +kernel
theorem d197_51 : decode (xmb 197) 51 = .ok (.getfield 13, 3) := by decide +kernel
theorem d197_54 : decode (xmb 197) 54 = .ok (.invokestatic 242, 3) := by decide +kernel
theorem d197_57 : decode (xmb 197) 57 = .ok (.iconst 0, 1) := by decide +kernel
theorem d197_58 : decode (xmb 197) 58 = .ok (.istore_n 3, 1) := by decide +kernel
theorem d197_59 : decode (xmb 197) 59 = .ok (.iconst 1, 1) := by decide +kernel
theorem d197_60 : decode (xmb 197) 60 = .ok (.istore 4, 2) := by decide +kernel
theorem d197_62 : decode (xmb 197) 62 = .ok (.iload 4, 2) := by decide +kernel
theorem d197_64 : decode (xmb 197) 64 = .ok (.ifCond .eq 66, 3) := by decide +kernel
theorem d197_67 : decode (xmb 197) 67 = .ok (.iload_n 3, 1) := by decide +kernel
theorem d197_68 : decode (xmb 197) 68 = .ok (.bipush 60, 2) := by decide +kernel
theorem d197_70 : decode (xmb 197) 70 = .ok (.if_icmp .ge 60, 3) := by decide +kernel
theorem d197_73 : decode (xmb 197) 73 = .ok (.aload_n 0, 1) := by decide +kernel
theorem d197_74 : decode (xmb 197) 74 = .ok (.getfield 13, 3) := by decide +kernel
theorem d197_77 : decode (xmb 197) 77 = .ok (.bipush 16, 2) := by decide +kernel
theorem d197_79 : decode (xmb 197) 79 = .ok (.iload_n 1, 1) := by decide +kernel
theorem d197_80 : decode (xmb 197) 80 = .ok (.iadd, 1) := by decide +kernel
theorem d197_81 : decode (xmb 197) 81 = .ok (.aload_n 0, 1) := by decide +kernel
theorem d197_82 : decode (xmb 197) 82 = .ok (.getfield 7, 3) := by decide +kernel
theorem d197_85 : decode (xmb 197) 85 = .ok (.bipush 16, 2) := by decide +kernel
theorem d197_87 : decode (xmb 197) 87 = .ok (.iload_n 1, 1) := by decide +kernel
theorem d197_88 : decode (xmb 197) 88 = .ok (.iadd, 1) := by decide +kernel
theorem d197_89 : decode (xmb 197) 89 = .ok (.iaload, 1) := by decide +kernel
theorem d197_90 : decode (xmb 197) 90 = .ok (.iload_n 3, 1) := by decide +kernel
theorem d197_91 : decode (xmb 197) 91 = .ok (.iadd, 1) := by decide +kernel
theorem d197_92 : decode (xmb 197) 92 = .ok (.iconst 1, 1) := by decide +kernel
theorem d197_93 : decode (xmb 197) 93 = .ok (.iadd, 1) := by decide +kernel
theorem d197_94 : decode (xmb 197) 94 = .ok (.iastore, 1) := by decide +kernel
theorem d197_95 : decode (xmb 197) 95 = .ok (.aload_n 0, 1) := by decide +kernel
theorem d197_96 : decode (xmb 197) 96 = .ok (.aload_n 0, 1) := by decide +kernel
theorem d197_97 : decode (xmb 197) 97 = .ok (.getfield 13, 3) := by decide +kernel
theorem d197_100 : decode (xmb 197) 100 = .ok (.invokevirtual 248, 3) := by decide +kernel
theorem d197_103 : decode (xmb 197) 103 = .ok (.iload_n 2, 1) := by decide +kernel
theorem d197_104 : decode (xmb 197) 104 = .ok (.if_icmp .gt 7, 3) := by decide +kernel
theorem d197_107 : decode (xmb 197) 107 = .ok (.iconst 1, 1) := by decide +kernel
theorem d197_108 : decode (xmb 197) 108 = .ok (.goto 4, 3) := by decide +kernel
theorem d197_111 : decode (xmb 197) 111 = .ok (.iconst 0, 1) := by decide +kernel
theorem d197_112 : decode (xmb 197) 112 = .ok (.istore 4, 2) := by decide +kernel
theorem d197_114 : decode (xmb 197) 114 = .ok (.iload_n 3, 1) := by decide +kernel
theorem d197_115 : decode (xmb 197) 115 = .ok (.iload 4, 2) := by decide +kernel
theorem d197_117 : decode (xmb 197) 117 = .ok (.ifCond .eq 7, 3) := by decide +kernel
theorem d197_120 : decode (xmb 197) 120 = .ok (.iconst 1, 1) := by decide +kernel
theorem d197_121 : decode (xmb 197) 121 = .ok (.goto 4, 3) := by decide +kernel
theorem d197_124 : decode (xmb 197) 124 = .ok (.iconst 0, 1) := by decide +kernel
theorem d197_125 : decode (xmb 197) 125 = .ok (.iadd, 1) := by decide +kernel
theorem d197_126 : decode (xmb 197) 126 = .ok (.istore_n 3, 1) := by decide +kernel
theorem d197_127 : decode (xmb 197) 127 = .ok (.goto (-65), 3) := by decide +kernel
theorem d197_130 : decode (xmb 197) 130 = .ok (.iload_n 3, 1) := by decide +kernel
theorem d197_131 : decode (xmb 197) 131 = .ok (.ireturn, 1) := by decide +kernel
theorem d198_0 : decode (xmb 198) 0 = .ok (.aload_n 0, 1) := by decide +kernel
theorem d198_1 : decode (xmb 198) 1 = .ok (.iconst 0, 1) := by decide +kernel
theorem d198_2 : decode (xmb 198) 2 = .ok (.putfield 48, 3) := by decide +kernel
theorem d198_5 : decode (xmb 198) 5 = .ok (.iconst (-1), 1) := by decide +kernel
theorem d198_6 : decode (xmb 198) 6 = .ok (.istore_n 1, 1) := by decide +kernel
theorem d198_7 : decode (xmb 198) 7 = .ok (.iconst 0, 1) := by decide +kernel
theorem d198_8 : decode (xmb 198) 8 = .ok (.istore_n 2, 1) := by decide +kernel
theorem d198_9 : decode (xmb 198) 9 = .ok (.iconst 0, 1) := by decide +kernel
theorem d198_10 : decode (xmb 198) 10 = .ok (.istore_n 3, 1) := by decide +kernel
theorem d198_11 : decode (xmb 198) 11 = .ok (.iconst 0, 1) := by decide +kernel
theorem d198_12 : decode (xmb 198) 12 = .ok (.istore 4, 2) := by decide +kernel
theorem d198_14 : decode (xmb 198) 14 = .ok (.iload 4, 2) := by decide +kernel
theorem d198_16 : decode (xmb 198) 16 = .ok (.iconst 4, 1) := by decide +kernel
theorem d198_17 : decode (xmb 198) 17 = .ok (.if_icmp .ge 119, 3) := by decide +kernel
theorem d198_20 : decode (xmb 198) 20 = .ok (.aload_n 0, 1) := by decide +kernel
theorem d198_21 : decode (xmb 198) 21 = .ok (.getfield 7, 3) := by decide +kernel
theorem d198_24 : decode (xmb 198) 24 = .ok (.aload_n 0, 1) := by decide +kernel
theorem d198_25 : decode (xmb 198) 25 = .ok (.getfield 13, 3) := by decide +kernel
theorem d198_28 : decode (xmb 198) 28 = .ok (.invokestatic 242, 3) := by decide +kernel
theorem d198_31 : decode (xmb 198) 31 = .ok (.aload_n 0, 1) := by decide +kernel
theorem d198_32 : decode (xmb 198) 32 = .ok (.getfield 13, 3) := by decide +kernel
theorem d198_35 : decode (xmb 198) 35 = .ok (.bipush 94, 2) := by decide +kernel
theorem d198_37 : decode (xmb 198) 37 = .ok (.iload 4, 2) := by decide +kernel
theorem d198_39 : decode (xmb 198) 39 = .ok (.iastore, 1) := by decide +kernel
theorem d198_40 : decode (xmb 198) 40 = .ok (.aload_n 0, 1) := by decide +kernel
theorem d198_41 : decode (xmb 198) 41 = .ok (.aload_n 0, 1) := by decide +kernel
theorem d198_42 : decode (xmb 198) 42 = .ok (.getfield 13, 3) := by decide +kernel
theorem d198_45 : decode (xmb 198) 45 = .ok (.invokevirtual 248, 3) := by decide +kernel
theorem d198_48 : decode (xmb 198) 48 = .ok (.istore 5, 2) := by decide +kernel
theorem d198_50 : decode (xmb 198) 50 = .ok (.aload_n 0, 1) := by decide +kernel
theorem d198_51 : decode (xmb 198) 51 = .ok (.getfield 13, 3) := by decide +kernel
theorem d198_54 : decode (xmb 198) 54 = .ok (.bipush 15, 2) := by decide +kernel
theorem d198_56 : decode (xmb 198) 56 = .ok (.iaload, 1) := by decide +kernel
theorem d198_57 : decode (xmb 198) 57 = .ok (.aload_n 0, 1) := by decide +kernel
theorem d198_58 : decode (xmb 198) 58 = .ok (.getfield 127, 3) := by decide +kernel
theorem d198_61 : decode (xmb 198) 61 = .ok (.isub, 1) := by decide +kernel
theorem d198_62 : decode (xmb 198) 62 = .ok (.istore 6, 2) := by decide +kernel
theorem d198_64 : decode (xmb 198) 64 = .ok (.iload_n 1, 1) := by decide +kernel
theorem d198_65 : decode (xmb 198) 65 = .ok (.iconst (-1), 1) := by decide +kernel
theorem d198_66 : decode (xmb 198) 66 = .ok (.if_icmp .eq 21, 3) := by decide +kernel
theorem d198_69 : decode (xmb 198) 69 = .ok (.iload 6, 2) := by decide +kernel
theorem d198_71 : decode (xmb 198) 71 = .ok (.iload_n 2, 1) := by decide +kernel
theorem d198_72 : decode (xmb 198) 72 = .ok (.if_icmp .lt 15, 3) := by decide +kernel
theorem d198_75 : decode (xmb 198) 75 = .ok (.iload 6, 2) := by decide +kernel
theorem d198_77 : decode (xmb 198) 77 = .ok (.iload_n 2, 1) := by decide +kernel
theorem d198_78 : decode (xmb 198) 78 = .ok (.if_icmp .ne 13, 3) := by decide +kernel
theorem d198_81 : decode (xmb 198) 81 = .ok (.iload 5, 2) := by decide +kernel
theorem d198_83 : decode (xmb 198) 83 = .ok (.iload_n 3, 1) := by decide +kernel
theorem d198_84 : decode (xmb 198) 84 = .ok (.if_icmp .ge 7, 3) := by decide +kernel
theorem d198_87 : decode (xmb 198) 87 = .ok (.iconst 1, 1) := by decide +kernel
theorem d198_88 : decode (xmb 198) 88 = .ok (.goto 4, 3) := by decide +kernel
theorem d198_91 : decode (xmb 198) 91 = .ok (.iconst 0, 1) := by decide +kernel
theorem d198_92 : decode (xmb 198) 92 = .ok (.istore 7, 2) := by decide +kernel
theorem d198_94 : decode (xmb 198) 94 = .ok (.iload 7, 2) := by decide +kernel
theorem d198_96 : decode (xmb 198) 96 = .ok (.ifCond .eq 8, 3) := by decide +kernel
theorem d198_99 : decode (xmb 198) 99 = .ok (.iload 4, 2) := by decide +kernel
theorem d198_101 : decode (xmb 198) 101 = .ok (.goto 4, 3) := by decide +kernel
theorem d198_104 : decode (xmb 198) 104 = .ok (.iload_n 1, 1) := by decide +kernel
theorem d198_105 : decode (xmb 198) 105 = .ok (.istore_n 1, 1) := by decide +kernel
theorem d198_106 : decode (xmb 198) 106 = .ok (.iload 7, 2) := by decide +kernel
theorem d198_108 : decode (xmb 198) 108 = .ok (.ifCond .eq 8, 3) := by decide +kernel
theorem d198_111 : decode (xmb 198) 111 = .ok (.iload 6, 2) := by decide +kernel
theorem d198_113 : decode (xmb 198) 113 = .ok (.goto 4, 3) := by decide +kernel
theorem d198_116 : decode (xmb 198) 116 = .ok (.iload_n 2, 1) := by decide +kernel
theorem d198_117 : decode (xmb 198) 117 = .ok (.istore_n 2, 1) := by decide +kernel
theorem d198_118 : decode (xmb 198) 118 = .ok (.iload 7, 2) := by decide +kernel
theorem d198_120 : decode (xmb 198) 120 = .ok (.ifCond .eq 8, 3) := by decide +kernel
theorem d198_123 : decode (xmb 198) 123 = .ok (.iload 5, 2) := by decide +kernel
theorem d198_125 : decode (xmb 198) 125 = .ok (.goto 4, 3) := by decide +kernel
theorem d198_128 : decode (xmb 198) 128 = .ok (.iload_n 3, 1) := by decide +kernel
theorem d198_129 : decode (xmb 198) 129 = .ok (.istore_n 3, 1) := by decide +kernel
theorem d198_130 : decode (xmb 198) 130 = .ok (.iinc 4 1, 3) := by decide +kernel
theorem d198_133 : decode (xmb 198) 133 = .ok (.goto (-119), 3) := by decide +kernel
theorem d198_136 : decode (xmb 198) 136 = .ok (.iload_n 1, 1) := by decide +kernel
theorem d198_137 : decode (xmb 198) 137 = .ok (.ireturn, 1) := by decide +kernel
theorem d199_0 : decode (xmb 199) 0 = .ok (.aload_n 0, 1) := by decide +kernel
theorem d199_1 : decode (xmb 199) 1 = .ok (.iload_n 1, 1) := by decide +kernel
theorem d199_2 : decode (xmb 199) 2 = .ok (.invokestatic 287, 3) := by decide +kernel
theorem d199_5 : decode (xmb 199) 5 = .ok (.ifCond .eq 19, 3) := by decide +kernel
theorem d199_8 : decode (xmb 199) 8 = .ok (.iload_n 2, 1) := by decide +kernel
theorem d199_9 : decode (xmb 199) 9 = .ok (.invokestatic 287, 3) := by decide +kernel
theorem d199_12 : decode (xmb 199) 12 = .ok (.ifCond .eq 12, 3) := by decide +kernel
theorem d199_15 : decode (xmb 199) 15 = .ok (.iload_n 2, 1) := by decide +kernel
theorem d199_16 : decode (xmb 199) 16 = .ok (.iload_n 1, 1) := by decide +kernel
theorem d199_17 : decode (xmb 199) 17 = .ok (.if_icmp .lt 7, 3) := by decide +kernel
theorem d199_20 : decode (xmb 199) 20 = .ok (.iconst 0, 1) := by decide +kernel
theorem d199_21 : decode (xmb 199) 21 = .ok (.goto 4, 3) := by decide +kernel
theorem d199_24 : decode (xmb 199) 24 = .ok (.iconst 1, 1) := by decide +kernel
theorem d199_25 : decode (xmb 199) 25 = .ok (.invokevirtual 159, 3) := by decide +kernel
theorem d199_28 : decode (xmb 199) 28 = .ok (.ifCond .eq 5, 3) := by decide +kernel
theorem d199_31 : decode (xmb 199) 31 = .ok (.iconst 0, 1) := by decide +kernel
theorem d199_32 : decode (xmb 199) 32 = .ok (.ireturn, 1) := by decide +kernel
theorem d199_33 : decode (xmb 199) 33 = .ok (.iconst (-1), 1) := by decide +kernel
theorem d199_34 : decode (xmb 199) 34 = .ok (.istore_n 3, 1) := by decide +kernel
theorem d199_35 : decode (xmb 199) 35 = .ok (.iconst 0, 1) := by decide +kernel
theorem d199_36 : decode (xmb 199) 36 = .ok (.istore 4, 2) := by decide +kernel
theorem d199_38 : decode (xmb 199) 38 = .ok (.iload_n 1, 1) := by decide +kernel
theorem d199_39 : decode (xmb 199) 39 = .ok (.istore 5, 2) := by decide +kernel
theorem d199_41 : decode (xmb 199) 41 = .ok (.iload 5, 2) := by decide +kernel
theorem d199_43 : decode (xmb 199) 43 = .ok (.iload_n 2, 1) := by decide +kernel
theorem d199_44 : decode (xmb 199) 44 = .ok (.if_icmp .gt 63, 3) := by decide +kernel
theorem d199_47 : decode (xmb 199) 47 = .ok (.aload_n 0, 1) := by decide +kernel
theorem d199_48 : decode (xmb 199) 48 = .ok (.iload 5, 2) := by decide +kernel
theorem d199_50 : decode (xmb 199) 50 = .ok (.iconst 1, 1) := by decide +kernel
theorem d199_51 : decode (xmb 199) 51 = .ok (.invokevirtual 305, 3) := by decide +kernel
theorem d199_54 : decode (xmb 199) 54 = .ok (.istore 6, 2) := by decide +kernel
theorem d199_56 : decode (xmb 199) 56 = .ok (.iload_n 3, 1) := by decide +kernel
theorem d199_57 : decode (xmb 199) 57 = .ok (.iconst (-1), 1) := by decide +kernel
theorem d199_58 : decode (xmb 199) 58 = .ok (.if_icmp .eq 10, 3) := by decide +kernel
theorem d199_61 : decode (xmb 199) 61 = .ok (.iload 6, 2) := by decide +kernel
theorem d199_63 : decode (xmb 199) 63 = .ok (.iload 4, 2) := by decide +kernel
theorem d199_65 : decode (xmb 199) 65 = .ok (.if_icmp .ge 7, 3) := by decide +kernel
theorem d199_68 : decode (xmb 199) 68 = .ok (.iconst 1, 1) := by decide +kernel
theorem d199_69 : decode (xmb 199) 69 = .ok (.goto 4, 3) := by decide +kernel
theorem d199_72 : decode (xmb 199) 72 = .ok (.iconst 0, 1) := by decide +kernel
theorem d199_73 : decode (xmb 199) 73 = .ok (.istore 7, 2) := by decide +kernel
theorem d199_75 : decode (xmb 199) 75 = .ok (.iload 7, 2) := by decide +kernel
theorem d199_77 : decode (xmb 199) 77 = .ok (.ifCond .eq 8, 3) := by decide +kernel
theorem d199_80 : decode (xmb 199) 80 = .ok (.iload 5, 2) := by decide +kernel
theorem d199_82 : decode (xmb 199) 82 = .ok (.goto 4, 3) := by decide +kernel
theorem d199_85 : decode (xmb 199) 85 = .ok (.iload_n 3, 1) := by decide +kernel
theorem d199_86 : decode (xmb 199) 86 = .ok (.istore_n 3, 1) := by decide +kernel
theorem d199_87 : decode (xmb 199) 87 = .ok (.iload 7, 2) := by decide +kernel
theorem d199_89 : decode (xmb 199) 89 = .ok (.ifCond .eq 8, 3) := by decide +kernel
theorem d199_92 : decode (xmb 199) 92 = .ok (.iload 6, 2) := by decide +kernel
theorem d199_94 : decode (xmb 199) 94 = .ok (.goto 5, 3) := by decide +kernel
theorem d199_97 : decode (xmb 199) 97 = .ok (.iload 4, 2) := by decide +kernel
theorem d199_99 : decode (xmb 199) 99 = .ok (.istore 4, 2) := by decide +kernel
theorem d199_101 : decode (xmb 199) 101 = .ok (.iinc 5 1, 3) := by decide +kernel
theorem d199_104 : decode (xmb 199) 104 = .ok (.goto (-63), 3) := by decide +kernel
theorem d199_107 : decode (xmb 199) 107 = .ok (.iload_n 3, 1) := by decide +kernel
theorem d199_108 : decode (xmb 199) 108 = .ok (.ireturn, 1) := by decide +kernel
theorem d200_0 : decode (xmb 200) 0 = .ok (.iload_n 1, 1) := by decide +kernel
theorem d200_1 : decode (xmb 200) 1 = .ok (.invokestatic 287, 3) := by decide +kernel
theorem d200_4 : decode (xmb 200) 4 = .ok (.ifCond .eq 26, 3) := by decide +kernel
theorem d200_7 : decode (xmb 200) 7 = .ok (.iload_n 2, 1) := by decide +kernel
theorem d200_8 : decode (xmb 200) 8 = .ok (.invokestatic 287, 3) := by decide +kernel
theorem d200_11 : decode (xmb 200) 11 = .ok (.ifCond .eq 19, 3) := by decide +kernel
theorem d200_14 : decode (xmb 200) 14 = .ok (.aload_n 0, 1) := by decide +kernel
theorem d200_15 : decode (xmb 200) 15 = .ok (.getfield 13, 3) := by decide +kernel
theorem d200_18 : decode (xmb 200) 18 = .ok (.iload_n 1, 1) := by decide +kernel
theorem d200_19 : decode (xmb 200) 19 = .ok (.iload_n 2, 1) := by decide +kernel
theorem d200_20 : decode (xmb 200) 20 = .ok (.invokestatic 290, 3) := by decide +kernel
theorem d200_23 : decode (xmb 200) 23 = .ok (.ifCond .lt 7, 3) := by decide +kernel
theorem d200_26 : decode (xmb 200) 26 = .ok (.iconst 1, 1) := by decide +kernel
theorem d200_27 : decode (xmb 200) 27 = .ok (.goto 4, 3) := by decide +kernel
theorem d200_30 : decode (xmb 200) 30 = .ok (.iconst 0, 1) := by decide +kernel
theorem d200_31 : decode (xmb 200) 31 = .ok (.ireturn, 1) := by decide +kernel
theorem d201_0 : decode (xmb 201) 0 = .ok (.aload_n 0, 1) := by decide +kernel
theorem d201_1 : decode (xmb 201) 1 = .ok (.getfield 13, 3) := by decide +kernel
theorem d201_4 : decode (xmb 201) 4 = .ok (.iload_n 1, 1) := by decide +kernel
theorem d201_5 : decode (xmb 201) 5 = .ok (.invokestatic 203, 3) := by decide +kernel
theorem d201_8 : decode (xmb 201) 8 = .ok (.ifCond .eq 29, 3) := by decide +kernel
theorem d201_11 : decode (xmb 201) 11 = .ok (.iload_n 2, 1) := by decide +kernel
theorem d201_12 : decode (xmb 201) 12 = .ok (.invokestatic 142, 3) := by decide +kernel
theorem d201_15 : decode (xmb 201) 15 = .ok (.ifCond .eq 22, 3) := by decide +kernel
theorem d201_18 : decode (xmb 201) 18 = .ok (.aload_n 0, 1) := by decide +kernel
theorem d201_19 : decode (xmb 201) 19 = .ok (.getfield 13, 3) := by decide +kernel
theorem d201_22 : decode (xmb 201) 22 = .ok (.bipush 16, 2) := by decide +kernel
theorem d201_24 : decode (xmb 201) 24 = .ok (.iload_n 1, 1) := by decide +kernel
theorem d201_25 : decode (xmb 201) 25 = .ok (.iadd, 1) := by decide +kernel
theorem d201_26 : decode (xmb 201) 26 = .ok (.iload_n 2, 1) := by decide +kernel
theorem d201_27 : decode (xmb 201) 27 = .ok (.invokestatic 284, 3) := by decide +kernel
theorem d201_30 : decode (xmb 201) 30 = .ok (.ifCond .le 7, 3) := by decide +kernel
theorem d201_33 : decode (xmb 201) 33 = .ok (.iconst 1, 1) := by decide +kernel
theorem d201_34 : decode (xmb 201) 34 = .ok (.goto 4, 3) := by decide +kernel
theorem d201_37 : decode (xmb 201) 37 = .ok (.iconst 0, 1) := by decide +kernel
theorem d201_38 : decode (xmb 201) 38 = .ok (.ireturn, 1) := by decide +kernel
theorem d202_0 : decode (xmb 202) 0 = .ok (.aload_n 0, 1) := by decide +kernel
theorem d202_1 : decode (xmb 202) 1 = .ok (.getfield 13, 3) := by decide +kernel
theorem d202_4 : decode (xmb 202) 4 = .ok (.iload_n 1, 1) := by decide +kernel
theorem d202_5 : decode (xmb 202) 5 = .ok (.invokestatic 203, 3) := by decide +kernel
theorem d202_8 : decode (xmb 202) 8 = .ok (.ifCond .eq 18, 3) := by decide +kernel
theorem d202_11 : decode (xmb 202) 11 = .ok (.aload_n 0, 1) := by decide +kernel
theorem d202_12 : decode (xmb 202) 12 = .ok (.getfield 13, 3) := by decide +kernel
theorem d202_15 : decode (xmb 202) 15 = .ok (.iload_n 2, 1) := by decide +kernel
theorem d202_16 : decode (xmb 202) 16 = .ok (.invokestatic 203, 3) := by decide +kernel
theorem d202_19 : decode (xmb 202) 19 = .ok (.ifCond .eq 7, 3) := by decide +kernel
theorem d202_22 : decode (xmb 202) 22 = .ok (.iconst 1, 1) := by decide +kernel
theorem d202_23 : decode (xmb 202) 23 = .ok (.goto 4, 3) := by decide +kernel
theorem d202_26 : decode (xmb 202) 26 = .ok (.iconst 0, 1) := by decide +kernel
theorem d202_27 : decode (xmb 202) 27 = .ok (.istore 4, 2) := by decide +kernel
theorem d202_29 : decode (xmb 202) 29 = .ok (.iload 4, 2) := by decide +kernel
theorem d202_31 : decode (xmb 202) 31 = .ok (.ifCond .eq 33, 3) := by decide +kernel
theorem d202_34 : decode (xmb 202) 34 = .ok (.aload_n 0, 1) := by decide +kernel
theorem d202_35 : decode (xmb 202) 35 = .ok (.getfield 13, 3) := by decide +kernel
theorem d202_38 : decode (xmb 202) 38 = .ok (.iload_n 1, 1) := by decide +kernel
theorem d202_39 : decode (xmb 202) 39 = .ok (.iload_n 2, 1) := by decide +kernel
theorem d202_40 : decode (xmb 202) 40 = .ok (.iload_n 3, 1) := by decide +kernel
theorem d202_41 : decode (xmb 202) 41 = .ok (.invokestatic 213, 3) := by decide +kernel
theorem d202_44 : decode (xmb 202) 44 = .ok (.ifCond .eq 20, 3) := by decide +kernel
theorem d202_47 : decode (xmb 202) 47 = .ok (.aload_n 0, 1) := by decide +kernel
theorem d202_48 : decode (xmb 202) 48 = .ok (.getfield 13, 3) := by decide +kernel
theorem d202_51 : decode (xmb 202) 51 = .ok (.iload_n 1, 1) := by decide +kernel
theorem d202_52 : decode (xmb 202) 52 = .ok (.iload_n 2, 1) := by decide +kernel
theorem d202_53 : decode (xmb 202) 53 = .ok (.iload_n 3, 1) := by decide +kernel
theorem d202_54 : decode (xmb 202) 54 = .ok (.invokestatic 217, 3) := by decide +kernel
theorem d202_57 : decode (xmb 202) 57 = .ok (.ifCond .lt 7, 3) := by decide +kernel
theorem d202_60 : decode (xmb 202) 60 = .ok (.iconst 1, 1) := by decide +kernel
theorem d202_61 : decode (xmb 202) 61 = .ok (.goto 4, 3) := by decide +kernel
theorem d202_64 : decode (xmb 202) 64 = .ok (.iconst 0, 1) := by decide +kernel
theorem d202_65 : decode (xmb 202) 65 = .ok (.ireturn, 1) := by decide +kernel
theorem d203_0 : decode (xmb 203) 0 = .ok (.iload_n 1, 1) := by decide +kernel
theorem d203_1 : decode (xmb 203) 1 = .ok (.invokestatic 271, 3) := by decide +kernel
theorem d203_4 : decode (xmb 203) 4 = .ok (.ifCond .eq 29, 3) := by decide +kernel
theorem d203_7 : decode (xmb 203) 7 = .ok (.iload_n 2, 1) := by decide +kernel
theorem d203_8 : decode (xmb 203) 8 = .ok (.invokestatic 296, 3) := by decide +kernel
theorem d203_11 : decode (xmb 203) 11 = .ok (.ifCond .eq 22, 3) := by decide +kernel
theorem d203_14 : decode (xmb 203) 14 = .ok (.aload_n 0, 1) := by decide +kernel
theorem d203_15 : decode (xmb 203) 15 = .ok (.getfield 13, 3) := by decide +kernel
theorem d203_18 : decode (xmb 203) 18 = .ok (.bipush 86, 2) := by decide +kernel
theorem d203_20 : decode (xmb 203) 20 = .ok (.iload_n 1, 1) := by decide +kernel
theorem d203_21 : decode (xmb 203) 21 = .ok (.iadd, 1) := by decide +kernel
theorem d203_22 : decode (xmb 203) 22 = .ok (.iload_n 2, 1) := by decide +kernel
theorem d203_23 : decode (xmb 203) 23 = .ok (.invokestatic 284, 3) := by decide +kernel
theorem d203_26 : decode (xmb 203) 26 = .ok (.ifCond .lt 7, 3) := by decide +kernel
theorem d203_29 : decode (xmb 203) 29 = .ok (.iconst 1, 1) := by decide +kernel
theorem d203_30 : decode (xmb 203) 30 = .ok (.goto 4, 3) := by decide +kernel
theorem d203_33 : decode (xmb 203) 33 = .ok (.iconst 0, 1) := by decide +kernel
theorem d203_34 : decode (xmb 203) 34 = .ok (.ireturn, 1) := by decide +kernel
theorem d204_0 : decode (xmb 204) 0 = .ok (.iload_n 1, 1) := by decide +kernel
theorem d204_1 : decode (xmb 204) 1 = .ok (.iload_n 2, 1) := by decide +kernel
theorem d204_2 : decode (xmb 204) 2 = .ok (.invokestatic 299, 3) := by decide +kernel
theorem d204_5 : decode (xmb 204) 5 = .ok (.ifCond .eq 22, 3) := by decide +kernel
theorem d204_8 : decode (xmb 204) 8 = .ok (.aload_n 0, 1) := by decide +kernel
theorem d204_9 : decode (xmb 204) 9 = .ok (.getfield 13, 3) := by decide +kernel
theorem d204_12 : decode (xmb 204) 12 = .ok (.bipush 90, 2) := by decide +kernel
theorem d204_14 : decode (xmb 204) 14 = .ok (.iload_n 1, 1) := by decide +kernel
theorem d204_15 : decode (xmb 204) 15 = .ok (.iadd, 1) := by decide +kernel
theorem d204_16 : decode (xmb 204) 16 = .ok (.iload_n 2, 1) := by decide +kernel
theorem d204_17 : decode (xmb 204) 17 = .ok (.invokestatic 284, 3) := by decide +kernel
theorem d204_20 : decode (xmb 204) 20 = .ok (.ifCond .lt 7, 3) := by decide +kernel
theorem d204_23 : decode (xmb 204) 23 = .ok (.iconst 1, 1) := by decide +kernel
theorem d204_24 : decode (xmb 204) 24 = .ok (.goto 4, 3) := by decide +kernel
theorem d204_27 : decode (xmb 204) 27 = .ok (.iconst 0, 1) := by decide +kernel
theorem d204_28 : decode (xmb 204) 28 = .ok (.ireturn, 1) := by decide +kernel
theorem d205_0 : decode (xmb 205) 0 = .ok (.aload_n 0, 1) := by decide +kernel
theorem d205_1 : decode (xmb 205) 1 = .ok (.aload_n 0, 1) := by decide +kernel
theorem d205_2 : decode (xmb 205) 2 = .ok (.getfield 13, 3) := by decide +kernel
theorem d205_5 : decode (xmb 205) 5 = .ok (.invokevirtual 136, 3) := by decide +kernel
theorem d205_8 : decode (xmb 205) 8 = .ok (.aload_n 0, 1) := by decide +kernel
theorem d205_9 : decode (xmb 205) 9 = .ok (.getfield 13, 3) := by decide +kernel
theorem d205_12 : decode (xmb 205) 12 = .ok (.iload_n 1, 1) := by decide +kernel
theorem d205_13 : decode (xmb 205) 13 = .ok (.invokestatic 203, 3) := by decide +kernel
theorem d205_16 : decode (xmb 205) 16 = .ok (.ifCond .eq 27, 3) := by decide +kernel
theorem d205_19 : decode (xmb 205) 19 = .ok (.aload_n 0, 1) := by decide +kernel
theorem d205_20 : decode (xmb 205) 20 = .ok (.getfield 29, 3) := by decide +kernel
theorem d205_23 : decode (xmb 205) 23 = .ok (.iload_n 1, 1) := by decide +kernel
theorem d205_24 : decode (xmb 205) 24 = .ok (.iaload, 1) := by decide +kernel
theorem d205_25 : decode (xmb 205) 25 = .ok (.iconst (-1), 1) := by decide +kernel
theorem d205_26 : decode (xmb 205) 26 = .ok (.if_icmp .eq 17, 3) := by decide +kernel
theorem d205_29 : decode (xmb 205) 29 = .ok (.aload_n 0, 1) := by decide +kernel
theorem d205_30 : decode (xmb 205) 30 = .ok (.getfield 29, 3) := by decide +kernel
theorem d205_33 : decode (xmb 205) 33 = .ok (.iload_n 1, 1) := by decide +kernel
theorem d205_34 : decode (xmb 205) 34 = .ok (.iaload, 1) := by decide +kernel
theorem d205_35 : decode (xmb 205) 35 = .ok (.iload_n 2, 1) := by decide +kernel
theorem d205_36 : decode (xmb 205) 36 = .ok (.if_icmp .gt 7, 3) := by decide +kernel
theorem d205_39 : decode (xmb 205) 39 = .ok (.iconst 1, 1) := by decide +kernel
theorem d205_40 : decode (xmb 205) 40 = .ok (.goto 4, 3) := by decide +kernel
theorem d205_43 : decode (xmb 205) 43 = .ok (.iconst 0, 1) := by decide +kernel
theorem d205_44 : decode (xmb 205) 44 = .ok (.ireturn, 1) := by decide +kernel
theorem d206_0 : decode (xmb 206) 0 = .ok (.iload_n 1, 1) := by decide +kernel
theorem d206_1 : decode (xmb 206) 1 = .ok (.sipush 10000, 3) := by decide +kernel
theorem d206_4 : decode (xmb 206) 4 = .ok (.idiv, 1) := by decide +kernel
theorem d206_5 : decode (xmb 206) 5 = .ok (.bipush 10, 2) := by decide +kernel
theorem d206_7 : decode (xmb 206) 7 = .ok (.irem, 1) := by decide +kernel
theorem d206_8 : decode (xmb 206) 8 = .ok (.istore_n 2, 1) := by decide +kernel
theorem d206_9 : decode (xmb 206) 9 = .ok (.iload_n 1, 1) := by decide +kernel
theorem d206_10 : decode (xmb 206) 10 = .ok (.sipush 1000, 3) := by decide +kernel
theorem d206_13 : decode (xmb 206) 13 = .ok (.idiv, 1) := by decide +kernel
theorem d206_14 : decode (xmb 206) 14 = .ok (.bipush 10, 2) := by decide +kernel
theorem d206_16 : decode (xmb 206) 16 = .ok (.irem, 1) := by decide +kernel
theorem d206_17 : decode (xmb 206) 17 = .ok (.istore_n 3, 1) := by decide +kernel
theorem d206_18 : decode (xmb 206) 18 = .ok (.iload_n 1, 1) := by decide +kernel
theorem d206_19 : decode (xmb 206) 19 = .ok (.sipush 1000, 3) := by decide +kernel
theorem d206_22 : decode (xmb 206) 22 = .ok (.idiv, 1) := by decide +kernel
theorem d206_23 : decode (xmb 206) 23 = .ok (.bipush 100, 2) := by decide +kernel
theorem d206_25 : decode (xmb 206) 25 = .ok (.irem, 1) := by decide +kernel
theorem d206_26 : decode (xmb 206) 26 = .ok (.istore 4, 2) := by decide +kernel
theorem d206_28 : decode (xmb 206) 28 = .ok (.iload_n 1, 1) := by decide +kernel
theorem d206_29 : decode (xmb 206) 29 = .ok (.bipush 10, 2) := by decide +kernel
theorem d206_31 : decode (xmb 206) 31 = .ok (.idiv, 1) := by decide +kernel
theorem d206_32 : decode (xmb 206) 32 = .ok (.bipush 100, 2) := by decide +kernel
theorem d206_34 : decode (xmb 206) 34 = .ok (.irem, 1) := by decide +kernel
theorem d206_35 : decode (xmb 206) 35 = .ok (.istore 5, 2) := by decide +kernel
theorem d206_37 : decode (xmb 206) 37 = .ok (.iload_n 1, 1) := by decide +kernel
theorem d206_38 : decode (xmb 206) 38 = .ok (.bipush 100, 2) := by decide +kernel
theorem d206_40 : decode (xmb 206) 40 = .ok (.irem, 1) := by decide +kernel
theorem d206_41 : decode (xmb 206) 41 = .ok (.istore 6, 2) := by decide +kernel
theorem d206_43 : decode (xmb 206) 43 = .ok (.iload_n 1, 1) := by decide +kernel
theorem d206_44 : decode (xmb 206) 44 = .ok (.bipush 10, 2) := by decide +kernel
theorem d206_46 : decode (xmb 206) 46 = .ok (.irem, 1) := by decide +kernel
theorem d206_47 : decode (xmb 206) 47 = .ok (.istore 7, 2) := by decide +kernel
theorem d206_49 : decode (xmb 206) 49 = .ok (.iload_n 1, 1) := by decide +kernel
theorem d206_50 : decode (xmb 206) 50 = .ok (.ldc_w 308, 3) := by decide +kernel
theorem d206_53 : decode (xmb 206) 53 = .ok (.irem, 1) := by decide +kernel
theorem d206_54 : decode (xmb 206) 54 = .ok (.istore 8, 2) := by decide +kernel
theorem d206_56 : decode (xmb 206) 56 = .ok (.iload_n 1, 1) := by decide +kernel
theorem d206_57 : decode (xmb 206) 57 = .ok (.ldc_w 308, 3) := by decide +kernel
theorem d206_60 : decode (xmb 206) 60 = .ok (.idiv, 1) := by decide +kernel
theorem d206_61 : decode (xmb 206) 61 = .ok (.tableswitch 295 1 9 #[51, 73, 95, 129, 152, 178, 200, 227, 269], 51) := by decide +kernel
theorem d206_112 : decode (xmb 206) 112 = .ok (.iload 7, 2) := by decide +kernel
theorem d206_114 : decode (xmb 206) 114 = .ok (.ifCond .ne 18, 3) := by decide +kernel
theorem d206_117 : decode (xmb 206) 117 = .ok (.aload_n 0, 1) := by decide +kernel
theorem d206_118 : decode (xmb 206) 118 = .ok (.iload 4, 2) := by decide +kernel
theorem d206_120 : decode (xmb 206) 120 = .ok (.iload 5, 2) := by decide +kernel
theorem d206_122 : decode (xmb 206) 122 = .ok (.invokevirtual 309, 3) := by decide +kernel
theorem d206_125 : decode (xmb 206) 125 = .ok (.ifCond .eq 7, 3) := by decide +kernel
theorem d206_128 : decode (xmb 206) 128 = .ok (.iconst 1, 1) := by decide +kernel
theorem d206_129 : decode (xmb 206) 129 = .ok (.goto 4, 3) := by decide +kernel
theorem d206_132 : decode (xmb 206) 132 = .ok (.iconst 0, 1) := by decide +kernel
theorem d206_133 : decode (xmb 206) 133 = .ok (.ireturn, 1) := by decide +kernel
theorem d206_134 : decode (xmb 206) 134 = .ok (.iload 7, 2) := by decide +kernel
theorem d206_136 : decode (xmb 206) 136 = .ok (.ifCond .ne 18, 3) := by decide +kernel
theorem d206_139 : decode (xmb 206) 139 = .ok (.aload_n 0, 1) := by decide +kernel
theorem d206_140 : decode (xmb 206) 140 = .ok (.iload 4, 2) := by decide +kernel
theorem d206_142 : decode (xmb 206) 142 = .ok (.iload 5, 2) := by decide +kernel
theorem d206_144 : decode (xmb 206) 144 = .ok (.invokevirtual 312, 3) := by decide +kernel
theorem d206_147 : decode (xmb 206) 147 = .ok (.ifCond .eq 7, 3) := by decide +kernel
theorem d206_150 : decode (xmb 206) 150 = .ok (.iconst 1, 1) := by decide +kernel
theorem d206_151 : decode (xmb 206) 151 = .ok (.goto 4, 3) := by decide +kernel
theorem d206_154 : decode (xmb 206) 154 = .ok (.iconst 0, 1) := by decide +kernel
theorem d206_155 : decode (xmb 206) 155 = .ok (.ireturn, 1) := by decide +kernel
theorem d206_156 : decode (xmb 206) 156 = .ok (.iload 7, 2) := by decide +kernel
theorem d206_158 : decode (xmb 206) 158 = .ok (.iconst 2, 1) := by decide +kernel
theorem d206_159 : decode (xmb 206) 159 = .ok (.if_icmp .ge 29, 3) := by decide +kernel
theorem d206_162 : decode (xmb 206) 162 = .ok (.aload_n 0, 1) := by decide +kernel
theorem d206_163 : decode (xmb 206) 163 = .ok (.iload 4, 2) := by decide +kernel
theorem d206_165 : decode (xmb 206) 165 = .ok (.iload 5, 2) := by decide +kernel
theorem d206_167 : decode (xmb 206) 167 = .ok (.iload 7, 2) := by decide +kernel
theorem d206_169 : decode (xmb 206) 169 = .ok (.iconst 1, 1) := by decide +kernel
theorem d206_170 : decode (xmb 206) 170 = .ok (.if_icmp .ne 7, 3) := by decide +kernel
theorem d206_173 : decode (xmb 206) 173 = .ok (.iconst 1, 1) := by decide +kernel
theorem d206_174 : decode (xmb 206) 174 = .ok (.goto 4, 3) := by decide +kernel
theorem d206_177 : decode (xmb 206) 177 = .ok (.iconst 0, 1) := by decide +kernel
theorem d206_178 : decode (xmb 206) 178 = .ok (.invokevirtual 315, 3) := by decide +kernel
theorem d206_181 : decode (xmb 206) 181 = .ok (.ifCond .eq 7, 3) := by decide +kernel
theorem d206_184 : decode (xmb 206) 184 = .ok (.iconst 1, 1) := by decide +kernel
theorem d206_185 : decode (xmb 206) 185 = .ok (.goto 4, 3) := by decide +kernel
theorem d206_188 : decode (xmb 206) 188 = .ok (.iconst 0, 1) := by decide +kernel
theorem d206_189 : decode (xmb 206) 189 = .ok (.ireturn, 1) := by decide +kernel
theorem d206_190 : decode (xmb 206) 190 = .ok (.iload_n 1, 1) := by decide +kernel
theorem d206_191 : decode (xmb 206) 191 = .ok (.sipush 1000, 3) := by decide +kernel
theorem d206_194 : decode (xmb 206) 194 = .ok (.irem, 1) := by decide +kernel
theorem d206_195 : decode (xmb 206) 195 = .ok (.ifCond .ne 16, 3) := by decide +kernel
theorem d206_198 : decode (xmb 206) 198 = .ok (.aload_n 0, 1) := by decide +kernel
theorem d206_199 : decode (xmb 206) 199 = .ok (.iload_n 2, 1) := by decide +kernel
theorem d206_200 : decode (xmb 206) 200 = .ok (.iload_n 3, 1) := by decide +kernel
theorem d206_201 : decode (xmb 206) 201 = .ok (.invokevirtual 319, 3) := by decide +kernel
theorem d206_204 : decode (xmb 206) 204 = .ok (.ifCond .eq 7, 3) := by decide +kernel
theorem d206_207 : decode (xmb 206) 207 = .ok (.iconst 1, 1) := by decide +kernel
theorem d206_208 : decode (xmb 206) 208 = .ok (.goto 4, 3) := by decide +kernel
theorem d206_211 : decode (xmb 206) 211 = .ok (.iconst 0, 1) := by decide +kernel
theorem d206_212 : decode (xmb 206) 212 = .ok (.ireturn, 1) := by decide +kernel
theorem d206_213 : decode (xmb 206) 213 = .ok (.iload_n 1, 1) := by decide +kernel
theorem d206_214 : decode (xmb 206) 214 = .ok (.sipush 10000, 3) := by decide +kernel
theorem d206_217 : decode (xmb 206) 217 = .ok (.irem, 1) := by decide +kernel
theorem d206_218 : decode (xmb 206) 218 = .ok (.bipush 100, 2) := by decide +kernel
theorem d206_220 : decode (xmb 206) 220 = .ok (.if_icmp .ge 17, 3) := by decide +kernel
theorem d206_223 : decode (xmb 206) 223 = .ok (.aload_n 0, 1) := by decide +kernel
theorem d206_224 : decode (xmb 206) 224 = .ok (.iload_n 2, 1) := by decide +kernel
theorem d206_225 : decode (xmb 206) 225 = .ok (.iload 6, 2) := by decide +kernel
theorem d206_227 : decode (xmb 206) 227 = .ok (.invokevirtual 322, 3) := by decide +kernel
theorem d206_230 : decode (xmb 206) 230 = .ok (.ifCond .eq 7, 3) := by decide +kernel
theorem d206_233 : decode (xmb 206) 233 = .ok (.iconst 1, 1) := by decide +kernel
theorem d206_234 : decode (xmb 206) 234 = .ok (.goto 4, 3) := by decide +kernel
theorem d206_237 : decode (xmb 206) 237 = .ok (.iconst 0, 1) := by decide +kernel
theorem d206_238 : decode (xmb 206) 238 = .ok (.ireturn, 1) := by decide +kernel
theorem d206_239 : decode (xmb 206) 239 = .ok (.iload 7, 2) := by decide +kernel
theorem d206_241 : decode (xmb 206) 241 = .ok (.ifCond .ne 18, 3) := by decide +kernel
theorem d206_244 : decode (xmb 206) 244 = .ok (.aload_n 0, 1) := by decide +kernel
theorem d206_245 : decode (xmb 206) 245 = .ok (.iload 4, 2) := by decide +kernel
theorem d206_247 : decode (xmb 206) 247 = .ok (.iload 5, 2) := by decide +kernel
theorem d206_249 : decode (xmb 206) 249 = .ok (.invokevirtual 325, 3) := by decide +kernel
theorem d206_252 : decode (xmb 206) 252 = .ok (.ifCond .eq 7, 3) := by decide +kernel
theorem d206_255 : decode (xmb 206) 255 = .ok (.iconst 1, 1) := by decide +kernel
theorem d206_256 : decode (xmb 206) 256 = .ok (.goto 4, 3) := by decide +kernel
theorem d206_259 : decode (xmb 206) 259 = .ok (.iconst 0, 1) := by decide +kernel
theorem d206_260 : decode (xmb 206) 260 = .ok (.ireturn, 1) := by decide +kernel
theorem d206_261 : decode (xmb 206) 261 = .ok (.iload 8, 2) := by decide +kernel
theorem d206_263 : decode (xmb 206) 263 = .ok (.sipush 1000, 3) := by decide +kernel
theorem d206_266 : decode (xmb 206) 266 = .ok (.if_icmp .ge 20, 3) := by decide +kernel
theorem d206_269 : decode (xmb 206) 269 = .ok (.aload_n 0, 1) := by decide +kernel
theorem d206_270 : decode (xmb 206) 270 = .ok (.aload_n 0, 1) := by decide +kernel
theorem d206_271 : decode (xmb 206) 271 = .ok (.getfield 13, 3) := by decide +kernel
theorem d206_274 : decode (xmb 206) 274 = .ok (.invokevirtual 248, 3) := by decide +kernel
theorem d206_277 : decode (xmb 206) 277 = .ok (.iload 8, 2) := by decide +kernel
theorem d206_279 : decode (xmb 206) 279 = .ok (.if_icmp .gt 7, 3) := by decide +kernel
theorem d206_282 : decode (xmb 206) 282 = .ok (.iconst 1, 1) := by decide +kernel
theorem d206_283 : decode (xmb 206) 283 = .ok (.goto 4, 3) := by decide +kernel
theorem d206_286 : decode (xmb 206) 286 = .ok (.iconst 0, 1) := by decide +kernel
theorem d206_287 : decode (xmb 206) 287 = .ok (.ireturn, 1) := by decide +kernel
theorem d206_288 : decode (xmb 206) 288 = .ok (.iload_n 1, 1) := by decide +kernel
theorem d206_289 : decode (xmb 206) 289 = .ok (.sipush 1000, 3) := by decide +kernel
theorem d206_292 : decode (xmb 206) 292 = .ok (.irem, 1) := by decide +kernel
theorem d206_293 : decode (xmb 206) 293 = .ok (.bipush 100, 2) := by decide +kernel
theorem d206_295 : decode (xmb 206) 295 = .ok (.if_icmp .ge 33, 3) := by decide +kernel
theorem d206_298 : decode (xmb 206) 298 = .ok (.aload_n 0, 1) := by decide +kernel
theorem d206_299 : decode (xmb 206) 299 = .ok (.getfield 13, 3) := by decide +kernel
theorem d206_302 : decode (xmb 206) 302 = .ok (.iload 4, 2) := by decide +kernel
theorem d206_304 : decode (xmb 206) 304 = .ok (.invokestatic 207, 3) := by decide +kernel
theorem d206_307 : decode (xmb 206) 307 = .ok (.ifCond .eq 21, 3) := by decide +kernel
theorem d206_310 : decode (xmb 206) 310 = .ok (.aload_n 0, 1) := by decide +kernel
theorem d206_311 : decode (xmb 206) 311 = .ok (.getfield 13, 3) := by decide +kernel
theorem d206_314 : decode (xmb 206) 314 = .ok (.iload 4, 2) := by decide +kernel
theorem d206_316 : decode (xmb 206) 316 = .ok (.invokestatic 95, 3) := by decide +kernel
theorem d206_319 : decode (xmb 206) 319 = .ok (.iload 6, 2) := by decide +kernel
theorem d206_321 : decode (xmb 206) 321 = .ok (.if_icmp .gt 7, 3) := by decide +kernel
theorem d206_324 : decode (xmb 206) 324 = .ok (.iconst 1, 1) := by decide +kernel
theorem d206_325 : decode (xmb 206) 325 = .ok (.goto 4, 3) := by decide +kernel
theorem d206_328 : decode (xmb 206) 328 = .ok (.iconst 0, 1) := by decide +kernel
theorem d206_329 : decode (xmb 206) 329 = .ok (.ireturn, 1) := by decide +kernel
theorem d206_330 : decode (xmb 206) 330 = .ok (.iload 8, 2) := by decide +kernel
theorem d206_332 : decode (xmb 206) 332 = .ok (.bipush 10, 2) := by decide +kernel
theorem d206_334 : decode (xmb 206) 334 = .ok (.if_icmp .ge 20, 3) := by decide +kernel
theorem d206_337 : decode (xmb 206) 337 = .ok (.aload_n 0, 1) := by decide +kernel
theorem d206_338 : decode (xmb 206) 338 = .ok (.aload_n 0, 1) := by decide +kernel
theorem d206_339 : decode (xmb 206) 339 = .ok (.getfield 13, 3) := by decide +kernel
theorem d206_342 : decode (xmb 206) 342 = .ok (.invokevirtual 251, 3) := by decide +kernel
theorem d206_345 : decode (xmb 206) 345 = .ok (.iload 7, 2) := by decide +kernel
theorem d206_347 : decode (xmb 206) 347 = .ok (.if_icmp .gt 7, 3) := by decide +kernel
theorem d206_350 : decode (xmb 206) 350 = .ok (.iconst 1, 1) := by decide +kernel
theorem d206_351 : decode (xmb 206) 351 = .ok (.goto 4, 3) := by decide +kernel
theorem d206_354 : decode (xmb 206) 354 = .ok (.iconst 0, 1) := by decide +kernel
theorem d206_355 : decode (xmb 206) 355 = .ok (.ireturn, 1) := by decide +kernel
theorem d206_356 : decode (xmb 206) 356 = .ok (.iconst 0, 1) := by decide +kernel
theorem d206_357 : decode (xmb 206) 357 = .ok (.ireturn, 1) := by decide +kernel
theorem d207_0 : decode (xmb 207) 0 = .ok (.aload_n 0, 1) := by decide +kernel
theorem d207_1 : decode (xmb 207) 1 = .ok (.iload_n 1, 1) := by decide +kernel
theorem d207_2 : decode (xmb 207) 2 = .ok (.i2l, 1) := by decide +kernel
theorem d207_3 : decode (xmb 207) 3 = .ok (.lconst 1, 1) := by decide +kernel
theorem d207_4 : decode (xmb 207) 4 = .ok (.ldc2_w 62, 3) := by decide +kernel
theorem d207_7 : decode (xmb 207) 7 = .ok (.invokestatic 58, 3) := by decide +kernel
theorem d207_10 : decode (xmb 207) 10 = .ok (.ifCond .eq 24, 3) := by decide +kernel
theorem d207_13 : decode (xmb 207) 13 = .ok (.lload_n 2, 1) := by decide +kernel
theorem d207_14 : decode (xmb 207) 14 = .ok (.lconst 0, 1) := by decide +kernel
theorem d207_15 : decode (xmb 207) 15 = .ok (.bipush 6, 2) := by decide +kernel
theorem d207_17 : decode (xmb 207) 17 = .ok (.iload_n 1, 1) := by decide +kernel
theorem d207_18 : decode (xmb 207) 18 = .ok (.imul, 1) := by decide +kernel
theorem d207_19 : decode (xmb 207) 19 = .ok (.invokestatic 328, 3) := by decide +kernel
theorem d207_22 : decode (xmb 207) 22 = .ok (.lconst 1, 1) := by decide +kernel
theorem d207_23 : decode (xmb 207) 23 = .ok (.lsub, 1) := by decide +kernel
theorem d207_24 : decode (xmb 207) 24 = .ok (.invokestatic 58, 3) := by decide +kernel
theorem d207_27 : decode (xmb 207) 27 = .ok (.ifCond .eq 7, 3) := by decide +kernel
theorem d207_30 : decode (xmb 207) 30 = .ok (.iconst 0, 1) := by decide +kernel
theorem d207_31 : decode (xmb 207) 31 = .ok (.goto 4, 3) := by decide +kernel
theorem d207_34 : decode (xmb 207) 34 = .ok (.iconst 1, 1) := by decide +kernel
theorem d207_35 : decode (xmb 207) 35 = .ok (.invokevirtual 159, 3) := by decide +kernel
theorem d207_38 : decode (xmb 207) 38 = .ok (.ifCond .eq 5, 3) := by decide +kernel
theorem d207_41 : decode (xmb 207) 41 = .ok (.iconst 0, 1) := by decide +kernel
theorem d207_42 : decode (xmb 207) 42 = .ok (.ireturn, 1) := by decide +kernel
theorem d207_43 : decode (xmb 207) 43 = .ok (.aload_n 0, 1) := by decide +kernel
theorem d207_44 : decode (xmb 207) 44 = .ok (.getfield 7, 3) := by decide +kernel
theorem d207_47 : decode (xmb 207) 47 = .ok (.aload_n 0, 1) := by decide +kernel
theorem d207_48 : decode (xmb 207) 48 = .ok (.getfield 13, 3) := by decide +kernel
theorem d207_51 : decode (xmb 207) 51 = .ok (.invokestatic 242, 3) := by decide +kernel
theorem d207_54 : decode (xmb 207) 54 = .ok (.iconst 0, 1) := by decide +kernel
theorem d207_55 : decode (xmb 207) 55 = .ok (.istore 4, 2) := by decide +kernel
theorem d207_57 : decode (xmb 207) 57 = .ok (.iload 4, 2) := by decide +kernel
theorem d207_59 : decode (xmb 207) 59 = .ok (.iload_n 1, 1) := by decide +kernel
theorem d207_60 : decode (xmb 207) 60 = .ok (.if_icmp .ge 38, 3) := by decide +kernel
theorem d207_63 : decode (xmb 207) 63 = .ok (.aload_n 0, 1) := by decide +kernel
theorem d207_64 : decode (xmb 207) 64 = .ok (.lload_n 2, 1) := by decide +kernel
theorem d207_65 : decode (xmb 207) 65 = .ok (.bipush 6, 2) := by decide +kernel
theorem d207_67 : decode (xmb 207) 67 = .ok (.iload_n 1, 1) := by decide +kernel
theorem d207_68 : decode (xmb 207) 68 = .ok (.iconst 1, 1) := by decide +kernel
theorem d207_69 : decode (xmb 207) 69 = .ok (.isub, 1) := by decide +kernel
theorem d207_70 : decode (xmb 207) 70 = .ok (.iload 4, 2) := by decide +kernel
theorem d207_72 : decode (xmb 207) 72 = .ok (.isub, 1) := by decide +kernel
theorem d207_73 : decode (xmb 207) 73 = .ok (.imul, 1) := by decide +kernel
theorem d207_74 : decode (xmb 207) 74 = .ok (.invokestatic 328, 3) := by decide +kernel
theorem d207_77 : decode (xmb 207) 77 = .ok (.ldiv, 1) := by decide +kernel
theorem d207_78 : decode (xmb 207) 78 = .ok (.ldc2_w 332, 3) := by decide +kernel
theorem d207_81 : decode (xmb 207) 81 = .ok (.lrem, 1) := by decide +kernel
theorem d207_82 : decode (xmb 207) 82 = .ok (.l2i, 1) := by decide +kernel
theorem d207_83 : decode (xmb 207) 83 = .ok (.invokevirtual 334, 3) := by decide +kernel
theorem d207_86 : decode (xmb 207) 86 = .ok (.ifCond .ne 6, 3) := by decide +kernel
theorem d207_89 : decode (xmb 207) 89 = .ok (.iload 4, 2) := by decide +kernel
theorem d207_91 : decode (xmb 207) 91 = .ok (.ireturn, 1) := by decide +kernel
theorem d207_92 : decode (xmb 207) 92 = .ok (.iinc 4 1, 3) := by decide +kernel
theorem d207_95 : decode (xmb 207) 95 = .ok (.goto (-38), 3) := by decide +kernel
theorem d207_98 : decode (xmb 207) 98 = .ok (.iconst (-1), 1) := by decide +kernel
theorem d207_99 : decode (xmb 207) 99 = .ok (.ireturn, 1) := by decide +kernel
theorem d208_0 : decode (xmb 208) 0 = .ok (.iload_n 1, 1) := by decide +kernel
theorem d208_1 : decode (xmb 208) 1 = .ok (.bipush 8, 2) := by decide +kernel
theorem d208_3 : decode (xmb 208) 3 = .ok (.idiv, 1) := by decide +kernel
theorem d208_4 : decode (xmb 208) 4 = .ok (.istore_n 2, 1) := by decide +kernel
theorem d208_5 : decode (xmb 208) 5 = .ok (.iload_n 1, 1) := by decide +kernel
theorem d208_6 : decode (xmb 208) 6 = .ok (.bipush 8, 2) := by decide +kernel
theorem d208_8 : decode (xmb 208) 8 = .ok (.irem, 1) := by decide +kernel
theorem d208_9 : decode (xmb 208) 9 = .ok (.tableswitch 294 0 6 #[43, 76, 76, 133, 210, 210, 245], 43) := by decide +kernel
theorem d208_52 : decode (xmb 208) 52 = .ok (.aload_n 0, 1) := by decide +kernel
theorem d208_53 : decode (xmb 208) 53 = .ok (.getfield 13, 3) := by decide +kernel
theorem d208_56 : decode (xmb 208) 56 = .ok (.iconst 0, 1) := by decide +kernel
theorem d208_57 : decode (xmb 208) 57 = .ok (.iaload, 1) := by decide +kernel
theorem d208_58 : decode (xmb 208) 58 = .ok (.bipush 12, 2) := by decide +kernel
theorem d208_60 : decode (xmb 208) 60 = .ok (.if_icmp .ge 20, 3) := by decide +kernel
theorem d208_63 : decode (xmb 208) 63 = .ok (.aload_n 0, 1) := by decide +kernel
theorem d208_64 : decode (xmb 208) 64 = .ok (.getfield 13, 3) := by decide +kernel
theorem d208_67 : decode (xmb 208) 67 = .ok (.iconst 1, 1) := by decide +kernel
theorem d208_68 : decode (xmb 208) 68 = .ok (.iload_n 2, 1) := by decide +kernel
theorem d208_69 : decode (xmb 208) 69 = .ok (.sipush 5000, 3) := by decide +kernel
theorem d208_72 : decode (xmb 208) 72 = .ok (.irem, 1) := by decide +kernel
theorem d208_73 : decode (xmb 208) 73 = .ok (.iadd, 1) := by decide +kernel
theorem d208_74 : decode (xmb 208) 74 = .ok (.invokestatic 196, 3) := by decide +kernel
theorem d208_77 : decode (xmb 208) 77 = .ok (.goto 4, 3) := by decide +kernel
theorem d208_80 : decode (xmb 208) 80 = .ok (.iconst 0, 1) := by decide +kernel
theorem d208_81 : decode (xmb 208) 81 = .ok (.istore_n 3, 1) := by decide +kernel
theorem d208_82 : decode (xmb 208) 82 = .ok (.goto 237, 3) := by decide +kernel
theorem d208_85 : decode (xmb 208) 85 = .ok (.aload_n 0, 1) := by decide +kernel
theorem d208_86 : decode (xmb 208) 86 = .ok (.getfield 13, 3) := by decide +kernel
theorem d208_89 : decode (xmb 208) 89 = .ok (.bipush 15, 2) := by decide +kernel
theorem d208_91 : decode (xmb 208) 91 = .ok (.iaload, 1) := by decide +kernel
theorem d208_92 : decode (xmb 208) 92 = .ok (.bipush 14, 2) := by decide +kernel
theorem d208_94 : decode (xmb 208) 94 = .ok (.if_icmp .ge 43, 3) := by decide +kernel
theorem d208_97 : decode (xmb 208) 97 = .ok (.aload_n 0, 1) := by decide +kernel
theorem d208_98 : decode (xmb 208) 98 = .ok (.getfield 13, 3) := by decide +kernel
theorem d208_101 : decode (xmb 208) 101 = .ok (.iconst 1, 1) := by decide +kernel
theorem d208_102 : decode (xmb 208) 102 = .ok (.iload_n 2, 1) := by decide +kernel
theorem d208_103 : decode (xmb 208) 103 = .ok (.bipush 40, 2) := by decide +kernel
theorem d208_105 : decode (xmb 208) 105 = .ok (.irem, 1) := by decide +kernel
theorem d208_106 : decode (xmb 208) 106 = .ok (.iadd, 1) := by decide +kernel
theorem d208_107 : decode (xmb 208) 107 = .ok (.iload_n 2, 1) := by decide +kernel
theorem d208_108 : decode (xmb 208) 108 = .ok (.bipush 64, 2) := by decide +kernel
theorem d208_110 : decode (xmb 208) 110 = .ok (.idiv, 1) := by decide +kernel
theorem d208_111 : decode (xmb 208) 111 = .ok (.iconst 5, 1) := by decide +kernel
theorem d208_112 : decode (xmb 208) 112 = .ok (.irem, 1) := by decide +kernel
theorem d208_113 : decode (xmb 208) 113 = .ok (.iconst 1, 1) := by decide +kernel
theorem d208_114 : decode (xmb 208) 114 = .ok (.isub, 1) := by decide +kernel
theorem d208_115 : decode (xmb 208) 115 = .ok (.iload_n 2, 1) := by decide +kernel
theorem d208_116 : decode (xmb 208) 116 = .ok (.sipush 512, 3) := by decide +kernel
theorem d208_119 : decode (xmb 208) 119 = .ok (.idiv, 1) := by decide +kernel
theorem d208_120 : decode (xmb 208) 120 = .ok (.iconst 2, 1) := by decide +kernel
theorem d208_121 : decode (xmb 208) 121 = .ok (.irem, 1) := by decide +kernel
theorem d208_122 : decode (xmb 208) 122 = .ok (.iconst 1, 1) := by decide +kernel
theorem d208_123 : decode (xmb 208) 123 = .ok (.if_icmp .ne 7, 3) := by decide +kernel
theorem d208_126 : decode (xmb 208) 126 = .ok (.iconst 1, 1) := by decide +kernel
theorem d208_127 : decode (xmb 208) 127 = .ok (.goto 4, 3) := by decide +kernel
theorem d208_130 : decode (xmb 208) 130 = .ok (.iconst 0, 1) := by decide +kernel
theorem d208_131 : decode (xmb 208) 131 = .ok (.invokestatic 199, 3) := by decide +kernel
theorem d208_134 : decode (xmb 208) 134 = .ok (.goto 4, 3) := by decide +kernel
theorem d208_137 : decode (xmb 208) 137 = .ok (.iconst 0, 1) := by decide +kernel
theorem d208_138 : decode (xmb 208) 138 = .ok (.istore_n 3, 1) := by decide +kernel
theorem d208_139 : decode (xmb 208) 139 = .ok (.goto 180, 3) := by decide +kernel
theorem d208_142 : decode (xmb 208) 142 = .ok (.aload_n 0, 1) := by decide +kernel
theorem d208_143 : decode (xmb 208) 143 = .ok (.getfield 13, 3) := by decide +kernel
theorem d208_146 : decode (xmb 208) 146 = .ok (.iload_n 2, 1) := by decide +kernel
theorem d208_147 : decode (xmb 208) 147 = .ok (.bipush 14, 2) := by decide +kernel
theorem d208_149 : decode (xmb 208) 149 = .ok (.irem, 1) := by decide +kernel
theorem d208_150 : decode (xmb 208) 150 = .ok (.invokestatic 203, 3) := by decide +kernel
theorem d208_153 : decode (xmb 208) 153 = .ok (.ifCond .eq 60, 3) := by decide +kernel
theorem d208_156 : decode (xmb 208) 156 = .ok (.aload_n 0, 1) := by decide +kernel
theorem d208_157 : decode (xmb 208) 157 = .ok (.getfield 13, 3) := by decide +kernel
theorem d208_160 : decode (xmb 208) 160 = .ok (.iload_n 2, 1) := by decide +kernel
theorem d208_161 : decode (xmb 208) 161 = .ok (.bipush 16, 2) := by decide +kernel
theorem d208_163 : decode (xmb 208) 163 = .ok (.idiv, 1) := by decide +kernel
theorem d208_164 : decode (xmb 208) 164 = .ok (.bipush 12, 2) := by decide +kernel
theorem d208_166 : decode (xmb 208) 166 = .ok (.irem, 1) := by decide +kernel
theorem d208_167 : decode (xmb 208) 167 = .ok (.invokestatic 207, 3) := by decide +kernel
theorem d208_170 : decode (xmb 208) 170 = .ok (.ifCond .eq 43, 3) := by decide +kernel
theorem d208_173 : decode (xmb 208) 173 = .ok (.aload_n 0, 1) := by decide +kernel
theorem d208_174 : decode (xmb 208) 174 = .ok (.getfield 13, 3) := by decide +kernel
theorem d208_177 : decode (xmb 208) 177 = .ok (.iload_n 2, 1) := by decide +kernel
theorem d208_178 : decode (xmb 208) 178 = .ok (.bipush 14, 2) := by decide +kernel
theorem d208_180 : decode (xmb 208) 180 = .ok (.irem, 1) := by decide +kernel
theorem d208_181 : decode (xmb 208) 181 = .ok (.iload_n 2, 1) := by decide +kernel
theorem d208_182 : decode (xmb 208) 182 = .ok (.bipush 16, 2) := by decide +kernel
theorem d208_184 : decode (xmb 208) 184 = .ok (.idiv, 1) := by decide +kernel
theorem d208_185 : decode (xmb 208) 185 = .ok (.bipush 12, 2) := by decide +kernel
theorem d208_187 : decode (xmb 208) 187 = .ok (.irem, 1) := by decide +kernel
theorem d208_188 : decode (xmb 208) 188 = .ok (.iload_n 2, 1) := by decide +kernel
theorem d208_189 : decode (xmb 208) 189 = .ok (.sipush 256, 3) := by decide +kernel
theorem d208_192 : decode (xmb 208) 192 = .ok (.idiv, 1) := by decide +kernel
theorem d208_193 : decode (xmb 208) 193 = .ok (.iconst 4, 1) := by decide +kernel
theorem d208_194 : decode (xmb 208) 194 = .ok (.irem, 1) := by decide +kernel
theorem d208_195 : decode (xmb 208) 195 = .ok (.ifCond .eq 7, 3) := by decide +kernel
theorem d208_198 : decode (xmb 208) 198 = .ok (.iconst 1, 1) := by decide +kernel
theorem d208_199 : decode (xmb 208) 199 = .ok (.goto 4, 3) := by decide +kernel
theorem d208_202 : decode (xmb 208) 202 = .ok (.iconst 0, 1) := by decide +kernel
theorem d208_203 : decode (xmb 208) 203 = .ok (.invokestatic 210, 3) := by decide +kernel
theorem d208_206 : decode (xmb 208) 206 = .ok (.ifCond .lt 7, 3) := by decide +kernel
theorem d208_209 : decode (xmb 208) 209 = .ok (.iconst 1, 1) := by decide +kernel
theorem d208_210 : decode (xmb 208) 210 = .ok (.goto 4, 3) := by decide +kernel
theorem d208_213 : decode (xmb 208) 213 = .ok (.iconst 0, 1) := by decide +kernel
theorem d208_214 : decode (xmb 208) 214 = .ok (.istore 4, 2) := by decide +kernel
theorem d208_216 : decode (xmb 208) 216 = .ok (.goto 103, 3) := by decide +kernel
theorem d208_219 : decode (xmb 208) 219 = .ok (.aload_n 0, 1) := by decide +kernel
theorem d208_220 : decode (xmb 208) 220 = .ok (.iload_n 2, 1) := by decide +kernel
theorem d208_221 : decode (xmb 208) 221 = .ok (.bipush 14, 2) := by decide +kernel
theorem d208_223 : decode (xmb 208) 223 = .ok (.irem, 1) := by decide +kernel
theorem d208_224 : decode (xmb 208) 224 = .ok (.iload_n 2, 1) := by decide +kernel
theorem d208_225 : decode (xmb 208) 225 = .ok (.bipush 16, 2) := by decide +kernel
theorem d208_227 : decode (xmb 208) 227 = .ok (.idiv, 1) := by decide +kernel
theorem d208_228 : decode (xmb 208) 228 = .ok (.bipush 14, 2) := by decide +kernel
theorem d208_230 : decode (xmb 208) 230 = .ok (.irem, 1) := by decide +kernel
theorem d208_231 : decode (xmb 208) 231 = .ok (.iload_n 2, 1) := by decide +kernel
theorem d208_232 : decode (xmb 208) 232 = .ok (.sipush 256, 3) := by decide +kernel
theorem d208_235 : decode (xmb 208) 235 = .ok (.idiv, 1) := by decide +kernel
theorem d208_236 : decode (xmb 208) 236 = .ok (.iconst 4, 1) := by decide +kernel
theorem d208_237 : decode (xmb 208) 237 = .ok (.irem, 1) := by decide +kernel
theorem d208_238 : decode (xmb 208) 238 = .ok (.ifCond .eq 7, 3) := by decide +kernel
theorem d208_241 : decode (xmb 208) 241 = .ok (.iconst 1, 1) := by decide +kernel
theorem d208_242 : decode (xmb 208) 242 = .ok (.goto 4, 3) := by decide +kernel
theorem d208_245 : decode (xmb 208) 245 = .ok (.iconst 0, 1) := by decide +kernel
theorem d208_246 : decode (xmb 208) 246 = .ok (.invokevirtual 315, 3) := by decide +kernel
theorem d208_249 : decode (xmb 208) 249 = .ok (.istore 4, 2) := by decide +kernel
theorem d208_251 : decode (xmb 208) 251 = .ok (.goto 68, 3) := by decide +kernel
theorem d208_254 : decode (xmb 208) 254 = .ok (.iload_n 2, 1) := by decide +kernel
theorem d208_255 : decode (xmb 208) 255 = .ok (.bipush 64, 2) := by decide +kernel
theorem d208_257 : decode (xmb 208) 257 = .ok (.idiv, 1) := by decide +kernel
theorem d208_258 : decode (xmb 208) 258 = .ok (.iconst 2, 1) := by decide +kernel
theorem d208_259 : decode (xmb 208) 259 = .ok (.irem, 1) := by decide +kernel
theorem d208_260 : decode (xmb 208) 260 = .ok (.ifCond .ne 18, 3) := by decide +kernel
theorem d208_263 : decode (xmb 208) 263 = .ok (.aload_n 0, 1) := by decide +kernel
theorem d208_264 : decode (xmb 208) 264 = .ok (.iload_n 2, 1) := by decide +kernel
theorem d208_265 : decode (xmb 208) 265 = .ok (.iconst 4, 1) := by decide +kernel
theorem d208_266 : decode (xmb 208) 266 = .ok (.irem, 1) := by decide +kernel
theorem d208_267 : decode (xmb 208) 267 = .ok (.iload_n 2, 1) := by decide +kernel
theorem d208_268 : decode (xmb 208) 268 = .ok (.iconst 4, 1) := by decide +kernel
theorem d208_269 : decode (xmb 208) 269 = .ok (.idiv, 1) := by decide +kernel
theorem d208_270 : decode (xmb 208) 270 = .ok (.iconst 4, 1) := by decide +kernel
theorem d208_271 : decode (xmb 208) 271 = .ok (.irem, 1) := by decide +kernel
theorem d208_272 : decode (xmb 208) 272 = .ok (.invokevirtual 319, 3) := by decide +kernel
theorem d208_275 : decode (xmb 208) 275 = .ok (.goto 23, 3) := by decide +kernel
theorem d208_278 : decode (xmb 208) 278 = .ok (.aload_n 0, 1) := by decide +kernel
theorem d208_279 : decode (xmb 208) 279 = .ok (.iconst 1, 1) := by decide +kernel
theorem d208_280 : decode (xmb 208) 280 = .ok (.iload_n 2, 1) := by decide +kernel
theorem d208_281 : decode (xmb 208) 281 = .ok (.bipush 24, 2) := by decide +kernel
theorem d208_283 : decode (xmb 208) 283 = .ok (.irem, 1) := by decide +kernel
theorem d208_284 : decode (xmb 208) 284 = .ok (.iadd, 1) := by decide +kernel
theorem d208_285 : decode (xmb 208) 285 = .ok (.iconst 1, 1) := by decide +kernel
theorem d208_286 : decode (xmb 208) 286 = .ok (.iload_n 2, 1) := by decide +kernel
theorem d208_287 : decode (xmb 208) 287 = .ok (.sipush 128, 3) := by decide +kernel
theorem d208_290 : decode (xmb 208) 290 = .ok (.idiv, 1) := by decide +kernel
theorem d208_291 : decode (xmb 208) 291 = .ok (.bipush 24, 2) := by decide +kernel
theorem d208_293 : decode (xmb 208) 293 = .ok (.irem, 1) := by decide +kernel
theorem d208_294 : decode (xmb 208) 294 = .ok (.iadd, 1) := by decide +kernel
theorem d208_295 : decode (xmb 208) 295 = .ok (.invokevirtual 309, 3) := by decide +kernel
theorem d208_298 : decode (xmb 208) 298 = .ok (.istore 4, 2) := by decide +kernel
theorem d208_300 : decode (xmb 208) 300 = .ok (.goto 19, 3) := by decide +kernel
theorem d208_303 : decode (xmb 208) 303 = .ok (.aload_n 0, 1) := by decide +kernel
theorem d208_304 : decode (xmb 208) 304 = .ok (.iload_n 2, 1) := by decide +kernel
theorem d208_305 : decode (xmb 208) 305 = .ok (.iconst 5, 1) := by decide +kernel
theorem d208_306 : decode (xmb 208) 306 = .ok (.irem, 1) := by decide +kernel
theorem d208_307 : decode (xmb 208) 307 = .ok (.iload_n 2, 1) := by decide +kernel
theorem d208_308 : decode (xmb 208) 308 = .ok (.bipush 8, 2) := by decide +kernel
theorem d208_310 : decode (xmb 208) 310 = .ok (.idiv, 1) := by decide +kernel
theorem d208_311 : decode (xmb 208) 311 = .ok (.bipush 16, 2) := by decide +kernel
theorem d208_313 : decode (xmb 208) 313 = .ok (.irem, 1) := by decide +kernel
theorem d208_314 : decode (xmb 208) 314 = .ok (.invokevirtual 322, 3) := by decide +kernel
theorem d208_317 : decode (xmb 208) 317 = .ok (.istore 4, 2) := by decide +kernel
theorem d208_319 : decode (xmb 208) 319 = .ok (.return_, 1) := by decide +kernel
theorem d209_0 : decode (xmb 209) 0 = .ok (.aload_n 0, 1) := by decide +kernel
theorem d209_1 : decode (xmb 209) 1 = .ok (.iload_n 3, 1) := by decide +kernel
theorem d209_2 : decode (xmb 209) 2 = .ok (.i2l, 1) := by decide +kernel
theorem d209_3 : decode (xmb 209) 3 = .ok (.lconst 1, 1) := by decide +kernel
theorem d209_4 : decode (xmb 209) 4 = .ok (.ldc2_w 337, 3) := by decide +kernel
theorem d209_7 : decode (xmb 209) 7 = .ok (.invokestatic 58, 3) := by decide +kernel
theorem d209_10 : decode (xmb 209) 10 = .ok (.ifCond .eq 7, 3) := by decide +kernel
theorem d209_13 : decode (xmb 209) 13 = .ok (.iconst 0, 1) := by decide +kernel
theorem d209_14 : decode (xmb 209) 14 = .ok (.goto 4, 3) := by decide +kernel
theorem d209_17 : decode (xmb 209) 17 = .ok (.iconst 1, 1) := by decide +kernel
theorem d209_18 : decode (xmb 209) 18 = .ok (.invokevirtual 159, 3) := by decide +kernel
theorem d209_21 : decode (xmb 209) 21 = .ok (.ifCond .eq 5, 3) := by decide +kernel
theorem d209_24 : decode (xmb 209) 24 = .ok (.iconst 0, 1) := by decide +kernel
theorem d209_25 : decode (xmb 209) 25 = .ok (.ireturn, 1) := by decide +kernel
theorem d209_26 : decode (xmb 209) 26 = .ok (.aload_n 0, 1) := by decide +kernel
theorem d209_27 : decode (xmb 209) 27 = .ok (.getfield 7, 3) := by decide +kernel
theorem d209_30 : decode (xmb 209) 30 = .ok (.aload_n 0, 1) := by decide +kernel
theorem d209_31 : decode (xmb 209) 31 = .ok (.getfield 13, 3) := by decide +kernel
theorem d209_34 : decode (xmb 209) 34 = .ok (.invokestatic 242, 3) := by decide +kernel
theorem d209_37 : decode (xmb 209) 37 = .ok (.lload_n 1, 1) := by decide +kernel
theorem d209_38 : decode (xmb 209) 38 = .ok (.lstore 4, 2) := by decide +kernel
theorem d209_40 : decode (xmb 209) 40 = .ok (.iconst 0, 1) := by decide +kernel
theorem d209_41 : decode (xmb 209) 41 = .ok (.istore 6, 2) := by decide +kernel
theorem d209_43 : decode (xmb 209) 43 = .ok (.iload 6, 2) := by decide +kernel
theorem d209_45 : decode (xmb 209) 45 = .ok (.iload_n 3, 1) := by decide +kernel
theorem d209_46 : decode (xmb 209) 46 = .ok (.if_icmp .ge 31, 3) := by decide +kernel
theorem d209_49 : decode (xmb 209) 49 = .ok (.lload 4, 2) := by decide +kernel
theorem d209_51 : decode (xmb 209) 51 = .ok (.ldc2_w 339, 3) := by decide +kernel
theorem d209_54 : decode (xmb 209) 54 = .ok (.lmul, 1) := by decide +kernel
theorem d209_55 : decode (xmb 209) 55 = .ok (.ldc2_w 341, 3) := by decide +kernel
theorem d209_58 : decode (xmb 209) 58 = .ok (.ladd, 1) := by decide +kernel
theorem d209_59 : decode (xmb 209) 59 = .ok (.lstore 4, 2) := by decide +kernel
theorem d209_61 : decode (xmb 209) 61 = .ok (.aload_n 0, 1) := by decide +kernel
theorem d209_62 : decode (xmb 209) 62 = .ok (.lload 4, 2) := by decide +kernel
theorem d209_64 : decode (xmb 209) 64 = .ok (.bipush 33, 2) := by decide +kernel
theorem d209_66 : decode (xmb 209) 66 = .ok (.lushr, 1) := by decide +kernel
theorem d209_67 : decode (xmb 209) 67 = .ok (.l2i, 1) := by decide +kernel
theorem d209_68 : decode (xmb 209) 68 = .ok (.invokevirtual 343, 3) := by decide +kernel
theorem d209_71 : decode (xmb 209) 71 = .ok (.iinc 6 1, 3) := by decide +kernel
theorem d209_74 : decode (xmb 209) 74 = .ok (.goto (-31), 3) := by decide +kernel
theorem d209_77 : decode (xmb 209) 77 = .ok (.aload_n 0, 1) := by decide +kernel
theorem d209_78 : decode (xmb 209) 78 = .ok (.aload_n 0, 1) := by decide +kernel
theorem d209_79 : decode (xmb 209) 79 = .ok (.getfield 13, 3) := by decide +kernel
theorem d209_82 : decode (xmb 209) 82 = .ok (.invokevirtual 248, 3) := by decide +kernel
theorem d209_85 : decode (xmb 209) 85 = .ok (.istore 6, 2) := by decide +kernel
theorem d209_87 : decode (xmb 209) 87 = .ok (.sipush 1000, 3) := by decide +kernel
theorem d209_90 : decode (xmb 209) 90 = .ok (.iload 6, 2) := by decide +kernel
theorem d209_92 : decode (xmb 209) 92 = .ok (.imul, 1) := by decide +kernel
theorem d209_93 : decode (xmb 209) 93 = .ok (.bipush 10, 2) := by decide +kernel
theorem d209_95 : decode (xmb 209) 95 = .ok (.aload_n 0, 1) := by decide +kernel
theorem d209_96 : decode (xmb 209) 96 = .ok (.getfield 13, 3) := by decide +kernel
theorem d209_99 : decode (xmb 209) 99 = .ok (.bipush 15, 2) := by decide +kernel
theorem d209_101 : decode (xmb 209) 101 = .ok (.iaload, 1) := by decide +kernel
theorem d209_102 : decode (xmb 209) 102 = .ok (.aload_n 0, 1) := by decide +kernel
theorem d209_103 : decode (xmb 209) 103 = .ok (.getfield 127, 3) := by decide +kernel
theorem d209_106 : decode (xmb 209) 106 = .ok (.isub, 1) := by decide +kernel
theorem d209_107 : decode (xmb 209) 107 = .ok (.imul, 1) := by decide +kernel
theorem d209_108 : decode (xmb 209) 108 = .ok (.iadd, 1) := by decide +kernel
theorem d209_109 : decode (xmb 209) 109 = .ok (.aload_n 0, 1) := by decide +kernel
theorem d209_110 : decode (xmb 209) 110 = .ok (.getfield 13, 3) := by decide +kernel
theorem d209_113 : decode (xmb 209) 113 = .ok (.invokestatic 139, 3) := by decide +kernel
theorem d209_116 : decode (xmb 209) 116 = .ok (.bipush 10, 2) := by decide +kernel
theorem d209_118 : decode (xmb 209) 118 = .ok (.irem, 1) := by decide +kernel
theorem d209_119 : decode (xmb 209) 119 = .ok (.iadd, 1) := by decide +kernel
theorem d209_120 : decode (xmb 209) 120 = .ok (.ireturn, 1) := by decide +kernel
theorem d210_0 : decode (xmb 210) 0 = .ok (.aload_n 0, 1) := by decide +kernel
theorem d210_1 : decode (xmb 210) 1 = .ok (.iload_n 1, 1) := by decide +kernel
theorem d210_2 : decode (xmb 210) 2 = .ok (.i2l, 1) := by decide +kernel
theorem d210_3 : decode (xmb 210) 3 = .ok (.lconst 0, 1) := by decide +kernel
theorem d210_4 : decode (xmb 210) 4 = .ok (.lconst 1, 1) := by decide +kernel
theorem d210_5 : decode (xmb 210) 5 = .ok (.invokestatic 58, 3) := by decide +kernel
theorem d210_8 : decode (xmb 210) 8 = .ok (.ifCond .eq 7, 3) := by decide +kernel
theorem d210_11 : decode (xmb 210) 11 = .ok (.iconst 0, 1) := by decide +kernel
theorem d210_12 : decode (xmb 210) 12 = .ok (.goto 4, 3) := by decide +kernel
theorem d210_15 : decode (xmb 210) 15 = .ok (.iconst 1, 1) := by decide +kernel
theorem d210_16 : decode (xmb 210) 16 = .ok (.invokevirtual 159, 3) := by decide +kernel
theorem d210_19 : decode (xmb 210) 19 = .ok (.ifCond .eq 5, 3) := by decide +kernel
theorem d210_22 : decode (xmb 210) 22 = .ok (.iconst 0, 1) := by decide +kernel
theorem d210_23 : decode (xmb 210) 23 = .ok (.ireturn, 1) := by decide +kernel
theorem d210_24 : decode (xmb 210) 24 = .ok (.iconst 0, 1) := by decide +kernel
theorem d210_25 : decode (xmb 210) 25 = .ok (.istore_n 2, 1) := by decide +kernel
theorem d210_26 : decode (xmb 210) 26 = .ok (.iload_n 2, 1) := by decide +kernel
theorem d210_27 : decode (xmb 210) 27 = .ok (.bipush 95, 2) := by decide +kernel
theorem d210_29 : decode (xmb 210) 29 = .ok (.if_icmp .ge 26, 3) := by decide +kernel
theorem d210_32 : decode (xmb 210) 32 = .ok (.aload_n 0, 1) := by decide +kernel
theorem d210_33 : decode (xmb 210) 33 = .ok (.getfield 22, 3) := by decide +kernel
theorem d210_36 : decode (xmb 210) 36 = .ok (.bipush 95, 2) := by decide +kernel
theorem d210_38 : decode (xmb 210) 38 = .ok (.iload_n 1, 1) := by decide +kernel
theorem d210_39 : decode (xmb 210) 39 = .ok (.imul, 1) := by decide +kernel
theorem d210_40 : decode (xmb 210) 40 = .ok (.iload_n 2, 1) := by decide +kernel
theorem d210_41 : decode (xmb 210) 41 = .ok (.iadd, 1) := by decide +kernel
theorem d210_42 : decode (xmb 210) 42 = .ok (.aload_n 0, 1) := by decide +kernel
theorem d210_43 : decode (xmb 210) 43 = .ok (.getfield 7, 3) := by decide +kernel
theorem d210_46 : decode (xmb 210) 46 = .ok (.iload_n 2, 1) := by decide +kernel
theorem d210_47 : decode (xmb 210) 47 = .ok (.iaload, 1) := by decide +kernel
theorem d210_48 : decode (xmb 210) 48 = .ok (.iastore, 1) := by decide +kernel
theorem d210_49 : decode (xmb 210) 49 = .ok (.iinc 2 1, 3) := by decide +kernel
theorem d210_52 : decode (xmb 210) 52 = .ok (.goto (-26), 3) := by decide +kernel
theorem d210_55 : decode (xmb 210) 55 = .ok (.aload_n 0, 1) := by decide +kernel
theorem d210_56 : decode (xmb 210) 56 = .ok (.getfield 25, 3) := by decide +kernel
theorem d210_59 : decode (xmb 210) 59 = .ok (.iload_n 1, 1) := by decide +kernel
theorem d210_60 : decode (xmb 210) 60 = .ok (.iconst 1, 1) := by decide +kernel
theorem d210_61 : decode (xmb 210) 61 = .ok (.bastore, 1) := by decide +kernel
theorem d210_62 : decode (xmb 210) 62 = .ok (.aload_n 0, 1) := by decide +kernel
theorem d210_63 : decode (xmb 210) 63 = .ok (.getfield 7, 3) := by decide +kernel
theorem d210_66 : decode (xmb 210) 66 = .ok (.bipush 15, 2) := by decide +kernel
theorem d210_68 : decode (xmb 210) 68 = .ok (.iaload, 1) := by decide +kernel
theorem d210_69 : decode (xmb 210) 69 = .ok (.ireturn, 1) := by decide +kernel
theorem d211_0 : decode (xmb 211) 0 = .ok (.aload_n 0, 1) := by decide +kernel
theorem d211_1 : decode (xmb 211) 1 = .ok (.iload_n 1, 1) := by decide +kernel
theorem d211_2 : decode (xmb 211) 2 = .ok (.i2l, 1) := by decide +kernel
theorem d211_3 : decode (xmb 211) 3 = .ok (.lconst 0, 1) := by decide +kernel
theorem d211_4 : decode (xmb 211) 4 = .ok (.lconst 1, 1) := by decide +kernel
theorem d211_5 : decode (xmb 211) 5 = .ok (.invokestatic 58, 3) := by decide +kernel
theorem d211_8 : decode (xmb 211) 8 = .ok (.ifCond .ne 7, 3) := by decide +kernel
theorem d211_11 : decode (xmb 211) 11 = .ok (.iconst 1, 1) := by decide +kernel
theorem d211_12 : decode (xmb 211) 12 = .ok (.goto 17, 3) := by decide +kernel
theorem d211_15 : decode (xmb 211) 15 = .ok (.aload_n 0, 1) := by decide +kernel
theorem d211_16 : decode (xmb 211) 16 = .ok (.getfield 25, 3) := by decide +kernel
theorem d211_19 : decode (xmb 211) 19 = .ok (.iload_n 1, 1) := by decide +kernel
theorem d211_20 : decode (xmb 211) 20 = .ok (.baload, 1) := by decide +kernel
theorem d211_21 : decode (xmb 211) 21 = .ok (.ifCond .ne 7, 3) := by decide +kernel
theorem d211_24 : decode (xmb 211) 24 = .ok (.iconst 2, 1) := by decide +kernel
theorem d211_25 : decode (xmb 211) 25 = .ok (.goto 4, 3) := by decide +kernel
theorem d211_28 : decode (xmb 211) 28 = .ok (.iconst 0, 1) := by decide +kernel
theorem d211_29 : decode (xmb 211) 29 = .ok (.invokevirtual 159, 3) := by decide +kernel
theorem d211_32 : decode (xmb 211) 32 = .ok (.ifCond .eq 5, 3) := by decide +kernel
theorem d211_35 : decode (xmb 211) 35 = .ok (.iconst 0, 1) := by decide +kernel
theorem d211_36 : decode (xmb 211) 36 = .ok (.ireturn, 1) := by decide +kernel
theorem d211_37 : decode (xmb 211) 37 = .ok (.iconst 0, 1) := by decide +kernel
theorem d211_38 : decode (xmb 211) 38 = .ok (.istore_n 2, 1) := by decide +kernel
theorem d211_39 : decode (xmb 211) 39 = .ok (.iload_n 2, 1) := by decide +kernel
theorem d211_40 : decode (xmb 211) 40 = .ok (.bipush 95, 2) := by decide +kernel
theorem d211_42 : decode (xmb 211) 42 = .ok (.if_icmp .ge 26, 3) := by decide +kernel
theorem d211_45 : decode (xmb 211) 45 = .ok (.aload_n 0, 1) := by decide +kernel
theorem d211_46 : decode (xmb 211) 46 = .ok (.getfield 7, 3) := by decide +kernel
theorem d211_49 : decode (xmb 211) 49 = .ok (.iload_n 2, 1) := by decide +kernel
theorem d211_50 : decode (xmb 211) 50 = .ok (.aload_n 0, 1) := by decide +kernel
theorem d211_51 : decode (xmb 211) 51 = .ok (.getfield 22, 3) := by decide +kernel
theorem d211_54 : decode (xmb 211) 54 = .ok (.bipush 95, 2) := by decide +kernel
theorem d211_56 : decode (xmb 211) 56 = .ok (.iload_n 1, 1) := by decide +kernel
theorem d211_57 : decode (xmb 211) 57 = .ok (.imul, 1) := by decide +kernel
theorem d211_58 : decode (xmb 211) 58 = .ok (.iload_n 2, 1) := by decide +kernel
theorem d211_59 : decode (xmb 211) 59 = .ok (.iadd, 1) := by decide +kernel
theorem d211_60 : decode (xmb 211) 60 = .ok (.iaload, 1) := by decide +kernel
theorem d211_61 : decode (xmb 211) 61 = .ok (.iastore, 1) := by decide +kernel
theorem d211_62 : decode (xmb 211) 62 = .ok (.iinc 2 1, 3) := by decide +kernel
theorem d211_65 : decode (xmb 211) 65 = .ok (.goto (-26), 3) := by decide +kernel
theorem d211_68 : decode (xmb 211) 68 = .ok (.aload_n 0, 1) := by decide +kernel
theorem d211_69 : decode (xmb 211) 69 = .ok (.iconst 0, 1) := by decide +kernel
theorem d211_70 : decode (xmb 211) 70 = .ok (.putfield 151, 3) := by decide +kernel
theorem d211_73 : decode (xmb 211) 73 = .ok (.aload_n 0, 1) := by decide +kernel
theorem d211_74 : decode (xmb 211) 74 = .ok (.getfield 7, 3) := by decide +kernel
theorem d211_77 : decode (xmb 211) 77 = .ok (.bipush 15, 2) := by decide +kernel
theorem d211_79 : decode (xmb 211) 79 = .ok (.iaload, 1) := by decide +kernel
theorem d211_80 : decode (xmb 211) 80 = .ok (.ireturn, 1) := by decide +kernel
theorem d241_0 : decode (xmb 241) 0 = .ok (.iload_n 0, 1) := by decide +kernel
theorem d241_1 : decode (xmb 241) 1 = .ok (.iload_n 0, 1) := by decide +kernel
theorem d241_2 : decode (xmb 241) 2 = .ok (.iconst 1, 1) := by decide +kernel
theorem d241_3 : decode (xmb 241) 3 = .ok (.iushr, 1) := by decide +kernel
theorem d241_4 : decode (xmb 241) 4 = .ok (.ldc_w 265, 3) := by decide +kernel
theorem d241_7 : decode (xmb 241) 7 = .ok (.iand, 1) := by decide +kernel
theorem d241_8 : decode (xmb 241) 8 = .ok (.isub, 1) := by decide +kernel
theorem d241_9 : decode (xmb 241) 9 = .ok (.istore_n 0, 1) := by decide +kernel
theorem d241_10 : decode (xmb 241) 10 = .ok (.iload_n 0, 1) := by decide +kernel
theorem d241_11 : decode (xmb 241) 11 = .ok (.ldc_w 266, 3) := by decide +kernel
theorem d241_14 : decode (xmb 241) 14 = .ok (.iand, 1) := by decide +kernel
theorem d241_15 : decode (xmb 241) 15 = .ok (.iload_n 0, 1) := by decide +kernel
theorem d241_16 : decode (xmb 241) 16 = .ok (.iconst 2, 1) := by decide +kernel
theorem d241_17 : decode (xmb 241) 17 = .ok (.iushr, 1) := by decide +kernel
theorem d241_18 : decode (xmb 241) 18 = .ok (.ldc_w 266, 3) := by decide +kernel
theorem d241_21 : decode (xmb 241) 21 = .ok (.iand, 1) := by decide +kernel
theorem d241_22 : decode (xmb 241) 22 = .ok (.iadd, 1) := by decide +kernel
theorem d241_23 : decode (xmb 241) 23 = .ok (.istore_n 0, 1) := by decide +kernel
theorem d241_24 : decode (xmb 241) 24 = .ok (.iload_n 0, 1) := by decide +kernel
theorem d241_25 : decode (xmb 241) 25 = .ok (.iload_n 0, 1) := by decide +kernel
theorem d241_26 : decode (xmb 241) 26 = .ok (.iconst 4, 1) := by decide +kernel
theorem d241_27 : decode (xmb 241) 27 = .ok (.iushr, 1) := by decide +kernel
theorem d241_28 : decode (xmb 241) 28 = .ok (.iadd, 1) := by decide +kernel
theorem d241_29 : decode (xmb 241) 29 = .ok (.ldc_w 267, 3) := by decide +kernel
theorem d241_32 : decode (xmb 241) 32 = .ok (.iand, 1) := by decide +kernel
theorem d241_33 : decode (xmb 241) 33 = .ok (.istore_n 0, 1) := by decide +kernel
theorem d241_34 : decode (xmb 241) 34 = .ok (.iload_n 0, 1) := by decide +kernel
theorem d241_35 : decode (xmb 241) 35 = .ok (.iload_n 0, 1) := by decide +kernel
theorem d241_36 : decode (xmb 241) 36 = .ok (.bipush 8, 2) := by decide +kernel
theorem d241_38 : decode (xmb 241) 38 = .ok (.iushr, 1) := by decide +kernel
theorem d241_39 : decode (xmb 241) 39 = .ok (.iadd, 1) := by decide +kernel
theorem d241_40 : decode (xmb 241) 40 = .ok (.istore_n 0, 1) := by decide +kernel
theorem d241_41 : decode (xmb 241) 41 = .ok (.iload_n 0, 1) := by decide +kernel
theorem d241_42 : decode (xmb 241) 42 = .ok (.iload_n 0, 1) := by decide +kernel
theorem d241_43 : decode (xmb 241) 43 = .ok (.bipush 16, 2) := by decide +kernel
theorem d241_45 : decode (xmb 241) 45 = .ok (.iushr, 1) := by decide +kernel
theorem d241_46 : decode (xmb 241) 46 = .ok (.iadd, 1) := by decide +kernel
theorem d241_47 : decode (xmb 241) 47 = .ok (.istore_n 0, 1) := by decide +kernel
theorem d241_48 : decode (xmb 241) 48 = .ok (.iload_n 0, 1) := by decide +kernel
theorem d241_49 : decode (xmb 241) 49 = .ok (.bipush 63, 2) := by decide +kernel
theorem d241_51 : decode (xmb 241) 51 = .ok (.iand, 1) := by decide +kernel
theorem d241_52 : decode (xmb 241) 52 = .ok (.ireturn, 1) := by decide +kernel
theorem d212_0 : decode (xmb 212) 0 = .ok (.aload_n 2, 1) := by decide +kernel
theorem d212_1 : decode (xmb 212) 1 = .ok (.iconst 0, 1) := by decide +kernel
theorem d212_2 : decode (xmb 212) 2 = .ok (.aload_n 0, 1) := by decide +kernel
theorem d212_3 : decode (xmb 212) 3 = .ok (.iload_n 1, 1) := by decide +kernel
theorem d212_4 : decode (xmb 212) 4 = .ok (.invokevirtual 7, 3) := by decide +kernel
theorem d212_7 : decode (xmb 212) 7 = .ok (.i2l, 1) := by decide +kernel
theorem d212_8 : decode (xmb 212) 8 = .ok (.lastore, 1) := by decide +kernel
theorem d212_9 : decode (xmb 212) 9 = .ok (.goto 9, 3) := by decide +kernel
theorem d212_12 : decode (xmb 212) 12 = .ok (.astore_n 3, 1) := by decide +kernel
theorem d212_13 : decode (xmb 212) 13 = .ok (.iconst 1, 1) := by decide +kernel
theorem d212_14 : decode (xmb 212) 14 = .ok (.ireturn, 1) := by decide +kernel
theorem d212_15 : decode (xmb 212) 15 = .ok (.astore_n 3, 1) := by decide +kernel
theorem d212_16 : decode (xmb 212) 16 = .ok (.iconst 2, 1) := by decide +kernel
theorem d212_17 : decode (xmb 212) 17 = .ok (.ireturn, 1) := by decide +kernel
theorem d212_18 : decode (xmb 212) 18 = .ok (.iconst 0, 1) := by decide +kernel
theorem d212_19 : decode (xmb 212) 19 = .ok (.ireturn, 1) := by decide +kernel
theorem d213_0 : decode (xmb 213) 0 = .ok (.aload_n 1, 1) := by decide +kernel
theorem d213_1 : decode (xmb 213) 1 = .ok (.iconst 0, 1) := by decide +kernel
theorem d213_2 : decode (xmb 213) 2 = .ok (.aload_n 0, 1) := by decide +kernel
theorem d213_3 : decode (xmb 213) 3 = .ok (.invokevirtual 17, 3) := by decide +kernel
theorem d213_6 : decode (xmb 213) 6 = .ok (.i2l, 1) := by decide +kernel
theorem d213_7 : decode (xmb 213) 7 = .ok (.lastore, 1) := by decide +kernel
theorem d213_8 : decode (xmb 213) 8 = .ok (.goto 6, 3) := by decide +kernel
theorem d213_11 : decode (xmb 213) 11 = .ok (.astore_n 2, 1) := by decide +kernel
theorem d213_12 : decode (xmb 213) 12 = .ok (.iconst 1, 1) := by decide +kernel
theorem d213_13 : decode (xmb 213) 13 = .ok (.ireturn, 1) := by decide +kernel
theorem d213_14 : decode (xmb 213) 14 = .ok (.iconst 0, 1) := by decide +kernel
theorem d213_15 : decode (xmb 213) 15 = .ok (.ireturn, 1) := by decide +kernel
theorem d214_0 : decode (xmb 214) 0 = .ok (.aload_n 2, 1) := by decide +kernel
theorem d214_1 : decode (xmb 214) 1 = .ok (.iconst 0, 1) := by decide +kernel
theorem d214_2 : decode (xmb 214) 2 = .ok (.aload_n 0, 1) := by decide +kernel
theorem d214_3 : decode (xmb 214) 3 = .ok (.iload_n 1, 1) := by decide +kernel
theorem d214_4 : decode (xmb 214) 4 = .ok (.invokevirtual 21, 3) := by decide +kernel
theorem d214_7 : decode (xmb 214) 7 = .ok (.i2l, 1) := by decide +kernel
theorem d214_8 : decode (xmb 214) 8 = .ok (.lastore, 1) := by decide +kernel
theorem d214_9 : decode (xmb 214) 9 = .ok (.goto 6, 3) := by decide +kernel
theorem d214_12 : decode (xmb 214) 12 = .ok (.astore_n 3, 1) := by decide +kernel
theorem d214_13 : decode (xmb 214) 13 = .ok (.iconst 1, 1) := by decide +kernel
theorem d214_14 : decode (xmb 214) 14 = .ok (.ireturn, 1) := by decide +kernel
theorem d214_15 : decode (xmb 214) 15 = .ok (.iconst 0, 1) := by decide +kernel
theorem d214_16 : decode (xmb 214) 16 = .ok (.ireturn, 1) := by decide +kernel
theorem d215_0 : decode (xmb 215) 0 = .ok (.aload_n 3, 1) := by decide +kernel
theorem d215_1 : decode (xmb 215) 1 = .ok (.iconst 0, 1) := by decide +kernel
theorem d215_2 : decode (xmb 215) 2 = .ok (.aload_n 0, 1) := by decide +kernel
theorem d215_3 : decode (xmb 215) 3 = .ok (.iload_n 1, 1) := by decide +kernel
theorem d215_4 : decode (xmb 215) 4 = .ok (.iload_n 2, 1) := by decide +kernel
theorem d215_5 : decode (xmb 215) 5 = .ok (.invokevirtual 24, 3) := by decide +kernel
theorem d215_8 : decode (xmb 215) 8 = .ok (.i2l, 1) := by decide +kernel
theorem d215_9 : decode (xmb 215) 9 = .ok (.lastore, 1) := by decide +kernel
theorem d215_10 : decode (xmb 215) 10 = .ok (.goto 11, 3) := by decide +kernel
theorem d215_13 : decode (xmb 215) 13 = .ok (.astore 4, 2) := by decide +kernel
theorem d215_15 : decode (xmb 215) 15 = .ok (.iconst 1, 1) := by decide +kernel
theorem d215_16 : decode (xmb 215) 16 = .ok (.ireturn, 1) := by decide +kernel
theorem d215_17 : decode (xmb 215) 17 = .ok (.astore 4, 2) := by decide +kernel
theorem d215_19 : decode (xmb 215) 19 = .ok (.iconst 2, 1) := by decide +kernel
theorem d215_20 : decode (xmb 215) 20 = .ok (.ireturn, 1) := by decide +kernel
theorem d215_21 : decode (xmb 215) 21 = .ok (.iconst 0, 1) := by decide +kernel
theorem d215_22 : decode (xmb 215) 22 = .ok (.ireturn, 1) := by decide +kernel
theorem d216_0 : decode (xmb 216) 0 = .ok (.aload_n 3, 1) := by decide +kernel
theorem d216_1 : decode (xmb 216) 1 = .ok (.iconst 0, 1) := by decide +kernel
theorem d216_2 : decode (xmb 216) 2 = .ok (.aload_n 0, 1) := by decide +kernel
theorem d216_3 : decode (xmb 216) 3 = .ok (.iload_n 1, 1) := by decide +kernel
theorem d216_4 : decode (xmb 216) 4 = .ok (.iload_n 2, 1) := by decide +kernel
theorem d216_5 : decode (xmb 216) 5 = .ok (.invokevirtual 30, 3) := by decide +kernel
theorem d216_8 : decode (xmb 216) 8 = .ok (.i2l, 1) := by decide +kernel
theorem d216_9 : decode (xmb 216) 9 = .ok (.lastore, 1) := by decide +kernel
theorem d216_10 : decode (xmb 216) 10 = .ok (.goto 11, 3) := by decide +kernel
theorem d216_13 : decode (xmb 216) 13 = .ok (.astore 4, 2) := by decide +kernel
theorem d216_15 : decode (xmb 216) 15 = .ok (.iconst 1, 1) := by decide +kernel
theorem d216_16 : decode (xmb 216) 16 = .ok (.ireturn, 1) := by decide +kernel
theorem d216_17 : decode (xmb 216) 17 = .ok (.astore 4, 2) := by decide +kernel
theorem d216_19 : decode (xmb 216) 19 = .ok (.iconst 2, 1) := by decide +kernel
theorem d216_20 : decode (xmb 216) 20 = .ok (.ireturn, 1) := by decide +kernel
theorem d216_21 : decode (xmb 216) 21 = .ok (.iconst 0, 1) := by decide +kernel
theorem d216_22 : decode (xmb 216) 22 = .ok (.ireturn, 1) := by decide +kernel
theorem d217_0 : decode (xmb 217) 0 = .ok (.aload_n 3, 1) := by decide +kernel
theorem d217_1 : decode (xmb 217) 1 = .ok (.iconst 0, 1) := by decide +kernel
theorem d217_2 : decode (xmb 217) 2 = .ok (.aload_n 0, 1) := by decide +kernel
theorem d217_3 : decode (xmb 217) 3 = .ok (.iload_n 1, 1) := by decide +kernel
theorem d217_4 : decode (xmb 217) 4 = .ok (.iload_n 2, 1) := by decide +kernel
theorem d217_5 : decode (xmb 217) 5 = .ok (.invokevirtual 33, 3) := by decide +kernel
theorem d217_8 : decode (xmb 217) 8 = .ok (.i2l, 1) := by decide +kernel
theorem d217_9 : decode (xmb 217) 9 = .ok (.lastore, 1) := by decide +kernel
theorem d217_10 : decode (xmb 217) 10 = .ok (.goto 11, 3) := by decide +kernel
theorem d217_13 : decode (xmb 217) 13 = .ok (.astore 4, 2) := by decide +kernel
theorem d217_15 : decode (xmb 217) 15 = .ok (.iconst 1, 1) := by decide +kernel
theorem d217_16 : decode (xmb 217) 16 = .ok (.ireturn, 1) := by decide +kernel
theorem d217_17 : decode (xmb 217) 17 = .ok (.astore 4, 2) := by decide +kernel
theorem d217_19 : decode (xmb 217) 19 = .ok (.iconst 2, 1) := by decide +kernel
theorem d217_20 : decode (xmb 217) 20 = .ok (.ireturn, 1) := by decide +kernel
theorem d217_21 : decode (xmb 217) 21 = .ok (.iconst 0, 1) := by decide +kernel
theorem d217_22 : decode (xmb 217) 22 = .ok (.ireturn, 1) := by decide +kernel
theorem d218_0 : decode (xmb 218) 0 = .ok (.aload_n 2, 1) := by decide +kernel
theorem d218_1 : decode (xmb 218) 1 = .ok (.iconst 0, 1) := by decide +kernel
theorem d218_2 : decode (xmb 218) 2 = .ok (.aload_n 0, 1) := by decide +kernel
theorem d218_3 : decode (xmb 218) 3 = .ok (.iload_n 1, 1) := by decide +kernel
theorem d218_4 : decode (xmb 218) 4 = .ok (.invokevirtual 36, 3) := by decide +kernel
theorem d218_7 : decode (xmb 218) 7 = .ok (.i2l, 1) := by decide +kernel
theorem d218_8 : decode (xmb 218) 8 = .ok (.lastore, 1) := by decide +kernel
theorem d218_9 : decode (xmb 218) 9 = .ok (.goto 6, 3) := by decide +kernel
theorem d218_12 : decode (xmb 218) 12 = .ok (.astore_n 3, 1) := by decide +kernel
theorem d218_13 : decode (xmb 218) 13 = .ok (.iconst 1, 1) := by decide +kernel
theorem d218_14 : decode (xmb 218) 14 = .ok (.ireturn, 1) := by decide +kernel
theorem d218_15 : decode (xmb 218) 15 = .ok (.iconst 0, 1) := by decide +kernel
theorem d218_16 : decode (xmb 218) 16 = .ok (.ireturn, 1) := by decide +kernel
theorem d219_0 : decode (xmb 219) 0 = .ok (.aload_n 2, 1) := by decide +kernel
theorem d219_1 : decode (xmb 219) 1 = .ok (.iconst 0, 1) := by decide +kernel
theorem d219_2 : decode (xmb 219) 2 = .ok (.aload_n 0, 1) := by decide +kernel
theorem d219_3 : decode (xmb 219) 3 = .ok (.iload_n 1, 1) := by decide +kernel
theorem d219_4 : decode (xmb 219) 4 = .ok (.invokevirtual 39, 3) := by decide +kernel
theorem d219_7 : decode (xmb 219) 7 = .ok (.i2l, 1) := by decide +kernel
theorem d219_8 : decode (xmb 219) 8 = .ok (.lastore, 1) := by decide +kernel
theorem d219_9 : decode (xmb 219) 9 = .ok (.goto 6, 3) := by decide +kernel
theorem d219_12 : decode (xmb 219) 12 = .ok (.astore_n 3, 1) := by decide +kernel
theorem d219_13 : decode (xmb 219) 13 = .ok (.iconst 1, 1) := by decide +kernel
theorem d219_14 : decode (xmb 219) 14 = .ok (.ireturn, 1) := by decide +kernel
theorem d219_15 : decode (xmb 219) 15 = .ok (.iconst 0, 1) := by decide +kernel
theorem d219_16 : decode (xmb 219) 16 = .ok (.ireturn, 1) := by decide +kernel
theorem d220_0 : decode (xmb 220) 0 = .ok (.aload_n 2, 1) := by decide +kernel
theorem d220_1 : decode (xmb 220) 1 = .ok (.iconst 0, 1) := by decide +kernel
theorem d220_2 : decode (xmb 220) 2 = .ok (.aload_n 0, 1) := by decide +kernel
theorem d220_3 : decode (xmb 220) 3 = .ok (.iload_n 1, 1) := by decide +kernel
theorem d220_4 : decode (xmb 220) 4 = .ok (.invokevirtual 42, 3) := by decide +kernel
theorem d220_7 : decode (xmb 220) 7 = .ok (.i2l, 1) := by decide +kernel
theorem d220_8 : decode (xmb 220) 8 = .ok (.lastore, 1) := by decide +kernel
theorem d220_9 : decode (xmb 220) 9 = .ok (.goto 6, 3) := by decide +kernel
theorem d220_12 : decode (xmb 220) 12 = .ok (.astore_n 3, 1) := by decide +kernel
theorem d220_13 : decode (xmb 220) 13 = .ok (.iconst 1, 1) := by decide +kernel
theorem d220_14 : decode (xmb 220) 14 = .ok (.ireturn, 1) := by decide +kernel
theorem d220_15 : decode (xmb 220) 15 = .ok (.iconst 0, 1) := by decide +kernel
theorem d220_16 : decode (xmb 220) 16 = .ok (.ireturn, 1) := by decide +kernel
theorem d221_0 : decode (xmb 221) 0 = .ok (.aload_n 3, 1) := by decide +kernel
theorem d221_1 : decode (xmb 221) 1 = .ok (.iconst 0, 1) := by decide +kernel
theorem d221_2 : decode (xmb 221) 2 = .ok (.aload_n 0, 1) := by decide +kernel
theorem d221_3 : decode (xmb 221) 3 = .ok (.iload_n 1, 1) := by decide +kernel
theorem d221_4 : decode (xmb 221) 4 = .ok (.iload_n 2, 1) := by decide +kernel
theorem d221_5 : decode (xmb 221) 5 = .ok (.invokevirtual 45, 3) := by decide +kernel
theorem d221_8 : decode (xmb 221) 8 = .ok (.i2l, 1) := by decide +kernel
theorem d221_9 : decode (xmb 221) 9 = .ok (.lastore, 1) := by decide +kernel
theorem d221_10 : decode (xmb 221) 10 = .ok (.goto 7, 3) := by decide +kernel
theorem d221_13 : decode (xmb 221) 13 = .ok (.astore 4, 2) := by decide +kernel
theorem d221_15 : decode (xmb 221) 15 = .ok (.iconst 1, 1) := by decide +kernel
theorem d221_16 : decode (xmb 221) 16 = .ok (.ireturn, 1) := by decide +kernel
theorem d221_17 : decode (xmb 221) 17 = .ok (.iconst 0, 1) := by decide +kernel
theorem d221_18 : decode (xmb 221) 18 = .ok (.ireturn, 1) := by decide +kernel
theorem d222_0 : decode (xmb 222) 0 = .ok (.aload_n 2, 1) := by decide +kernel
theorem d222_1 : decode (xmb 222) 1 = .ok (.iconst 0, 1) := by decide +kernel
theorem d222_2 : decode (xmb 222) 2 = .ok (.aload_n 0, 1) := by decide +kernel
theorem d222_3 : decode (xmb 222) 3 = .ok (.iload_n 1, 1) := by decide +kernel
theorem d222_4 : decode (xmb 222) 4 = .ok (.invokevirtual 48, 3) := by decide +kernel
theorem d222_7 : decode (xmb 222) 7 = .ok (.i2l, 1) := by decide +kernel
theorem d222_8 : decode (xmb 222) 8 = .ok (.lastore, 1) := by decide +kernel
theorem d222_9 : decode (xmb 222) 9 = .ok (.goto 9, 3) := by decide +kernel
theorem d222_12 : decode (xmb 222) 12 = .ok (.astore_n 3, 1) := by decide +kernel
theorem d222_13 : decode (xmb 222) 13 = .ok (.iconst 1, 1) := by decide +kernel
theorem d222_14 : decode (xmb 222) 14 = .ok (.ireturn, 1) := by decide +kernel
theorem d222_15 : decode (xmb 222) 15 = .ok (.astore_n 3, 1) := by decide +kernel
theorem d222_16 : decode (xmb 222) 16 = .ok (.iconst 2, 1) := by decide +kernel
theorem d222_17 : decode (xmb 222) 17 = .ok (.ireturn, 1) := by decide +kernel
theorem d222_18 : decode (xmb 222) 18 = .ok (.iconst 0, 1) := by decide +kernel
theorem d222_19 : decode (xmb 222) 19 = .ok (.ireturn, 1) := by decide +kernel
theorem d223_0 : decode (xmb 223) 0 = .ok (.aload_n 3, 1) := by decide +kernel
theorem d223_1 : decode (xmb 223) 1 = .ok (.iconst 0, 1) := by decide +kernel
theorem d223_2 : decode (xmb 223) 2 = .ok (.aload_n 0, 1) := by decide +kernel
theorem d223_3 : decode (xmb 223) 3 = .ok (.iload_n 1, 1) := by decide +kernel
theorem d223_4 : decode (xmb 223) 4 = .ok (.iload_n 2, 1) := by decide +kernel
theorem d223_5 : decode (xmb 223) 5 = .ok (.invokevirtual 51, 3) := by decide +kernel
theorem d223_8 : decode (xmb 223) 8 = .ok (.i2l, 1) := by decide +kernel
theorem d223_9 : decode (xmb 223) 9 = .ok (.lastore, 1) := by decide +kernel
theorem d223_10 : decode (xmb 223) 10 = .ok (.goto 11, 3) := by decide +kernel
theorem d223_13 : decode (xmb 223) 13 = .ok (.astore 4, 2) := by decide +kernel
theorem d223_15 : decode (xmb 223) 15 = .ok (.iconst 1, 1) := by decide +kernel
theorem d223_16 : decode (xmb 223) 16 = .ok (.ireturn, 1) := by decide +kernel
theorem d223_17 : decode (xmb 223) 17 = .ok (.astore 4, 2) := by decide +kernel
theorem d223_19 : decode (xmb 223) 19 = .ok (.iconst 2, 1) := by decide +kernel
theorem d223_20 : decode (xmb 223) 20 = .ok (.ireturn, 1) := by decide +kernel
theorem d223_21 : decode (xmb 223) 21 = .ok (.iconst 0, 1) := by decide +kernel
theorem d223_22 : decode (xmb 223) 22 = .ok (.ireturn, 1) := by decide +kernel
theorem d224_0 : decode (xmb 224) 0 = .ok (.aload_n 3, 1) := by decide +kernel
theorem d224_1 : decode (xmb 224) 1 = .ok (.iconst 0, 1) := by decide +kernel
theorem d224_2 : decode (xmb 224) 2 = .ok (.aload_n 0, 1) := by decide +kernel
theorem d224_3 : decode (xmb 224) 3 = .ok (.iload_n 1, 1) := by decide +kernel
theorem d224_4 : decode (xmb 224) 4 = .ok (.iload_n 2, 1) := by decide +kernel
theorem d224_5 : decode (xmb 224) 5 = .ok (.invokevirtual 54, 3) := by decide +kernel
theorem d224_8 : decode (xmb 224) 8 = .ok (.i2l, 1) := by decide +kernel
theorem d224_9 : decode (xmb 224) 9 = .ok (.lastore, 1) := by decide +kernel
theorem d224_10 : decode (xmb 224) 10 = .ok (.goto 7, 3) := by decide +kernel
theorem d224_13 : decode (xmb 224) 13 = .ok (.astore 4, 2) := by decide +kernel
theorem d224_15 : decode (xmb 224) 15 = .ok (.iconst 1, 1) := by decide +kernel
theorem d224_16 : decode (xmb 224) 16 = .ok (.ireturn, 1) := by decide +kernel
theorem d224_17 : decode (xmb 224) 17 = .ok (.iconst 0, 1) := by decide +kernel
theorem d224_18 : decode (xmb 224) 18 = .ok (.ireturn, 1) := by decide +kernel
theorem d225_0 : decode (xmb 225) 0 = .ok (.aload 4, 2) := by decide +kernel
theorem d225_2 : decode (xmb 225) 2 = .ok (.iconst 0, 1) := by decide +kernel
theorem d225_3 : decode (xmb 225) 3 = .ok (.aload_n 0, 1) := by decide +kernel
theorem d225_4 : decode (xmb 225) 4 = .ok (.iload_n 1, 1) := by decide +kernel
theorem d225_5 : decode (xmb 225) 5 = .ok (.iload_n 2, 1) := by decide +kernel
theorem d225_6 : decode (xmb 225) 6 = .ok (.iload_n 3, 1) := by decide +kernel
theorem d225_7 : decode (xmb 225) 7 = .ok (.invokevirtual 57, 3) := by decide +kernel
theorem d225_10 : decode (xmb 225) 10 = .ok (.i2l, 1) := by decide +kernel
theorem d225_11 : decode (xmb 225) 11 = .ok (.lastore, 1) := by decide +kernel
theorem d225_12 : decode (xmb 225) 12 = .ok (.goto 11, 3) := by decide +kernel
theorem d225_15 : decode (xmb 225) 15 = .ok (.astore 5, 2) := by decide +kernel
theorem d225_17 : decode (xmb 225) 17 = .ok (.iconst 1, 1) := by decide +kernel
theorem d225_18 : decode (xmb 225) 18 = .ok (.ireturn, 1) := by decide +kernel
theorem d225_19 : decode (xmb 225) 19 = .ok (.astore 5, 2) := by decide +kernel
theorem d225_21 : decode (xmb 225) 21 = .ok (.iconst 2, 1) := by decide +kernel
theorem d225_22 : decode (xmb 225) 22 = .ok (.ireturn, 1) := by decide +kernel
theorem d225_23 : decode (xmb 225) 23 = .ok (.iconst 0, 1) := by decide +kernel
theorem d225_24 : decode (xmb 225) 24 = .ok (.ireturn, 1) := by decide +kernel
theorem d226_0 : decode (xmb 226) 0 = .ok (.aload_n 3, 1) := by decide +kernel
theorem d226_1 : decode (xmb 226) 1 = .ok (.iconst 0, 1) := by decide +kernel
theorem d226_2 : decode (xmb 226) 2 = .ok (.aload_n 0, 1) := by decide +kernel
theorem d226_3 : decode (xmb 226) 3 = .ok (.iload_n 1, 1) := by decide +kernel
theorem d226_4 : decode (xmb 226) 4 = .ok (.iload_n 2, 1) := by decide +kernel
theorem d226_5 : decode (xmb 226) 5 = .ok (.invokevirtual 61, 3) := by decide +kernel
theorem d226_8 : decode (xmb 226) 8 = .ok (.i2l, 1) := by decide +kernel
theorem d226_9 : decode (xmb 226) 9 = .ok (.lastore, 1) := by decide +kernel
theorem d226_10 : decode (xmb 226) 10 = .ok (.goto 11, 3) := by decide +kernel
theorem d226_13 : decode (xmb 226) 13 = .ok (.astore 4, 2) := by decide +kernel
theorem d226_15 : decode (xmb 226) 15 = .ok (.iconst 1, 1) := by decide +kernel
theorem d226_16 : decode (xmb 226) 16 = .ok (.ireturn, 1) := by decide +kernel
theorem d226_17 : decode (xmb 226) 17 = .ok (.astore 4, 2) := by decide +kernel
theorem d226_19 : decode (xmb 226) 19 = .ok (.iconst 2, 1) := by decide +kernel
theorem d226_20 : decode (xmb 226) 20 = .ok (.ireturn, 1) := by decide +kernel
theorem d226_21 : decode (xmb 226) 21 = .ok (.iconst 0, 1) := by decide +kernel
theorem d226_22 : decode (xmb 226) 22 = .ok (.ireturn, 1) := by decide +kernel
theorem d227_0 : decode (xmb 227) 0 = .ok (.aload 4, 2) := by decide +kernel
theorem d227_2 : decode (xmb 227) 2 = .ok (.iconst 0, 1) := by decide +kernel
theorem d227_3 : decode (xmb 227) 3 = .ok (.aload_n 0, 1) := by decide +kernel
theorem d227_4 : decode (xmb 227) 4 = .ok (.iload_n 1, 1) := by decide +kernel
theorem d227_5 : decode (xmb 227) 5 = .ok (.iload_n 2, 1) := by decide +kernel
theorem d227_6 : decode (xmb 227) 6 = .ok (.iload_n 3, 1) := by decide +kernel
theorem d227_7 : decode (xmb 227) 7 = .ok (.invokevirtual 64, 3) := by decide +kernel
theorem d227_10 : decode (xmb 227) 10 = .ok (.i2l, 1) := by decide +kernel
theorem d227_11 : decode (xmb 227) 11 = .ok (.lastore, 1) := by decide +kernel
theorem d227_12 : decode (xmb 227) 12 = .ok (.goto 7, 3) := by decide +kernel
theorem d227_15 : decode (xmb 227) 15 = .ok (.astore 5, 2) := by decide +kernel
theorem d227_17 : decode (xmb 227) 17 = .ok (.iconst 1, 1) := by decide +kernel
theorem d227_18 : decode (xmb 227) 18 = .ok (.ireturn, 1) := by decide +kernel
theorem d227_19 : decode (xmb 227) 19 = .ok (.iconst 0, 1) := by decide +kernel
theorem d227_20 : decode (xmb 227) 20 = .ok (.ireturn, 1) := by decide +kernel
theorem d228_0 : decode (xmb 228) 0 = .ok (.aload 4, 2) := by decide +kernel
theorem d228_2 : decode (xmb 228) 2 = .ok (.iconst 0, 1) := by decide +kernel
theorem d228_3 : decode (xmb 228) 3 = .ok (.aload_n 0, 1) := by decide +kernel
theorem d228_4 : decode (xmb 228) 4 = .ok (.iload_n 1, 1) := by decide +kernel
theorem d228_5 : decode (xmb 228) 5 = .ok (.iload_n 2, 1) := by decide +kernel
theorem d228_6 : decode (xmb 228) 6 = .ok (.iload_n 3, 1) := by decide +kernel
theorem d228_7 : decode (xmb 228) 7 = .ok (.invokevirtual 67, 3) := by decide +kernel
theorem d228_10 : decode (xmb 228) 10 = .ok (.i2l, 1) := by decide +kernel
theorem d228_11 : decode (xmb 228) 11 = .ok (.lastore, 1) := by decide +kernel
theorem d228_12 : decode (xmb 228) 12 = .ok (.goto 11, 3) := by decide +kernel
theorem d228_15 : decode (xmb 228) 15 = .ok (.astore 5, 2) := by decide +kernel
theorem d228_17 : decode (xmb 228) 17 = .ok (.iconst 1, 1) := by decide +kernel
theorem d228_18 : decode (xmb 228) 18 = .ok (.ireturn, 1) := by decide +kernel
theorem d228_19 : decode (xmb 228) 19 = .ok (.astore 5, 2) := by decide +kernel
theorem d228_21 : decode (xmb 228) 21 = .ok (.iconst 2, 1) := by decide +kernel
theorem d228_22 : decode (xmb 228) 22 = .ok (.ireturn, 1) := by decide +kernel
theorem d228_23 : decode (xmb 228) 23 = .ok (.iconst 0, 1) := by decide +kernel
theorem d228_24 : decode (xmb 228) 24 = .ok (.ireturn, 1) := by decide +kernel
theorem d229_0 : decode (xmb 229) 0 = .ok (.aload_n 3, 1) := by decide +kernel
theorem d229_1 : decode (xmb 229) 1 = .ok (.iconst 0, 1) := by decide +kernel
theorem d229_2 : decode (xmb 229) 2 = .ok (.aload_n 0, 1) := by decide +kernel
theorem d229_3 : decode (xmb 229) 3 = .ok (.iload_n 1, 1) := by decide +kernel
theorem d229_4 : decode (xmb 229) 4 = .ok (.iload_n 2, 1) := by decide +kernel
theorem d229_5 : decode (xmb 229) 5 = .ok (.invokevirtual 70, 3) := by decide +kernel
theorem d229_8 : decode (xmb 229) 8 = .ok (.i2l, 1) := by decide +kernel
theorem d229_9 : decode (xmb 229) 9 = .ok (.lastore, 1) := by decide +kernel
theorem d229_10 : decode (xmb 229) 10 = .ok (.goto 11, 3) := by decide +kernel
theorem d229_13 : decode (xmb 229) 13 = .ok (.astore 4, 2) := by decide +kernel
theorem d229_15 : decode (xmb 229) 15 = .ok (.iconst 1, 1) := by decide +kernel
theorem d229_16 : decode (xmb 229) 16 = .ok (.ireturn, 1) := by decide +kernel
theorem d229_17 : decode (xmb 229) 17 = .ok (.astore 4, 2) := by decide +kernel
theorem d229_19 : decode (xmb 229) 19 = .ok (.iconst 2, 1) := by decide +kernel
theorem d229_20 : decode (xmb 229) 20 = .ok (.ireturn, 1) := by decide +kernel
theorem d229_21 : decode (xmb 229) 21 = .ok (.iconst 0, 1) := by decide +kernel
theorem d229_22 : decode (xmb 229) 22 = .ok (.ireturn, 1) := by decide +kernel
theorem d230_0 : decode (xmb 230) 0 = .ok (.aload_n 3, 1) := by decide +kernel
theorem d230_1 : decode (xmb 230) 1 = .ok (.iconst 0, 1) := by decide +kernel
theorem d230_2 : decode (xmb 230) 2 = .ok (.aload_n 0, 1) := by decide +kernel
theorem d230_3 : decode (xmb 230) 3 = .ok (.iload_n 1, 1) := by decide +kernel
theorem d230_4 : decode (xmb 230) 4 = .ok (.iload_n 2, 1) := by decide +kernel
theorem d230_5 : decode (xmb 230) 5 = .ok (.invokevirtual 73, 3) := by decide +kernel
theorem d230_8 : decode (xmb 230) 8 = .ok (.i2l, 1) := by decide +kernel
theorem d230_9 : decode (xmb 230) 9 = .ok (.lastore, 1) := by decide +kernel
theorem d230_10 : decode (xmb 230) 10 = .ok (.goto 7, 3) := by decide +kernel
theorem d230_13 : decode (xmb 230) 13 = .ok (.astore 4, 2) := by decide +kernel
theorem d230_15 : decode (xmb 230) 15 = .ok (.iconst 1, 1) := by decide +kernel
theorem d230_16 : decode (xmb 230) 16 = .ok (.ireturn, 1) := by decide +kernel
theorem d230_17 : decode (xmb 230) 17 = .ok (.iconst 0, 1) := by decide +kernel
theorem d230_18 : decode (xmb 230) 18 = .ok (.ireturn, 1) := by decide +kernel
theorem d231_0 : decode (xmb 231) 0 = .ok (.aload_n 1, 1) := by decide +kernel
theorem d231_1 : decode (xmb 231) 1 = .ok (.iconst 0, 1) := by decide +kernel
theorem d231_2 : decode (xmb 231) 2 = .ok (.aload_n 0, 1) := by decide +kernel
theorem d231_3 : decode (xmb 231) 3 = .ok (.invokevirtual 76, 3) := by decide +kernel
theorem d231_6 : decode (xmb 231) 6 = .ok (.i2l, 1) := by decide +kernel
theorem d231_7 : decode (xmb 231) 7 = .ok (.lastore, 1) := by decide +kernel
theorem d231_8 : decode (xmb 231) 8 = .ok (.goto 6, 3) := by decide +kernel
theorem d231_11 : decode (xmb 231) 11 = .ok (.astore_n 2, 1) := by decide +kernel
theorem d231_12 : decode (xmb 231) 12 = .ok (.iconst 1, 1) := by decide +kernel
theorem d231_13 : decode (xmb 231) 13 = .ok (.ireturn, 1) := by decide +kernel
theorem d231_14 : decode (xmb 231) 14 = .ok (.iconst 0, 1) := by decide +kernel
theorem d231_15 : decode (xmb 231) 15 = .ok (.ireturn, 1) := by decide +kernel
theorem d232_0 : decode (xmb 232) 0 = .ok (.aload_n 3, 1) := by decide +kernel
theorem d232_1 : decode (xmb 232) 1 = .ok (.iconst 0, 1) := by decide +kernel
theorem d232_2 : decode (xmb 232) 2 = .ok (.aload_n 0, 1) := by decide +kernel
theorem d232_3 : decode (xmb 232) 3 = .ok (.iload_n 1, 1) := by decide +kernel
theorem d232_4 : decode (xmb 232) 4 = .ok (.iload_n 2, 1) := by decide +kernel
theorem d232_5 : decode (xmb 232) 5 = .ok (.invokevirtual 79, 3) := by decide +kernel
theorem d232_8 : decode (xmb 232) 8 = .ok (.i2l, 1) := by decide +kernel
theorem d232_9 : decode (xmb 232) 9 = .ok (.lastore, 1) := by decide +kernel
theorem d232_10 : decode (xmb 232) 10 = .ok (.goto 11, 3) := by decide +kernel
theorem d232_13 : decode (xmb 232) 13 = .ok (.astore 4, 2) := by decide +kernel
theorem d232_15 : decode (xmb 232) 15 = .ok (.iconst 1, 1) := by decide +kernel
theorem d232_16 : decode (xmb 232) 16 = .ok (.ireturn, 1) := by decide +kernel
theorem d232_17 : decode (xmb 232) 17 = .ok (.astore 4, 2) := by decide +kernel
theorem d232_19 : decode (xmb 232) 19 = .ok (.iconst 2, 1) := by decide +kernel
theorem d232_20 : decode (xmb 232) 20 = .ok (.ireturn, 1) := by decide +kernel
theorem d232_21 : decode (xmb 232) 21 = .ok (.iconst 0, 1) := by decide +kernel
theorem d232_22 : decode (xmb 232) 22 = .ok (.ireturn, 1) := by decide +kernel
theorem d233_0 : decode (xmb 233) 0 = .ok (.aload_n 3, 1) := by decide +kernel
theorem d233_1 : decode (xmb 233) 1 = .ok (.iconst 0, 1) := by decide +kernel
theorem d233_2 : decode (xmb 233) 2 = .ok (.aload_n 0, 1) := by decide +kernel
theorem d233_3 : decode (xmb 233) 3 = .ok (.iload_n 1, 1) := by decide +kernel
theorem d233_4 : decode (xmb 233) 4 = .ok (.iload_n 2, 1) := by decide +kernel
theorem d233_5 : decode (xmb 233) 5 = .ok (.invokevirtual 82, 3) := by decide +kernel
theorem d233_8 : decode (xmb 233) 8 = .ok (.i2l, 1) := by decide +kernel
theorem d233_9 : decode (xmb 233) 9 = .ok (.lastore, 1) := by decide +kernel
theorem d233_10 : decode (xmb 233) 10 = .ok (.goto 7, 3) := by decide +kernel
theorem d233_13 : decode (xmb 233) 13 = .ok (.astore 4, 2) := by decide +kernel
theorem d233_15 : decode (xmb 233) 15 = .ok (.iconst 1, 1) := by decide +kernel
theorem d233_16 : decode (xmb 233) 16 = .ok (.ireturn, 1) := by decide +kernel
theorem d233_17 : decode (xmb 233) 17 = .ok (.iconst 0, 1) := by decide +kernel
theorem d233_18 : decode (xmb 233) 18 = .ok (.ireturn, 1) := by decide +kernel
theorem d234_0 : decode (xmb 234) 0 = .ok (.aload_n 2, 1) := by decide +kernel
theorem d234_1 : decode (xmb 234) 1 = .ok (.iconst 0, 1) := by decide +kernel
theorem d234_2 : decode (xmb 234) 2 = .ok (.aload_n 0, 1) := by decide +kernel
theorem d234_3 : decode (xmb 234) 3 = .ok (.iload_n 1, 1) := by decide +kernel
theorem d234_4 : decode (xmb 234) 4 = .ok (.invokevirtual 85, 3) := by decide +kernel
theorem d234_7 : decode (xmb 234) 7 = .ok (.i2l, 1) := by decide +kernel
theorem d234_8 : decode (xmb 234) 8 = .ok (.lastore, 1) := by decide +kernel
theorem d234_9 : decode (xmb 234) 9 = .ok (.goto 6, 3) := by decide +kernel
theorem d234_12 : decode (xmb 234) 12 = .ok (.astore_n 3, 1) := by decide +kernel
theorem d234_13 : decode (xmb 234) 13 = .ok (.iconst 1, 1) := by decide +kernel
theorem d234_14 : decode (xmb 234) 14 = .ok (.ireturn, 1) := by decide +kernel
theorem d234_15 : decode (xmb 234) 15 = .ok (.iconst 0, 1) := by decide +kernel
theorem d234_16 : decode (xmb 234) 16 = .ok (.ireturn, 1) := by decide +kernel
theorem d235_0 : decode (xmb 235) 0 = .ok (.aload_n 3, 1) := by decide +kernel
theorem d235_1 : decode (xmb 235) 1 = .ok (.iconst 0, 1) := by decide +kernel
theorem d235_2 : decode (xmb 235) 2 = .ok (.aload_n 0, 1) := by decide +kernel
theorem d235_3 : decode (xmb 235) 3 = .ok (.iload_n 1, 1) := by decide +kernel
theorem d235_4 : decode (xmb 235) 4 = .ok (.iload_n 2, 1) := by decide +kernel
theorem d235_5 : decode (xmb 235) 5 = .ok (.invokevirtual 88, 3) := by decide +kernel
theorem d235_8 : decode (xmb 235) 8 = .ok (.i2l, 1) := by decide +kernel
theorem d235_9 : decode (xmb 235) 9 = .ok (.lastore, 1) := by decide +kernel
theorem d235_10 : decode (xmb 235) 10 = .ok (.goto 7, 3) := by decide +kernel
theorem d235_13 : decode (xmb 235) 13 = .ok (.astore 4, 2) := by decide +kernel
theorem d235_15 : decode (xmb 235) 15 = .ok (.iconst 1, 1) := by decide +kernel
theorem d235_16 : decode (xmb 235) 16 = .ok (.ireturn, 1) := by decide +kernel
theorem d235_17 : decode (xmb 235) 17 = .ok (.iconst 0, 1) := by decide +kernel
theorem d235_18 : decode (xmb 235) 18 = .ok (.ireturn, 1) := by decide +kernel
theorem d236_0 : decode (xmb 236) 0 = .ok (.aload 4, 2) := by decide +kernel
theorem d236_2 : decode (xmb 236) 2 = .ok (.iconst 0, 1) := by decide +kernel
theorem d236_3 : decode (xmb 236) 3 = .ok (.aload_n 0, 1) := by decide +kernel
theorem d236_4 : decode (xmb 236) 4 = .ok (.iload_n 1, 1) := by decide +kernel
theorem d236_5 : decode (xmb 236) 5 = .ok (.lload_n 2, 1) := by decide +kernel
theorem d236_6 : decode (xmb 236) 6 = .ok (.invokevirtual 91, 3) := by decide +kernel
theorem d236_9 : decode (xmb 236) 9 = .ok (.i2l, 1) := by decide +kernel
theorem d236_10 : decode (xmb 236) 10 = .ok (.lastore, 1) := by decide +kernel
theorem d236_11 : decode (xmb 236) 11 = .ok (.goto 7, 3) := by decide +kernel
theorem d236_14 : decode (xmb 236) 14 = .ok (.astore 5, 2) := by decide +kernel
theorem d236_16 : decode (xmb 236) 16 = .ok (.iconst 1, 1) := by decide +kernel
theorem d236_17 : decode (xmb 236) 17 = .ok (.ireturn, 1) := by decide +kernel
theorem d236_18 : decode (xmb 236) 18 = .ok (.iconst 0, 1) := by decide +kernel
theorem d236_19 : decode (xmb 236) 19 = .ok (.ireturn, 1) := by decide +kernel
theorem d237_0 : decode (xmb 237) 0 = .ok (.aload 4, 2) := by decide +kernel
theorem d237_2 : decode (xmb 237) 2 = .ok (.iconst 0, 1) := by decide +kernel
theorem d237_3 : decode (xmb 237) 3 = .ok (.aload_n 0, 1) := by decide +kernel
theorem d237_4 : decode (xmb 237) 4 = .ok (.lload_n 1, 1) := by decide +kernel
theorem d237_5 : decode (xmb 237) 5 = .ok (.iload_n 3, 1) := by decide +kernel
theorem d237_6 : decode (xmb 237) 6 = .ok (.invokevirtual 95, 3) := by decide +kernel
theorem d237_9 : decode (xmb 237) 9 = .ok (.i2l, 1) := by decide +kernel
theorem d237_10 : decode (xmb 237) 10 = .ok (.lastore, 1) := by decide +kernel
theorem d237_11 : decode (xmb 237) 11 = .ok (.goto 7, 3) := by decide +kernel
theorem d237_14 : decode (xmb 237) 14 = .ok (.astore 5, 2) := by decide +kernel
theorem d237_16 : decode (xmb 237) 16 = .ok (.iconst 1, 1) := by decide +kernel
theorem d237_17 : decode (xmb 237) 17 = .ok (.ireturn, 1) := by decide +kernel
theorem d237_18 : decode (xmb 237) 18 = .ok (.iconst 0, 1) := by decide +kernel
theorem d237_19 : decode (xmb 237) 19 = .ok (.ireturn, 1) := by decide +kernel
theorem d238_0 : decode (xmb 238) 0 = .ok (.aload_n 2, 1) := by decide +kernel
theorem d238_1 : decode (xmb 238) 1 = .ok (.iconst 0, 1) := by decide +kernel
theorem d238_2 : decode (xmb 238) 2 = .ok (.aload_n 0, 1) := by decide +kernel
theorem d238_3 : decode (xmb 238) 3 = .ok (.iload_n 1, 1) := by decide +kernel
theorem d238_4 : decode (xmb 238) 4 = .ok (.invokevirtual 99, 3) := by decide +kernel
theorem d238_7 : decode (xmb 238) 7 = .ok (.i2l, 1) := by decide +kernel
theorem d238_8 : decode (xmb 238) 8 = .ok (.lastore, 1) := by decide +kernel
theorem d238_9 : decode (xmb 238) 9 = .ok (.goto 6, 3) := by decide +kernel
theorem d238_12 : decode (xmb 238) 12 = .ok (.astore_n 3, 1) := by decide +kernel
theorem d238_13 : decode (xmb 238) 13 = .ok (.iconst 1, 1) := by decide +kernel
theorem d238_14 : decode (xmb 238) 14 = .ok (.ireturn, 1) := by decide +kernel
theorem d238_15 : decode (xmb 238) 15 = .ok (.iconst 0, 1) := by decide +kernel
theorem d238_16 : decode (xmb 238) 16 = .ok (.ireturn, 1) := by decide +kernel
theorem d239_0 : decode (xmb 239) 0 = .ok (.aload_n 2, 1) := by decide +kernel
theorem d239_1 : decode (xmb 239) 1 = .ok (.iconst 0, 1) := by decide +kernel
theorem d239_2 : decode (xmb 239) 2 = .ok (.aload_n 0, 1) := by decide +kernel
theorem d239_3 : decode (xmb 239) 3 = .ok (.iload_n 1, 1) := by decide +kernel
theorem d239_4 : decode (xmb 239) 4 = .ok (.invokevirtual 102, 3) := by decide +kernel
theorem d239_7 : decode (xmb 239) 7 = .ok (.i2l, 1) := by decide +kernel
theorem d239_8 : decode (xmb 239) 8 = .ok (.lastore, 1) := by decide +kernel
theorem d239_9 : decode (xmb 239) 9 = .ok (.goto 9, 3) := by decide +kernel
theorem d239_12 : decode (xmb 239) 12 = .ok (.astore_n 3, 1) := by decide +kernel
theorem d239_13 : decode (xmb 239) 13 = .ok (.iconst 1, 1) := by decide +kernel
theorem d239_14 : decode (xmb 239) 14 = .ok (.ireturn, 1) := by decide +kernel
theorem d239_15 : decode (xmb 239) 15 = .ok (.astore_n 3, 1) := by decide +kernel
theorem d239_16 : decode (xmb 239) 16 = .ok (.iconst 2, 1) := by decide +kernel
theorem d239_17 : decode (xmb 239) 17 = .ok (.ireturn, 1) := by decide +kernel
theorem d239_18 : decode (xmb 239) 18 = .ok (.iconst 0, 1) := by decide +kernel
theorem d239_19 : decode (xmb 239) 19 = .ok (.ireturn, 1) := by decide +kernel
