theorem d50_52 : decode (xmb 50) 52 = .ok (.aload_n 0, 1) := by decide +kernel
theorem d50_53 : decode (xmb 50) 53 = .ok (.getfield 22, 3) := by decide +kernel
theorem d50_56 : decode (xmb 50) 56 = .ok (.iload_n 3, 1) := by decide +kernel
theorem d50_57 : decode (xmb 50) 57 = .ok (.iaload, 1) := by decide +kernel
theorem d50_58 : decode (xmb 50) 58 = .ok (.iload_n 1, 1) := by decide +kernel
theorem d50_59 : decode (xmb 50) 59 = .ok (.if_icmp .gt 19, 3) := by decide +kernel
theorem d50_62 : decode (xmb 50) 62 = .ok (.aload_n 0, 1) := by decide +kernel
theorem d50_63 : decode (xmb 50) 63 = .ok (.aload_n 0, 1) := by decide +kernel
theorem d50_64 : decode (xmb 50) 64 = .ok (.getfield 126, 3) := by decide +kernel
theorem d50_67 : decode (xmb 50) 67 = .ok (.iload_n 3, 1) := by decide +kernel
theorem d50_68 : decode (xmb 50) 68 = .ok (.iconst 1, 1) := by decide +kernel
theorem d50_69 : decode (xmb 50) 69 = .ok (.invokestatic 135, 3) := by decide +kernel
theorem d50_72 : decode (xmb 50) 72 = .ok (.putfield 126, 3) := by decide +kernel
theorem d50_75 : decode (xmb 50) 75 = .ok (.goto 21, 3) := by decide +kernel
theorem d50_78 : decode (xmb 50) 78 = .ok (.aload_n 0, 1) := by decide +kernel
theorem d50_79 : decode (xmb 50) 79 = .ok (.dup, 1) := by decide +kernel
theorem d50_80 : decode (xmb 50) 80 = .ok (.getfield 129, 3) := by decide +kernel
theorem d50_83 : decode (xmb 50) 83 = .ok (.aload_n 0, 1) := by decide +kernel
theorem d50_84 : decode (xmb 50) 84 = .ok (.getfield 12, 3) := by decide +kernel
theorem d50_87 : decode (xmb 50) 87 = .ok (.getfield 68, 3) := by decide +kernel
theorem d50_90 : decode (xmb 50) 90 = .ok (.iload_n 3, 1) := by decide +kernel
theorem d50_91 : decode (xmb 50) 91 = .ok (.iaload, 1) := by decide +kernel
theorem d50_92 : decode (xmb 50) 92 = .ok (.isub, 1) := by decide +kernel
theorem d50_93 : decode (xmb 50) 93 = .ok (.putfield 129, 3) := by decide +kernel
theorem d50_96 : decode (xmb 50) 96 = .ok (.iload_n 1, 1) := by decide +kernel
theorem d50_97 : decode (xmb 50) 97 = .ok (.aload_n 0, 1) := by decide +kernel
theorem d50_98 : decode (xmb 50) 98 = .ok (.iload_n 3, 1) := by decide +kernel
theorem d50_99 : decode (xmb 50) 99 = .ok (.invokevirtual 74, 3) := by decide +kernel
theorem d50_102 : decode (xmb 50) 102 = .ok (.if_icmp .ge 8, 3) := by decide +kernel
theorem d50_105 : decode (xmb 50) 105 = .ok (.aload_n 0, 1) := by decide +kernel
theorem d50_106 : decode (xmb 50) 106 = .ok (.iload_n 3, 1) := by decide +kernel
theorem d50_107 : decode (xmb 50) 107 = .ok (.invokevirtual 139, 3) := by decide +kernel
theorem d50_110 : decode (xmb 50) 110 = .ok (.iinc 2 1, 3) := by decide +kernel
theorem d50_113 : decode (xmb 50) 113 = .ok (.goto (-76), 3) := by decide +kernel
theorem d50_116 : decode (xmb 50) 116 = .ok (.return_, 1) := by decide +kernel
theorem d51_0 : decode (xmb 51) 0 = .ok (.aload_n 0, 1) := by decide +kernel
theorem d51_1 : decode (xmb 51) 1 = .ok (.getfield 12, 3) := by decide +kernel
theorem d51_4 : decode (xmb 51) 4 = .ok (.getfield 71, 3) := by decide +kernel
theorem d51_7 : decode (xmb 51) 7 = .ok (.iload_n 1, 1) := by decide +kernel
theorem d51_8 : decode (xmb 51) 8 = .ok (.iaload, 1) := by decide +kernel
theorem d51_9 : decode (xmb 51) 9 = .ok (.istore_n 2, 1) := by decide +kernel
theorem d51_10 : decode (xmb 51) 10 = .ok (.iload_n 2, 1) := by decide +kernel
theorem d51_11 : decode (xmb 51) 11 = .ok (.invokestatic 142, 3) := by decide +kernel
theorem d51_14 : decode (xmb 51) 14 = .ok (.ifCond .eq 13, 3) := by decide +kernel
theorem d51_17 : decode (xmb 51) 17 = .ok (.aload_n 0, 1) := by decide +kernel
theorem d51_18 : decode (xmb 51) 18 = .ok (.getfield 34, 3) := by decide +kernel
theorem d51_21 : decode (xmb 51) 21 = .ok (.iload_n 2, 1) := by decide +kernel
theorem d51_22 : decode (xmb 51) 22 = .ok (.dup2, 1) := by decide +kernel
theorem d51_23 : decode (xmb 51) 23 = .ok (.iaload, 1) := by decide +kernel
theorem d51_24 : decode (xmb 51) 24 = .ok (.iconst 1, 1) := by decide +kernel
theorem d51_25 : decode (xmb 51) 25 = .ok (.isub, 1) := by decide +kernel
theorem d51_26 : decode (xmb 51) 26 = .ok (.iastore, 1) := by decide +kernel
theorem d51_27 : decode (xmb 51) 27 = .ok (.return_, 1) := by decide +kernel
theorem d52_0 : decode (xmb 52) 0 = .ok (.iconst 0, 1) := by decide +kernel
theorem d52_1 : decode (xmb 52) 1 = .ok (.istore_n 2, 1) := by decide +kernel
theorem d52_2 : decode (xmb 52) 2 = .ok (.iload_n 2, 1) := by decide +kernel
theorem d52_3 : decode (xmb 52) 3 = .ok (.aload_n 0, 1) := by decide +kernel
theorem d52_4 : decode (xmb 52) 4 = .ok (.getfield 12, 3) := by decide +kernel
theorem d52_7 : decode (xmb 52) 7 = .ok (.getfield 40, 3) := by decide +kernel
theorem d52_10 : decode (xmb 52) 10 = .ok (.if_icmp .ge 104, 3) := by decide +kernel
theorem d52_13 : decode (xmb 52) 13 = .ok (.aload_n 0, 1) := by decide +kernel
theorem d52_14 : decode (xmb 52) 14 = .ok (.invokevirtual 146, 3) := by decide +kernel
theorem d52_17 : decode (xmb 52) 17 = .ok (.istore_n 3, 1) := by decide +kernel
theorem d52_18 : decode (xmb 52) 18 = .ok (.iload_n 3, 1) := by decide +kernel
theorem d52_19 : decode (xmb 52) 19 = .ok (.iconst (-1), 1) := by decide +kernel
theorem d52_20 : decode (xmb 52) 20 = .ok (.if_icmp .ne 4, 3) := by decide +kernel
theorem d52_23 : decode (xmb 52) 23 = .ok (.return_, 1) := by decide +kernel
theorem d52_24 : decode (xmb 52) 24 = .ok (.aload_n 0, 1) := by decide +kernel
theorem d52_25 : decode (xmb 52) 25 = .ok (.getfield 18, 3) := by decide +kernel
theorem d52_28 : decode (xmb 52) 28 = .ok (.iload_n 3, 1) := by decide +kernel
theorem d52_29 : decode (xmb 52) 29 = .ok (.iload_n 1, 1) := by decide +kernel
theorem d52_30 : decode (xmb 52) 30 = .ok (.iastore, 1) := by decide +kernel
theorem d52_31 : decode (xmb 52) 31 = .ok (.aload_n 0, 1) := by decide +kernel
theorem d52_32 : decode (xmb 52) 32 = .ok (.getfield 22, 3) := by decide +kernel
theorem d52_35 : decode (xmb 52) 35 = .ok (.iload_n 3, 1) := by decide +kernel
theorem d52_36 : decode (xmb 52) 36 = .ok (.iload_n 1, 1) := by decide +kernel
theorem d52_37 : decode (xmb 52) 37 = .ok (.aload_n 0, 1) := by decide +kernel
theorem d52_38 : decode (xmb 52) 38 = .ok (.getfield 12, 3) := by decide +kernel
theorem d52_41 : decode (xmb 52) 41 = .ok (.getfield 103, 3) := by decide +kernel
theorem d52_44 : decode (xmb 52) 44 = .ok (.iload_n 3, 1) := by decide +kernel
theorem d52_45 : decode (xmb 52) 45 = .ok (.iaload, 1) := by decide +kernel
theorem d52_46 : decode (xmb 52) 46 = .ok (.iadd, 1) := by decide +kernel
theorem d52_47 : decode (xmb 52) 47 = .ok (.iastore, 1) := by decide +kernel
theorem d52_48 : decode (xmb 52) 48 = .ok (.aload_n 0, 1) := by decide +kernel
theorem d52_49 : decode (xmb 52) 49 = .ok (.getfield 31, 3) := by decide +kernel
theorem d52_52 : decode (xmb 52) 52 = .ok (.aload_n 0, 1) := by decide +kernel
theorem d52_53 : decode (xmb 52) 53 = .ok (.getfield 50, 3) := by decide +kernel
theorem d52_56 : decode (xmb 52) 56 = .ok (.iload_n 3, 1) := by decide +kernel
theorem d52_57 : decode (xmb 52) 57 = .ok (.iastore, 1) := by decide +kernel
theorem d52_58 : decode (xmb 52) 58 = .ok (.aload_n 0, 1) := by decide +kernel
theorem d52_59 : decode (xmb 52) 59 = .ok (.dup, 1) := by decide +kernel
theorem d52_60 : decode (xmb 52) 60 = .ok (.getfield 50, 3) := by decide +kernel
theorem d52_63 : decode (xmb 52) 63 = .ok (.iconst 1, 1) := by decide +kernel
theorem d52_64 : decode (xmb 52) 64 = .ok (.iadd, 1) := by decide +kernel
theorem d52_65 : decode (xmb 52) 65 = .ok (.putfield 50, 3) := by decide +kernel
theorem d52_68 : decode (xmb 52) 68 = .ok (.aload_n 0, 1) := by decide +kernel
theorem d52_69 : decode (xmb 52) 69 = .ok (.aload_n 0, 1) := by decide +kernel
theorem d52_70 : decode (xmb 52) 70 = .ok (.getfield 84, 3) := by decide +kernel
theorem d52_73 : decode (xmb 52) 73 = .ok (.aload_n 0, 1) := by decide +kernel
theorem d52_74 : decode (xmb 52) 74 = .ok (.getfield 22, 3) := by decide +kernel
theorem d52_77 : decode (xmb 52) 77 = .ok (.iload_n 3, 1) := by decide +kernel
theorem d52_78 : decode (xmb 52) 78 = .ok (.iaload, 1) := by decide +kernel
theorem d52_79 : decode (xmb 52) 79 = .ok (.invokestatic 44, 3) := by decide +kernel
theorem d52_82 : decode (xmb 52) 82 = .ok (.putfield 84, 3) := by decide +kernel
theorem d52_85 : decode (xmb 52) 85 = .ok (.aload_n 0, 1) := by decide +kernel
theorem d52_86 : decode (xmb 52) 86 = .ok (.dup, 1) := by decide +kernel
theorem d52_87 : decode (xmb 52) 87 = .ok (.getfield 129, 3) := by decide +kernel
theorem d52_90 : decode (xmb 52) 90 = .ok (.aload_n 0, 1) := by decide +kernel
theorem d52_91 : decode (xmb 52) 91 = .ok (.getfield 12, 3) := by decide +kernel
theorem d52_94 : decode (xmb 52) 94 = .ok (.getfield 68, 3) := by decide +kernel
theorem d52_97 : decode (xmb 52) 97 = .ok (.iload_n 3, 1) := by decide +kernel
theorem d52_98 : decode (xmb 52) 98 = .ok (.iaload, 1) := by decide +kernel
theorem d52_99 : decode (xmb 52) 99 = .ok (.isub, 1) := by decide +kernel
theorem d52_100 : decode (xmb 52) 100 = .ok (.putfield 129, 3) := by decide +kernel
theorem d52_103 : decode (xmb 52) 103 = .ok (.aload_n 0, 1) := by decide +kernel
theorem d52_104 : decode (xmb 52) 104 = .ok (.iload_n 3, 1) := by decide +kernel
theorem d52_105 : decode (xmb 52) 105 = .ok (.invokevirtual 139, 3) := by decide +kernel
theorem d52_108 : decode (xmb 52) 108 = .ok (.iinc 2 1, 3) := by decide +kernel
theorem d52_111 : decode (xmb 52) 111 = .ok (.goto (-109), 3) := by decide +kernel
theorem d52_114 : decode (xmb 52) 114 = .ok (.return_, 1) := by decide +kernel
theorem d53_0 : decode (xmb 53) 0 = .ok (.iconst (-1), 1) := by decide +kernel
theorem d53_1 : decode (xmb 53) 1 = .ok (.istore_n 1, 1) := by decide +kernel
theorem d53_2 : decode (xmb 53) 2 = .ok (.iconst 0, 1) := by decide +kernel
theorem d53_3 : decode (xmb 53) 3 = .ok (.istore_n 2, 1) := by decide +kernel
theorem d53_4 : decode (xmb 53) 4 = .ok (.iload_n 2, 1) := by decide +kernel
theorem d53_5 : decode (xmb 53) 5 = .ok (.aload_n 0, 1) := by decide +kernel
theorem d53_6 : decode (xmb 53) 6 = .ok (.getfield 12, 3) := by decide +kernel
theorem d53_9 : decode (xmb 53) 9 = .ok (.getfield 40, 3) := by decide +kernel
theorem d53_12 : decode (xmb 53) 12 = .ok (.if_icmp .ge 39, 3) := by decide +kernel
theorem d53_15 : decode (xmb 53) 15 = .ok (.aload_n 0, 1) := by decide +kernel
theorem d53_16 : decode (xmb 53) 16 = .ok (.iload_n 2, 1) := by decide +kernel
theorem d53_17 : decode (xmb 53) 17 = .ok (.invokevirtual 150, 3) := by decide +kernel
theorem d53_20 : decode (xmb 53) 20 = .ok (.ifCond .eq 25, 3) := by decide +kernel
theorem d53_23 : decode (xmb 53) 23 = .ok (.iload_n 1, 1) := by decide +kernel
theorem d53_24 : decode (xmb 53) 24 = .ok (.iconst (-1), 1) := by decide +kernel
theorem d53_25 : decode (xmb 53) 25 = .ok (.if_icmp .eq 18, 3) := by decide +kernel
theorem d53_28 : decode (xmb 53) 28 = .ok (.aload_n 0, 1) := by decide +kernel
theorem d53_29 : decode (xmb 53) 29 = .ok (.getfield 28, 3) := by decide +kernel
theorem d53_32 : decode (xmb 53) 32 = .ok (.iload_n 2, 1) := by decide +kernel
theorem d53_33 : decode (xmb 53) 33 = .ok (.iaload, 1) := by decide +kernel
theorem d53_34 : decode (xmb 53) 34 = .ok (.aload_n 0, 1) := by decide +kernel
theorem d53_35 : decode (xmb 53) 35 = .ok (.getfield 28, 3) := by decide +kernel
theorem d53_38 : decode (xmb 53) 38 = .ok (.iload_n 1, 1) := by decide +kernel
theorem d53_39 : decode (xmb 53) 39 = .ok (.iaload, 1) := by decide +kernel
theorem d53_40 : decode (xmb 53) 40 = .ok (.if_icmp .le 5, 3) := by decide +kernel
theorem d53_43 : decode (xmb 53) 43 = .ok (.iload_n 2, 1) := by decide +kernel
theorem d53_44 : decode (xmb 53) 44 = .ok (.istore_n 1, 1) := by decide +kernel
theorem d53_45 : decode (xmb 53) 45 = .ok (.iinc 2 1, 3) := by decide +kernel
theorem d53_48 : decode (xmb 53) 48 = .ok (.goto (-44), 3) := by decide +kernel
theorem d53_51 : decode (xmb 53) 51 = .ok (.iload_n 1, 1) := by decide +kernel
theorem d53_52 : decode (xmb 53) 52 = .ok (.ireturn, 1) := by decide +kernel
theorem d54_0 : decode (xmb 54) 0 = .ok (.aload_n 0, 1) := by decide +kernel
theorem d54_1 : decode (xmb 54) 1 = .ok (.getfield 12, 3) := by decide +kernel
theorem d54_4 : decode (xmb 54) 4 = .ok (.getfield 71, 3) := by decide +kernel
theorem d54_7 : decode (xmb 54) 7 = .ok (.iload_n 1, 1) := by decide +kernel
theorem d54_8 : decode (xmb 54) 8 = .ok (.iaload, 1) := by decide +kernel
theorem d54_9 : decode (xmb 54) 9 = .ok (.istore_n 2, 1) := by decide +kernel
theorem d54_10 : decode (xmb 54) 10 = .ok (.aload_n 0, 1) := by decide +kernel
theorem d54_11 : decode (xmb 54) 11 = .ok (.getfield 18, 3) := by decide +kernel
theorem d54_14 : decode (xmb 54) 14 = .ok (.iload_n 1, 1) := by decide +kernel
theorem d54_15 : decode (xmb 54) 15 = .ok (.iaload, 1) := by decide +kernel
theorem d54_16 : decode (xmb 54) 16 = .ok (.iconst (-1), 1) := by decide +kernel
theorem d54_17 : decode (xmb 54) 17 = .ok (.if_icmp .ne 58, 3) := by decide +kernel
theorem d54_20 : decode (xmb 54) 20 = .ok (.aload_n 0, 1) := by decide +kernel
theorem d54_21 : decode (xmb 54) 21 = .ok (.getfield 12, 3) := by decide +kernel
theorem d54_24 : decode (xmb 54) 24 = .ok (.getfield 123, 3) := by decide +kernel
theorem d54_27 : decode (xmb 54) 27 = .ok (.iload_n 1, 1) := by decide +kernel
theorem d54_28 : decode (xmb 54) 28 = .ok (.iaload, 1) := by decide +kernel
theorem d54_29 : decode (xmb 54) 29 = .ok (.aload_n 0, 1) := by decide +kernel
theorem d54_30 : decode (xmb 54) 30 = .ok (.getfield 126, 3) := by decide +kernel
theorem d54_33 : decode (xmb 54) 33 = .ok (.iconst (-1), 1) := by decide +kernel
theorem d54_34 : decode (xmb 54) 34 = .ok (.ixor, 1) := by decide +kernel
theorem d54_35 : decode (xmb 54) 35 = .ok (.iand, 1) := by decide +kernel
theorem d54_36 : decode (xmb 54) 36 = .ok (.ifCond .ne 39, 3) := by decide +kernel
theorem d54_39 : decode (xmb 54) 39 = .ok (.aload_n 0, 1) := by decide +kernel
theorem d54_40 : decode (xmb 54) 40 = .ok (.getfield 129, 3) := by decide +kernel
theorem d54_43 : decode (xmb 54) 43 = .ok (.aload_n 0, 1) := by decide +kernel
theorem d54_44 : decode (xmb 54) 44 = .ok (.getfield 12, 3) := by decide +kernel
theorem d54_47 : decode (xmb 54) 47 = .ok (.getfield 68, 3) := by decide +kernel
theorem d54_50 : decode (xmb 54) 50 = .ok (.iload_n 1, 1) := by decide +kernel
theorem d54_51 : decode (xmb 54) 51 = .ok (.iaload, 1) := by decide +kernel
theorem d54_52 : decode (xmb 54) 52 = .ok (.if_icmp .lt 23, 3) := by decide +kernel
theorem d54_55 : decode (xmb 54) 55 = .ok (.iload_n 2, 1) := by decide +kernel
theorem d54_56 : decode (xmb 54) 56 = .ok (.invokestatic 142, 3) := by decide +kernel
theorem d54_59 : decode (xmb 54) 59 = .ok (.ifCond .eq 12, 3) := by decide +kernel
theorem d54_62 : decode (xmb 54) 62 = .ok (.aload_n 0, 1) := by decide +kernel
theorem d54_63 : decode (xmb 54) 63 = .ok (.getfield 34, 3) := by decide +kernel
theorem d54_66 : decode (xmb 54) 66 = .ok (.iload_n 2, 1) := by decide +kernel
theorem d54_67 : decode (xmb 54) 67 = .ok (.iaload, 1) := by decide +kernel
theorem d54_68 : decode (xmb 54) 68 = .ok (.ifCond .le 7, 3) := by decide +kernel
theorem d54_71 : decode (xmb 54) 71 = .ok (.iconst 1, 1) := by decide +kernel
theorem d54_72 : decode (xmb 54) 72 = .ok (.goto 4, 3) := by decide +kernel
theorem d54_75 : decode (xmb 54) 75 = .ok (.iconst 0, 1) := by decide +kernel
theorem d54_76 : decode (xmb 54) 76 = .ok (.ireturn, 1) := by decide +kernel
theorem d55_0 : decode (xmb 55) 0 = .ok (.iconst (-1), 1) := by decide +kernel
theorem d55_1 : decode (xmb 55) 1 = .ok (.istore_n 2, 1) := by decide +kernel
theorem d55_2 : decode (xmb 55) 2 = .ok (.iconst 0, 1) := by decide +kernel
theorem d55_3 : decode (xmb 55) 3 = .ok (.istore_n 3, 1) := by decide +kernel
theorem d55_4 : decode (xmb 55) 4 = .ok (.iload_n 3, 1) := by decide +kernel
theorem d55_5 : decode (xmb 55) 5 = .ok (.aload_n 0, 1) := by decide +kernel
theorem d55_6 : decode (xmb 55) 6 = .ok (.getfield 50, 3) := by decide +kernel
theorem d55_9 : decode (xmb 55) 9 = .ok (.if_icmp .ge 42, 3) := by decide +kernel
theorem d55_12 : decode (xmb 55) 12 = .ok (.aload_n 0, 1) := by decide +kernel
theorem d55_13 : decode (xmb 55) 13 = .ok (.getfield 31, 3) := by decide +kernel
theorem d55_16 : decode (xmb 55) 16 = .ok (.iload_n 3, 1) := by decide +kernel
theorem d55_17 : decode (xmb 55) 17 = .ok (.iaload, 1) := by decide +kernel
theorem d55_18 : decode (xmb 55) 18 = .ok (.istore 4, 2) := by decide +kernel
theorem d55_20 : decode (xmb 55) 20 = .ok (.iload_n 2, 1) := by decide +kernel
theorem d55_21 : decode (xmb 55) 21 = .ok (.aload_n 0, 1) := by decide +kernel
theorem d55_22 : decode (xmb 55) 22 = .ok (.getfield 22, 3) := by decide +kernel
theorem d55_25 : decode (xmb 55) 25 = .ok (.iload 4, 2) := by decide +kernel
theorem d55_27 : decode (xmb 55) 27 = .ok (.iaload, 1) := by decide +kernel
theorem d55_28 : decode (xmb 55) 28 = .ok (.iload_n 1, 1) := by decide +kernel
theorem d55_29 : decode (xmb 55) 29 = .ok (.invokestatic 153, 3) := by decide +kernel
theorem d55_32 : decode (xmb 55) 32 = .ok (.istore_n 2, 1) := by decide +kernel
theorem d55_33 : decode (xmb 55) 33 = .ok (.iload_n 2, 1) := by decide +kernel
theorem d55_34 : decode (xmb 55) 34 = .ok (.aload_n 0, 1) := by decide +kernel
theorem d55_35 : decode (xmb 55) 35 = .ok (.iload 4, 2) := by decide +kernel
theorem d55_37 : decode (xmb 55) 37 = .ok (.invokevirtual 74, 3) := by decide +kernel
theorem d55_40 : decode (xmb 55) 40 = .ok (.iload_n 1, 1) := by decide +kernel
theorem d55_41 : decode (xmb 55) 41 = .ok (.invokestatic 153, 3) := by decide +kernel
theorem d55_44 : decode (xmb 55) 44 = .ok (.istore_n 2, 1) := by decide +kernel
theorem d55_45 : decode (xmb 55) 45 = .ok (.iinc 3 1, 3) := by decide +kernel
theorem d55_48 : decode (xmb 55) 48 = .ok (.goto (-44), 3) := by decide +kernel
theorem d55_51 : decode (xmb 55) 51 = .ok (.iload_n 2, 1) := by decide +kernel
theorem d55_52 : decode (xmb 55) 52 = .ok (.ireturn, 1) := by decide +kernel
theorem d56_0 : decode (xmb 56) 0 = .ok (.iload_n 1, 1) := by decide +kernel
theorem d56_1 : decode (xmb 56) 1 = .ok (.iload_n 2, 1) := by decide +kernel
theorem d56_2 : decode (xmb 56) 2 = .ok (.if_icmp .le 17, 3) := by decide +kernel
theorem d56_5 : decode (xmb 56) 5 = .ok (.iload_n 0, 1) := by decide +kernel
theorem d56_6 : decode (xmb 56) 6 = .ok (.iconst (-1), 1) := by decide +kernel
theorem d56_7 : decode (xmb 56) 7 = .ok (.if_icmp .eq 8, 3) := by decide +kernel
theorem d56_10 : decode (xmb 56) 10 = .ok (.iload_n 1, 1) := by decide +kernel
theorem d56_11 : decode (xmb 56) 11 = .ok (.iload_n 0, 1) := by decide +kernel
theorem d56_12 : decode (xmb 56) 12 = .ok (.if_icmp .ge 7, 3) := by decide +kernel
theorem d56_15 : decode (xmb 56) 15 = .ok (.iload_n 1, 1) := by decide +kernel
theorem d56_16 : decode (xmb 56) 16 = .ok (.goto 4, 3) := by decide +kernel
theorem d56_19 : decode (xmb 56) 19 = .ok (.iload_n 0, 1) := by decide +kernel
theorem d56_20 : decode (xmb 56) 20 = .ok (.ireturn, 1) := by decide +kernel
theorem d58_0 : decode (xmb 58) 0 = .ok (.iload_n 1, 1) := by decide +kernel
theorem d58_1 : decode (xmb 58) 1 = .ok (.iconst 0, 1) := by decide +kernel
theorem d58_2 : decode (xmb 58) 2 = .ok (.sipush 255, 3) := by decide +kernel
theorem d58_5 : decode (xmb 58) 5 = .ok (.invokestatic 54, 3) := by decide +kernel
theorem d58_8 : decode (xmb 58) 8 = .ok (.invokestatic 58, 3) := by decide +kernel
theorem d58_11 : decode (xmb 58) 11 = .ok (.aload_n 0, 1) := by decide +kernel
theorem d58_12 : decode (xmb 58) 12 = .ok (.getfield 10, 3) := by decide +kernel
theorem d58_15 : decode (xmb 58) 15 = .ok (.getfield 62, 3) := by decide +kernel
theorem d58_18 : decode (xmb 58) 18 = .ok (.bipush 120, 2) := by decide +kernel
theorem d58_20 : decode (xmb 58) 20 = .ok (.if_icmp .ge 7, 3) := by decide +kernel
theorem d58_23 : decode (xmb 58) 23 = .ok (.iconst 1, 1) := by decide +kernel
theorem d58_24 : decode (xmb 58) 24 = .ok (.goto 4, 3) := by decide +kernel
theorem d58_27 : decode (xmb 58) 27 = .ok (.iconst 0, 1) := by decide +kernel
theorem d58_28 : decode (xmb 58) 28 = .ok (.invokestatic 66, 3) := by decide +kernel
theorem d58_31 : decode (xmb 58) 31 = .ok (.aload_n 0, 1) := by decide +kernel
theorem d58_32 : decode (xmb 58) 32 = .ok (.getfield 10, 3) := by decide +kernel
theorem d58_35 : decode (xmb 58) 35 = .ok (.iload_n 1, 1) := by decide +kernel
theorem d58_36 : decode (xmb 58) 36 = .ok (.i2c, 1) := by decide +kernel
theorem d58_37 : decode (xmb 58) 37 = .ok (.invokevirtual 69, 3) := by decide +kernel
theorem d58_40 : decode (xmb 58) 40 = .ok (.ireturn, 1) := by decide +kernel
theorem d59_0 : decode (xmb 59) 0 = .ok (.aload_n 0, 1) := by decide +kernel
theorem d59_1 : decode (xmb 59) 1 = .ok (.getfield 10, 3) := by decide +kernel
theorem d59_4 : decode (xmb 59) 4 = .ok (.getfield 62, 3) := by decide +kernel
theorem d59_7 : decode (xmb 59) 7 = .ok (.istore_n 1, 1) := by decide +kernel
theorem d59_8 : decode (xmb 59) 8 = .ok (.aload_n 0, 1) := by decide +kernel
theorem d59_9 : decode (xmb 59) 9 = .ok (.getfield 10, 3) := by decide +kernel
theorem d59_12 : decode (xmb 59) 12 = .ok (.iconst 0, 1) := by decide +kernel
theorem d59_13 : decode (xmb 59) 13 = .ok (.putfield 62, 3) := by decide +kernel
theorem d59_16 : decode (xmb 59) 16 = .ok (.iload_n 1, 1) := by decide +kernel
theorem d59_17 : decode (xmb 59) 17 = .ok (.ireturn, 1) := by decide +kernel
theorem d60_0 : decode (xmb 60) 0 = .ok (.aload_n 0, 1) := by decide +kernel
theorem d60_1 : decode (xmb 60) 1 = .ok (.getfield 10, 3) := by decide +kernel
theorem d60_4 : decode (xmb 60) 4 = .ok (.aload_n 0, 1) := by decide +kernel
theorem d60_5 : decode (xmb 60) 5 = .ok (.getfield 33, 3) := by decide +kernel
theorem d60_8 : decode (xmb 60) 8 = .ok (.invokevirtual 73, 3) := by decide +kernel
theorem d60_11 : decode (xmb 60) 11 = .ok (.ireturn, 1) := by decide +kernel
theorem d61_0 : decode (xmb 61) 0 = .ok (.aload_n 0, 1) := by decide +kernel
theorem d61_1 : decode (xmb 61) 1 = .ok (.getfield 10, 3) := by decide +kernel
theorem d61_4 : decode (xmb 61) 4 = .ok (.aload_n 0, 1) := by decide +kernel
theorem d61_5 : decode (xmb 61) 5 = .ok (.getfield 33, 3) := by decide +kernel
theorem d61_8 : decode (xmb 61) 8 = .ok (.invokevirtual 73, 3) := by decide +kernel
theorem d61_11 : decode (xmb 61) 11 = .ok (.iconst (-1), 1) := by decide +kernel
theorem d61_12 : decode (xmb 61) 12 = .ok (.if_icmp .ne 7, 3) := by decide +kernel
theorem d61_15 : decode (xmb 61) 15 = .ok (.iconst 1, 1) := by decide +kernel
theorem d61_16 : decode (xmb 61) 16 = .ok (.goto 4, 3) := by decide +kernel
theorem d61_19 : decode (xmb 61) 19 = .ok (.iconst 0, 1) := by decide +kernel
theorem d61_20 : decode (xmb 61) 20 = .ok (.invokestatic 66, 3) := by decide +kernel
theorem d61_23 : decode (xmb 61) 23 = .ok (.aload_n 0, 1) := by decide +kernel
theorem d61_24 : decode (xmb 61) 24 = .ok (.getfield 27, 3) := by decide +kernel
theorem d61_27 : decode (xmb 61) 27 = .ok (.aload_n 0, 1) := by decide +kernel
theorem d61_28 : decode (xmb 61) 28 = .ok (.getfield 33, 3) := by decide +kernel
theorem d61_31 : decode (xmb 61) 31 = .ok (.invokevirtual 77, 3) := by decide +kernel
theorem d61_34 : decode (xmb 61) 34 = .ok (.aload_n 0, 1) := by decide +kernel
theorem d61_35 : decode (xmb 61) 35 = .ok (.getfield 39, 3) := by decide +kernel
theorem d61_38 : decode (xmb 61) 38 = .ok (.invokevirtual 81, 3) := by decide +kernel
theorem d61_41 : decode (xmb 61) 41 = .ok (.iconst 0, 1) := by decide +kernel
theorem d61_42 : decode (xmb 61) 42 = .ok (.istore_n 1, 1) := by decide +kernel
theorem d61_43 : decode (xmb 61) 43 = .ok (.iload_n 1, 1) := by decide +kernel
theorem d61_44 : decode (xmb 61) 44 = .ok (.iconst 2, 1) := by decide +kernel
theorem d61_45 : decode (xmb 61) 45 = .ok (.if_icmp .ge 16, 3) := by decide +kernel
theorem d61_48 : decode (xmb 61) 48 = .ok (.aload_n 0, 1) := by decide +kernel
theorem d61_49 : decode (xmb 61) 49 = .ok (.getfield 50, 3) := by decide +kernel
theorem d61_52 : decode (xmb 61) 52 = .ok (.iload_n 1, 1) := by decide +kernel
theorem d61_53 : decode (xmb 61) 53 = .ok (.iconst 0, 1) := by decide +kernel
theorem d61_54 : decode (xmb 61) 54 = .ok (.bastore, 1) := by decide +kernel
theorem d61_55 : decode (xmb 61) 55 = .ok (.iinc 1 1, 3) := by decide +kernel
theorem d61_58 : decode (xmb 61) 58 = .ok (.goto (-15), 3) := by decide +kernel
theorem d61_61 : decode (xmb 61) 61 = .ok (.aload_n 0, 1) := by decide +kernel
theorem d61_62 : decode (xmb 61) 62 = .ok (.getfield 10, 3) := by decide +kernel
theorem d61_65 : decode (xmb 61) 65 = .ok (.getfield 84, 3) := by decide +kernel
theorem d61_68 : decode (xmb 61) 68 = .ok (.ireturn, 1) := by decide +kernel
theorem d62_0 : decode (xmb 62) 0 = .ok (.iload_n 1, 1) := by decide +kernel
theorem d62_1 : decode (xmb 62) 1 = .ok (.iconst 0, 1) := by decide +kernel
theorem d62_2 : decode (xmb 62) 2 = .ok (.bipush 9, 2) := by decide +kernel
theorem d62_4 : decode (xmb 62) 4 = .ok (.invokestatic 54, 3) := by decide +kernel
theorem d62_7 : decode (xmb 62) 7 = .ok (.invokestatic 58, 3) := by decide +kernel
theorem d62_10 : decode (xmb 62) 10 = .ok (.iload_n 1, 1) := by decide +kernel
theorem d62_11 : decode (xmb 62) 11 = .ok (.tableswitch 142 0 8 #[49, 57, 65, 73, 81, 96, 111, 126, 134], 49) := by decide +kernel
theorem d62_60 : decode (xmb 62) 60 = .ok (.aload_n 0, 1) := by decide +kernel
theorem d62_61 : decode (xmb 62) 61 = .ok (.getfield 27, 3) := by decide +kernel
theorem d62_64 : decode (xmb 62) 64 = .ok (.getfield 87, 3) := by decide +kernel
theorem d62_67 : decode (xmb 62) 67 = .ok (.ireturn, 1) := by decide +kernel
theorem d62_68 : decode (xmb 62) 68 = .ok (.aload_n 0, 1) := by decide +kernel
theorem d62_69 : decode (xmb 62) 69 = .ok (.getfield 27, 3) := by decide +kernel
theorem d62_72 : decode (xmb 62) 72 = .ok (.getfield 90, 3) := by decide +kernel
theorem d62_75 : decode (xmb 62) 75 = .ok (.ireturn, 1) := by decide +kernel
theorem d62_76 : decode (xmb 62) 76 = .ok (.aload_n 0, 1) := by decide +kernel
theorem d62_77 : decode (xmb 62) 77 = .ok (.getfield 27, 3) := by decide +kernel
theorem d62_80 : decode (xmb 62) 80 = .ok (.getfield 93, 3) := by decide +kernel
theorem d62_83 : decode (xmb 62) 83 = .ok (.ireturn, 1) := by decide +kernel
theorem d62_84 : decode (xmb 62) 84 = .ok (.aload_n 0, 1) := by decide +kernel
theorem d62_85 : decode (xmb 62) 85 = .ok (.getfield 27, 3) := by decide +kernel
theorem d62_88 : decode (xmb 62) 88 = .ok (.getfield 96, 3) := by decide +kernel
theorem d62_91 : decode (xmb 62) 91 = .ok (.ireturn, 1) := by decide +kernel
theorem d62_92 : decode (xmb 62) 92 = .ok (.aload_n 0, 1) := by decide +kernel
theorem d62_93 : decode (xmb 62) 93 = .ok (.getfield 27, 3) := by decide +kernel
theorem d62_96 : decode (xmb 62) 96 = .ok (.aload_n 0, 1) := by decide +kernel
theorem d62_97 : decode (xmb 62) 97 = .ok (.getfield 27, 3) := by decide +kernel
theorem d62_100 : decode (xmb 62) 100 = .ok (.getfield 96, 3) := by decide +kernel
theorem d62_103 : decode (xmb 62) 103 = .ok (.invokevirtual 99, 3) := by decide +kernel
theorem d62_106 : decode (xmb 62) 106 = .ok (.ireturn, 1) := by decide +kernel
theorem d62_107 : decode (xmb 62) 107 = .ok (.aload_n 0, 1) := by decide +kernel
theorem d62_108 : decode (xmb 62) 108 = .ok (.getfield 19, 3) := by decide +kernel
theorem d62_111 : decode (xmb 62) 111 = .ok (.invokevirtual 103, 3) := by decide +kernel
theorem d62_114 : decode (xmb 62) 114 = .ok (.aload_n 0, 1) := by decide +kernel
theorem d62_115 : decode (xmb 62) 115 = .ok (.getfield 19, 3) := by decide +kernel
theorem d62_118 : decode (xmb 62) 118 = .ok (.getfield 106, 3) := by decide +kernel
theorem d62_121 : decode (xmb 62) 121 = .ok (.ireturn, 1) := by decide +kernel
theorem d62_122 : decode (xmb 62) 122 = .ok (.aload_n 0, 1) := by decide +kernel
theorem d62_123 : decode (xmb 62) 123 = .ok (.getfield 19, 3) := by decide +kernel
theorem d62_126 : decode (xmb 62) 126 = .ok (.invokevirtual 103, 3) := by decide +kernel
theorem d62_129 : decode (xmb 62) 129 = .ok (.aload_n 0, 1) := by decide +kernel
theorem d62_130 : decode (xmb 62) 130 = .ok (.getfield 19, 3) := by decide +kernel
theorem d62_133 : decode (xmb 62) 133 = .ok (.getfield 109, 3) := by decide +kernel
theorem d62_136 : decode (xmb 62) 136 = .ok (.ireturn, 1) := by decide +kernel
theorem d62_137 : decode (xmb 62) 137 = .ok (.aload_n 0, 1) := by decide +kernel
theorem d62_138 : decode (xmb 62) 138 = .ok (.getfield 19, 3) := by decide +kernel
theorem d62_141 : decode (xmb 62) 141 = .ok (.invokevirtual 112, 3) := by decide +kernel
theorem d62_144 : decode (xmb 62) 144 = .ok (.ireturn, 1) := by decide +kernel
theorem d62_145 : decode (xmb 62) 145 = .ok (.aload_n 0, 1) := by decide +kernel
theorem d62_146 : decode (xmb 62) 146 = .ok (.getfield 27, 3) := by decide +kernel
theorem d62_149 : decode (xmb 62) 149 = .ok (.invokevirtual 116, 3) := by decide +kernel
theorem d62_152 : decode (xmb 62) 152 = .ok (.ireturn, 1) := by decide +kernel
theorem d62_153 : decode (xmb 62) 153 = .ok (.aload_n 0, 1) := by decide +kernel
theorem d62_154 : decode (xmb 62) 154 = .ok (.getfield 27, 3) := by decide +kernel
theorem d62_157 : decode (xmb 62) 157 = .ok (.invokevirtual 119, 3) := by decide +kernel
theorem d62_160 : decode (xmb 62) 160 = .ok (.ireturn, 1) := by decide +kernel
theorem d63_0 : decode (xmb 63) 0 = .ok (.aload_n 0, 1) := by decide +kernel
theorem d63_1 : decode (xmb 63) 1 = .ok (.getfield 27, 3) := by decide +kernel
theorem d63_4 : decode (xmb 63) 4 = .ok (.iload_n 1, 1) := by decide +kernel
theorem d63_5 : decode (xmb 63) 5 = .ok (.invokevirtual 122, 3) := by decide +kernel
theorem d63_8 : decode (xmb 63) 8 = .ok (.invokestatic 126, 3) := by decide +kernel
theorem d63_11 : decode (xmb 63) 11 = .ok (.iload_n 2, 1) := by decide +kernel
theorem d63_12 : decode (xmb 63) 12 = .ok (.iconst 0, 1) := by decide +kernel
theorem d63_13 : decode (xmb 63) 13 = .ok (.bipush 6, 2) := by decide +kernel
theorem d63_15 : decode (xmb 63) 15 = .ok (.invokestatic 54, 3) := by decide +kernel
theorem d63_18 : decode (xmb 63) 18 = .ok (.invokestatic 58, 3) := by decide +kernel
theorem d63_21 : decode (xmb 63) 21 = .ok (.aload_n 0, 1) := by decide +kernel
theorem d63_22 : decode (xmb 63) 22 = .ok (.getfield 27, 3) := by decide +kernel
theorem d63_25 : decode (xmb 63) 25 = .ok (.getfield 96, 3) := by decide +kernel
theorem d63_28 : decode (xmb 63) 28 = .ok (.istore_n 3, 1) := by decide +kernel
theorem d63_29 : decode (xmb 63) 29 = .ok (.iload_n 2, 1) := by decide +kernel
theorem d63_30 : decode (xmb 63) 30 = .ok (.tableswitch 109 0 5 #[38, 48, 58, 68, 80, 100], 38) := by decide +kernel
theorem d63_68 : decode (xmb 63) 68 = .ok (.aload_n 0, 1) := by decide +kernel
theorem d63_69 : decode (xmb 63) 69 = .ok (.getfield 27, 3) := by decide +kernel
theorem d63_72 : decode (xmb 63) 72 = .ok (.getfield 129, 3) := by decide +kernel
theorem d63_75 : decode (xmb 63) 75 = .ok (.iload_n 1, 1) := by decide +kernel
theorem d63_76 : decode (xmb 63) 76 = .ok (.iaload, 1) := by decide +kernel
theorem d63_77 : decode (xmb 63) 77 = .ok (.ireturn, 1) := by decide +kernel
theorem d63_78 : decode (xmb 63) 78 = .ok (.aload_n 0, 1) := by decide +kernel
theorem d63_79 : decode (xmb 63) 79 = .ok (.getfield 27, 3) := by decide +kernel
theorem d63_82 : decode (xmb 63) 82 = .ok (.iload_n 1, 1) := by decide +kernel
theorem d63_83 : decode (xmb 63) 83 = .ok (.iload_n 3, 1) := by decide +kernel
theorem d63_84 : decode (xmb 63) 84 = .ok (.invokevirtual 133, 3) := by decide +kernel
theorem d63_87 : decode (xmb 63) 87 = .ok (.ireturn, 1) := by decide +kernel
theorem d63_88 : decode (xmb 63) 88 = .ok (.aload_n 0, 1) := by decide +kernel
theorem d63_89 : decode (xmb 63) 89 = .ok (.getfield 27, 3) := by decide +kernel
theorem d63_92 : decode (xmb 63) 92 = .ok (.iload_n 1, 1) := by decide +kernel
theorem d63_93 : decode (xmb 63) 93 = .ok (.iload_n 3, 1) := by decide +kernel
theorem d63_94 : decode (xmb 63) 94 = .ok (.invokevirtual 137, 3) := by decide +kernel
theorem d63_97 : decode (xmb 63) 97 = .ok (.ireturn, 1) := by decide +kernel
theorem d63_98 : decode (xmb 63) 98 = .ok (.aload_n 0, 1) := by decide +kernel
theorem d63_99 : decode (xmb 63) 99 = .ok (.getfield 27, 3) := by decide +kernel
theorem d63_102 : decode (xmb 63) 102 = .ok (.iload_n 1, 1) := by decide +kernel
theorem d63_103 : decode (xmb 63) 103 = .ok (.iload_n 3, 1) := by decide +kernel
theorem d63_104 : decode (xmb 63) 104 = .ok (.bipush 15, 2) := by decide +kernel
theorem d63_106 : decode (xmb 63) 106 = .ok (.invokevirtual 140, 3) := by decide +kernel
theorem d63_109 : decode (xmb 63) 109 = .ok (.ireturn, 1) := by decide +kernel
theorem d63_110 : decode (xmb 63) 110 = .ok (.aload_n 0, 1) := by decide +kernel
theorem d63_111 : decode (xmb 63) 111 = .ok (.getfield 27, 3) := by decide +kernel
theorem d63_114 : decode (xmb 63) 114 = .ok (.iload_n 1, 1) := by decide +kernel
theorem d63_115 : decode (xmb 63) 115 = .ok (.iload_n 3, 1) := by decide +kernel
theorem d63_116 : decode (xmb 63) 116 = .ok (.invokevirtual 137, 3) := by decide +kernel
theorem d63_119 : decode (xmb 63) 119 = .ok (.aload_n 0, 1) := by decide +kernel
theorem d63_120 : decode (xmb 63) 120 = .ok (.getfield 27, 3) := by decide +kernel
theorem d63_123 : decode (xmb 63) 123 = .ok (.iload_n 1, 1) := by decide +kernel
theorem d63_124 : decode (xmb 63) 124 = .ok (.iload_n 3, 1) := by decide +kernel
theorem d63_125 : decode (xmb 63) 125 = .ok (.invokevirtual 133, 3) := by decide +kernel
theorem d63_128 : decode (xmb 63) 128 = .ok (.isub, 1) := by decide +kernel
theorem d63_129 : decode (xmb 63) 129 = .ok (.ireturn, 1) := by decide +kernel
theorem d63_130 : decode (xmb 63) 130 = .ok (.aload_n 0, 1) := by decide +kernel
theorem d63_131 : decode (xmb 63) 131 = .ok (.getfield 27, 3) := by decide +kernel
theorem d63_134 : decode (xmb 63) 134 = .ok (.iload_n 1, 1) := by decide +kernel
theorem d63_135 : decode (xmb 63) 135 = .ok (.invokevirtual 144, 3) := by decide +kernel
theorem d63_138 : decode (xmb 63) 138 = .ok (.ireturn, 1) := by decide +kernel
theorem d63_139 : decode (xmb 63) 139 = .ok (.aload_n 0, 1) := by decide +kernel
theorem d63_140 : decode (xmb 63) 140 = .ok (.getfield 19, 3) := by decide +kernel
theorem d63_143 : decode (xmb 63) 143 = .ok (.invokevirtual 103, 3) := by decide +kernel
theorem d63_146 : decode (xmb 63) 146 = .ok (.aload_n 0, 1) := by decide +kernel
theorem d63_147 : decode (xmb 63) 147 = .ok (.getfield 19, 3) := by decide +kernel
theorem d63_150 : decode (xmb 63) 150 = .ok (.iload_n 1, 1) := by decide +kernel
theorem d63_151 : decode (xmb 63) 151 = .ok (.invokevirtual 147, 3) := by decide +kernel
theorem d63_154 : decode (xmb 63) 154 = .ok (.ireturn, 1) := by decide +kernel
theorem d64_0 : decode (xmb 64) 0 = .ok (.aload_n 0, 1) := by decide +kernel
theorem d64_1 : decode (xmb 64) 1 = .ok (.getfield 27, 3) := by decide +kernel
theorem d64_4 : decode (xmb 64) 4 = .ok (.iload_n 1, 1) := by decide +kernel
theorem d64_5 : decode (xmb 64) 5 = .ok (.invokevirtual 122, 3) := by decide +kernel
theorem d64_8 : decode (xmb 64) 8 = .ok (.invokestatic 126, 3) := by decide +kernel
theorem d64_11 : decode (xmb 64) 11 = .ok (.iload_n 2, 1) := by decide +kernel
theorem d64_12 : decode (xmb 64) 12 = .ok (.iconst 0, 1) := by decide +kernel
theorem d64_13 : decode (xmb 64) 13 = .ok (.iconst 3, 1) := by decide +kernel
theorem d64_14 : decode (xmb 64) 14 = .ok (.invokestatic 54, 3) := by decide +kernel
theorem d64_17 : decode (xmb 64) 17 = .ok (.invokestatic 58, 3) := by decide +kernel
theorem d64_20 : decode (xmb 64) 20 = .ok (.aload_n 0, 1) := by decide +kernel
theorem d64_21 : decode (xmb 64) 21 = .ok (.getfield 27, 3) := by decide +kernel
theorem d64_24 : decode (xmb 64) 24 = .ok (.iload_n 1, 1) := by decide +kernel
theorem d64_25 : decode (xmb 64) 25 = .ok (.aload_n 0, 1) := by decide +kernel
theorem d64_26 : decode (xmb 64) 26 = .ok (.getfield 27, 3) := by decide +kernel
theorem d64_29 : decode (xmb 64) 29 = .ok (.getfield 96, 3) := by decide +kernel
theorem d64_32 : decode (xmb 64) 32 = .ok (.iconst 1, 1) := by decide +kernel
theorem d64_33 : decode (xmb 64) 33 = .ok (.iload_n 2, 1) := by decide +kernel
theorem d64_34 : decode (xmb 64) 34 = .ok (.ishl, 1) := by decide +kernel
theorem d64_35 : decode (xmb 64) 35 = .ok (.invokevirtual 140, 3) := by decide +kernel
theorem d64_38 : decode (xmb 64) 38 = .ok (.ireturn, 1) := by decide +kernel
theorem d65_0 : decode (xmb 65) 0 = .ok (.aload_n 0, 1) := by decide +kernel
theorem d65_1 : decode (xmb 65) 1 = .ok (.getfield 27, 3) := by decide +kernel
theorem d65_4 : decode (xmb 65) 4 = .ok (.iload_n 1, 1) := by decide +kernel
theorem d65_5 : decode (xmb 65) 5 = .ok (.invokevirtual 150, 3) := by decide +kernel
theorem d65_8 : decode (xmb 65) 8 = .ok (.invokestatic 126, 3) := by decide +kernel
theorem d65_11 : decode (xmb 65) 11 = .ok (.iload_n 2, 1) := by decide +kernel
theorem d65_12 : decode (xmb 65) 12 = .ok (.iconst 0, 1) := by decide +kernel
theorem d65_13 : decode (xmb 65) 13 = .ok (.bipush 9, 2) := by decide +kernel
theorem d65_15 : decode (xmb 65) 15 = .ok (.invokestatic 54, 3) := by decide +kernel
theorem d65_18 : decode (xmb 65) 18 = .ok (.invokestatic 58, 3) := by decide +kernel
theorem d65_21 : decode (xmb 65) 21 = .ok (.iload_n 2, 1) := by decide +kernel
theorem d65_22 : decode (xmb 65) 22 = .ok (.tableswitch 160 0 8 #[50, 60, 70, 80, 90, 100, 109, 126, 143], 50) := by decide +kernel
theorem d65_72 : decode (xmb 65) 72 = .ok (.aload_n 0, 1) := by decide +kernel
theorem d65_73 : decode (xmb 65) 73 = .ok (.getfield 27, 3) := by decide +kernel
theorem d65_76 : decode (xmb 65) 76 = .ok (.getfield 153, 3) := by decide +kernel
theorem d65_79 : decode (xmb 65) 79 = .ok (.iload_n 1, 1) := by decide +kernel
theorem d65_80 : decode (xmb 65) 80 = .ok (.iaload, 1) := by decide +kernel
theorem d65_81 : decode (xmb 65) 81 = .ok (.ireturn, 1) := by decide +kernel
theorem d65_82 : decode (xmb 65) 82 = .ok (.aload_n 0, 1) := by decide +kernel
theorem d65_83 : decode (xmb 65) 83 = .ok (.getfield 27, 3) := by decide +kernel
theorem d65_86 : decode (xmb 65) 86 = .ok (.getfield 156, 3) := by decide +kernel
theorem d65_89 : decode (xmb 65) 89 = .ok (.iload_n 1, 1) := by decide +kernel
theorem d65_90 : decode (xmb 65) 90 = .ok (.iaload, 1) := by decide +kernel
theorem d65_91 : decode (xmb 65) 91 = .ok (.ireturn, 1) := by decide +kernel
theorem d65_92 : decode (xmb 65) 92 = .ok (.aload_n 0, 1) := by decide +kernel
theorem d65_93 : decode (xmb 65) 93 = .ok (.getfield 27, 3) := by decide +kernel
theorem d65_96 : decode (xmb 65) 96 = .ok (.getfield 159, 3) := by decide +kernel
theorem d65_99 : decode (xmb 65) 99 = .ok (.iload_n 1, 1) := by decide +kernel
theorem d65_100 : decode (xmb 65) 100 = .ok (.iaload, 1) := by decide +kernel
theorem d65_101 : decode (xmb 65) 101 = .ok (.ireturn, 1) := by decide +kernel
theorem d65_102 : decode (xmb 65) 102 = .ok (.aload_n 0, 1) := by decide +kernel
theorem d65_103 : decode (xmb 65) 103 = .ok (.getfield 27, 3) := by decide +kernel
theorem d65_106 : decode (xmb 65) 106 = .ok (.getfield 162, 3) := by decide +kernel
theorem d65_109 : decode (xmb 65) 109 = .ok (.iload_n 1, 1) := by decide +kernel
theorem d65_110 : decode (xmb 65) 110 = .ok (.iaload, 1) := by decide +kernel
theorem d65_111 : decode (xmb 65) 111 = .ok (.ireturn, 1) := by decide +kernel
theorem d65_112 : decode (xmb 65) 112 = .ok (.aload_n 0, 1) := by decide +kernel
theorem d65_113 : decode (xmb 65) 113 = .ok (.getfield 27, 3) := by decide +kernel
theorem d65_116 : decode (xmb 65) 116 = .ok (.getfield 165, 3) := by decide +kernel
theorem d65_119 : decode (xmb 65) 119 = .ok (.iload_n 1, 1) := by decide +kernel
theorem d65_120 : decode (xmb 65) 120 = .ok (.iaload, 1) := by decide +kernel
theorem d65_121 : decode (xmb 65) 121 = .ok (.ireturn, 1) := by decide +kernel
theorem d65_122 : decode (xmb 65) 122 = .ok (.aload_n 0, 1) := by decide +kernel
theorem d65_123 : decode (xmb 65) 123 = .ok (.getfield 27, 3) := by decide +kernel
theorem d65_126 : decode (xmb 65) 126 = .ok (.iload_n 1, 1) := by decide +kernel
theorem d65_127 : decode (xmb 65) 127 = .ok (.invokevirtual 168, 3) := by decide +kernel
theorem d65_130 : decode (xmb 65) 130 = .ok (.ireturn, 1) := by decide +kernel
theorem d65_131 : decode (xmb 65) 131 = .ok (.aload_n 0, 1) := by decide +kernel
theorem d65_132 : decode (xmb 65) 132 = .ok (.getfield 19, 3) := by decide +kernel
theorem d65_135 : decode (xmb 65) 135 = .ok (.invokevirtual 171, 3) := by decide +kernel
theorem d65_138 : decode (xmb 65) 138 = .ok (.aload_n 0, 1) := by decide +kernel
theorem d65_139 : decode (xmb 65) 139 = .ok (.getfield 19, 3) := by decide +kernel
theorem d65_142 : decode (xmb 65) 142 = .ok (.getfield 174, 3) := by decide +kernel
theorem d65_145 : decode (xmb 65) 145 = .ok (.iload_n 1, 1) := by decide +kernel
theorem d65_146 : decode (xmb 65) 146 = .ok (.iaload, 1) := by decide +kernel
theorem d65_147 : decode (xmb 65) 147 = .ok (.ireturn, 1) := by decide +kernel
theorem d65_148 : decode (xmb 65) 148 = .ok (.aload_n 0, 1) := by decide +kernel
theorem d65_149 : decode (xmb 65) 149 = .ok (.getfield 19, 3) := by decide +kernel
theorem d65_152 : decode (xmb 65) 152 = .ok (.invokevirtual 103, 3) := by decide +kernel
theorem d65_155 : decode (xmb 65) 155 = .ok (.aload_n 0, 1) := by decide +kernel
theorem d65_156 : decode (xmb 65) 156 = .ok (.getfield 19, 3) := by decide +kernel
theorem d65_159 : decode (xmb 65) 159 = .ok (.getfield 177, 3) := by decide +kernel
theorem d65_162 : decode (xmb 65) 162 = .ok (.iload_n 1, 1) := by decide +kernel
theorem d65_163 : decode (xmb 65) 163 = .ok (.iaload, 1) := by decide +kernel
theorem d65_164 : decode (xmb 65) 164 = .ok (.ireturn, 1) := by decide +kernel
theorem d65_165 : decode (xmb 65) 165 = .ok (.aload_n 0, 1) := by decide +kernel
theorem d65_166 : decode (xmb 65) 166 = .ok (.getfield 19, 3) := by decide +kernel
theorem d65_169 : decode (xmb 65) 169 = .ok (.invokevirtual 103, 3) := by decide +kernel
theorem d65_172 : decode (xmb 65) 172 = .ok (.aload_n 0, 1) := by decide +kernel
theorem d65_173 : decode (xmb 65) 173 = .ok (.getfield 19, 3) := by decide +kernel
theorem d65_176 : decode (xmb 65) 176 = .ok (.getfield 180, 3) := by decide +kernel
theorem d65_179 : decode (xmb 65) 179 = .ok (.iload_n 1, 1) := by decide +kernel
theorem d65_180 : decode (xmb 65) 180 = .ok (.iaload, 1) := by decide +kernel
theorem d65_181 : decode (xmb 65) 181 = .ok (.ireturn, 1) := by decide +kernel
theorem d65_182 : decode (xmb 65) 182 = .ok (.aload_n 0, 1) := by decide +kernel
theorem d65_183 : decode (xmb 65) 183 = .ok (.getfield 27, 3) := by decide +kernel
theorem d65_186 : decode (xmb 65) 186 = .ok (.iload_n 1, 1) := by decide +kernel
theorem d65_187 : decode (xmb 65) 187 = .ok (.invokevirtual 183, 3) := by decide +kernel
theorem d65_190 : decode (xmb 65) 190 = .ok (.invokestatic 186, 3) := by decide +kernel
theorem d65_193 : decode (xmb 65) 193 = .ok (.ireturn, 1) := by decide +kernel
theorem d66_0 : decode (xmb 66) 0 = .ok (.aload_n 0, 1) := by decide +kernel
theorem d66_1 : decode (xmb 66) 1 = .ok (.getfield 19, 3) := by decide +kernel
theorem d66_4 : decode (xmb 66) 4 = .ok (.invokevirtual 103, 3) := by decide +kernel
theorem d66_7 : decode (xmb 66) 7 = .ok (.iload_n 1, 1) := by decide +kernel
theorem d66_8 : decode (xmb 66) 8 = .ok (.iconst 0, 1) := by decide +kernel
theorem d66_9 : decode (xmb 66) 9 = .ok (.aload_n 0, 1) := by decide +kernel
theorem d66_10 : decode (xmb 66) 10 = .ok (.getfield 19, 3) := by decide +kernel
theorem d66_13 : decode (xmb 66) 13 = .ok (.getfield 191, 3) := by decide +kernel
theorem d66_16 : decode (xmb 66) 16 = .ok (.iconst 1, 1) := by decide +kernel
theorem d66_17 : decode (xmb 66) 17 = .ok (.isub, 1) := by decide +kernel
theorem d66_18 : decode (xmb 66) 18 = .ok (.invokestatic 54, 3) := by decide +kernel
theorem d66_21 : decode (xmb 66) 21 = .ok (.invokestatic 126, 3) := by decide +kernel
theorem d66_24 : decode (xmb 66) 24 = .ok (.aload_n 0, 1) := by decide +kernel
theorem d66_25 : decode (xmb 66) 25 = .ok (.getfield 19, 3) := by decide +kernel
theorem d66_28 : decode (xmb 66) 28 = .ok (.getfield 194, 3) := by decide +kernel
theorem d66_31 : decode (xmb 66) 31 = .ok (.iload_n 1, 1) := by decide +kernel
theorem d66_32 : decode (xmb 66) 32 = .ok (.iaload, 1) := by decide +kernel
theorem d66_33 : decode (xmb 66) 33 = .ok (.ireturn, 1) := by decide +kernel
theorem d67_0 : decode (xmb 67) 0 = .ok (.iload_n 1, 1) := by decide +kernel
theorem d67_1 : decode (xmb 67) 1 = .ok (.invokestatic 197, 3) := by decide +kernel
theorem d67_4 : decode (xmb 67) 4 = .ok (.invokestatic 126, 3) := by decide +kernel
theorem d67_7 : decode (xmb 67) 7 = .ok (.aload_n 0, 1) := by decide +kernel
theorem d67_8 : decode (xmb 67) 8 = .ok (.getfield 27, 3) := by decide +kernel
theorem d67_11 : decode (xmb 67) 11 = .ok (.getfield 200, 3) := by decide +kernel
theorem d67_14 : decode (xmb 67) 14 = .ok (.iload_n 1, 1) := by decide +kernel
theorem d67_15 : decode (xmb 67) 15 = .ok (.iaload, 1) := by decide +kernel
theorem d67_16 : decode (xmb 67) 16 = .ok (.ireturn, 1) := by decide +kernel
theorem d68_0 : decode (xmb 68) 0 = .ok (.iload_n 1, 1) := by decide +kernel
theorem d68_1 : decode (xmb 68) 1 = .ok (.invokestatic 203, 3) := by decide +kernel
theorem d68_4 : decode (xmb 68) 4 = .ok (.invokestatic 58, 3) := by decide +kernel
theorem d68_7 : decode (xmb 68) 7 = .ok (.aload_n 0, 1) := by decide +kernel
theorem d68_8 : decode (xmb 68) 8 = .ok (.getfield 27, 3) := by decide +kernel
theorem d68_11 : decode (xmb 68) 11 = .ok (.getfield 206, 3) := by decide +kernel
theorem d68_14 : decode (xmb 68) 14 = .ok (.iload_n 1, 1) := by decide +kernel
theorem d68_15 : decode (xmb 68) 15 = .ok (.iaload, 1) := by decide +kernel
theorem d68_16 : decode (xmb 68) 16 = .ok (.ireturn, 1) := by decide +kernel
theorem d69_0 : decode (xmb 69) 0 = .ok (.iload_n 1, 1) := by decide +kernel
theorem d69_1 : decode (xmb 69) 1 = .ok (.iconst 0, 1) := by decide +kernel
theorem d69_2 : decode (xmb 69) 2 = .ok (.sipush 1500, 3) := by decide +kernel
theorem d69_5 : decode (xmb 69) 5 = .ok (.invokestatic 54, 3) := by decide +kernel
theorem d69_8 : decode (xmb 69) 8 = .ok (.ifCond .eq 17, 3) := by decide +kernel
theorem d69_11 : decode (xmb 69) 11 = .ok (.iload_n 2, 1) := by decide +kernel
theorem d69_12 : decode (xmb 69) 12 = .ok (.iconst 0, 1) := by decide +kernel
theorem d69_13 : decode (xmb 69) 13 = .ok (.bipush 9, 2) := by decide +kernel
theorem d69_15 : decode (xmb 69) 15 = .ok (.invokestatic 54, 3) := by decide +kernel
theorem d69_18 : decode (xmb 69) 18 = .ok (.ifCond .eq 7, 3) := by decide +kernel
theorem d69_21 : decode (xmb 69) 21 = .ok (.iconst 1, 1) := by decide +kernel
theorem d69_22 : decode (xmb 69) 22 = .ok (.goto 4, 3) := by decide +kernel
theorem d69_25 : decode (xmb 69) 25 = .ok (.iconst 0, 1) := by decide +kernel
theorem d69_26 : decode (xmb 69) 26 = .ok (.invokestatic 58, 3) := by decide +kernel
theorem d69_29 : decode (xmb 69) 29 = .ok (.aload_n 0, 1) := by decide +kernel
theorem d69_30 : decode (xmb 69) 30 = .ok (.getfield 19, 3) := by decide +kernel
theorem d69_33 : decode (xmb 69) 33 = .ok (.invokevirtual 103, 3) := by decide +kernel
theorem d69_36 : decode (xmb 69) 36 = .ok (.aload_n 0, 1) := by decide +kernel
theorem d69_37 : decode (xmb 69) 37 = .ok (.getfield 19, 3) := by decide +kernel
theorem d69_40 : decode (xmb 69) 40 = .ok (.iload_n 1, 1) := by decide +kernel
theorem d69_41 : decode (xmb 69) 41 = .ok (.iload_n 2, 1) := by decide +kernel
theorem d69_42 : decode (xmb 69) 42 = .ok (.invokevirtual 209, 3) := by decide +kernel
theorem d69_45 : decode (xmb 69) 45 = .ok (.ireturn, 1) := by decide +kernel
theorem d70_0 : decode (xmb 70) 0 = .ok (.aload_n 0, 1) := by decide +kernel
theorem d70_1 : decode (xmb 70) 1 = .ok (.iconst 0, 1) := by decide +kernel
theorem d70_2 : decode (xmb 70) 2 = .ok (.iload_n 1, 1) := by decide +kernel
theorem d70_3 : decode (xmb 70) 3 = .ok (.iconst 0, 1) := by decide +kernel
theorem d70_4 : decode (xmb 70) 4 = .ok (.iconst 0, 1) := by decide +kernel
theorem d70_5 : decode (xmb 70) 5 = .ok (.invokevirtual 212, 3) := by decide +kernel
theorem d70_8 : decode (xmb 70) 8 = .ok (.ireturn, 1) := by decide +kernel
theorem d71_0 : decode (xmb 71) 0 = .ok (.aload_n 0, 1) := by decide +kernel
theorem d71_1 : decode (xmb 71) 1 = .ok (.bipush 7, 2) := by decide +kernel
theorem d71_3 : decode (xmb 71) 3 = .ok (.iload_n 1, 1) := by decide +kernel
theorem d71_4 : decode (xmb 71) 4 = .ok (.iload_n 2, 1) := by decide +kernel
theorem d71_5 : decode (xmb 71) 5 = .ok (.iconst 0, 1) := by decide +kernel
theorem d71_6 : decode (xmb 71) 6 = .ok (.invokevirtual 212, 3) := by decide +kernel
theorem d71_9 : decode (xmb 71) 9 = .ok (.ireturn, 1) := by decide +kernel
theorem d72_0 : decode (xmb 72) 0 = .ok (.aload_n 0, 1) := by decide +kernel
theorem d72_1 : decode (xmb 72) 1 = .ok (.getfield 27, 3) := by decide +kernel
theorem d72_4 : decode (xmb 72) 4 = .ok (.aload_n 0, 1) := by decide +kernel
theorem d72_5 : decode (xmb 72) 5 = .ok (.iconst 5, 1) := by decide +kernel
theorem d72_6 : decode (xmb 72) 6 = .ok (.iload_n 1, 1) := by decide +kernel
theorem d72_7 : decode (xmb 72) 7 = .ok (.iload_n 2, 1) := by decide +kernel
theorem d72_8 : decode (xmb 72) 8 = .ok (.iconst 0, 1) := by decide +kernel
theorem d72_9 : decode (xmb 72) 9 = .ok (.invokevirtual 212, 3) := by decide +kernel
theorem d72_12 : decode (xmb 72) 12 = .ok (.invokevirtual 99, 3) := by decide +kernel
theorem d72_15 : decode (xmb 72) 15 = .ok (.ireturn, 1) := by decide +kernel
theorem d73_0 : decode (xmb 73) 0 = .ok (.aload_n 0, 1) := by decide +kernel
theorem d73_1 : decode (xmb 73) 1 = .ok (.iconst 1, 1) := by decide +kernel
theorem d73_2 : decode (xmb 73) 2 = .ok (.iload_n 1, 1) := by decide +kernel
theorem d73_3 : decode (xmb 73) 3 = .ok (.iload_n 2, 1) := by decide +kernel
theorem d73_4 : decode (xmb 73) 4 = .ok (.iload_n 3, 1) := by decide +kernel
theorem d73_5 : decode (xmb 73) 5 = .ok (.invokestatic 216, 3) := by decide +kernel
theorem d73_8 : decode (xmb 73) 8 = .ok (.invokevirtual 212, 3) := by decide +kernel
theorem d73_11 : decode (xmb 73) 11 = .ok (.ireturn, 1) := by decide +kernel
theorem d74_0 : decode (xmb 74) 0 = .ok (.aload_n 0, 1) := by decide +kernel
theorem d74_1 : decode (xmb 74) 1 = .ok (.bipush 8, 2) := by decide +kernel
theorem d74_3 : decode (xmb 74) 3 = .ok (.iload_n 1, 1) := by decide +kernel
theorem d74_4 : decode (xmb 74) 4 = .ok (.iload_n 2, 1) := by decide +kernel
theorem d74_5 : decode (xmb 74) 5 = .ok (.iconst 0, 1) := by decide +kernel
theorem d74_6 : decode (xmb 74) 6 = .ok (.invokevirtual 212, 3) := by decide +kernel
theorem d74_9 : decode (xmb 74) 9 = .ok (.ireturn, 1) := by decide +kernel
theorem d75_0 : decode (xmb 75) 0 = .ok (.aload_n 0, 1) := by decide +kernel
theorem d75_1 : decode (xmb 75) 1 = .ok (.iconst 2, 1) := by decide +kernel
theorem d75_2 : decode (xmb 75) 2 = .ok (.iload_n 1, 1) := by decide +kernel
theorem d75_3 : decode (xmb 75) 3 = .ok (.iload_n 2, 1) := by decide +kernel
theorem d75_4 : decode (xmb 75) 4 = .ok (.iload_n 3, 1) := by decide +kernel
theorem d75_5 : decode (xmb 75) 5 = .ok (.invokestatic 216, 3) := by decide +kernel
theorem d75_8 : decode (xmb 75) 8 = .ok (.invokevirtual 212, 3) := by decide +kernel
theorem d75_11 : decode (xmb 75) 11 = .ok (.ireturn, 1) := by decide +kernel
theorem d76_0 : decode (xmb 76) 0 = .ok (.aload_n 0, 1) := by decide +kernel
theorem d76_1 : decode (xmb 76) 1 = .ok (.iconst 3, 1) := by decide +kernel
theorem d76_2 : decode (xmb 76) 2 = .ok (.iload_n 1, 1) := by decide +kernel
theorem d76_3 : decode (xmb 76) 3 = .ok (.iload_n 2, 1) := by decide +kernel
theorem d76_4 : decode (xmb 76) 4 = .ok (.iload_n 3, 1) := by decide +kernel
theorem d76_5 : decode (xmb 76) 5 = .ok (.invokestatic 216, 3) := by decide +kernel
theorem d76_8 : decode (xmb 76) 8 = .ok (.invokevirtual 212, 3) := by decide +kernel
theorem d76_11 : decode (xmb 76) 11 = .ok (.ireturn, 1) := by decide +kernel
theorem d77_0 : decode (xmb 77) 0 = .ok (.aload_n 0, 1) := by decide +kernel
theorem d77_1 : decode (xmb 77) 1 = .ok (.iconst 4, 1) := by decide +kernel
theorem d77_2 : decode (xmb 77) 2 = .ok (.iload_n 1, 1) := by decide +kernel
theorem d77_3 : decode (xmb 77) 3 = .ok (.iload_n 2, 1) := by decide +kernel
theorem d77_4 : decode (xmb 77) 4 = .ok (.iconst 0, 1) := by decide +kernel
theorem d77_5 : decode (xmb 77) 5 = .ok (.invokevirtual 212, 3) := by decide +kernel
theorem d77_8 : decode (xmb 77) 8 = .ok (.ireturn, 1) := by decide +kernel
theorem d78_0 : decode (xmb 78) 0 = .ok (.aload_n 0, 1) := by decide +kernel
theorem d78_1 : decode (xmb 78) 1 = .ok (.bipush 6, 2) := by decide +kernel
theorem d78_3 : decode (xmb 78) 3 = .ok (.iload_n 1, 1) := by decide +kernel
theorem d78_4 : decode (xmb 78) 4 = .ok (.iload_n 2, 1) := by decide +kernel
theorem d78_5 : decode (xmb 78) 5 = .ok (.iconst 0, 1) := by decide +kernel
theorem d78_6 : decode (xmb 78) 6 = .ok (.invokevirtual 212, 3) := by decide +kernel
theorem d78_9 : decode (xmb 78) 9 = .ok (.ireturn, 1) := by decide +kernel
theorem d79_0 : decode (xmb 79) 0 = .ok (.aload_n 0, 1) := by decide +kernel
theorem d79_1 : decode (xmb 79) 1 = .ok (.getfield 39, 3) := by decide +kernel
theorem d79_4 : decode (xmb 79) 4 = .ok (.getfield 220, 3) := by decide +kernel
theorem d79_7 : decode (xmb 79) 7 = .ok (.ifCond .le 7, 3) := by decide +kernel
theorem d79_10 : decode (xmb 79) 10 = .ok (.iconst 1, 1) := by decide +kernel
theorem d79_11 : decode (xmb 79) 11 = .ok (.goto 4, 3) := by decide +kernel
theorem d79_14 : decode (xmb 79) 14 = .ok (.iconst 0, 1) := by decide +kernel
theorem d79_15 : decode (xmb 79) 15 = .ok (.invokestatic 66, 3) := by decide +kernel
theorem d79_18 : decode (xmb 79) 18 = .ok (.aload_n 0, 1) := by decide +kernel
theorem d79_19 : decode (xmb 79) 19 = .ok (.getfield 39, 3) := by decide +kernel
theorem d79_22 : decode (xmb 79) 22 = .ok (.aload_n 0, 1) := by decide +kernel
theorem d79_23 : decode (xmb 79) 23 = .ok (.getfield 27, 3) := by decide +kernel
theorem d79_26 : decode (xmb 79) 26 = .ok (.invokevirtual 223, 3) := by decide +kernel
theorem d79_29 : decode (xmb 79) 29 = .ok (.ireturn, 1) := by decide +kernel
theorem d80_0 : decode (xmb 80) 0 = .ok (.iload_n 1, 1) := by decide +kernel
theorem d80_1 : decode (xmb 80) 1 = .ok (.invokestatic 197, 3) := by decide +kernel
theorem d80_4 : decode (xmb 80) 4 = .ok (.invokestatic 126, 3) := by decide +kernel
theorem d80_7 : decode (xmb 80) 7 = .ok (.iload_n 2, 1) := by decide +kernel
theorem d80_8 : decode (xmb 80) 8 = .ok (.iconst 0, 1) := by decide +kernel
theorem d80_9 : decode (xmb 80) 9 = .ok (.iconst 1, 1) := by decide +kernel
theorem d80_10 : decode (xmb 80) 10 = .ok (.invokestatic 54, 3) := by decide +kernel
theorem d80_13 : decode (xmb 80) 13 = .ok (.invokestatic 58, 3) := by decide +kernel
theorem d80_16 : decode (xmb 80) 16 = .ok (.aload_n 0, 1) := by decide +kernel
theorem d80_17 : decode (xmb 80) 17 = .ok (.getfield 33, 3) := by decide +kernel
theorem d80_20 : decode (xmb 80) 20 = .ok (.aload_n 0, 1) := by decide +kernel
theorem d80_21 : decode (xmb 80) 21 = .ok (.getfield 27, 3) := by decide +kernel
theorem d80_24 : decode (xmb 80) 24 = .ok (.invokevirtual 77, 3) := by decide +kernel
theorem d80_27 : decode (xmb 80) 27 = .ok (.aload_n 0, 1) := by decide +kernel
theorem d80_28 : decode (xmb 80) 28 = .ok (.getfield 33, 3) := by decide +kernel
theorem d80_31 : decode (xmb 80) 31 = .ok (.getfield 200, 3) := by decide +kernel
theorem d80_34 : decode (xmb 80) 34 = .ok (.iload_n 1, 1) := by decide +kernel
theorem d80_35 : decode (xmb 80) 35 = .ok (.dup2, 1) := by decide +kernel
theorem d80_36 : decode (xmb 80) 36 = .ok (.iaload, 1) := by decide +kernel
theorem d80_37 : decode (xmb 80) 37 = .ok (.iconst 1, 1) := by decide +kernel
theorem d80_38 : decode (xmb 80) 38 = .ok (.iadd, 1) := by decide +kernel
theorem d80_39 : decode (xmb 80) 39 = .ok (.iastore, 1) := by decide +kernel
theorem d80_40 : decode (xmb 80) 40 = .ok (.aload_n 0, 1) := by decide +kernel
theorem d80_41 : decode (xmb 80) 41 = .ok (.getfield 30, 3) := by decide +kernel
theorem d80_44 : decode (xmb 80) 44 = .ok (.invokevirtual 103, 3) := by decide +kernel
theorem d80_47 : decode (xmb 80) 47 = .ok (.iload_n 2, 1) := by decide +kernel
theorem d80_48 : decode (xmb 80) 48 = .ok (.ifCond .ne 13, 3) := by decide +kernel
theorem d80_51 : decode (xmb 80) 51 = .ok (.aload_n 0, 1) := by decide +kernel
theorem d80_52 : decode (xmb 80) 52 = .ok (.getfield 30, 3) := by decide +kernel
theorem d80_55 : decode (xmb 80) 55 = .ok (.getfield 106, 3) := by decide +kernel
theorem d80_58 : decode (xmb 80) 58 = .ok (.goto 10, 3) := by decide +kernel
theorem d80_61 : decode (xmb 80) 61 = .ok (.aload_n 0, 1) := by decide +kernel
theorem d80_62 : decode (xmb 80) 62 = .ok (.getfield 30, 3) := by decide +kernel
theorem d80_65 : decode (xmb 80) 65 = .ok (.getfield 109, 3) := by decide +kernel
theorem d80_68 : decode (xmb 80) 68 = .ok (.ireturn, 1) := by decide +kernel
theorem d81_0 : decode (xmb 81) 0 = .ok (.iload_n 1, 1) := by decide +kernel
theorem d81_1 : decode (xmb 81) 1 = .ok (.iconst 1, 1) := by decide +kernel
theorem d81_2 : decode (xmb 81) 2 = .ok (.bipush 24, 2) := by decide +kernel
theorem d81_4 : decode (xmb 81) 4 = .ok (.invokestatic 54, 3) := by decide +kernel
theorem d81_7 : decode (xmb 81) 7 = .ok (.ifCond .eq 16, 3) := by decide +kernel
theorem d81_10 : decode (xmb 81) 10 = .ok (.iload_n 2, 1) := by decide +kernel
theorem d81_11 : decode (xmb 81) 11 = .ok (.iconst 0, 1) := by decide +kernel
theorem d81_12 : decode (xmb 81) 12 = .ok (.iconst 1, 1) := by decide +kernel
theorem d81_13 : decode (xmb 81) 13 = .ok (.invokestatic 54, 3) := by decide +kernel
theorem d81_16 : decode (xmb 81) 16 = .ok (.ifCond .eq 7, 3) := by decide +kernel
theorem d81_19 : decode (xmb 81) 19 = .ok (.iconst 1, 1) := by decide +kernel
theorem d81_20 : decode (xmb 81) 20 = .ok (.goto 4, 3) := by decide +kernel
theorem d81_23 : decode (xmb 81) 23 = .ok (.iconst 0, 1) := by decide +kernel
theorem d81_24 : decode (xmb 81) 24 = .ok (.invokestatic 58, 3) := by decide +kernel
theorem d81_27 : decode (xmb 81) 27 = .ok (.iload_n 2, 1) := by decide +kernel
theorem d81_28 : decode (xmb 81) 28 = .ok (.ifCond .ne 14, 3) := by decide +kernel
theorem d81_31 : decode (xmb 81) 31 = .ok (.aload_n 0, 1) := by decide +kernel
theorem d81_32 : decode (xmb 81) 32 = .ok (.getfield 27, 3) := by decide +kernel
theorem d81_35 : decode (xmb 81) 35 = .ok (.iload_n 1, 1) := by decide +kernel
theorem d81_36 : decode (xmb 81) 36 = .ok (.invokevirtual 99, 3) := by decide +kernel
theorem d81_39 : decode (xmb 81) 39 = .ok (.goto 11, 3) := by decide +kernel
theorem d81_42 : decode (xmb 81) 42 = .ok (.aload_n 0, 1) := by decide +kernel
theorem d81_43 : decode (xmb 81) 43 = .ok (.getfield 27, 3) := by decide +kernel
theorem d81_46 : decode (xmb 81) 46 = .ok (.iload_n 1, 1) := by decide +kernel
theorem d81_47 : decode (xmb 81) 47 = .ok (.invokevirtual 226, 3) := by decide +kernel
theorem d81_50 : decode (xmb 81) 50 = .ok (.ireturn, 1) := by decide +kernel
theorem d82_0 : decode (xmb 82) 0 = .ok (.aload_n 0, 1) := by decide +kernel
theorem d82_1 : decode (xmb 82) 1 = .ok (.getfield 27, 3) := by decide +kernel
theorem d82_4 : decode (xmb 82) 4 = .ok (.iload_n 1, 1) := by decide +kernel
theorem d82_5 : decode (xmb 82) 5 = .ok (.invokevirtual 150, 3) := by decide +kernel
theorem d82_8 : decode (xmb 82) 8 = .ok (.invokestatic 126, 3) := by decide +kernel
theorem d82_11 : decode (xmb 82) 11 = .ok (.aload_n 0, 1) := by decide +kernel
theorem d82_12 : decode (xmb 82) 12 = .ok (.getfield 19, 3) := by decide +kernel
theorem d82_15 : decode (xmb 82) 15 = .ok (.invokevirtual 103, 3) := by decide +kernel
theorem d82_18 : decode (xmb 82) 18 = .ok (.aload_n 0, 1) := by decide +kernel
theorem d82_19 : decode (xmb 82) 19 = .ok (.getfield 19, 3) := by decide +kernel
theorem d82_22 : decode (xmb 82) 22 = .ok (.getfield 177, 3) := by decide +kernel
theorem d82_25 : decode (xmb 82) 25 = .ok (.iload_n 1, 1) := by decide +kernel
theorem d82_26 : decode (xmb 82) 26 = .ok (.iaload, 1) := by decide +kernel
theorem d82_27 : decode (xmb 82) 27 = .ok (.iconst (-1), 1) := by decide +kernel
theorem d82_28 : decode (xmb 82) 28 = .ok (.if_icmp .ne 5, 3) := by decide +kernel
theorem d82_31 : decode (xmb 82) 31 = .ok (.iconst (-1), 1) := by decide +kernel
theorem d82_32 : decode (xmb 82) 32 = .ok (.ireturn, 1) := by decide +kernel
theorem d82_33 : decode (xmb 82) 33 = .ok (.aload_n 0, 1) := by decide +kernel
theorem d82_34 : decode (xmb 82) 34 = .ok (.getfield 33, 3) := by decide +kernel
theorem d82_37 : decode (xmb 82) 37 = .ok (.aload_n 0, 1) := by decide +kernel
theorem d82_38 : decode (xmb 82) 38 = .ok (.getfield 27, 3) := by decide +kernel
theorem d82_41 : decode (xmb 82) 41 = .ok (.invokevirtual 77, 3) := by decide +kernel
theorem d82_44 : decode (xmb 82) 44 = .ok (.iconst 1, 1) := by decide +kernel
theorem d82_45 : decode (xmb 82) 45 = .ok (.istore_n 2, 1) := by decide +kernel
theorem d82_46 : decode (xmb 82) 46 = .ok (.iload_n 2, 1) := by decide +kernel
theorem d82_47 : decode (xmb 82) 47 = .ok (.bipush 60, 2) := by decide +kernel
theorem d82_49 : decode (xmb 82) 49 = .ok (.if_icmp .gt 50, 3) := by decide +kernel
theorem d82_52 : decode (xmb 82) 52 = .ok (.aload_n 0, 1) := by decide +kernel
theorem d82_53 : decode (xmb 82) 53 = .ok (.getfield 33, 3) := by decide +kernel
theorem d82_56 : decode (xmb 82) 56 = .ok (.getfield 153, 3) := by decide +kernel
theorem d82_59 : decode (xmb 82) 59 = .ok (.iload_n 1, 1) := by decide +kernel
theorem d82_60 : decode (xmb 82) 60 = .ok (.dup2, 1) := by decide +kernel
theorem d82_61 : decode (xmb 82) 61 = .ok (.iaload, 1) := by decide +kernel
theorem d82_62 : decode (xmb 82) 62 = .ok (.iconst 1, 1) := by decide +kernel
theorem d82_63 : decode (xmb 82) 63 = .ok (.iadd, 1) := by decide +kernel
theorem d82_64 : decode (xmb 82) 64 = .ok (.iastore, 1) := by decide +kernel
theorem d82_65 : decode (xmb 82) 65 = .ok (.aload_n 0, 1) := by decide +kernel
theorem d82_66 : decode (xmb 82) 66 = .ok (.getfield 30, 3) := by decide +kernel
theorem d82_69 : decode (xmb 82) 69 = .ok (.invokevirtual 103, 3) := by decide +kernel
theorem d82_72 : decode (xmb 82) 72 = .ok (.aload_n 0, 1) := by decide +kernel
theorem d82_73 : decode (xmb 82) 73 = .ok (.getfield 30, 3) := by decide +kernel
theorem d82_76 : decode (xmb 82) 76 = .ok (.getfield 106, 3) := by decide +kernel
theorem d82_79 : decode (xmb 82) 79 = .ok (.aload_n 0, 1) := by decide +kernel
theorem d82_80 : decode (xmb 82) 80 = .ok (.getfield 19, 3) := by decide +kernel
theorem d82_83 : decode (xmb 82) 83 = .ok (.getfield 106, 3) := by decide +kernel
theorem d82_86 : decode (xmb 82) 86 = .ok (.if_icmp .le 7, 3) := by decide +kernel
theorem d82_89 : decode (xmb 82) 89 = .ok (.iload_n 2, 1) := by decide +kernel
theorem d82_90 : decode (xmb 82) 90 = .ok (.iconst 1, 1) := by decide +kernel
theorem d82_91 : decode (xmb 82) 91 = .ok (.isub, 1) := by decide +kernel
theorem d82_92 : decode (xmb 82) 92 = .ok (.ireturn, 1) := by decide +kernel
theorem d82_93 : decode (xmb 82) 93 = .ok (.iinc 2 1, 3) := by decide +kernel
theorem d82_96 : decode (xmb 82) 96 = .ok (.goto (-50), 3) := by decide +kernel
theorem d82_99 : decode (xmb 82) 99 = .ok (.bipush 60, 2) := by decide +kernel
theorem d82_101 : decode (xmb 82) 101 = .ok (.ireturn, 1) := by decide +kernel
theorem d83_0 : decode (xmb 83) 0 = .ok (.aload_n 0, 1) := by decide +kernel
theorem d83_1 : decode (xmb 83) 1 = .ok (.getfield 33, 3) := by decide +kernel
theorem d83_4 : decode (xmb 83) 4 = .ok (.aload_n 0, 1) := by decide +kernel
theorem d83_5 : decode (xmb 83) 5 = .ok (.getfield 27, 3) := by decide +kernel
theorem d83_8 : decode (xmb 83) 8 = .ok (.invokevirtual 77, 3) := by decide +kernel
theorem d83_11 : decode (xmb 83) 11 = .ok (.iconst (-1), 1) := by decide +kernel
theorem d83_12 : decode (xmb 83) 12 = .ok (.istore_n 1, 1) := by decide +kernel
theorem d83_13 : decode (xmb 83) 13 = .ok (.iconst 0, 1) := by decide +kernel
theorem d83_14 : decode (xmb 83) 14 = .ok (.istore_n 2, 1) := by decide +kernel
theorem d83_15 : decode (xmb 83) 15 = .ok (.iconst 0, 1) := by decide +kernel
theorem d83_16 : decode (xmb 83) 16 = .ok (.istore_n 3, 1) := by decide +kernel
theorem d83_17 : decode (xmb 83) 17 = .ok (.iconst 0, 1) := by decide +kernel
theorem d83_18 : decode (xmb 83) 18 = .ok (.istore 4, 2) := by decide +kernel
theorem d83_20 : decode (xmb 83) 20 = .ok (.iload 4, 2) := by decide +kernel
theorem d83_22 : decode (xmb 83) 22 = .ok (.iconst 4, 1) := by decide +kernel
theorem d83_23 : decode (xmb 83) 23 = .ok (.if_icmp .ge 89, 3) := by decide +kernel
theorem d83_26 : decode (xmb 83) 26 = .ok (.aload_n 0, 1) := by decide +kernel
theorem d83_27 : decode (xmb 83) 27 = .ok (.getfield 33, 3) := by decide +kernel
theorem d83_30 : decode (xmb 83) 30 = .ok (.getfield 206, 3) := by decide +kernel
theorem d83_33 : decode (xmb 83) 33 = .ok (.iconst 4, 1) := by decide +kernel
theorem d83_34 : decode (xmb 83) 34 = .ok (.iload 4, 2) := by decide +kernel
theorem d83_36 : decode (xmb 83) 36 = .ok (.iastore, 1) := by decide +kernel
theorem d83_37 : decode (xmb 83) 37 = .ok (.aload_n 0, 1) := by decide +kernel
theorem d83_38 : decode (xmb 83) 38 = .ok (.getfield 30, 3) := by decide +kernel
theorem d83_41 : decode (xmb 83) 41 = .ok (.invokevirtual 103, 3) := by decide +kernel
theorem d83_44 : decode (xmb 83) 44 = .ok (.aload_n 0, 1) := by decide +kernel
theorem d83_45 : decode (xmb 83) 45 = .ok (.getfield 30, 3) := by decide +kernel
theorem d83_48 : decode (xmb 83) 48 = .ok (.getfield 109, 3) := by decide +kernel
theorem d83_51 : decode (xmb 83) 51 = .ok (.istore 5, 2) := by decide +kernel
theorem d83_53 : decode (xmb 83) 53 = .ok (.aload_n 0, 1) := by decide +kernel
theorem d83_54 : decode (xmb 83) 54 = .ok (.getfield 30, 3) := by decide +kernel
theorem d83_57 : decode (xmb 83) 57 = .ok (.getfield 106, 3) := by decide +kernel
theorem d83_60 : decode (xmb 83) 60 = .ok (.istore 6, 2) := by decide +kernel
theorem d83_62 : decode (xmb 83) 62 = .ok (.iload 5, 2) := by decide +kernel
theorem d83_64 : decode (xmb 83) 64 = .ok (.iload_n 2, 1) := by decide +kernel
theorem d83_65 : decode (xmb 83) 65 = .ok (.if_icmp .lt 15, 3) := by decide +kernel
theorem d83_68 : decode (xmb 83) 68 = .ok (.iload 5, 2) := by decide +kernel
theorem d83_70 : decode (xmb 83) 70 = .ok (.iload_n 2, 1) := by decide +kernel
theorem d83_71 : decode (xmb 83) 71 = .ok (.if_icmp .ne 13, 3) := by decide +kernel
theorem d83_74 : decode (xmb 83) 74 = .ok (.iload 6, 2) := by decide +kernel
theorem d83_76 : decode (xmb 83) 76 = .ok (.iload_n 3, 1) := by decide +kernel
theorem d83_77 : decode (xmb 83) 77 = .ok (.if_icmp .ge 7, 3) := by decide +kernel
theorem d83_80 : decode (xmb 83) 80 = .ok (.iconst 1, 1) := by decide +kernel
theorem d83_81 : decode (xmb 83) 81 = .ok (.goto 4, 3) := by decide +kernel
theorem d83_84 : decode (xmb 83) 84 = .ok (.iconst 0, 1) := by decide +kernel
theorem d83_85 : decode (xmb 83) 85 = .ok (.istore 7, 2) := by decide +kernel
theorem d83_87 : decode (xmb 83) 87 = .ok (.iload_n 1, 1) := by decide +kernel
theorem d83_88 : decode (xmb 83) 88 = .ok (.iconst (-1), 1) := by decide +kernel
theorem d83_89 : decode (xmb 83) 89 = .ok (.if_icmp .eq 8, 3) := by decide +kernel
theorem d83_92 : decode (xmb 83) 92 = .ok (.iload 7, 2) := by decide +kernel
theorem d83_94 : decode (xmb 83) 94 = .ok (.ifCond .eq 12, 3) := by decide +kernel
theorem d83_97 : decode (xmb 83) 97 = .ok (.iload 4, 2) := by decide +kernel
theorem d83_99 : decode (xmb 83) 99 = .ok (.istore_n 1, 1) := by decide +kernel
theorem d83_100 : decode (xmb 83) 100 = .ok (.iload 5, 2) := by decide +kernel
theorem d83_102 : decode (xmb 83) 102 = .ok (.istore_n 2, 1) := by decide +kernel
theorem d83_103 : decode (xmb 83) 103 = .ok (.iload 6, 2) := by decide +kernel
theorem d83_105 : decode (xmb 83) 105 = .ok (.istore_n 3, 1) := by decide +kernel
theorem d83_106 : decode (xmb 83) 106 = .ok (.iinc 4 1, 3) := by decide +kernel
theorem d83_109 : decode (xmb 83) 109 = .ok (.goto (-89), 3) := by decide +kernel
theorem d83_112 : decode (xmb 83) 112 = .ok (.iload_n 1, 1) := by decide +kernel
theorem d83_113 : decode (xmb 83) 113 = .ok (.ireturn, 1) := by decide +kernel
theorem d84_0 : decode (xmb 84) 0 = .ok (.iload_n 1, 1) := by decide +kernel
theorem d84_1 : decode (xmb 84) 1 = .ok (.iconst 1, 1) := by decide +kernel
theorem d84_2 : decode (xmb 84) 2 = .ok (.bipush 24, 2) := by decide +kernel
theorem d84_4 : decode (xmb 84) 4 = .ok (.invokestatic 54, 3) := by decide +kernel
theorem d84_7 : decode (xmb 84) 7 = .ok (.ifCond .eq 17, 3) := by decide +kernel
theorem d84_10 : decode (xmb 84) 10 = .ok (.iload_n 2, 1) := by decide +kernel
theorem d84_11 : decode (xmb 84) 11 = .ok (.iload_n 1, 1) := by decide +kernel
theorem d84_12 : decode (xmb 84) 12 = .ok (.bipush 24, 2) := by decide +kernel
theorem d84_14 : decode (xmb 84) 14 = .ok (.invokestatic 54, 3) := by decide +kernel
theorem d84_17 : decode (xmb 84) 17 = .ok (.ifCond .eq 7, 3) := by decide +kernel
theorem d84_20 : decode (xmb 84) 20 = .ok (.iconst 1, 1) := by decide +kernel
theorem d84_21 : decode (xmb 84) 21 = .ok (.goto 4, 3) := by decide +kernel
theorem d84_24 : decode (xmb 84) 24 = .ok (.iconst 0, 1) := by decide +kernel
theorem d84_25 : decode (xmb 84) 25 = .ok (.invokestatic 58, 3) := by decide +kernel
theorem d84_28 : decode (xmb 84) 28 = .ok (.iload_n 1, 1) := by decide +kernel
theorem d84_29 : decode (xmb 84) 29 = .ok (.istore_n 3, 1) := by decide +kernel
theorem d84_30 : decode (xmb 84) 30 = .ok (.aload_n 0, 1) := by decide +kernel
theorem d84_31 : decode (xmb 84) 31 = .ok (.getfield 27, 3) := by decide +kernel
theorem d84_34 : decode (xmb 84) 34 = .ok (.iload_n 1, 1) := by decide +kernel
theorem d84_35 : decode (xmb 84) 35 = .ok (.invokevirtual 226, 3) := by decide +kernel
theorem d84_38 : decode (xmb 84) 38 = .ok (.istore 4, 2) := by decide +kernel
theorem d84_40 : decode (xmb 84) 40 = .ok (.iload_n 1, 1) := by decide +kernel
theorem d84_41 : decode (xmb 84) 41 = .ok (.iconst 1, 1) := by decide +kernel
theorem d84_42 : decode (xmb 84) 42 = .ok (.iadd, 1) := by decide +kernel
theorem d84_43 : decode (xmb 84) 43 = .ok (.istore 5, 2) := by decide +kernel
theorem d84_45 : decode (xmb 84) 45 = .ok (.iload 5, 2) := by decide +kernel
theorem d84_47 : decode (xmb 84) 47 = .ok (.iload_n 2, 1) := by decide +kernel
theorem d84_48 : decode (xmb 84) 48 = .ok (.if_icmp .gt 34, 3) := by decide +kernel
theorem d84_51 : decode (xmb 84) 51 = .ok (.aload_n 0, 1) := by decide +kernel
theorem d84_52 : decode (xmb 84) 52 = .ok (.getfield 27, 3) := by decide +kernel
theorem d84_55 : decode (xmb 84) 55 = .ok (.iload 5, 2) := by decide +kernel
theorem d84_57 : decode (xmb 84) 57 = .ok (.invokevirtual 226, 3) := by decide +kernel
theorem d84_60 : decode (xmb 84) 60 = .ok (.istore 6, 2) := by decide +kernel
theorem d84_62 : decode (xmb 84) 62 = .ok (.iload 6, 2) := by decide +kernel
theorem d84_64 : decode (xmb 84) 64 = .ok (.iload 4, 2) := by decide +kernel
theorem d84_66 : decode (xmb 84) 66 = .ok (.if_icmp .ge 10, 3) := by decide +kernel
theorem d84_69 : decode (xmb 84) 69 = .ok (.iload 5, 2) := by decide +kernel
theorem d84_71 : decode (xmb 84) 71 = .ok (.istore_n 3, 1) := by decide +kernel
theorem d84_72 : decode (xmb 84) 72 = .ok (.iload 6, 2) := by decide +kernel
theorem d84_74 : decode (xmb 84) 74 = .ok (.istore 4, 2) := by decide +kernel
theorem d84_76 : decode (xmb 84) 76 = .ok (.iinc 5 1, 3) := by decide +kernel
theorem d84_79 : decode (xmb 84) 79 = .ok (.goto (-34), 3) := by decide +kernel
theorem d84_82 : decode (xmb 84) 82 = .ok (.iload_n 3, 1) := by decide +kernel
theorem d84_83 : decode (xmb 84) 83 = .ok (.ireturn, 1) := by decide +kernel
theorem d85_0 : decode (xmb 85) 0 = .ok (.iload_n 1, 1) := by decide +kernel
theorem d85_1 : decode (xmb 85) 1 = .ok (.iconst 1, 1) := by decide +kernel
theorem d85_2 : decode (xmb 85) 2 = .ok (.iconst 3, 1) := by decide +kernel
theorem d85_3 : decode (xmb 85) 3 = .ok (.invokestatic 54, 3) := by decide +kernel
theorem d85_6 : decode (xmb 85) 6 = .ok (.invokestatic 58, 3) := by decide +kernel
theorem d85_9 : decode (xmb 85) 9 = .ok (.lconst 1, 1) := by decide +kernel
theorem d85_10 : decode (xmb 85) 10 = .ok (.lstore 4, 2) := by decide +kernel
theorem d85_12 : decode (xmb 85) 12 = .ok (.iconst 0, 1) := by decide +kernel
theorem d85_13 : decode (xmb 85) 13 = .ok (.istore 6, 2) := by decide +kernel
theorem d85_15 : decode (xmb 85) 15 = .ok (.iload 6, 2) := by decide +kernel
theorem d85_17 : decode (xmb 85) 17 = .ok (.iload_n 1, 1) := by decide +kernel
theorem d85_18 : decode (xmb 85) 18 = .ok (.if_icmp .ge 17, 3) := by decide +kernel
theorem d85_21 : decode (xmb 85) 21 = .ok (.lload 4, 2) := by decide +kernel
theorem d85_23 : decode (xmb 85) 23 = .ok (.ldc2_w 229, 3) := by decide +kernel
theorem d85_26 : decode (xmb 85) 26 = .ok (.lmul, 1) := by decide +kernel
theorem d85_27 : decode (xmb 85) 27 = .ok (.lstore 4, 2) := by decide +kernel
theorem d85_29 : decode (xmb 85) 29 = .ok (.iinc 6 1, 3) := by decide +kernel
theorem d85_32 : decode (xmb 85) 32 = .ok (.goto (-17), 3) := by decide +kernel
theorem d85_35 : decode (xmb 85) 35 = .ok (.lload_n 2, 1) := by decide +kernel
theorem d85_36 : decode (xmb 85) 36 = .ok (.lconst 0, 1) := by decide +kernel
theorem d85_37 : decode (xmb 85) 37 = .ok (.lcmp, 1) := by decide +kernel
theorem d85_38 : decode (xmb 85) 38 = .ok (.ifCond .lt 14, 3) := by decide +kernel
theorem d85_41 : decode (xmb 85) 41 = .ok (.lload_n 2, 1) := by decide +kernel
theorem d85_42 : decode (xmb 85) 42 = .ok (.lload 4, 2) := by decide +kernel
theorem d85_44 : decode (xmb 85) 44 = .ok (.lcmp, 1) := by decide +kernel
theorem d85_45 : decode (xmb 85) 45 = .ok (.ifCond .ge 7, 3) := by decide +kernel
theorem d85_48 : decode (xmb 85) 48 = .ok (.iconst 1, 1) := by decide +kernel
theorem d85_49 : decode (xmb 85) 49 = .ok (.goto 4, 3) := by decide +kernel
theorem d85_52 : decode (xmb 85) 52 = .ok (.iconst 0, 1) := by decide +kernel
theorem d85_53 : decode (xmb 85) 53 = .ok (.invokestatic 58, 3) := by decide +kernel
theorem d85_56 : decode (xmb 85) 56 = .ok (.aload_n 0, 1) := by decide +kernel
theorem d85_57 : decode (xmb 85) 57 = .ok (.getfield 33, 3) := by decide +kernel
theorem d85_60 : decode (xmb 85) 60 = .ok (.aload_n 0, 1) := by decide +kernel
theorem d85_61 : decode (xmb 85) 61 = .ok (.getfield 27, 3) := by decide +kernel
theorem d85_64 : decode (xmb 85) 64 = .ok (.invokevirtual 77, 3) := by decide +kernel
theorem d85_67 : decode (xmb 85) 67 = .ok (.lload_n 2, 1) := by decide +kernel
theorem d85_68 : decode (xmb 85) 68 = .ok (.lstore 6, 2) := by decide +kernel
theorem d85_70 : decode (xmb 85) 70 = .ok (.iconst 0, 1) := by decide +kernel
theorem d85_71 : decode (xmb 85) 71 = .ok (.istore 8, 2) := by decide +kernel
theorem d85_73 : decode (xmb 85) 73 = .ok (.iload 8, 2) := by decide +kernel
theorem d85_75 : decode (xmb 85) 75 = .ok (.iload_n 1, 1) := by decide +kernel
theorem d85_76 : decode (xmb 85) 76 = .ok (.if_icmp .ge 65, 3) := by decide +kernel
theorem d85_79 : decode (xmb 85) 79 = .ok (.lload 4, 2) := by decide +kernel
theorem d85_81 : decode (xmb 85) 81 = .ok (.ldc2_w 229, 3) := by decide +kernel
theorem d85_84 : decode (xmb 85) 84 = .ok (.ldiv, 1) := by decide +kernel
theorem d85_85 : decode (xmb 85) 85 = .ok (.lstore 4, 2) := by decide +kernel
theorem d85_87 : decode (xmb 85) 87 = .ok (.lload 4, 2) := by decide +kernel
theorem d85_89 : decode (xmb 85) 89 = .ok (.lconst 1, 1) := by decide +kernel
theorem d85_90 : decode (xmb 85) 90 = .ok (.lcmp, 1) := by decide +kernel
theorem d85_91 : decode (xmb 85) 91 = .ok (.ifCond .ge 7, 3) := by decide +kernel
theorem d85_94 : decode (xmb 85) 94 = .ok (.lconst 0, 1) := by decide +kernel
theorem d85_95 : decode (xmb 85) 95 = .ok (.goto 8, 3) := by decide +kernel
theorem d85_98 : decode (xmb 85) 98 = .ok (.lload 6, 2) := by decide +kernel
theorem d85_100 : decode (xmb 85) 100 = .ok (.lload 4, 2) := by decide +kernel
theorem d85_102 : decode (xmb 85) 102 = .ok (.ldiv, 1) := by decide +kernel
theorem d85_103 : decode (xmb 85) 103 = .ok (.lstore 9, 2) := by decide +kernel
theorem d85_105 : decode (xmb 85) 105 = .ok (.lload 6, 2) := by decide +kernel
theorem d85_107 : decode (xmb 85) 107 = .ok (.lload 9, 2) := by decide +kernel
theorem d85_109 : decode (xmb 85) 109 = .ok (.lload 4, 2) := by decide +kernel
theorem d85_111 : decode (xmb 85) 111 = .ok (.lmul, 1) := by decide +kernel
theorem d85_112 : decode (xmb 85) 112 = .ok (.lsub, 1) := by decide +kernel
theorem d85_113 : decode (xmb 85) 113 = .ok (.lstore 6, 2) := by decide +kernel
theorem d85_115 : decode (xmb 85) 115 = .ok (.aload_n 0, 1) := by decide +kernel
theorem d85_116 : decode (xmb 85) 116 = .ok (.getfield 30, 3) := by decide +kernel
theorem d85_119 : decode (xmb 85) 119 = .ok (.invokevirtual 103, 3) := by decide +kernel
theorem d85_122 : decode (xmb 85) 122 = .ok (.aload_n 0, 1) := by decide +kernel
theorem d85_123 : decode (xmb 85) 123 = .ok (.lload 9, 2) := by decide +kernel
theorem d85_125 : decode (xmb 85) 125 = .ok (.l2i, 1) := by decide +kernel
theorem d85_126 : decode (xmb 85) 126 = .ok (.invokevirtual 231, 3) := by decide +kernel
theorem d85_129 : decode (xmb 85) 129 = .ok (.ifCond .ne 6, 3) := by decide +kernel
theorem d85_132 : decode (xmb 85) 132 = .ok (.iload 8, 2) := by decide +kernel
theorem d85_134 : decode (xmb 85) 134 = .ok (.ireturn, 1) := by decide +kernel
theorem d85_135 : decode (xmb 85) 135 = .ok (.iinc 8 1, 3) := by decide +kernel
theorem d85_138 : decode (xmb 85) 138 = .ok (.goto (-65), 3) := by decide +kernel
theorem d85_141 : decode (xmb 85) 141 = .ok (.iconst (-1), 1) := by decide +kernel
theorem d85_142 : decode (xmb 85) 142 = .ok (.ireturn, 1) := by decide +kernel
theorem d86_0 : decode (xmb 86) 0 = .ok (.iload_n 3, 1) := by decide +kernel
theorem d86_1 : decode (xmb 86) 1 = .ok (.iconst 1, 1) := by decide +kernel
theorem d86_2 : decode (xmb 86) 2 = .ok (.bipush 60, 2) := by decide +kernel
theorem d86_4 : decode (xmb 86) 4 = .ok (.invokestatic 54, 3) := by decide +kernel
theorem d86_7 : decode (xmb 86) 7 = .ok (.invokestatic 58, 3) := by decide +kernel
theorem d86_10 : decode (xmb 86) 10 = .ok (.aload_n 0, 1) := by decide +kernel
theorem d86_11 : decode (xmb 86) 11 = .ok (.getfield 33, 3) := by decide +kernel
theorem d86_14 : decode (xmb 86) 14 = .ok (.aload_n 0, 1) := by decide +kernel
theorem d86_15 : decode (xmb 86) 15 = .ok (.getfield 27, 3) := by decide +kernel
theorem d86_18 : decode (xmb 86) 18 = .ok (.invokevirtual 77, 3) := by decide +kernel
theorem d86_21 : decode (xmb 86) 21 = .ok (.lload_n 1, 1) := by decide +kernel
theorem d86_22 : decode (xmb 86) 22 = .ok (.lstore 4, 2) := by decide +kernel
theorem d86_24 : decode (xmb 86) 24 = .ok (.iconst 0, 1) := by decide +kernel
theorem d86_25 : decode (xmb 86) 25 = .ok (.istore 6, 2) := by decide +kernel
theorem d86_27 : decode (xmb 86) 27 = .ok (.iload 6, 2) := by decide +kernel
theorem d86_29 : decode (xmb 86) 29 = .ok (.iload_n 3, 1) := by decide +kernel
theorem d86_30 : decode (xmb 86) 30 = .ok (.if_icmp .ge 43, 3) := by decide +kernel
theorem d86_33 : decode (xmb 86) 33 = .ok (.lload 4, 2) := by decide +kernel
theorem d86_35 : decode (xmb 86) 35 = .ok (.ldc2_w 234, 3) := by decide +kernel
theorem d86_38 : decode (xmb 86) 38 = .ok (.lmul, 1) := by decide +kernel
theorem d86_39 : decode (xmb 86) 39 = .ok (.ldc2_w 236, 3) := by decide +kernel
theorem d86_42 : decode (xmb 86) 42 = .ok (.ladd, 1) := by decide +kernel
theorem d86_43 : decode (xmb 86) 43 = .ok (.lstore 4, 2) := by decide +kernel
theorem d86_45 : decode (xmb 86) 45 = .ok (.lload 4, 2) := by decide +kernel
theorem d86_47 : decode (xmb 86) 47 = .ok (.bipush 33, 2) := by decide +kernel
theorem d86_49 : decode (xmb 86) 49 = .ok (.lushr, 1) := by decide +kernel
theorem d86_50 : decode (xmb 86) 50 = .ok (.l2i, 1) := by decide +kernel
theorem d86_51 : decode (xmb 86) 51 = .ok (.istore 7, 2) := by decide +kernel
theorem d86_53 : decode (xmb 86) 53 = .ok (.aload_n 0, 1) := by decide +kernel
theorem d86_54 : decode (xmb 86) 54 = .ok (.iload 7, 2) := by decide +kernel
theorem d86_56 : decode (xmb 86) 56 = .ok (.bipush 8, 2) := by decide +kernel
theorem d86_58 : decode (xmb 86) 58 = .ok (.irem, 1) := by decide +kernel
theorem d86_59 : decode (xmb 86) 59 = .ok (.iload 7, 2) := by decide +kernel
theorem d86_61 : decode (xmb 86) 61 = .ok (.bipush 8, 2) := by decide +kernel
theorem d86_63 : decode (xmb 86) 63 = .ok (.idiv, 1) := by decide +kernel
theorem d86_64 : decode (xmb 86) 64 = .ok (.invokevirtual 238, 3) := by decide +kernel
theorem d86_67 : decode (xmb 86) 67 = .ok (.iinc 6 1, 3) := by decide +kernel
theorem d86_70 : decode (xmb 86) 70 = .ok (.goto (-43), 3) := by decide +kernel
theorem d86_73 : decode (xmb 86) 73 = .ok (.aload_n 0, 1) := by decide +kernel
theorem d86_74 : decode (xmb 86) 74 = .ok (.getfield 30, 3) := by decide +kernel
theorem d86_77 : decode (xmb 86) 77 = .ok (.invokevirtual 103, 3) := by decide +kernel
theorem d86_80 : decode (xmb 86) 80 = .ok (.aload_n 0, 1) := by decide +kernel
theorem d86_81 : decode (xmb 86) 81 = .ok (.getfield 33, 3) := by decide +kernel
theorem d86_84 : decode (xmb 86) 84 = .ok (.aload_n 0, 1) := by decide +kernel
theorem d86_85 : decode (xmb 86) 85 = .ok (.getfield 33, 3) := by decide +kernel
theorem d86_88 : decode (xmb 86) 88 = .ok (.getfield 96, 3) := by decide +kernel
theorem d86_91 : decode (xmb 86) 91 = .ok (.invokevirtual 99, 3) := by decide +kernel
theorem d86_94 : decode (xmb 86) 94 = .ok (.bipush 10, 2) := by decide +kernel
theorem d86_96 : decode (xmb 86) 96 = .ok (.irem, 1) := by decide +kernel
theorem d86_97 : decode (xmb 86) 97 = .ok (.istore 6, 2) := by decide +kernel
theorem d86_99 : decode (xmb 86) 99 = .ok (.sipush 1000, 3) := by decide +kernel
theorem d86_102 : decode (xmb 86) 102 = .ok (.aload_n 0, 1) := by decide +kernel
theorem d86_103 : decode (xmb 86) 103 = .ok (.getfield 30, 3) := by decide +kernel
theorem d86_106 : decode (xmb 86) 106 = .ok (.getfield 106, 3) := by decide +kernel
theorem d86_109 : decode (xmb 86) 109 = .ok (.imul, 1) := by decide +kernel
theorem d86_110 : decode (xmb 86) 110 = .ok (.bipush 10, 2) := by decide +kernel
theorem d86_112 : decode (xmb 86) 112 = .ok (.aload_n 0, 1) := by decide +kernel
theorem d86_113 : decode (xmb 86) 113 = .ok (.getfield 30, 3) := by decide +kernel
theorem d86_116 : decode (xmb 86) 116 = .ok (.getfield 109, 3) := by decide +kernel
theorem d86_119 : decode (xmb 86) 119 = .ok (.imul, 1) := by decide +kernel
theorem d86_120 : decode (xmb 86) 120 = .ok (.iadd, 1) := by decide +kernel
theorem d86_121 : decode (xmb 86) 121 = .ok (.iload 6, 2) := by decide +kernel
theorem d86_123 : decode (xmb 86) 123 = .ok (.iadd, 1) := by decide +kernel
theorem d86_124 : decode (xmb 86) 124 = .ok (.ireturn, 1) := by decide +kernel
theorem d87_0 : decode (xmb 87) 0 = .ok (.iload_n 1, 1) := by decide +kernel
theorem d87_1 : decode (xmb 87) 1 = .ok (.invokestatic 242, 3) := by decide +kernel
theorem d87_4 : decode (xmb 87) 4 = .ok (.invokestatic 126, 3) := by decide +kernel
theorem d87_7 : decode (xmb 87) 7 = .ok (.aload_n 0, 1) := by decide +kernel
theorem d87_8 : decode (xmb 87) 8 = .ok (.getfield 46, 3) := by decide +kernel
theorem d87_11 : decode (xmb 87) 11 = .ok (.iload_n 1, 1) := by decide +kernel
theorem d87_12 : decode (xmb 87) 12 = .ok (.aaload, 1) := by decide +kernel
theorem d87_13 : decode (xmb 87) 13 = .ok (.aload_n 0, 1) := by decide +kernel
theorem d87_14 : decode (xmb 87) 14 = .ok (.getfield 27, 3) := by decide +kernel
theorem d87_17 : decode (xmb 87) 17 = .ok (.invokevirtual 77, 3) := by decide +kernel
theorem d87_20 : decode (xmb 87) 20 = .ok (.aload_n 0, 1) := by decide +kernel
theorem d87_21 : decode (xmb 87) 21 = .ok (.getfield 50, 3) := by decide +kernel
theorem d87_24 : decode (xmb 87) 24 = .ok (.iload_n 1, 1) := by decide +kernel
theorem d87_25 : decode (xmb 87) 25 = .ok (.iconst 1, 1) := by decide +kernel
theorem d87_26 : decode (xmb 87) 26 = .ok (.bastore, 1) := by decide +kernel
theorem d87_27 : decode (xmb 87) 27 = .ok (.aload_n 0, 1) := by decide +kernel
theorem d87_28 : decode (xmb 87) 28 = .ok (.getfield 27, 3) := by decide +kernel
theorem d87_31 : decode (xmb 87) 31 = .ok (.getfield 90, 3) := by decide +kernel
theorem d87_34 : decode (xmb 87) 34 = .ok (.ireturn, 1) := by decide +kernel
theorem d88_0 : decode (xmb 88) 0 = .ok (.iload_n 1, 1) := by decide +kernel
theorem d88_1 : decode (xmb 88) 1 = .ok (.invokestatic 242, 3) := by decide +kernel
theorem d88_4 : decode (xmb 88) 4 = .ok (.invokestatic 126, 3) := by decide +kernel
theorem d88_7 : decode (xmb 88) 7 = .ok (.aload_n 0, 1) := by decide +kernel
theorem d88_8 : decode (xmb 88) 8 = .ok (.getfield 50, 3) := by decide +kernel
theorem d88_11 : decode (xmb 88) 11 = .ok (.iload_n 1, 1) := by decide +kernel
theorem d88_12 : decode (xmb 88) 12 = .ok (.baload, 1) := by decide +kernel
theorem d88_13 : decode (xmb 88) 13 = .ok (.invokestatic 66, 3) := by decide +kernel
theorem d88_16 : decode (xmb 88) 16 = .ok (.aload_n 0, 1) := by decide +kernel
theorem d88_17 : decode (xmb 88) 17 = .ok (.getfield 27, 3) := by decide +kernel
theorem d88_20 : decode (xmb 88) 20 = .ok (.aload_n 0, 1) := by decide +kernel
theorem d88_21 : decode (xmb 88) 21 = .ok (.getfield 46, 3) := by decide +kernel
theorem d88_24 : decode (xmb 88) 24 = .ok (.iload_n 1, 1) := by decide +kernel
theorem d88_25 : decode (xmb 88) 25 = .ok (.aaload, 1) := by decide +kernel
theorem d88_26 : decode (xmb 88) 26 = .ok (.invokevirtual 77, 3) := by decide +kernel
theorem d88_29 : decode (xmb 88) 29 = .ok (.aload_n 0, 1) := by decide +kernel
theorem d88_30 : decode (xmb 88) 30 = .ok (.getfield 39, 3) := by decide +kernel
theorem d88_33 : decode (xmb 88) 33 = .ok (.invokevirtual 81, 3) := by decide +kernel
theorem d88_36 : decode (xmb 88) 36 = .ok (.aload_n 0, 1) := by decide +kernel
theorem d88_37 : decode (xmb 88) 37 = .ok (.getfield 27, 3) := by decide +kernel
theorem d88_40 : decode (xmb 88) 40 = .ok (.getfield 90, 3) := by decide +kernel
theorem d88_43 : decode (xmb 88) 43 = .ok (.ireturn, 1) := by decide +kernel
theorem d89_0 : decode (xmb 89) 0 = .ok (.aload_n 0, 1) := by decide +kernel
theorem d89_1 : decode (xmb 89) 1 = .ok (.getfield 27, 3) := by decide +kernel
theorem d89_4 : decode (xmb 89) 4 = .ok (.iload_n 1, 1) := by decide +kernel
theorem d89_5 : decode (xmb 89) 5 = .ok (.iload_n 2, 1) := by decide +kernel
theorem d89_6 : decode (xmb 89) 6 = .ok (.iload_n 3, 1) := by decide +kernel
theorem d89_7 : decode (xmb 89) 7 = .ok (.iload 4, 2) := by decide +kernel
theorem d89_9 : decode (xmb 89) 9 = .ok (.invokevirtual 245, 3) := by decide +kernel
theorem d89_12 : decode (xmb 89) 12 = .ok (.invokestatic 248, 3) := by decide +kernel
theorem d89_15 : decode (xmb 89) 15 = .ok (.aload_n 0, 1) := by decide +kernel
theorem d89_16 : decode (xmb 89) 16 = .ok (.getfield 39, 3) := by decide +kernel
theorem d89_19 : decode (xmb 89) 19 = .ok (.aload_n 0, 1) := by decide +kernel
theorem d89_20 : decode (xmb 89) 20 = .ok (.getfield 27, 3) := by decide +kernel
theorem d89_23 : decode (xmb 89) 23 = .ok (.invokevirtual 252, 3) := by decide +kernel
theorem d89_26 : decode (xmb 89) 26 = .ok (.aload_n 0, 1) := by decide +kernel
theorem d89_27 : decode (xmb 89) 27 = .ok (.getfield 27, 3) := by decide +kernel
theorem d89_30 : decode (xmb 89) 30 = .ok (.iload_n 1, 1) := by decide +kernel
theorem d89_31 : decode (xmb 89) 31 = .ok (.iload_n 2, 1) := by decide +kernel
theorem d89_32 : decode (xmb 89) 32 = .ok (.iload_n 3, 1) := by decide +kernel
theorem d89_33 : decode (xmb 89) 33 = .ok (.iload 4, 2) := by decide +kernel
theorem d89_35 : decode (xmb 89) 35 = .ok (.invokevirtual 255, 3) := by decide +kernel
theorem d89_38 : decode (xmb 89) 38 = .ok (.ireturn, 1) := by decide +kernel
theorem d90_0 : decode (xmb 90) 0 = .ok (.iload_n 0, 1) := by decide +kernel
theorem d90_1 : decode (xmb 90) 1 = .ok (.iconst 1, 1) := by decide +kernel
theorem d90_2 : decode (xmb 90) 2 = .ok (.if_icmp .eq 7, 3) := by decide +kernel
theorem d90_5 : decode (xmb 90) 5 = .ok (.iconst 1, 1) := by decide +kernel
theorem d90_6 : decode (xmb 90) 6 = .ok (.goto 4, 3) := by decide +kernel
theorem d90_9 : decode (xmb 90) 9 = .ok (.iconst 0, 1) := by decide +kernel
theorem d90_10 : decode (xmb 90) 10 = .ok (.invokestatic 126, 3) := by decide +kernel
theorem d90_13 : decode (xmb 90) 13 = .ok (.iload_n 0, 1) := by decide +kernel
theorem d90_14 : decode (xmb 90) 14 = .ok (.iconst 2, 1) := by decide +kernel
theorem d90_15 : decode (xmb 90) 15 = .ok (.if_icmp .eq 7, 3) := by decide +kernel
theorem d90_18 : decode (xmb 90) 18 = .ok (.iconst 1, 1) := by decide +kernel
theorem d90_19 : decode (xmb 90) 19 = .ok (.goto 4, 3) := by decide +kernel
theorem d90_22 : decode (xmb 90) 22 = .ok (.iconst 0, 1) := by decide +kernel
theorem d90_23 : decode (xmb 90) 23 = .ok (.invokestatic 58, 3) := by decide +kernel
theorem d90_26 : decode (xmb 90) 26 = .ok (.iload_n 0, 1) := by decide +kernel
theorem d90_27 : decode (xmb 90) 27 = .ok (.iconst 3, 1) := by decide +kernel
theorem d90_28 : decode (xmb 90) 28 = .ok (.if_icmp .eq 7, 3) := by decide +kernel
theorem d90_31 : decode (xmb 90) 31 = .ok (.iconst 1, 1) := by decide +kernel
theorem d90_32 : decode (xmb 90) 32 = .ok (.goto 4, 3) := by decide +kernel
theorem d90_35 : decode (xmb 90) 35 = .ok (.iconst 0, 1) := by decide +kernel
theorem d90_36 : decode (xmb 90) 36 = .ok (.invokestatic 66, 3) := by decide +kernel
theorem d90_39 : decode (xmb 90) 39 = .ok (.return_, 1) := by decide +kernel
theorem d91_0 : decode (xmb 91) 0 = .ok (.iload_n 0, 1) := by decide +kernel
theorem d91_1 : decode (xmb 91) 1 = .ok (.ifCond .ne 14, 3) := by decide +kernel
theorem d91_4 : decode (xmb 91) 4 = .ok (.new 258, 3) := by decide +kernel
theorem d91_15 : decode (xmb 91) 15 = .ok (.return_, 1) := by decide +kernel
theorem d92_0 : decode (xmb 92) 0 = .ok (.iload_n 0, 1) := by decide +kernel
theorem d92_1 : decode (xmb 92) 1 = .ok (.ifCond .ne 14, 3) := by decide +kernel
theorem d92_4 : decode (xmb 92) 4 = .ok (.new 265, 3) := by decide +kernel
theorem d92_15 : decode (xmb 92) 15 = .ok (.return_, 1) := by decide +kernel
theorem d93_0 : decode (xmb 93) 0 = .ok (.iload_n 0, 1) := by decide +kernel
theorem d93_1 : decode (xmb 93) 1 = .ok (.ifCond .ne 14, 3) := by decide +kernel
theorem d93_4 : decode (xmb 93) 4 = .ok (.new 270, 3) := by decide +kernel
theorem d93_15 : decode (xmb 93) 15 = .ok (.return_, 1) := by decide +kernel
theorem d94_0 : decode (xmb 94) 0 = .ok (.iload_n 1, 1) := by decide +kernel
theorem d94_1 : decode (xmb 94) 1 = .ok (.iload_n 0, 1) := by decide +kernel
theorem d94_2 : decode (xmb 94) 2 = .ok (.if_icmp .gt 12, 3) := by decide +kernel
theorem d94_5 : decode (xmb 94) 5 = .ok (.iload_n 0, 1) := by decide +kernel
theorem d94_6 : decode (xmb 94) 6 = .ok (.iload_n 2, 1) := by decide +kernel
theorem d94_7 : decode (xmb 94) 7 = .ok (.if_icmp .gt 7, 3) := by decide +kernel
theorem d94_10 : decode (xmb 94) 10 = .ok (.iconst 1, 1) := by decide +kernel
theorem d94_11 : decode (xmb 94) 11 = .ok (.goto 4, 3) := by decide +kernel
theorem d94_14 : decode (xmb 94) 14 = .ok (.iconst 0, 1) := by decide +kernel
theorem d94_15 : decode (xmb 94) 15 = .ok (.ireturn, 1) := by decide +kernel
theorem d95_0 : decode (xmb 95) 0 = .ok (.iload_n 0, 1) := by decide +kernel
theorem d95_1 : decode (xmb 95) 1 = .ok (.iconst 0, 1) := by decide +kernel
theorem d95_2 : decode (xmb 95) 2 = .ok (.iconst 3, 1) := by decide +kernel
theorem d95_3 : decode (xmb 95) 3 = .ok (.invokestatic 54, 3) := by decide +kernel
theorem d95_6 : decode (xmb 95) 6 = .ok (.ireturn, 1) := by decide +kernel
theorem d96_0 : decode (xmb 96) 0 = .ok (.iload_n 0, 1) := by decide +kernel
theorem d96_1 : decode (xmb 96) 1 = .ok (.iconst 0, 1) := by decide +kernel
theorem d96_2 : decode (xmb 96) 2 = .ok (.iconst 4, 1) := by decide +kernel
theorem d96_3 : decode (xmb 96) 3 = .ok (.invokestatic 54, 3) := by decide +kernel
theorem d96_6 : decode (xmb 96) 6 = .ok (.ireturn, 1) := by decide +kernel
theorem d97_0 : decode (xmb 97) 0 = .ok (.iload_n 0, 1) := by decide +kernel
theorem d97_1 : decode (xmb 97) 1 = .ok (.iconst 0, 1) := by decide +kernel
theorem d97_2 : decode (xmb 97) 2 = .ok (.iconst 1, 1) := by decide +kernel
theorem d97_3 : decode (xmb 97) 3 = .ok (.invokestatic 54, 3) := by decide +kernel
theorem d97_6 : decode (xmb 97) 6 = .ok (.ireturn, 1) := by decide +kernel
theorem d98_0 : decode (xmb 98) 0 = .ok (.iload_n 0, 1) := by decide +kernel
theorem d98_1 : decode (xmb 98) 1 = .ok (.ifCond .eq 7, 3) := by decide +kernel
theorem d98_4 : decode (xmb 98) 4 = .ok (.iconst 1, 1) := by decide +kernel
theorem d98_5 : decode (xmb 98) 5 = .ok (.goto 4, 3) := by decide +kernel
theorem d98_8 : decode (xmb 98) 8 = .ok (.iconst 0, 1) := by decide +kernel
theorem d98_9 : decode (xmb 98) 9 = .ok (.ireturn, 1) := by decide +kernel
theorem d99_0 : decode (xmb 99) 0 = .ok (.iload_n 0, 1) := by decide +kernel
theorem d99_1 : decode (xmb 99) 1 = .ok (.iload_n 1, 1) := by decide +kernel
theorem d99_2 : decode (xmb 99) 2 = .ok (.ishr, 1) := by decide +kernel
theorem d99_3 : decode (xmb 99) 3 = .ok (.iconst 1, 1) := by decide +kernel
theorem d99_4 : decode (xmb 99) 4 = .ok (.iand, 1) := by decide +kernel
theorem d99_5 : decode (xmb 99) 5 = .ok (.iconst 1, 1) := by decide +kernel
theorem d99_6 : decode (xmb 99) 6 = .ok (.if_icmp .ne 7, 3) := by decide +kernel
theorem d99_9 : decode (xmb 99) 9 = .ok (.iconst 1, 1) := by decide +kernel
theorem d99_10 : decode (xmb 99) 10 = .ok (.goto 4, 3) := by decide +kernel
theorem d99_13 : decode (xmb 99) 13 = .ok (.iconst 0, 1) := by decide +kernel
theorem d99_14 : decode (xmb 99) 14 = .ok (.ireturn, 1) := by decide +kernel
theorem d100_0 : decode (xmb 100) 0 = .ok (.iload_n 2, 1) := by decide +kernel
theorem d100_1 : decode (xmb 100) 1 = .ok (.ifCond .eq 11, 3) := by decide +kernel
theorem d100_4 : decode (xmb 100) 4 = .ok (.iload_n 0, 1) := by decide +kernel
theorem d100_5 : decode (xmb 100) 5 = .ok (.iconst 1, 1) := by decide +kernel
theorem d100_6 : decode (xmb 100) 6 = .ok (.iload_n 1, 1) := by decide +kernel
theorem d100_7 : decode (xmb 100) 7 = .ok (.ishl, 1) := by decide +kernel
theorem d100_8 : decode (xmb 100) 8 = .ok (.ior, 1) := by decide +kernel
theorem d100_9 : decode (xmb 100) 9 = .ok (.goto 10, 3) := by decide +kernel
theorem d100_12 : decode (xmb 100) 12 = .ok (.iload_n 0, 1) := by decide +kernel
theorem d100_13 : decode (xmb 100) 13 = .ok (.iconst 1, 1) := by decide +kernel
theorem d100_14 : decode (xmb 100) 14 = .ok (.iload_n 1, 1) := by decide +kernel
theorem d100_15 : decode (xmb 100) 15 = .ok (.ishl, 1) := by decide +kernel
theorem d100_16 : decode (xmb 100) 16 = .ok (.iconst (-1), 1) := by decide +kernel
theorem d100_17 : decode (xmb 100) 17 = .ok (.ixor, 1) := by decide +kernel
theorem d100_18 : decode (xmb 100) 18 = .ok (.iand, 1) := by decide +kernel
theorem d100_19 : decode (xmb 100) 19 = .ok (.ireturn, 1) := by decide +kernel
theorem d101_0 : decode (xmb 101) 0 = .ok (.iload_n 1, 1) := by decide +kernel
theorem d101_1 : decode (xmb 101) 1 = .ok (.sipush 1000, 3) := by decide +kernel
theorem d101_4 : decode (xmb 101) 4 = .ok (.idiv, 1) := by decide +kernel
theorem d101_5 : decode (xmb 101) 5 = .ok (.bipush 100, 2) := by decide +kernel
theorem d101_7 : decode (xmb 101) 7 = .ok (.irem, 1) := by decide +kernel
theorem d101_8 : decode (xmb 101) 8 = .ok (.istore_n 2, 1) := by decide +kernel
theorem d101_9 : decode (xmb 101) 9 = .ok (.iload_n 1, 1) := by decide +kernel
theorem d101_10 : decode (xmb 101) 10 = .ok (.bipush 10, 2) := by decide +kernel
theorem d101_12 : decode (xmb 101) 12 = .ok (.idiv, 1) := by decide +kernel
theorem d101_13 : decode (xmb 101) 13 = .ok (.bipush 100, 2) := by decide +kernel
theorem d101_15 : decode (xmb 101) 15 = .ok (.irem, 1) := by decide +kernel
theorem d101_16 : decode (xmb 101) 16 = .ok (.istore_n 3, 1) := by decide +kernel
theorem d101_17 : decode (xmb 101) 17 = .ok (.iload_n 1, 1) := by decide +kernel
theorem d101_18 : decode (xmb 101) 18 = .ok (.bipush 10, 2) := by decide +kernel
theorem d101_20 : decode (xmb 101) 20 = .ok (.irem, 1) := by decide +kernel
theorem d101_21 : decode (xmb 101) 21 = .ok (.istore 4, 2) := by decide +kernel
theorem d101_23 : decode (xmb 101) 23 = .ok (.iload_n 1, 1) := by decide +kernel
theorem d101_24 : decode (xmb 101) 24 = .ok (.ldc_w 275, 3) := by decide +kernel
theorem d101_27 : decode (xmb 101) 27 = .ok (.idiv, 1) := by decide +kernel
theorem d101_28 : decode (xmb 101) 28 = .ok (.tableswitch 300 1 9 #[52, 77, 103, 130, 164, 201, 221, 246, 274], 52) := by decide +kernel
theorem d101_80 : decode (xmb 101) 80 = .ok (.iload 4, 2) := by decide +kernel
theorem d101_82 : decode (xmb 101) 82 = .ok (.ifCond .ne 21, 3) := by decide +kernel
theorem d101_85 : decode (xmb 101) 85 = .ok (.aload_n 0, 1) := by decide +kernel
theorem d101_86 : decode (xmb 101) 86 = .ok (.getfield 33, 3) := by decide +kernel
theorem d101_89 : decode (xmb 101) 89 = .ok (.iconst 5, 1) := by decide +kernel
theorem d101_90 : decode (xmb 101) 90 = .ok (.iload_n 2, 1) := by decide +kernel
theorem d101_91 : decode (xmb 101) 91 = .ok (.iload_n 3, 1) := by decide +kernel
theorem d101_92 : decode (xmb 101) 92 = .ok (.iconst 0, 1) := by decide +kernel
theorem d101_93 : decode (xmb 101) 93 = .ok (.invokevirtual 276, 3) := by decide +kernel
theorem d101_96 : decode (xmb 101) 96 = .ok (.ifCond .eq 7, 3) := by decide +kernel
theorem d101_99 : decode (xmb 101) 99 = .ok (.iconst 1, 1) := by decide +kernel
theorem d101_100 : decode (xmb 101) 100 = .ok (.goto 4, 3) := by decide +kernel
theorem d101_103 : decode (xmb 101) 103 = .ok (.iconst 0, 1) := by decide +kernel
theorem d101_104 : decode (xmb 101) 104 = .ok (.ireturn, 1) := by decide +kernel
theorem d101_105 : decode (xmb 101) 105 = .ok (.iload 4, 2) := by decide +kernel
theorem d101_107 : decode (xmb 101) 107 = .ok (.ifCond .ne 22, 3) := by decide +kernel
theorem d101_110 : decode (xmb 101) 110 = .ok (.aload_n 0, 1) := by decide +kernel
theorem d101_111 : decode (xmb 101) 111 = .ok (.getfield 33, 3) := by decide +kernel
theorem d101_114 : decode (xmb 101) 114 = .ok (.bipush 8, 2) := by decide +kernel
theorem d101_116 : decode (xmb 101) 116 = .ok (.iload_n 2, 1) := by decide +kernel
theorem d101_117 : decode (xmb 101) 117 = .ok (.iload_n 3, 1) := by decide +kernel
theorem d101_118 : decode (xmb 101) 118 = .ok (.iconst 0, 1) := by decide +kernel
theorem d101_119 : decode (xmb 101) 119 = .ok (.invokevirtual 276, 3) := by decide +kernel
theorem d101_122 : decode (xmb 101) 122 = .ok (.ifCond .eq 7, 3) := by decide +kernel
theorem d101_125 : decode (xmb 101) 125 = .ok (.iconst 1, 1) := by decide +kernel
theorem d101_126 : decode (xmb 101) 126 = .ok (.goto 4, 3) := by decide +kernel
theorem d101_129 : decode (xmb 101) 129 = .ok (.iconst 0, 1) := by decide +kernel
theorem d101_130 : decode (xmb 101) 130 = .ok (.ireturn, 1) := by decide +kernel
theorem d101_131 : decode (xmb 101) 131 = .ok (.iload 4, 2) := by decide +kernel
theorem d101_133 : decode (xmb 101) 133 = .ok (.iconst 1, 1) := by decide +kernel
theorem d101_134 : decode (xmb 101) 134 = .ok (.if_icmp .gt 22, 3) := by decide +kernel
theorem d101_137 : decode (xmb 101) 137 = .ok (.aload_n 0, 1) := by decide +kernel
theorem d101_138 : decode (xmb 101) 138 = .ok (.getfield 33, 3) := by decide +kernel
theorem d101_141 : decode (xmb 101) 141 = .ok (.iconst 3, 1) := by decide +kernel
theorem d101_142 : decode (xmb 101) 142 = .ok (.iload_n 2, 1) := by decide +kernel
theorem d101_143 : decode (xmb 101) 143 = .ok (.iload_n 3, 1) := by decide +kernel
theorem d101_144 : decode (xmb 101) 144 = .ok (.iload 4, 2) := by decide +kernel
theorem d101_146 : decode (xmb 101) 146 = .ok (.invokevirtual 276, 3) := by decide +kernel
theorem d101_149 : decode (xmb 101) 149 = .ok (.ifCond .eq 7, 3) := by decide +kernel
theorem d101_152 : decode (xmb 101) 152 = .ok (.iconst 1, 1) := by decide +kernel
theorem d101_153 : decode (xmb 101) 153 = .ok (.goto 4, 3) := by decide +kernel
theorem d101_156 : decode (xmb 101) 156 = .ok (.iconst 0, 1) := by decide +kernel
theorem d101_157 : decode (xmb 101) 157 = .ok (.ireturn, 1) := by decide +kernel
theorem d101_158 : decode (xmb 101) 158 = .ok (.iload_n 1, 1) := by decide +kernel
theorem d101_159 : decode (xmb 101) 159 = .ok (.sipush 1000, 3) := by decide +kernel
theorem d101_162 : decode (xmb 101) 162 = .ok (.irem, 1) := by decide +kernel
theorem d101_163 : decode (xmb 101) 163 = .ok (.ifCond .ne 27, 3) := by decide +kernel
theorem d101_166 : decode (xmb 101) 166 = .ok (.aload_n 0, 1) := by decide +kernel
theorem d101_167 : decode (xmb 101) 167 = .ok (.getfield 33, 3) := by decide +kernel
theorem d101_170 : decode (xmb 101) 170 = .ok (.iconst 4, 1) := by decide +kernel
theorem d101_171 : decode (xmb 101) 171 = .ok (.iload_n 2, 1) := by decide +kernel
theorem d101_172 : decode (xmb 101) 172 = .ok (.bipush 10, 2) := by decide +kernel
theorem d101_174 : decode (xmb 101) 174 = .ok (.idiv, 1) := by decide +kernel
theorem d101_175 : decode (xmb 101) 175 = .ok (.iload_n 2, 1) := by decide +kernel
theorem d101_176 : decode (xmb 101) 176 = .ok (.bipush 10, 2) := by decide +kernel
theorem d101_178 : decode (xmb 101) 178 = .ok (.irem, 1) := by decide +kernel
theorem d101_179 : decode (xmb 101) 179 = .ok (.iconst 0, 1) := by decide +kernel
theorem d101_180 : decode (xmb 101) 180 = .ok (.invokevirtual 276, 3) := by decide +kernel
theorem d101_183 : decode (xmb 101) 183 = .ok (.ifCond .eq 7, 3) := by decide +kernel
theorem d101_186 : decode (xmb 101) 186 = .ok (.iconst 1, 1) := by decide +kernel
theorem d101_187 : decode (xmb 101) 187 = .ok (.goto 4, 3) := by decide +kernel
theorem d101_190 : decode (xmb 101) 190 = .ok (.iconst 0, 1) := by decide +kernel
theorem d101_191 : decode (xmb 101) 191 = .ok (.ireturn, 1) := by decide +kernel
theorem d101_192 : decode (xmb 101) 192 = .ok (.iload_n 1, 1) := by decide +kernel
theorem d101_193 : decode (xmb 101) 193 = .ok (.bipush 100, 2) := by decide +kernel
theorem d101_195 : decode (xmb 101) 195 = .ok (.idiv, 1) := by decide +kernel
theorem d101_196 : decode (xmb 101) 196 = .ok (.bipush 100, 2) := by decide +kernel
theorem d101_198 : decode (xmb 101) 198 = .ok (.irem, 1) := by decide +kernel
theorem d101_199 : decode (xmb 101) 199 = .ok (.ifCond .ne 28, 3) := by decide +kernel
theorem d101_202 : decode (xmb 101) 202 = .ok (.aload_n 0, 1) := by decide +kernel
theorem d101_203 : decode (xmb 101) 203 = .ok (.getfield 33, 3) := by decide +kernel
theorem d101_206 : decode (xmb 101) 206 = .ok (.bipush 6, 2) := by decide +kernel
theorem d101_208 : decode (xmb 101) 208 = .ok (.iload_n 2, 1) := by decide +kernel
theorem d101_209 : decode (xmb 101) 209 = .ok (.bipush 10, 2) := by decide +kernel
theorem d101_211 : decode (xmb 101) 211 = .ok (.idiv, 1) := by decide +kernel
theorem d101_212 : decode (xmb 101) 212 = .ok (.iload_n 1, 1) := by decide +kernel
theorem d101_213 : decode (xmb 101) 213 = .ok (.bipush 100, 2) := by decide +kernel
theorem d101_215 : decode (xmb 101) 215 = .ok (.irem, 1) := by decide +kernel
theorem d101_216 : decode (xmb 101) 216 = .ok (.iconst 0, 1) := by decide +kernel
theorem d101_217 : decode (xmb 101) 217 = .ok (.invokevirtual 276, 3) := by decide +kernel
theorem d101_220 : decode (xmb 101) 220 = .ok (.ifCond .eq 7, 3) := by decide +kernel
theorem d101_223 : decode (xmb 101) 223 = .ok (.iconst 1, 1) := by decide +kernel
theorem d101_224 : decode (xmb 101) 224 = .ok (.goto 4, 3) := by decide +kernel
theorem d101_227 : decode (xmb 101) 227 = .ok (.iconst 0, 1) := by decide +kernel
theorem d101_228 : decode (xmb 101) 228 = .ok (.ireturn, 1) := by decide +kernel
theorem d101_229 : decode (xmb 101) 229 = .ok (.iload 4, 2) := by decide +kernel
theorem d101_231 : decode (xmb 101) 231 = .ok (.ifCond .ne 16, 3) := by decide +kernel
theorem d101_234 : decode (xmb 101) 234 = .ok (.aload_n 0, 1) := by decide +kernel
theorem d101_235 : decode (xmb 101) 235 = .ok (.iload_n 2, 1) := by decide +kernel
theorem d101_236 : decode (xmb 101) 236 = .ok (.iload_n 3, 1) := by decide +kernel
theorem d101_237 : decode (xmb 101) 237 = .ok (.invokevirtual 280, 3) := by decide +kernel
theorem d101_240 : decode (xmb 101) 240 = .ok (.ifCond .eq 7, 3) := by decide +kernel
theorem d101_243 : decode (xmb 101) 243 = .ok (.iconst 1, 1) := by decide +kernel
theorem d101_244 : decode (xmb 101) 244 = .ok (.goto 4, 3) := by decide +kernel
theorem d101_247 : decode (xmb 101) 247 = .ok (.iconst 0, 1) := by decide +kernel
theorem d101_248 : decode (xmb 101) 248 = .ok (.ireturn, 1) := by decide +kernel
theorem d101_249 : decode (xmb 101) 249 = .ok (.iload_n 2, 1) := by decide +kernel
theorem d101_250 : decode (xmb 101) 250 = .ok (.ifCond .ne 22, 3) := by decide +kernel
theorem d101_253 : decode (xmb 101) 253 = .ok (.aload_n 0, 1) := by decide +kernel
theorem d101_254 : decode (xmb 101) 254 = .ok (.getfield 30, 3) := by decide +kernel
theorem d101_257 : decode (xmb 101) 257 = .ok (.getfield 106, 3) := by decide +kernel
theorem d101_260 : decode (xmb 101) 260 = .ok (.iload_n 1, 1) := by decide +kernel
theorem d101_261 : decode (xmb 101) 261 = .ok (.sipush 1000, 3) := by decide +kernel
theorem d101_264 : decode (xmb 101) 264 = .ok (.irem, 1) := by decide +kernel
theorem d101_265 : decode (xmb 101) 265 = .ok (.if_icmp .gt 7, 3) := by decide +kernel
theorem d101_268 : decode (xmb 101) 268 = .ok (.iconst 1, 1) := by decide +kernel
theorem d101_269 : decode (xmb 101) 269 = .ok (.goto 4, 3) := by decide +kernel
theorem d101_272 : decode (xmb 101) 272 = .ok (.iconst 0, 1) := by decide +kernel
theorem d101_273 : decode (xmb 101) 273 = .ok (.ireturn, 1) := by decide +kernel
theorem d101_274 : decode (xmb 101) 274 = .ok (.iload_n 1, 1) := by decide +kernel
theorem d101_275 : decode (xmb 101) 275 = .ok (.bipush 100, 2) := by decide +kernel
theorem d101_277 : decode (xmb 101) 277 = .ok (.idiv, 1) := by decide +kernel
theorem d101_278 : decode (xmb 101) 278 = .ok (.bipush 10, 2) := by decide +kernel
theorem d101_280 : decode (xmb 101) 280 = .ok (.irem, 1) := by decide +kernel
theorem d101_281 : decode (xmb 101) 281 = .ok (.ifCond .ne 19, 3) := by decide +kernel
theorem d101_284 : decode (xmb 101) 284 = .ok (.aload_n 0, 1) := by decide +kernel
theorem d101_285 : decode (xmb 101) 285 = .ok (.iload_n 2, 1) := by decide +kernel
theorem d101_286 : decode (xmb 101) 286 = .ok (.iload_n 1, 1) := by decide +kernel
theorem d101_287 : decode (xmb 101) 287 = .ok (.bipush 100, 2) := by decide +kernel
theorem d101_289 : decode (xmb 101) 289 = .ok (.irem, 1) := by decide +kernel
theorem d101_290 : decode (xmb 101) 290 = .ok (.invokevirtual 284, 3) := by decide +kernel
theorem d101_293 : decode (xmb 101) 293 = .ok (.ifCond .eq 7, 3) := by decide +kernel
theorem d101_296 : decode (xmb 101) 296 = .ok (.iconst 1, 1) := by decide +kernel
theorem d101_297 : decode (xmb 101) 297 = .ok (.goto 4, 3) := by decide +kernel
theorem d101_300 : decode (xmb 101) 300 = .ok (.iconst 0, 1) := by decide +kernel
theorem d101_301 : decode (xmb 101) 301 = .ok (.ireturn, 1) := by decide +kernel
theorem d101_302 : decode (xmb 101) 302 = .ok (.iload_n 2, 1) := by decide +kernel
theorem d101_303 : decode (xmb 101) 303 = .ok (.ifCond .ne 23, 3) := by decide +kernel
theorem d101_306 : decode (xmb 101) 306 = .ok (.iload_n 3, 1) := by decide +kernel
theorem d101_307 : decode (xmb 101) 307 = .ok (.ifCond .ne 19, 3) := by decide +kernel
theorem d101_310 : decode (xmb 101) 310 = .ok (.aload_n 0, 1) := by decide +kernel
theorem d101_311 : decode (xmb 101) 311 = .ok (.getfield 30, 3) := by decide +kernel
theorem d101_314 : decode (xmb 101) 314 = .ok (.getfield 109, 3) := by decide +kernel
theorem d101_317 : decode (xmb 101) 317 = .ok (.iload 4, 2) := by decide +kernel
theorem d101_319 : decode (xmb 101) 319 = .ok (.if_icmp .gt 7, 3) := by decide +kernel
theorem d101_322 : decode (xmb 101) 322 = .ok (.iconst 1, 1) := by decide +kernel
theorem d101_323 : decode (xmb 101) 323 = .ok (.goto 4, 3) := by decide +kernel
theorem d101_326 : decode (xmb 101) 326 = .ok (.iconst 0, 1) := by decide +kernel
theorem d101_327 : decode (xmb 101) 327 = .ok (.ireturn, 1) := by decide +kernel
theorem d101_328 : decode (xmb 101) 328 = .ok (.iconst 0, 1) := by decide +kernel
theorem d101_329 : decode (xmb 101) 329 = .ok (.ireturn, 1) := by decide +kernel
theorem d102_0 : decode (xmb 102) 0 = .ok (.aload_n 0, 1) := by decide +kernel
theorem d102_1 : decode (xmb 102) 1 = .ok (.getfield 33, 3) := by decide +kernel
theorem d102_4 : decode (xmb 102) 4 = .ok (.iload_n 1, 1) := by decide +kernel
theorem d102_5 : decode (xmb 102) 5 = .ok (.invokevirtual 150, 3) := by decide +kernel
theorem d102_8 : decode (xmb 102) 8 = .ok (.ifCond .eq 33, 3) := by decide +kernel
theorem d102_11 : decode (xmb 102) 11 = .ok (.aload_n 0, 1) := by decide +kernel
theorem d102_12 : decode (xmb 102) 12 = .ok (.getfield 30, 3) := by decide +kernel
theorem d102_15 : decode (xmb 102) 15 = .ok (.getfield 177, 3) := by decide +kernel
theorem d102_18 : decode (xmb 102) 18 = .ok (.iload_n 1, 1) := by decide +kernel
theorem d102_19 : decode (xmb 102) 19 = .ok (.iaload, 1) := by decide +kernel
theorem d102_20 : decode (xmb 102) 20 = .ok (.iconst (-1), 1) := by decide +kernel
theorem d102_21 : decode (xmb 102) 21 = .ok (.if_icmp .eq 20, 3) := by decide +kernel
theorem d102_24 : decode (xmb 102) 24 = .ok (.aload_n 0, 1) := by decide +kernel
theorem d102_25 : decode (xmb 102) 25 = .ok (.getfield 30, 3) := by decide +kernel
theorem d102_28 : decode (xmb 102) 28 = .ok (.getfield 177, 3) := by decide +kernel
theorem d102_31 : decode (xmb 102) 31 = .ok (.iload_n 1, 1) := by decide +kernel
theorem d102_32 : decode (xmb 102) 32 = .ok (.iaload, 1) := by decide +kernel
theorem d102_33 : decode (xmb 102) 33 = .ok (.iload_n 2, 1) := by decide +kernel
theorem d102_34 : decode (xmb 102) 34 = .ok (.if_icmp .gt 7, 3) := by decide +kernel
theorem d102_37 : decode (xmb 102) 37 = .ok (.iconst 1, 1) := by decide +kernel
theorem d102_38 : decode (xmb 102) 38 = .ok (.goto 4, 3) := by decide +kernel
theorem d102_41 : decode (xmb 102) 41 = .ok (.iconst 0, 1) := by decide +kernel
theorem d102_42 : decode (xmb 102) 42 = .ok (.ireturn, 1) := by decide +kernel
theorem d103_0 : decode (xmb 103) 0 = .ok (.aload_n 0, 1) := by decide +kernel
theorem d103_1 : decode (xmb 103) 1 = .ok (.getfield 33, 3) := by decide +kernel
theorem d103_4 : decode (xmb 103) 4 = .ok (.iload_n 1, 1) := by decide +kernel
theorem d103_5 : decode (xmb 103) 5 = .ok (.invokevirtual 122, 3) := by decide +kernel
theorem d103_8 : decode (xmb 103) 8 = .ok (.ifCond .eq 28, 3) := by decide +kernel
theorem d103_11 : decode (xmb 103) 11 = .ok (.aload_n 0, 1) := by decide +kernel
theorem d103_12 : decode (xmb 103) 12 = .ok (.getfield 33, 3) := by decide +kernel
theorem d103_15 : decode (xmb 103) 15 = .ok (.iload_n 1, 1) := by decide +kernel
theorem d103_16 : decode (xmb 103) 16 = .ok (.aload_n 0, 1) := by decide +kernel
theorem d103_17 : decode (xmb 103) 17 = .ok (.getfield 33, 3) := by decide +kernel
theorem d103_20 : decode (xmb 103) 20 = .ok (.getfield 96, 3) := by decide +kernel
theorem d103_23 : decode (xmb 103) 23 = .ok (.bipush 15, 2) := by decide +kernel
theorem d103_25 : decode (xmb 103) 25 = .ok (.invokevirtual 140, 3) := by decide +kernel
theorem d103_28 : decode (xmb 103) 28 = .ok (.iload_n 2, 1) := by decide +kernel
theorem d103_29 : decode (xmb 103) 29 = .ok (.if_icmp .gt 7, 3) := by decide +kernel
theorem d103_32 : decode (xmb 103) 32 = .ok (.iconst 1, 1) := by decide +kernel
theorem d103_33 : decode (xmb 103) 33 = .ok (.goto 4, 3) := by decide +kernel
theorem d103_36 : decode (xmb 103) 36 = .ok (.iconst 0, 1) := by decide +kernel
theorem d103_37 : decode (xmb 103) 37 = .ok (.ireturn, 1) := by decide +kernel
theorem d104_0 : decode (xmb 104) 0 = .ok (.iload_n 1, 1) := by decide +kernel
theorem d104_1 : decode (xmb 104) 1 = .ok (.tableswitch 238 0 6 #[43, 64, 64, 97, 138, 138, 179], 43) := by decide +kernel
theorem d104_44 : decode (xmb 104) 44 = .ok (.aload_n 0, 1) := by decide +kernel
theorem d104_45 : decode (xmb 104) 45 = .ok (.getfield 33, 3) := by decide +kernel
theorem d104_48 : decode (xmb 104) 48 = .ok (.iconst 0, 1) := by decide +kernel
theorem d104_49 : decode (xmb 104) 49 = .ok (.iconst 1, 1) := by decide +kernel
theorem d104_50 : decode (xmb 104) 50 = .ok (.iload_n 2, 1) := by decide +kernel
theorem d104_51 : decode (xmb 104) 51 = .ok (.sipush 5000, 3) := by decide +kernel
theorem d104_54 : decode (xmb 104) 54 = .ok (.irem, 1) := by decide +kernel
theorem d104_55 : decode (xmb 104) 55 = .ok (.iadd, 1) := by decide +kernel
theorem d104_56 : decode (xmb 104) 56 = .ok (.iconst 0, 1) := by decide +kernel
theorem d104_57 : decode (xmb 104) 57 = .ok (.iconst 0, 1) := by decide +kernel
theorem d104_58 : decode (xmb 104) 58 = .ok (.invokevirtual 276, 3) := by decide +kernel
theorem d104_61 : decode (xmb 104) 61 = .ok (.pop, 1) := by decide +kernel
theorem d104_62 : decode (xmb 104) 62 = .ok (.goto 198, 3) := by decide +kernel
theorem d104_65 : decode (xmb 104) 65 = .ok (.aload_n 0, 1) := by decide +kernel
theorem d104_66 : decode (xmb 104) 66 = .ok (.getfield 33, 3) := by decide +kernel
theorem d104_69 : decode (xmb 104) 69 = .ok (.iconst 1, 1) := by decide +kernel
theorem d104_70 : decode (xmb 104) 70 = .ok (.iconst 1, 1) := by decide +kernel
theorem d104_71 : decode (xmb 104) 71 = .ok (.iload_n 2, 1) := by decide +kernel
theorem d104_72 : decode (xmb 104) 72 = .ok (.bipush 40, 2) := by decide +kernel
theorem d104_74 : decode (xmb 104) 74 = .ok (.irem, 1) := by decide +kernel
theorem d104_75 : decode (xmb 104) 75 = .ok (.iadd, 1) := by decide +kernel
theorem d104_76 : decode (xmb 104) 76 = .ok (.iload_n 2, 1) := by decide +kernel
theorem d104_77 : decode (xmb 104) 77 = .ok (.bipush 64, 2) := by decide +kernel
theorem d104_79 : decode (xmb 104) 79 = .ok (.idiv, 1) := by decide +kernel
theorem d104_80 : decode (xmb 104) 80 = .ok (.iconst 5, 1) := by decide +kernel
theorem d104_81 : decode (xmb 104) 81 = .ok (.irem, 1) := by decide +kernel
theorem d104_82 : decode (xmb 104) 82 = .ok (.iconst 1, 1) := by decide +kernel
theorem d104_83 : decode (xmb 104) 83 = .ok (.isub, 1) := by decide +kernel
theorem d104_84 : decode (xmb 104) 84 = .ok (.iload_n 2, 1) := by decide +kernel
theorem d104_85 : decode (xmb 104) 85 = .ok (.sipush 512, 3) := by decide +kernel
theorem d104_88 : decode (xmb 104) 88 = .ok (.idiv, 1) := by decide +kernel
theorem d104_89 : decode (xmb 104) 89 = .ok (.iconst 2, 1) := by decide +kernel
theorem d104_90 : decode (xmb 104) 90 = .ok (.irem, 1) := by decide +kernel
theorem d104_91 : decode (xmb 104) 91 = .ok (.invokevirtual 276, 3) := by decide +kernel
theorem d104_94 : decode (xmb 104) 94 = .ok (.pop, 1) := by decide +kernel
theorem d104_95 : decode (xmb 104) 95 = .ok (.goto 165, 3) := by decide +kernel
theorem d104_98 : decode (xmb 104) 98 = .ok (.aload_n 0, 1) := by decide +kernel
theorem d104_99 : decode (xmb 104) 99 = .ok (.getfield 33, 3) := by decide +kernel
theorem d104_102 : decode (xmb 104) 102 = .ok (.iconst 2, 1) := by decide +kernel
theorem d104_103 : decode (xmb 104) 103 = .ok (.iload_n 2, 1) := by decide +kernel
theorem d104_104 : decode (xmb 104) 104 = .ok (.bipush 14, 2) := by decide +kernel
theorem d104_106 : decode (xmb 104) 106 = .ok (.irem, 1) := by decide +kernel
theorem d104_107 : decode (xmb 104) 107 = .ok (.iload_n 2, 1) := by decide +kernel
theorem d104_108 : decode (xmb 104) 108 = .ok (.bipush 16, 2) := by decide +kernel
theorem d104_110 : decode (xmb 104) 110 = .ok (.idiv, 1) := by decide +kernel
theorem d104_111 : decode (xmb 104) 111 = .ok (.bipush 12, 2) := by decide +kernel
theorem d104_113 : decode (xmb 104) 113 = .ok (.irem, 1) := by decide +kernel
theorem d104_114 : decode (xmb 104) 114 = .ok (.iload_n 2, 1) := by decide +kernel
theorem d104_115 : decode (xmb 104) 115 = .ok (.sipush 256, 3) := by decide +kernel
theorem d104_118 : decode (xmb 104) 118 = .ok (.idiv, 1) := by decide +kernel
theorem d104_119 : decode (xmb 104) 119 = .ok (.iconst 4, 1) := by decide +kernel
theorem d104_120 : decode (xmb 104) 120 = .ok (.irem, 1) := by decide +kernel
theorem d104_121 : decode (xmb 104) 121 = .ok (.ifCond .eq 7, 3) := by decide +kernel
theorem d104_124 : decode (xmb 104) 124 = .ok (.iconst 1, 1) := by decide +kernel
theorem d104_125 : decode (xmb 104) 125 = .ok (.goto 4, 3) := by decide +kernel
theorem d104_128 : decode (xmb 104) 128 = .ok (.iconst 0, 1) := by decide +kernel
theorem d104_129 : decode (xmb 104) 129 = .ok (.invokestatic 216, 3) := by decide +kernel
theorem d104_132 : decode (xmb 104) 132 = .ok (.invokevirtual 276, 3) := by decide +kernel
theorem d104_135 : decode (xmb 104) 135 = .ok (.pop, 1) := by decide +kernel
theorem d104_136 : decode (xmb 104) 136 = .ok (.goto 124, 3) := by decide +kernel
theorem d104_139 : decode (xmb 104) 139 = .ok (.aload_n 0, 1) := by decide +kernel
theorem d104_140 : decode (xmb 104) 140 = .ok (.getfield 33, 3) := by decide +kernel
theorem d104_143 : decode (xmb 104) 143 = .ok (.iconst 3, 1) := by decide +kernel
theorem d104_144 : decode (xmb 104) 144 = .ok (.iload_n 2, 1) := by decide +kernel
theorem d104_145 : decode (xmb 104) 145 = .ok (.bipush 14, 2) := by decide +kernel
theorem d104_147 : decode (xmb 104) 147 = .ok (.irem, 1) := by decide +kernel
theorem d104_148 : decode (xmb 104) 148 = .ok (.iload_n 2, 1) := by decide +kernel
theorem d104_149 : decode (xmb 104) 149 = .ok (.bipush 16, 2) := by decide +kernel
theorem d104_151 : decode (xmb 104) 151 = .ok (.idiv, 1) := by decide +kernel
theorem d104_152 : decode (xmb 104) 152 = .ok (.bipush 14, 2) := by decide +kernel
theorem d104_154 : decode (xmb 104) 154 = .ok (.irem, 1) := by decide +kernel
theorem d104_155 : decode (xmb 104) 155 = .ok (.iload_n 2, 1) := by decide +kernel
theorem d104_156 : decode (xmb 104) 156 = .ok (.sipush 256, 3) := by decide +kernel
theorem d104_159 : decode (xmb 104) 159 = .ok (.idiv, 1) := by decide +kernel
theorem d104_160 : decode (xmb 104) 160 = .ok (.iconst 4, 1) := by decide +kernel
theorem d104_161 : decode (xmb 104) 161 = .ok (.irem, 1) := by decide +kernel
theorem d104_162 : decode (xmb 104) 162 = .ok (.ifCond .eq 7, 3) := by decide +kernel
theorem d104_165 : decode (xmb 104) 165 = .ok (.iconst 1, 1) := by decide +kernel
theorem d104_166 : decode (xmb 104) 166 = .ok (.goto 4, 3) := by decide +kernel
theorem d104_169 : decode (xmb 104) 169 = .ok (.iconst 0, 1) := by decide +kernel
theorem d104_170 : decode (xmb 104) 170 = .ok (.invokestatic 216, 3) := by decide +kernel
theorem d104_173 : decode (xmb 104) 173 = .ok (.invokevirtual 276, 3) := by decide +kernel
theorem d104_176 : decode (xmb 104) 176 = .ok (.pop, 1) := by decide +kernel
theorem d104_177 : decode (xmb 104) 177 = .ok (.goto 83, 3) := by decide +kernel
theorem d104_180 : decode (xmb 104) 180 = .ok (.iload_n 2, 1) := by decide +kernel
theorem d104_181 : decode (xmb 104) 181 = .ok (.bipush 64, 2) := by decide +kernel
theorem d104_183 : decode (xmb 104) 183 = .ok (.idiv, 1) := by decide +kernel
theorem d104_184 : decode (xmb 104) 184 = .ok (.iconst 2, 1) := by decide +kernel
theorem d104_185 : decode (xmb 104) 185 = .ok (.irem, 1) := by decide +kernel
theorem d104_186 : decode (xmb 104) 186 = .ok (.ifCond .ne 24, 3) := by decide +kernel
theorem d104_189 : decode (xmb 104) 189 = .ok (.aload_n 0, 1) := by decide +kernel
theorem d104_190 : decode (xmb 104) 190 = .ok (.getfield 33, 3) := by decide +kernel
theorem d104_193 : decode (xmb 104) 193 = .ok (.iconst 4, 1) := by decide +kernel
theorem d104_194 : decode (xmb 104) 194 = .ok (.iload_n 2, 1) := by decide +kernel
theorem d104_195 : decode (xmb 104) 195 = .ok (.iconst 4, 1) := by decide +kernel
theorem d104_196 : decode (xmb 104) 196 = .ok (.irem, 1) := by decide +kernel
theorem d104_197 : decode (xmb 104) 197 = .ok (.iload_n 2, 1) := by decide +kernel
theorem d104_198 : decode (xmb 104) 198 = .ok (.iconst 4, 1) := by decide +kernel
theorem d104_199 : decode (xmb 104) 199 = .ok (.idiv, 1) := by decide +kernel
theorem d104_200 : decode (xmb 104) 200 = .ok (.iconst 4, 1) := by decide +kernel
theorem d104_201 : decode (xmb 104) 201 = .ok (.irem, 1) := by decide +kernel
theorem d104_202 : decode (xmb 104) 202 = .ok (.iconst 0, 1) := by decide +kernel
theorem d104_203 : decode (xmb 104) 203 = .ok (.invokevirtual 276, 3) := by decide +kernel
theorem d104_206 : decode (xmb 104) 206 = .ok (.pop, 1) := by decide +kernel
theorem d104_207 : decode (xmb 104) 207 = .ok (.goto 53, 3) := by decide +kernel
theorem d104_210 : decode (xmb 104) 210 = .ok (.aload_n 0, 1) := by decide +kernel
theorem d104_211 : decode (xmb 104) 211 = .ok (.getfield 33, 3) := by decide +kernel
theorem d104_214 : decode (xmb 104) 214 = .ok (.iconst 5, 1) := by decide +kernel
theorem d104_215 : decode (xmb 104) 215 = .ok (.iconst 1, 1) := by decide +kernel
theorem d104_216 : decode (xmb 104) 216 = .ok (.iload_n 2, 1) := by decide +kernel
theorem d104_217 : decode (xmb 104) 217 = .ok (.bipush 24, 2) := by decide +kernel
theorem d104_219 : decode (xmb 104) 219 = .ok (.irem, 1) := by decide +kernel
theorem d104_220 : decode (xmb 104) 220 = .ok (.iadd, 1) := by decide +kernel
theorem d104_221 : decode (xmb 104) 221 = .ok (.iconst 1, 1) := by decide +kernel
theorem d104_222 : decode (xmb 104) 222 = .ok (.iload_n 2, 1) := by decide +kernel
theorem d104_223 : decode (xmb 104) 223 = .ok (.sipush 128, 3) := by decide +kernel
theorem d104_226 : decode (xmb 104) 226 = .ok (.idiv, 1) := by decide +kernel
theorem d104_227 : decode (xmb 104) 227 = .ok (.bipush 24, 2) := by decide +kernel
theorem d104_229 : decode (xmb 104) 229 = .ok (.irem, 1) := by decide +kernel
theorem d104_230 : decode (xmb 104) 230 = .ok (.iadd, 1) := by decide +kernel
theorem d104_231 : decode (xmb 104) 231 = .ok (.iconst 0, 1) := by decide +kernel
theorem d104_232 : decode (xmb 104) 232 = .ok (.invokevirtual 276, 3) := by decide +kernel
theorem d104_235 : decode (xmb 104) 235 = .ok (.pop, 1) := by decide +kernel
theorem d104_236 : decode (xmb 104) 236 = .ok (.goto 24, 3) := by decide +kernel
theorem d104_239 : decode (xmb 104) 239 = .ok (.aload_n 0, 1) := by decide +kernel
theorem d104_240 : decode (xmb 104) 240 = .ok (.getfield 33, 3) := by decide +kernel
theorem d104_243 : decode (xmb 104) 243 = .ok (.bipush 6, 2) := by decide +kernel
theorem d104_245 : decode (xmb 104) 245 = .ok (.iload_n 2, 1) := by decide +kernel
theorem d104_246 : decode (xmb 104) 246 = .ok (.iconst 5, 1) := by decide +kernel
theorem d104_247 : decode (xmb 104) 247 = .ok (.irem, 1) := by decide +kernel
theorem d104_248 : decode (xmb 104) 248 = .ok (.iload_n 2, 1) := by decide +kernel
theorem d104_249 : decode (xmb 104) 249 = .ok (.bipush 8, 2) := by decide +kernel
theorem d104_251 : decode (xmb 104) 251 = .ok (.idiv, 1) := by decide +kernel
theorem d104_252 : decode (xmb 104) 252 = .ok (.bipush 16, 2) := by decide +kernel
theorem d104_254 : decode (xmb 104) 254 = .ok (.irem, 1) := by decide +kernel
theorem d104_255 : decode (xmb 104) 255 = .ok (.iconst 0, 1) := by decide +kernel
theorem d104_256 : decode (xmb 104) 256 = .ok (.invokevirtual 276, 3) := by decide +kernel
theorem d104_259 : decode (xmb 104) 259 = .ok (.pop, 1) := by decide +kernel
theorem d104_260 : decode (xmb 104) 260 = .ok (.return_, 1) := by decide +kernel
theorem d144_0 : decode (xmb 144) 0 = .ok (.iload_n 0, 1) := by decide +kernel
theorem d144_1 : decode (xmb 144) 1 = .ok (.iload_n 0, 1) := by decide +kernel
theorem d144_2 : decode (xmb 144) 2 = .ok (.iconst 1, 1) := by decide +kernel
theorem d144_3 : decode (xmb 144) 3 = .ok (.iushr, 1) := by decide +kernel
theorem d144_4 : decode (xmb 144) 4 = .ok (.ldc_w 265, 3) := by decide +kernel
theorem d144_7 : decode (xmb 144) 7 = .ok (.iand, 1) := by decide +kernel
theorem d144_8 : decode (xmb 144) 8 = .ok (.isub, 1) := by decide +kernel
theorem d144_9 : decode (xmb 144) 9 = .ok (.istore_n 0, 1) := by decide +kernel
theorem d144_10 : decode (xmb 144) 10 = .ok (.iload_n 0, 1) := by decide +kernel
theorem d144_11 : decode (xmb 144) 11 = .ok (.ldc_w 266, 3) := by decide +kernel
theorem d144_14 : decode (xmb 144) 14 = .ok (.iand, 1) := by decide +kernel
theorem d144_15 : decode (xmb 144) 15 = .ok (.iload_n 0, 1) := by decide +kernel
theorem d144_16 : decode (xmb 144) 16 = .ok (.iconst 2, 1) := by decide +kernel
theorem d144_17 : decode (xmb 144) 17 = .ok (.iushr, 1) := by decide +kernel
theorem d144_18 : decode (xmb 144) 18 = .ok (.ldc_w 266, 3) := by decide +kernel
theorem d144_21 : decode (xmb 144) 21 = .ok (.iand, 1) := by decide +kernel
theorem d144_22 : decode (xmb 144) 22 = .ok (.iadd, 1) := by decide +kernel
theorem d144_23 : decode (xmb 144) 23 = .ok (.istore_n 0, 1) := by decide +kernel
theorem d144_24 : decode (xmb 144) 24 = .ok (.iload_n 0, 1) := by decide +kernel
theorem d144_25 : decode (xmb 144) 25 = .ok (.iload_n 0, 1) := by decide +kernel
theorem d144_26 : decode (xmb 144) 26 = .ok (.iconst 4, 1) := by decide +kernel
theorem d144_27 : decode (xmb 144) 27 = .ok (.iushr, 1) := by decide +kernel
theorem d144_28 : decode (xmb 144) 28 = .ok (.iadd, 1) := by decide +kernel
theorem d144_29 : decode (xmb 144) 29 = .ok (.ldc_w 267, 3) := by decide +kernel
theorem d144_32 : decode (xmb 144) 32 = .ok (.iand, 1) := by decide +kernel
theorem d144_33 : decode (xmb 144) 33 = .ok (.istore_n 0, 1) := by decide +kernel
theorem d144_34 : decode (xmb 144) 34 = .ok (.iload_n 0, 1) := by decide +kernel
theorem d144_35 : decode (xmb 144) 35 = .ok (.iload_n 0, 1) := by decide +kernel
theorem d144_36 : decode (xmb 144) 36 = .ok (.bipush 8, 2) := by decide +kernel
theorem d144_38 : decode (xmb 144) 38 = .ok (.iushr, 1) := by decide +kernel
theorem d144_39 : decode (xmb 144) 39 = .ok (.iadd, 1) := by decide +kernel
theorem d144_40 : decode (xmb 144) 40 = .ok (.istore_n 0, 1) := by decide +kernel
theorem d144_41 : decode (xmb 144) 41 = .ok (.iload_n 0, 1) := by decide +kernel
theorem d144_42 : decode (xmb 144) 42 = .ok (.iload_n 0, 1) := by decide +kernel
theorem d144_43 : decode (xmb 144) 43 = .ok (.bipush 16, 2) := by decide +kernel
theorem d144_45 : decode (xmb 144) 45 = .ok (.iushr, 1) := by decide +kernel
theorem d144_46 : decode (xmb 144) 46 = .ok (.iadd, 1) := by decide +kernel
theorem d144_47 : decode (xmb 144) 47 = .ok (.istore_n 0, 1) := by decide +kernel
theorem d144_48 : decode (xmb 144) 48 = .ok (.iload_n 0, 1) := by decide +kernel
theorem d144_49 : decode (xmb 144) 49 = .ok (.bipush 63, 2) := by decide +kernel
theorem d144_51 : decode (xmb 144) 51 = .ok (.iand, 1) := by decide +kernel
theorem d144_52 : decode (xmb 144) 52 = .ok (.ireturn, 1) := by decide +kernel
