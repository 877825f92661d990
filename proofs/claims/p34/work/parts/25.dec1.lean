theorem d1_0 : decode (xmb 1) 0 = .ok (.aload_n 0, 1) := by decide +kernel
theorem d1_1 : decode (xmb 1) 1 = .ok (.iconst 0, 1) := by decide +kernel
theorem d1_2 : decode (xmb 1) 2 = .ok (.putfield 39, 3) := by decide +kernel
theorem d1_5 : decode (xmb 1) 5 = .ok (.aload_n 0, 1) := by decide +kernel
theorem d1_6 : decode (xmb 1) 6 = .ok (.iconst 0, 1) := by decide +kernel
theorem d1_7 : decode (xmb 1) 7 = .ok (.putfield 43, 3) := by decide +kernel
theorem d1_10 : decode (xmb 1) 10 = .ok (.aload_n 0, 1) := by decide +kernel
theorem d1_11 : decode (xmb 1) 11 = .ok (.iconst 4, 1) := by decide +kernel
theorem d1_12 : decode (xmb 1) 12 = .ok (.putfield 46, 3) := by decide +kernel
theorem d1_15 : decode (xmb 1) 15 = .ok (.aload_n 0, 1) := by decide +kernel
theorem d1_16 : decode (xmb 1) 16 = .ok (.iconst 4, 1) := by decide +kernel
theorem d1_17 : decode (xmb 1) 17 = .ok (.putfield 49, 3) := by decide +kernel
theorem d1_20 : decode (xmb 1) 20 = .ok (.iconst 0, 1) := by decide +kernel
theorem d1_21 : decode (xmb 1) 21 = .ok (.istore_n 1, 1) := by decide +kernel
theorem d1_22 : decode (xmb 1) 22 = .ok (.iload_n 1, 1) := by decide +kernel
theorem d1_23 : decode (xmb 1) 23 = .ok (.iconst 4, 1) := by decide +kernel
theorem d1_24 : decode (xmb 1) 24 = .ok (.if_icmp .ge 16, 3) := by decide +kernel
theorem d1_27 : decode (xmb 1) 27 = .ok (.aload_n 0, 1) := by decide +kernel
theorem d1_28 : decode (xmb 1) 28 = .ok (.getfield 30, 3) := by decide +kernel
theorem d1_31 : decode (xmb 1) 31 = .ok (.iload_n 1, 1) := by decide +kernel
theorem d1_32 : decode (xmb 1) 32 = .ok (.iconst 1, 1) := by decide +kernel
theorem d1_33 : decode (xmb 1) 33 = .ok (.iastore, 1) := by decide +kernel
theorem d1_34 : decode (xmb 1) 34 = .ok (.iinc 1 1, 3) := by decide +kernel
theorem d1_37 : decode (xmb 1) 37 = .ok (.goto (-15), 3) := by decide +kernel
theorem d1_40 : decode (xmb 1) 40 = .ok (.getstatic 52, 3) := by decide +kernel
theorem d1_43 : decode (xmb 1) 43 = .ok (.iconst 0, 1) := by decide +kernel
theorem d1_44 : decode (xmb 1) 44 = .ok (.aload_n 0, 1) := by decide +kernel
theorem d1_45 : decode (xmb 1) 45 = .ok (.getfield 33, 3) := by decide +kernel
theorem d1_48 : decode (xmb 1) 48 = .ok (.iconst 0, 1) := by decide +kernel
theorem d1_49 : decode (xmb 1) 49 = .ok (.iconst 5, 1) := by decide +kernel
theorem d1_50 : decode (xmb 1) 50 = .ok (.invokestatic 55, 3) := by decide +kernel
theorem d1_53 : decode (xmb 1) 53 = .ok (.return_, 1) := by decide +kernel
theorem d2_0 : decode (xmb 2) 0 = .ok (.aload_n 0, 1) := by decide +kernel
theorem d2_1 : decode (xmb 2) 1 = .ok (.aload_n 1, 1) := by decide +kernel
theorem d2_2 : decode (xmb 2) 2 = .ok (.getfield 39, 3) := by decide +kernel
theorem d2_5 : decode (xmb 2) 5 = .ok (.putfield 39, 3) := by decide +kernel
theorem d2_8 : decode (xmb 2) 8 = .ok (.aload_n 0, 1) := by decide +kernel
theorem d2_9 : decode (xmb 2) 9 = .ok (.aload_n 1, 1) := by decide +kernel
theorem d2_10 : decode (xmb 2) 10 = .ok (.getfield 43, 3) := by decide +kernel
theorem d2_13 : decode (xmb 2) 13 = .ok (.putfield 43, 3) := by decide +kernel
theorem d2_16 : decode (xmb 2) 16 = .ok (.aload_n 0, 1) := by decide +kernel
theorem d2_17 : decode (xmb 2) 17 = .ok (.aload_n 1, 1) := by decide +kernel
theorem d2_18 : decode (xmb 2) 18 = .ok (.getfield 46, 3) := by decide +kernel
theorem d2_21 : decode (xmb 2) 21 = .ok (.putfield 46, 3) := by decide +kernel
theorem d2_24 : decode (xmb 2) 24 = .ok (.aload_n 0, 1) := by decide +kernel
theorem d2_25 : decode (xmb 2) 25 = .ok (.aload_n 1, 1) := by decide +kernel
theorem d2_26 : decode (xmb 2) 26 = .ok (.getfield 49, 3) := by decide +kernel
theorem d2_29 : decode (xmb 2) 29 = .ok (.putfield 49, 3) := by decide +kernel
theorem d2_32 : decode (xmb 2) 32 = .ok (.aload_n 1, 1) := by decide +kernel
theorem d2_33 : decode (xmb 2) 33 = .ok (.getfield 9, 3) := by decide +kernel
theorem d2_36 : decode (xmb 2) 36 = .ok (.iconst 0, 1) := by decide +kernel
theorem d2_37 : decode (xmb 2) 37 = .ok (.aload_n 0, 1) := by decide +kernel
theorem d2_38 : decode (xmb 2) 38 = .ok (.getfield 9, 3) := by decide +kernel
theorem d2_41 : decode (xmb 2) 41 = .ok (.iconst 0, 1) := by decide +kernel
theorem d2_42 : decode (xmb 2) 42 = .ok (.bipush 12, 2) := by decide +kernel
theorem d2_44 : decode (xmb 2) 44 = .ok (.invokestatic 55, 3) := by decide +kernel
theorem d2_47 : decode (xmb 2) 47 = .ok (.aload_n 1, 1) := by decide +kernel
theorem d2_48 : decode (xmb 2) 48 = .ok (.getfield 15, 3) := by decide +kernel
theorem d2_51 : decode (xmb 2) 51 = .ok (.iconst 0, 1) := by decide +kernel
theorem d2_52 : decode (xmb 2) 52 = .ok (.aload_n 0, 1) := by decide +kernel
theorem d2_53 : decode (xmb 2) 53 = .ok (.getfield 15, 3) := by decide +kernel
theorem d2_56 : decode (xmb 2) 56 = .ok (.iconst 0, 1) := by decide +kernel
theorem d2_57 : decode (xmb 2) 57 = .ok (.bipush 14, 2) := by decide +kernel
theorem d2_59 : decode (xmb 2) 59 = .ok (.invokestatic 55, 3) := by decide +kernel
theorem d2_62 : decode (xmb 2) 62 = .ok (.aload_n 1, 1) := by decide +kernel
theorem d2_63 : decode (xmb 2) 63 = .ok (.getfield 18, 3) := by decide +kernel
theorem d2_66 : decode (xmb 2) 66 = .ok (.iconst 0, 1) := by decide +kernel
theorem d2_67 : decode (xmb 2) 67 = .ok (.aload_n 0, 1) := by decide +kernel
theorem d2_68 : decode (xmb 2) 68 = .ok (.getfield 18, 3) := by decide +kernel
theorem d2_71 : decode (xmb 2) 71 = .ok (.iconst 0, 1) := by decide +kernel
theorem d2_72 : decode (xmb 2) 72 = .ok (.bipush 14, 2) := by decide +kernel
theorem d2_74 : decode (xmb 2) 74 = .ok (.invokestatic 55, 3) := by decide +kernel
theorem d2_77 : decode (xmb 2) 77 = .ok (.aload_n 1, 1) := by decide +kernel
theorem d2_78 : decode (xmb 2) 78 = .ok (.getfield 21, 3) := by decide +kernel
theorem d2_81 : decode (xmb 2) 81 = .ok (.iconst 0, 1) := by decide +kernel
theorem d2_82 : decode (xmb 2) 82 = .ok (.aload_n 0, 1) := by decide +kernel
theorem d2_83 : decode (xmb 2) 83 = .ok (.getfield 21, 3) := by decide +kernel
theorem d2_86 : decode (xmb 2) 86 = .ok (.iconst 0, 1) := by decide +kernel
theorem d2_87 : decode (xmb 2) 87 = .ok (.bipush 14, 2) := by decide +kernel
theorem d2_89 : decode (xmb 2) 89 = .ok (.invokestatic 55, 3) := by decide +kernel
theorem d2_92 : decode (xmb 2) 92 = .ok (.aload_n 1, 1) := by decide +kernel
theorem d2_93 : decode (xmb 2) 93 = .ok (.getfield 24, 3) := by decide +kernel
theorem d2_96 : decode (xmb 2) 96 = .ok (.iconst 0, 1) := by decide +kernel
theorem d2_97 : decode (xmb 2) 97 = .ok (.aload_n 0, 1) := by decide +kernel
theorem d2_98 : decode (xmb 2) 98 = .ok (.getfield 24, 3) := by decide +kernel
theorem d2_101 : decode (xmb 2) 101 = .ok (.iconst 0, 1) := by decide +kernel
theorem d2_102 : decode (xmb 2) 102 = .ok (.bipush 14, 2) := by decide +kernel
theorem d2_104 : decode (xmb 2) 104 = .ok (.invokestatic 55, 3) := by decide +kernel
theorem d2_107 : decode (xmb 2) 107 = .ok (.aload_n 1, 1) := by decide +kernel
theorem d2_108 : decode (xmb 2) 108 = .ok (.getfield 27, 3) := by decide +kernel
theorem d2_111 : decode (xmb 2) 111 = .ok (.iconst 0, 1) := by decide +kernel
theorem d2_112 : decode (xmb 2) 112 = .ok (.aload_n 0, 1) := by decide +kernel
theorem d2_113 : decode (xmb 2) 113 = .ok (.getfield 27, 3) := by decide +kernel
theorem d2_116 : decode (xmb 2) 116 = .ok (.iconst 0, 1) := by decide +kernel
theorem d2_117 : decode (xmb 2) 117 = .ok (.bipush 14, 2) := by decide +kernel
theorem d2_119 : decode (xmb 2) 119 = .ok (.invokestatic 55, 3) := by decide +kernel
theorem d2_122 : decode (xmb 2) 122 = .ok (.aload_n 1, 1) := by decide +kernel
theorem d2_123 : decode (xmb 2) 123 = .ok (.getfield 30, 3) := by decide +kernel
theorem d2_126 : decode (xmb 2) 126 = .ok (.iconst 0, 1) := by decide +kernel
theorem d2_127 : decode (xmb 2) 127 = .ok (.aload_n 0, 1) := by decide +kernel
theorem d2_128 : decode (xmb 2) 128 = .ok (.getfield 30, 3) := by decide +kernel
theorem d2_131 : decode (xmb 2) 131 = .ok (.iconst 0, 1) := by decide +kernel
theorem d2_132 : decode (xmb 2) 132 = .ok (.iconst 4, 1) := by decide +kernel
theorem d2_133 : decode (xmb 2) 133 = .ok (.invokestatic 55, 3) := by decide +kernel
theorem d2_136 : decode (xmb 2) 136 = .ok (.aload_n 1, 1) := by decide +kernel
theorem d2_137 : decode (xmb 2) 137 = .ok (.getfield 33, 3) := by decide +kernel
theorem d2_140 : decode (xmb 2) 140 = .ok (.iconst 0, 1) := by decide +kernel
theorem d2_141 : decode (xmb 2) 141 = .ok (.aload_n 0, 1) := by decide +kernel
theorem d2_142 : decode (xmb 2) 142 = .ok (.getfield 33, 3) := by decide +kernel
theorem d2_145 : decode (xmb 2) 145 = .ok (.iconst 0, 1) := by decide +kernel
theorem d2_146 : decode (xmb 2) 146 = .ok (.iconst 5, 1) := by decide +kernel
theorem d2_147 : decode (xmb 2) 147 = .ok (.invokestatic 55, 3) := by decide +kernel
theorem d2_150 : decode (xmb 2) 150 = .ok (.return_, 1) := by decide +kernel
theorem d3_0 : decode (xmb 3) 0 = .ok (.iload_n 1, 1) := by decide +kernel
theorem d3_1 : decode (xmb 3) 1 = .ok (.iconst 0, 1) := by decide +kernel
theorem d3_2 : decode (xmb 3) 2 = .ok (.aload_n 0, 1) := by decide +kernel
theorem d3_3 : decode (xmb 3) 3 = .ok (.getfield 39, 3) := by decide +kernel
theorem d3_6 : decode (xmb 3) 6 = .ok (.iconst 1, 1) := by decide +kernel
theorem d3_7 : decode (xmb 3) 7 = .ok (.isub, 1) := by decide +kernel
theorem d3_8 : decode (xmb 3) 8 = .ok (.invokestatic 61, 3) := by decide +kernel
theorem d3_11 : decode (xmb 3) 11 = .ok (.ireturn, 1) := by decide +kernel
theorem d4_0 : decode (xmb 4) 0 = .ok (.iload_n 1, 1) := by decide +kernel
theorem d4_1 : decode (xmb 4) 1 = .ok (.iconst 0, 1) := by decide +kernel
theorem d4_2 : decode (xmb 4) 2 = .ok (.aload_n 0, 1) := by decide +kernel
theorem d4_3 : decode (xmb 4) 3 = .ok (.getfield 43, 3) := by decide +kernel
theorem d4_6 : decode (xmb 4) 6 = .ok (.iconst 1, 1) := by decide +kernel
theorem d4_7 : decode (xmb 4) 7 = .ok (.isub, 1) := by decide +kernel
theorem d4_8 : decode (xmb 4) 8 = .ok (.invokestatic 61, 3) := by decide +kernel
theorem d4_11 : decode (xmb 4) 11 = .ok (.ireturn, 1) := by decide +kernel
theorem d5_0 : decode (xmb 5) 0 = .ok (.aload_n 0, 1) := by decide +kernel
theorem d5_1 : decode (xmb 5) 1 = .ok (.iload_n 1, 1) := by decide +kernel
theorem d5_2 : decode (xmb 5) 2 = .ok (.iload_n 2, 1) := by decide +kernel
theorem d5_3 : decode (xmb 5) 3 = .ok (.iload_n 3, 1) := by decide +kernel
theorem d5_4 : decode (xmb 5) 4 = .ok (.iload 4, 2) := by decide +kernel
theorem d5_6 : decode (xmb 5) 6 = .ok (.invokevirtual 65, 3) := by decide +kernel
theorem d5_9 : decode (xmb 5) 9 = .ok (.ifCond .eq 5, 3) := by decide +kernel
theorem d5_12 : decode (xmb 5) 12 = .ok (.iconst 0, 1) := by decide +kernel
theorem d5_13 : decode (xmb 5) 13 = .ok (.ireturn, 1) := by decide +kernel
theorem d5_14 : decode (xmb 5) 14 = .ok (.aload_n 0, 1) := by decide +kernel
theorem d5_15 : decode (xmb 5) 15 = .ok (.iload_n 1, 1) := by decide +kernel
theorem d5_16 : decode (xmb 5) 16 = .ok (.iload_n 2, 1) := by decide +kernel
theorem d5_17 : decode (xmb 5) 17 = .ok (.iload_n 3, 1) := by decide +kernel
theorem d5_18 : decode (xmb 5) 18 = .ok (.iload 4, 2) := by decide +kernel
theorem d5_20 : decode (xmb 5) 20 = .ok (.invokevirtual 69, 3) := by decide +kernel
theorem d5_23 : decode (xmb 5) 23 = .ok (.pop, 1) := by decide +kernel
theorem d5_24 : decode (xmb 5) 24 = .ok (.iconst 1, 1) := by decide +kernel
theorem d5_25 : decode (xmb 5) 25 = .ok (.ireturn, 1) := by decide +kernel
theorem d6_0 : decode (xmb 6) 0 = .ok (.iload_n 1, 1) := by decide +kernel
theorem d6_1 : decode (xmb 6) 1 = .ok (.tableswitch 288 0 7 #[47, 73, 116, 143, 190, 205, 236, 271], 47) := by decide +kernel
theorem d6_48 : decode (xmb 6) 48 = .ok (.iconst 1, 1) := by decide +kernel
theorem d6_49 : decode (xmb 6) 49 = .ok (.iload_n 2, 1) := by decide +kernel
theorem d6_50 : decode (xmb 6) 50 = .ok (.iconst 1, 1) := by decide +kernel
theorem d6_51 : decode (xmb 6) 51 = .ok (.ldc 72, 2) := by decide +kernel
theorem d6_53 : decode (xmb 6) 53 = .ok (.invokestatic 61, 3) := by decide +kernel
theorem d6_56 : decode (xmb 6) 56 = .ok (.aload_n 0, 1) := by decide +kernel
theorem d6_57 : decode (xmb 6) 57 = .ok (.getfield 39, 3) := by decide +kernel
theorem d6_60 : decode (xmb 6) 60 = .ok (.bipush 12, 2) := by decide +kernel
theorem d6_62 : decode (xmb 6) 62 = .ok (.if_icmp .ge 7, 3) := by decide +kernel
theorem d6_65 : decode (xmb 6) 65 = .ok (.iconst 1, 1) := by decide +kernel
theorem d6_66 : decode (xmb 6) 66 = .ok (.goto 4, 3) := by decide +kernel
theorem d6_69 : decode (xmb 6) 69 = .ok (.iconst 0, 1) := by decide +kernel
theorem d6_70 : decode (xmb 6) 70 = .ok (.invokestatic 73, 3) := by decide +kernel
theorem d6_73 : decode (xmb 6) 73 = .ok (.ireturn, 1) := by decide +kernel
theorem d6_74 : decode (xmb 6) 74 = .ok (.iconst 1, 1) := by decide +kernel
theorem d6_75 : decode (xmb 6) 75 = .ok (.iload_n 2, 1) := by decide +kernel
theorem d6_76 : decode (xmb 6) 76 = .ok (.iconst 1, 1) := by decide +kernel
theorem d6_77 : decode (xmb 6) 77 = .ok (.bipush 90, 2) := by decide +kernel
theorem d6_79 : decode (xmb 6) 79 = .ok (.invokestatic 61, 3) := by decide +kernel
theorem d6_82 : decode (xmb 6) 82 = .ok (.ifCond .eq 16, 3) := by decide +kernel
theorem d6_85 : decode (xmb 6) 85 = .ok (.iload_n 3, 1) := by decide +kernel
theorem d6_86 : decode (xmb 6) 86 = .ok (.iconst (-1), 1) := by decide +kernel
theorem d6_87 : decode (xmb 6) 87 = .ok (.iconst 3, 1) := by decide +kernel
theorem d6_88 : decode (xmb 6) 88 = .ok (.invokestatic 61, 3) := by decide +kernel
theorem d6_91 : decode (xmb 6) 91 = .ok (.ifCond .eq 7, 3) := by decide +kernel
theorem d6_94 : decode (xmb 6) 94 = .ok (.iconst 1, 1) := by decide +kernel
theorem d6_95 : decode (xmb 6) 95 = .ok (.goto 4, 3) := by decide +kernel
theorem d6_98 : decode (xmb 6) 98 = .ok (.iconst 0, 1) := by decide +kernel
theorem d6_99 : decode (xmb 6) 99 = .ok (.aload_n 0, 1) := by decide +kernel
theorem d6_100 : decode (xmb 6) 100 = .ok (.getfield 43, 3) := by decide +kernel
theorem d6_103 : decode (xmb 6) 103 = .ok (.bipush 14, 2) := by decide +kernel
theorem d6_105 : decode (xmb 6) 105 = .ok (.if_icmp .ge 7, 3) := by decide +kernel
theorem d6_108 : decode (xmb 6) 108 = .ok (.iconst 1, 1) := by decide +kernel
theorem d6_109 : decode (xmb 6) 109 = .ok (.goto 4, 3) := by decide +kernel
theorem d6_112 : decode (xmb 6) 112 = .ok (.iconst 0, 1) := by decide +kernel
theorem d6_113 : decode (xmb 6) 113 = .ok (.invokestatic 73, 3) := by decide +kernel
theorem d6_116 : decode (xmb 6) 116 = .ok (.ireturn, 1) := by decide +kernel
theorem d6_117 : decode (xmb 6) 117 = .ok (.aload_n 0, 1) := by decide +kernel
theorem d6_118 : decode (xmb 6) 118 = .ok (.iload_n 2, 1) := by decide +kernel
theorem d6_119 : decode (xmb 6) 119 = .ok (.invokevirtual 77, 3) := by decide +kernel
theorem d6_122 : decode (xmb 6) 122 = .ok (.ifCond .eq 15, 3) := by decide +kernel
theorem d6_125 : decode (xmb 6) 125 = .ok (.aload_n 0, 1) := by decide +kernel
theorem d6_126 : decode (xmb 6) 126 = .ok (.iload_n 3, 1) := by decide +kernel
theorem d6_127 : decode (xmb 6) 127 = .ok (.invokevirtual 81, 3) := by decide +kernel
theorem d6_130 : decode (xmb 6) 130 = .ok (.ifCond .eq 7, 3) := by decide +kernel
theorem d6_133 : decode (xmb 6) 133 = .ok (.iconst 1, 1) := by decide +kernel
theorem d6_134 : decode (xmb 6) 134 = .ok (.goto 4, 3) := by decide +kernel
theorem d6_137 : decode (xmb 6) 137 = .ok (.iconst 0, 1) := by decide +kernel
theorem d6_138 : decode (xmb 6) 138 = .ok (.iconst 1, 1) := by decide +kernel
theorem d6_139 : decode (xmb 6) 139 = .ok (.iconst 1, 1) := by decide +kernel
theorem d6_140 : decode (xmb 6) 140 = .ok (.invokestatic 73, 3) := by decide +kernel
theorem d6_143 : decode (xmb 6) 143 = .ok (.ireturn, 1) := by decide +kernel
theorem d6_144 : decode (xmb 6) 144 = .ok (.aload_n 0, 1) := by decide +kernel
theorem d6_145 : decode (xmb 6) 145 = .ok (.iload_n 2, 1) := by decide +kernel
theorem d6_146 : decode (xmb 6) 146 = .ok (.invokevirtual 77, 3) := by decide +kernel
theorem d6_149 : decode (xmb 6) 149 = .ok (.ifCond .eq 11, 3) := by decide +kernel
theorem d6_152 : decode (xmb 6) 152 = .ok (.aload_n 0, 1) := by decide +kernel
theorem d6_153 : decode (xmb 6) 153 = .ok (.iload_n 3, 1) := by decide +kernel
theorem d6_154 : decode (xmb 6) 154 = .ok (.invokevirtual 77, 3) := by decide +kernel
theorem d6_157 : decode (xmb 6) 157 = .ok (.ifCond .ne 5, 3) := by decide +kernel
theorem d6_160 : decode (xmb 6) 160 = .ok (.iconst 1, 1) := by decide +kernel
theorem d6_161 : decode (xmb 6) 161 = .ok (.ireturn, 1) := by decide +kernel
theorem d6_162 : decode (xmb 6) 162 = .ok (.iload 4, 2) := by decide +kernel
theorem d6_164 : decode (xmb 6) 164 = .ok (.iconst 1, 1) := by decide +kernel
theorem d6_165 : decode (xmb 6) 165 = .ok (.if_icmp .ne 24, 3) := by decide +kernel
theorem d6_168 : decode (xmb 6) 168 = .ok (.iload_n 2, 1) := by decide +kernel
theorem d6_169 : decode (xmb 6) 169 = .ok (.iload_n 3, 1) := by decide +kernel
theorem d6_170 : decode (xmb 6) 170 = .ok (.if_icmp .eq 15, 3) := by decide +kernel
theorem d6_173 : decode (xmb 6) 173 = .ok (.aload_n 0, 1) := by decide +kernel
theorem d6_174 : decode (xmb 6) 174 = .ok (.iload_n 3, 1) := by decide +kernel
theorem d6_175 : decode (xmb 6) 175 = .ok (.invokevirtual 84, 3) := by decide +kernel
theorem d6_178 : decode (xmb 6) 178 = .ok (.iload_n 2, 1) := by decide +kernel
theorem d6_179 : decode (xmb 6) 179 = .ok (.invokestatic 88, 3) := by decide +kernel
theorem d6_182 : decode (xmb 6) 182 = .ok (.ifCond .eq 7, 3) := by decide +kernel
theorem d6_185 : decode (xmb 6) 185 = .ok (.iconst 3, 1) := by decide +kernel
theorem d6_186 : decode (xmb 6) 186 = .ok (.goto 4, 3) := by decide +kernel
theorem d6_189 : decode (xmb 6) 189 = .ok (.iconst 0, 1) := by decide +kernel
theorem d6_190 : decode (xmb 6) 190 = .ok (.ireturn, 1) := by decide +kernel
theorem d6_191 : decode (xmb 6) 191 = .ok (.iload_n 2, 1) := by decide +kernel
theorem d6_192 : decode (xmb 6) 192 = .ok (.invokestatic 92, 3) := by decide +kernel
theorem d6_195 : decode (xmb 6) 195 = .ok (.iload_n 3, 1) := by decide +kernel
theorem d6_196 : decode (xmb 6) 196 = .ok (.iconst 0, 1) := by decide +kernel
theorem d6_197 : decode (xmb 6) 197 = .ok (.iconst 3, 1) := by decide +kernel
theorem d6_198 : decode (xmb 6) 198 = .ok (.invokestatic 61, 3) := by decide +kernel
theorem d6_201 : decode (xmb 6) 201 = .ok (.iconst 1, 1) := by decide +kernel
theorem d6_202 : decode (xmb 6) 202 = .ok (.invokestatic 73, 3) := by decide +kernel
theorem d6_205 : decode (xmb 6) 205 = .ok (.ireturn, 1) := by decide +kernel
theorem d6_206 : decode (xmb 6) 206 = .ok (.iconst 1, 1) := by decide +kernel
theorem d6_207 : decode (xmb 6) 207 = .ok (.iload_n 2, 1) := by decide +kernel
theorem d6_208 : decode (xmb 6) 208 = .ok (.iconst 1, 1) := by decide +kernel
theorem d6_209 : decode (xmb 6) 209 = .ok (.bipush 24, 2) := by decide +kernel
theorem d6_211 : decode (xmb 6) 211 = .ok (.invokestatic 61, 3) := by decide +kernel
theorem d6_214 : decode (xmb 6) 214 = .ok (.ifCond .eq 17, 3) := by decide +kernel
theorem d6_217 : decode (xmb 6) 217 = .ok (.iload_n 3, 1) := by decide +kernel
theorem d6_218 : decode (xmb 6) 218 = .ok (.iconst 1, 1) := by decide +kernel
theorem d6_219 : decode (xmb 6) 219 = .ok (.bipush 24, 2) := by decide +kernel
theorem d6_221 : decode (xmb 6) 221 = .ok (.invokestatic 61, 3) := by decide +kernel
theorem d6_224 : decode (xmb 6) 224 = .ok (.ifCond .eq 7, 3) := by decide +kernel
theorem d6_227 : decode (xmb 6) 227 = .ok (.iconst 1, 1) := by decide +kernel
theorem d6_228 : decode (xmb 6) 228 = .ok (.goto 4, 3) := by decide +kernel
theorem d6_231 : decode (xmb 6) 231 = .ok (.iconst 0, 1) := by decide +kernel
theorem d6_232 : decode (xmb 6) 232 = .ok (.iconst 1, 1) := by decide +kernel
theorem d6_233 : decode (xmb 6) 233 = .ok (.invokestatic 73, 3) := by decide +kernel
theorem d6_236 : decode (xmb 6) 236 = .ok (.ireturn, 1) := by decide +kernel
theorem d6_237 : decode (xmb 6) 237 = .ok (.iconst 1, 1) := by decide +kernel
theorem d6_238 : decode (xmb 6) 238 = .ok (.iload_n 2, 1) := by decide +kernel
theorem d6_239 : decode (xmb 6) 239 = .ok (.invokestatic 95, 3) := by decide +kernel
theorem d6_242 : decode (xmb 6) 242 = .ok (.ifCond .eq 24, 3) := by decide +kernel
theorem d6_245 : decode (xmb 6) 245 = .ok (.iload_n 3, 1) := by decide +kernel
theorem d6_246 : decode (xmb 6) 246 = .ok (.getstatic 98, 3) := by decide +kernel
theorem d6_249 : decode (xmb 6) 249 = .ok (.iload_n 2, 1) := by decide +kernel
theorem d6_250 : decode (xmb 6) 250 = .ok (.iaload, 1) := by decide +kernel
theorem d6_251 : decode (xmb 6) 251 = .ok (.getstatic 101, 3) := by decide +kernel
theorem d6_254 : decode (xmb 6) 254 = .ok (.iload_n 2, 1) := by decide +kernel
theorem d6_255 : decode (xmb 6) 255 = .ok (.iaload, 1) := by decide +kernel
theorem d6_256 : decode (xmb 6) 256 = .ok (.invokestatic 61, 3) := by decide +kernel
theorem d6_259 : decode (xmb 6) 259 = .ok (.ifCond .eq 7, 3) := by decide +kernel
theorem d6_262 : decode (xmb 6) 262 = .ok (.iconst 1, 1) := by decide +kernel
theorem d6_263 : decode (xmb 6) 263 = .ok (.goto 4, 3) := by decide +kernel
theorem d6_266 : decode (xmb 6) 266 = .ok (.iconst 0, 1) := by decide +kernel
theorem d6_267 : decode (xmb 6) 267 = .ok (.iconst 1, 1) := by decide +kernel
theorem d6_268 : decode (xmb 6) 268 = .ok (.invokestatic 73, 3) := by decide +kernel
theorem d6_271 : decode (xmb 6) 271 = .ok (.ireturn, 1) := by decide +kernel
theorem d6_272 : decode (xmb 6) 272 = .ok (.aload_n 0, 1) := by decide +kernel
theorem d6_273 : decode (xmb 6) 273 = .ok (.iload_n 2, 1) := by decide +kernel
theorem d6_274 : decode (xmb 6) 274 = .ok (.invokevirtual 81, 3) := by decide +kernel
theorem d6_277 : decode (xmb 6) 277 = .ok (.iload_n 3, 1) := by decide +kernel
theorem d6_278 : decode (xmb 6) 278 = .ok (.iconst 1, 1) := by decide +kernel
theorem d6_279 : decode (xmb 6) 279 = .ok (.ldc 72, 2) := by decide +kernel
theorem d6_281 : decode (xmb 6) 281 = .ok (.invokestatic 61, 3) := by decide +kernel
theorem d6_284 : decode (xmb 6) 284 = .ok (.iconst 1, 1) := by decide +kernel
theorem d6_285 : decode (xmb 6) 285 = .ok (.invokestatic 73, 3) := by decide +kernel
theorem d6_288 : decode (xmb 6) 288 = .ok (.ireturn, 1) := by decide +kernel
theorem d6_289 : decode (xmb 6) 289 = .ok (.aload_n 0, 1) := by decide +kernel
theorem d6_290 : decode (xmb 6) 290 = .ok (.iload_n 2, 1) := by decide +kernel
theorem d6_291 : decode (xmb 6) 291 = .ok (.invokevirtual 77, 3) := by decide +kernel
theorem d6_294 : decode (xmb 6) 294 = .ok (.iload_n 3, 1) := by decide +kernel
theorem d6_295 : decode (xmb 6) 295 = .ok (.iconst 1, 1) := by decide +kernel
theorem d6_296 : decode (xmb 6) 296 = .ok (.bipush 90, 2) := by decide +kernel
theorem d6_298 : decode (xmb 6) 298 = .ok (.invokestatic 61, 3) := by decide +kernel
theorem d6_301 : decode (xmb 6) 301 = .ok (.iconst 1, 1) := by decide +kernel
theorem d6_302 : decode (xmb 6) 302 = .ok (.invokestatic 73, 3) := by decide +kernel
theorem d6_305 : decode (xmb 6) 305 = .ok (.ireturn, 1) := by decide +kernel
theorem d7_0 : decode (xmb 7) 0 = .ok (.iload_n 0, 1) := by decide +kernel
theorem d7_1 : decode (xmb 7) 1 = .ok (.ifCond .ne 5, 3) := by decide +kernel
theorem d7_4 : decode (xmb 7) 4 = .ok (.iconst 1, 1) := by decide +kernel
theorem d7_5 : decode (xmb 7) 5 = .ok (.ireturn, 1) := by decide +kernel
theorem d7_6 : decode (xmb 7) 6 = .ok (.iload_n 1, 1) := by decide +kernel
theorem d7_7 : decode (xmb 7) 7 = .ok (.ifCond .ne 5, 3) := by decide +kernel
theorem d7_10 : decode (xmb 7) 10 = .ok (.iconst 2, 1) := by decide +kernel
theorem d7_11 : decode (xmb 7) 11 = .ok (.ireturn, 1) := by decide +kernel
theorem d7_12 : decode (xmb 7) 12 = .ok (.iload_n 2, 1) := by decide +kernel
theorem d7_13 : decode (xmb 7) 13 = .ok (.ifCond .eq 7, 3) := by decide +kernel
theorem d7_16 : decode (xmb 7) 16 = .ok (.iconst 0, 1) := by decide +kernel
theorem d7_17 : decode (xmb 7) 17 = .ok (.goto 4, 3) := by decide +kernel
theorem d7_20 : decode (xmb 7) 20 = .ok (.iconst 3, 1) := by decide +kernel
theorem d7_21 : decode (xmb 7) 21 = .ok (.ireturn, 1) := by decide +kernel
theorem d8_0 : decode (xmb 8) 0 = .ok (.iload_n 1, 1) := by decide +kernel
theorem d8_1 : decode (xmb 8) 1 = .ok (.tableswitch 197 0 7 #[47, 69, 78, 115, 152, 162, 177, 187], 47) := by decide +kernel
theorem d8_48 : decode (xmb 8) 48 = .ok (.aload_n 0, 1) := by decide +kernel
theorem d8_49 : decode (xmb 8) 49 = .ok (.getfield 9, 3) := by decide +kernel
theorem d8_52 : decode (xmb 8) 52 = .ok (.aload_n 0, 1) := by decide +kernel
theorem d8_53 : decode (xmb 8) 53 = .ok (.getfield 39, 3) := by decide +kernel
theorem d8_56 : decode (xmb 8) 56 = .ok (.iload_n 2, 1) := by decide +kernel
theorem d8_57 : decode (xmb 8) 57 = .ok (.iastore, 1) := by decide +kernel
theorem d8_58 : decode (xmb 8) 58 = .ok (.aload_n 0, 1) := by decide +kernel
theorem d8_59 : decode (xmb 8) 59 = .ok (.dup, 1) := by decide +kernel
theorem d8_60 : decode (xmb 8) 60 = .ok (.getfield 39, 3) := by decide +kernel
theorem d8_63 : decode (xmb 8) 63 = .ok (.dup_x1, 1) := by decide +kernel
theorem d8_64 : decode (xmb 8) 64 = .ok (.iconst 1, 1) := by decide +kernel
theorem d8_65 : decode (xmb 8) 65 = .ok (.iadd, 1) := by decide +kernel
theorem d8_66 : decode (xmb 8) 66 = .ok (.putfield 39, 3) := by decide +kernel
theorem d8_69 : decode (xmb 8) 69 = .ok (.ireturn, 1) := by decide +kernel
theorem d8_70 : decode (xmb 8) 70 = .ok (.aload_n 0, 1) := by decide +kernel
theorem d8_71 : decode (xmb 8) 71 = .ok (.iload_n 2, 1) := by decide +kernel
theorem d8_72 : decode (xmb 8) 72 = .ok (.iload_n 3, 1) := by decide +kernel
theorem d8_73 : decode (xmb 8) 73 = .ok (.iload 4, 2) := by decide +kernel
theorem d8_75 : decode (xmb 8) 75 = .ok (.invokevirtual 104, 3) := by decide +kernel
theorem d8_78 : decode (xmb 8) 78 = .ok (.ireturn, 1) := by decide +kernel
theorem d8_79 : decode (xmb 8) 79 = .ok (.aload_n 0, 1) := by decide +kernel
theorem d8_80 : decode (xmb 8) 80 = .ok (.getfield 24, 3) := by decide +kernel
theorem d8_83 : decode (xmb 8) 83 = .ok (.iload_n 2, 1) := by decide +kernel
theorem d8_84 : decode (xmb 8) 84 = .ok (.aload_n 0, 1) := by decide +kernel
theorem d8_85 : decode (xmb 8) 85 = .ok (.getfield 24, 3) := by decide +kernel
theorem d8_88 : decode (xmb 8) 88 = .ok (.iload_n 2, 1) := by decide +kernel
theorem d8_89 : decode (xmb 8) 89 = .ok (.iaload, 1) := by decide +kernel
theorem d8_90 : decode (xmb 8) 90 = .ok (.iload_n 3, 1) := by decide +kernel
theorem d8_91 : decode (xmb 8) 91 = .ok (.iload 4, 2) := by decide +kernel
theorem d8_93 : decode (xmb 8) 93 = .ok (.iconst 1, 1) := by decide +kernel
theorem d8_94 : decode (xmb 8) 94 = .ok (.if_icmp .ne 7, 3) := by decide +kernel
theorem d8_97 : decode (xmb 8) 97 = .ok (.iconst 1, 1) := by decide +kernel
theorem d8_98 : decode (xmb 8) 98 = .ok (.goto 4, 3) := by decide +kernel
theorem d8_101 : decode (xmb 8) 101 = .ok (.iconst 0, 1) := by decide +kernel
theorem d8_102 : decode (xmb 8) 102 = .ok (.invokestatic 108, 3) := by decide +kernel
theorem d8_105 : decode (xmb 8) 105 = .ok (.iastore, 1) := by decide +kernel
theorem d8_106 : decode (xmb 8) 106 = .ok (.aload_n 0, 1) := by decide +kernel
theorem d8_107 : decode (xmb 8) 107 = .ok (.getfield 24, 3) := by decide +kernel
theorem d8_110 : decode (xmb 8) 110 = .ok (.iload_n 2, 1) := by decide +kernel
theorem d8_111 : decode (xmb 8) 111 = .ok (.iaload, 1) := by decide +kernel
theorem d8_112 : decode (xmb 8) 112 = .ok (.invokestatic 112, 3) := by decide +kernel
theorem d8_115 : decode (xmb 8) 115 = .ok (.ireturn, 1) := by decide +kernel
theorem d8_116 : decode (xmb 8) 116 = .ok (.aload_n 0, 1) := by decide +kernel
theorem d8_117 : decode (xmb 8) 117 = .ok (.getfield 27, 3) := by decide +kernel
theorem d8_120 : decode (xmb 8) 120 = .ok (.iload_n 2, 1) := by decide +kernel
theorem d8_121 : decode (xmb 8) 121 = .ok (.aload_n 0, 1) := by decide +kernel
theorem d8_122 : decode (xmb 8) 122 = .ok (.getfield 27, 3) := by decide +kernel
theorem d8_125 : decode (xmb 8) 125 = .ok (.iload_n 2, 1) := by decide +kernel
theorem d8_126 : decode (xmb 8) 126 = .ok (.iaload, 1) := by decide +kernel
theorem d8_127 : decode (xmb 8) 127 = .ok (.iload_n 3, 1) := by decide +kernel
theorem d8_128 : decode (xmb 8) 128 = .ok (.iload 4, 2) := by decide +kernel
theorem d8_130 : decode (xmb 8) 130 = .ok (.iconst 1, 1) := by decide +kernel
theorem d8_131 : decode (xmb 8) 131 = .ok (.if_icmp .ne 7, 3) := by decide +kernel
theorem d8_134 : decode (xmb 8) 134 = .ok (.iconst 1, 1) := by decide +kernel
theorem d8_135 : decode (xmb 8) 135 = .ok (.goto 4, 3) := by decide +kernel
theorem d8_138 : decode (xmb 8) 138 = .ok (.iconst 0, 1) := by decide +kernel
theorem d8_139 : decode (xmb 8) 139 = .ok (.invokestatic 108, 3) := by decide +kernel
theorem d8_142 : decode (xmb 8) 142 = .ok (.iastore, 1) := by decide +kernel
theorem d8_143 : decode (xmb 8) 143 = .ok (.aload_n 0, 1) := by decide +kernel
theorem d8_144 : decode (xmb 8) 144 = .ok (.getfield 27, 3) := by decide +kernel
theorem d8_147 : decode (xmb 8) 147 = .ok (.iload_n 2, 1) := by decide +kernel
theorem d8_148 : decode (xmb 8) 148 = .ok (.iaload, 1) := by decide +kernel
theorem d8_149 : decode (xmb 8) 149 = .ok (.invokestatic 112, 3) := by decide +kernel
theorem d8_152 : decode (xmb 8) 152 = .ok (.ireturn, 1) := by decide +kernel
theorem d8_153 : decode (xmb 8) 153 = .ok (.aload_n 0, 1) := by decide +kernel
theorem d8_154 : decode (xmb 8) 154 = .ok (.getfield 30, 3) := by decide +kernel
theorem d8_157 : decode (xmb 8) 157 = .ok (.iload_n 2, 1) := by decide +kernel
theorem d8_158 : decode (xmb 8) 158 = .ok (.iload_n 3, 1) := by decide +kernel
theorem d8_159 : decode (xmb 8) 159 = .ok (.invokestatic 117, 3) := by decide +kernel
theorem d8_162 : decode (xmb 8) 162 = .ok (.ireturn, 1) := by decide +kernel
theorem d8_163 : decode (xmb 8) 163 = .ok (.aload_n 0, 1) := by decide +kernel
theorem d8_164 : decode (xmb 8) 164 = .ok (.iload_n 2, 1) := by decide +kernel
theorem d8_165 : decode (xmb 8) 165 = .ok (.putfield 46, 3) := by decide +kernel
theorem d8_168 : decode (xmb 8) 168 = .ok (.aload_n 0, 1) := by decide +kernel
theorem d8_169 : decode (xmb 8) 169 = .ok (.iload_n 3, 1) := by decide +kernel
theorem d8_170 : decode (xmb 8) 170 = .ok (.putfield 49, 3) := by decide +kernel
theorem d8_173 : decode (xmb 8) 173 = .ok (.aload_n 0, 1) := by decide +kernel
theorem d8_174 : decode (xmb 8) 174 = .ok (.getfield 49, 3) := by decide +kernel
theorem d8_177 : decode (xmb 8) 177 = .ok (.ireturn, 1) := by decide +kernel
theorem d8_178 : decode (xmb 8) 178 = .ok (.aload_n 0, 1) := by decide +kernel
theorem d8_179 : decode (xmb 8) 179 = .ok (.getfield 33, 3) := by decide +kernel
theorem d8_182 : decode (xmb 8) 182 = .ok (.iload_n 2, 1) := by decide +kernel
theorem d8_183 : decode (xmb 8) 183 = .ok (.iload_n 3, 1) := by decide +kernel
theorem d8_184 : decode (xmb 8) 184 = .ok (.invokestatic 117, 3) := by decide +kernel
theorem d8_187 : decode (xmb 8) 187 = .ok (.ireturn, 1) := by decide +kernel
theorem d8_188 : decode (xmb 8) 188 = .ok (.aload_n 0, 1) := by decide +kernel
theorem d8_189 : decode (xmb 8) 189 = .ok (.getfield 9, 3) := by decide +kernel
theorem d8_192 : decode (xmb 8) 192 = .ok (.iload_n 2, 1) := by decide +kernel
theorem d8_193 : decode (xmb 8) 193 = .ok (.iload_n 3, 1) := by decide +kernel
theorem d8_194 : decode (xmb 8) 194 = .ok (.invokestatic 117, 3) := by decide +kernel
theorem d8_197 : decode (xmb 8) 197 = .ok (.ireturn, 1) := by decide +kernel
theorem d8_198 : decode (xmb 8) 198 = .ok (.aload_n 0, 1) := by decide +kernel
theorem d8_199 : decode (xmb 8) 199 = .ok (.getfield 15, 3) := by decide +kernel
theorem d8_202 : decode (xmb 8) 202 = .ok (.iload_n 2, 1) := by decide +kernel
theorem d8_203 : decode (xmb 8) 203 = .ok (.iload_n 3, 1) := by decide +kernel
theorem d8_204 : decode (xmb 8) 204 = .ok (.invokestatic 117, 3) := by decide +kernel
theorem d8_207 : decode (xmb 8) 207 = .ok (.ireturn, 1) := by decide +kernel
theorem d9_0 : decode (xmb 9) 0 = .ok (.aload_n 0, 1) := by decide +kernel
theorem d9_1 : decode (xmb 9) 1 = .ok (.getfield 15, 3) := by decide +kernel
theorem d9_4 : decode (xmb 9) 4 = .ok (.aload_n 0, 1) := by decide +kernel
theorem d9_5 : decode (xmb 9) 5 = .ok (.getfield 43, 3) := by decide +kernel
theorem d9_8 : decode (xmb 9) 8 = .ok (.iload_n 1, 1) := by decide +kernel
theorem d9_9 : decode (xmb 9) 9 = .ok (.iastore, 1) := by decide +kernel
theorem d9_10 : decode (xmb 9) 10 = .ok (.aload_n 0, 1) := by decide +kernel
theorem d9_11 : decode (xmb 9) 11 = .ok (.getfield 18, 3) := by decide +kernel
theorem d9_14 : decode (xmb 9) 14 = .ok (.aload_n 0, 1) := by decide +kernel
theorem d9_15 : decode (xmb 9) 15 = .ok (.getfield 43, 3) := by decide +kernel
theorem d9_18 : decode (xmb 9) 18 = .ok (.iload_n 2, 1) := by decide +kernel
theorem d9_19 : decode (xmb 9) 19 = .ok (.iastore, 1) := by decide +kernel
theorem d9_20 : decode (xmb 9) 20 = .ok (.aload_n 0, 1) := by decide +kernel
theorem d9_21 : decode (xmb 9) 21 = .ok (.getfield 21, 3) := by decide +kernel
theorem d9_24 : decode (xmb 9) 24 = .ok (.aload_n 0, 1) := by decide +kernel
theorem d9_25 : decode (xmb 9) 25 = .ok (.getfield 43, 3) := by decide +kernel
theorem d9_28 : decode (xmb 9) 28 = .ok (.iload_n 3, 1) := by decide +kernel
theorem d9_29 : decode (xmb 9) 29 = .ok (.iastore, 1) := by decide +kernel
theorem d9_30 : decode (xmb 9) 30 = .ok (.aload_n 0, 1) := by decide +kernel
theorem d9_31 : decode (xmb 9) 31 = .ok (.getfield 24, 3) := by decide +kernel
theorem d9_34 : decode (xmb 9) 34 = .ok (.aload_n 0, 1) := by decide +kernel
theorem d9_35 : decode (xmb 9) 35 = .ok (.getfield 43, 3) := by decide +kernel
theorem d9_38 : decode (xmb 9) 38 = .ok (.iconst 0, 1) := by decide +kernel
theorem d9_39 : decode (xmb 9) 39 = .ok (.iastore, 1) := by decide +kernel
theorem d9_40 : decode (xmb 9) 40 = .ok (.aload_n 0, 1) := by decide +kernel
theorem d9_41 : decode (xmb 9) 41 = .ok (.getfield 27, 3) := by decide +kernel
theorem d9_44 : decode (xmb 9) 44 = .ok (.aload_n 0, 1) := by decide +kernel
theorem d9_45 : decode (xmb 9) 45 = .ok (.getfield 43, 3) := by decide +kernel
theorem d9_48 : decode (xmb 9) 48 = .ok (.iconst 0, 1) := by decide +kernel
theorem d9_49 : decode (xmb 9) 49 = .ok (.iastore, 1) := by decide +kernel
theorem d9_50 : decode (xmb 9) 50 = .ok (.aload_n 0, 1) := by decide +kernel
theorem d9_51 : decode (xmb 9) 51 = .ok (.dup, 1) := by decide +kernel
theorem d9_52 : decode (xmb 9) 52 = .ok (.getfield 43, 3) := by decide +kernel
theorem d9_55 : decode (xmb 9) 55 = .ok (.dup_x1, 1) := by decide +kernel
theorem d9_56 : decode (xmb 9) 56 = .ok (.iconst 1, 1) := by decide +kernel
theorem d9_57 : decode (xmb 9) 57 = .ok (.iadd, 1) := by decide +kernel
theorem d9_58 : decode (xmb 9) 58 = .ok (.putfield 43, 3) := by decide +kernel
theorem d9_61 : decode (xmb 9) 61 = .ok (.ireturn, 1) := by decide +kernel
theorem d10_0 : decode (xmb 10) 0 = .ok (.aload_n 0, 1) := by decide +kernel
theorem d10_1 : decode (xmb 10) 1 = .ok (.iload_n 1, 1) := by decide +kernel
theorem d10_2 : decode (xmb 10) 2 = .ok (.iaload, 1) := by decide +kernel
theorem d10_3 : decode (xmb 10) 3 = .ok (.istore_n 3, 1) := by decide +kernel
theorem d10_4 : decode (xmb 10) 4 = .ok (.aload_n 0, 1) := by decide +kernel
theorem d10_5 : decode (xmb 10) 5 = .ok (.iload_n 1, 1) := by decide +kernel
theorem d10_6 : decode (xmb 10) 6 = .ok (.iload_n 2, 1) := by decide +kernel
theorem d10_7 : decode (xmb 10) 7 = .ok (.iastore, 1) := by decide +kernel
theorem d10_8 : decode (xmb 10) 8 = .ok (.iload_n 3, 1) := by decide +kernel
theorem d10_9 : decode (xmb 10) 9 = .ok (.ireturn, 1) := by decide +kernel
theorem d11_0 : decode (xmb 11) 0 = .ok (.aload_n 0, 1) := by decide +kernel
theorem d11_1 : decode (xmb 11) 1 = .ok (.getfield 46, 3) := by decide +kernel
theorem d11_4 : decode (xmb 11) 4 = .ok (.iconst 1, 1) := by decide +kernel
theorem d11_5 : decode (xmb 11) 5 = .ok (.if_icmp .ge 7, 3) := by decide +kernel
theorem d11_8 : decode (xmb 11) 8 = .ok (.iconst 0, 1) := by decide +kernel
theorem d11_9 : decode (xmb 11) 9 = .ok (.goto 16, 3) := by decide +kernel
theorem d11_12 : decode (xmb 11) 12 = .ok (.aload_n 0, 1) := by decide +kernel
theorem d11_13 : decode (xmb 11) 13 = .ok (.getfield 9, 3) := by decide +kernel
theorem d11_16 : decode (xmb 11) 16 = .ok (.iload_n 1, 1) := by decide +kernel
theorem d11_17 : decode (xmb 11) 17 = .ok (.iaload, 1) := by decide +kernel
theorem d11_18 : decode (xmb 11) 18 = .ok (.iload_n 2, 1) := by decide +kernel
theorem d11_19 : decode (xmb 11) 19 = .ok (.imul, 1) := by decide +kernel
theorem d11_20 : decode (xmb 11) 20 = .ok (.aload_n 0, 1) := by decide +kernel
theorem d11_21 : decode (xmb 11) 21 = .ok (.getfield 46, 3) := by decide +kernel
theorem d11_24 : decode (xmb 11) 24 = .ok (.idiv, 1) := by decide +kernel
theorem d11_25 : decode (xmb 11) 25 = .ok (.istore_n 3, 1) := by decide +kernel
theorem d11_26 : decode (xmb 11) 26 = .ok (.iload_n 3, 1) := by decide +kernel
theorem d11_27 : decode (xmb 11) 27 = .ok (.iconst 1, 1) := by decide +kernel
theorem d11_28 : decode (xmb 11) 28 = .ok (.if_icmp .ge 7, 3) := by decide +kernel
theorem d11_31 : decode (xmb 11) 31 = .ok (.iconst 1, 1) := by decide +kernel
theorem d11_32 : decode (xmb 11) 32 = .ok (.goto 4, 3) := by decide +kernel
theorem d11_35 : decode (xmb 11) 35 = .ok (.iload_n 3, 1) := by decide +kernel
theorem d11_36 : decode (xmb 11) 36 = .ok (.ireturn, 1) := by decide +kernel
theorem d12_0 : decode (xmb 12) 0 = .ok (.getstatic 121, 3) := by decide +kernel
theorem d12_3 : decode (xmb 12) 3 = .ok (.aload_n 0, 1) := by decide +kernel
theorem d12_4 : decode (xmb 12) 4 = .ok (.invokevirtual 124, 3) := by decide +kernel
theorem d12_7 : decode (xmb 12) 7 = .ok (.iaload, 1) := by decide +kernel
theorem d12_8 : decode (xmb 12) 8 = .ok (.istore_n 3, 1) := by decide +kernel
theorem d12_9 : decode (xmb 12) 9 = .ok (.aload_n 0, 1) := by decide +kernel
theorem d12_10 : decode (xmb 12) 10 = .ok (.iload_n 1, 1) := by decide +kernel
theorem d12_11 : decode (xmb 12) 11 = .ok (.iload_n 2, 1) := by decide +kernel
theorem d12_12 : decode (xmb 12) 12 = .ok (.invokevirtual 128, 3) := by decide +kernel
theorem d12_15 : decode (xmb 12) 15 = .ok (.istore 4, 2) := by decide +kernel
theorem d12_17 : decode (xmb 12) 17 = .ok (.aload_n 0, 1) := by decide +kernel
theorem d12_18 : decode (xmb 12) 18 = .ok (.getfield 33, 3) := by decide +kernel
theorem d12_21 : decode (xmb 12) 21 = .ok (.iconst 1, 1) := by decide +kernel
theorem d12_22 : decode (xmb 12) 22 = .ok (.iaload, 1) := by decide +kernel
theorem d12_23 : decode (xmb 12) 23 = .ok (.ifCond .ne 12, 3) := by decide +kernel
theorem d12_26 : decode (xmb 12) 26 = .ok (.iload 4, 2) := by decide +kernel
theorem d12_28 : decode (xmb 12) 28 = .ok (.iload_n 3, 1) := by decide +kernel
theorem d12_29 : decode (xmb 12) 29 = .ok (.idiv, 1) := by decide +kernel
theorem d12_30 : decode (xmb 12) 30 = .ok (.istore 5, 2) := by decide +kernel
theorem d12_32 : decode (xmb 12) 32 = .ok (.goto 38, 3) := by decide +kernel
theorem d12_35 : decode (xmb 12) 35 = .ok (.aload_n 0, 1) := by decide +kernel
theorem d12_36 : decode (xmb 12) 36 = .ok (.getfield 33, 3) := by decide +kernel
theorem d12_39 : decode (xmb 12) 39 = .ok (.iconst 1, 1) := by decide +kernel
theorem d12_40 : decode (xmb 12) 40 = .ok (.iaload, 1) := by decide +kernel
theorem d12_41 : decode (xmb 12) 41 = .ok (.iconst 1, 1) := by decide +kernel
theorem d12_42 : decode (xmb 12) 42 = .ok (.if_icmp .ne 18, 3) := by decide +kernel
theorem d12_45 : decode (xmb 12) 45 = .ok (.iconst 2, 1) := by decide +kernel
theorem d12_46 : decode (xmb 12) 46 = .ok (.iload 4, 2) := by decide +kernel
theorem d12_48 : decode (xmb 12) 48 = .ok (.imul, 1) := by decide +kernel
theorem d12_49 : decode (xmb 12) 49 = .ok (.iload_n 3, 1) := by decide +kernel
theorem d12_50 : decode (xmb 12) 50 = .ok (.iadd, 1) := by decide +kernel
theorem d12_51 : decode (xmb 12) 51 = .ok (.iconst 2, 1) := by decide +kernel
theorem d12_52 : decode (xmb 12) 52 = .ok (.iload_n 3, 1) := by decide +kernel
theorem d12_53 : decode (xmb 12) 53 = .ok (.imul, 1) := by decide +kernel
theorem d12_54 : decode (xmb 12) 54 = .ok (.idiv, 1) := by decide +kernel
theorem d12_55 : decode (xmb 12) 55 = .ok (.istore 5, 2) := by decide +kernel
theorem d12_57 : decode (xmb 12) 57 = .ok (.goto 13, 3) := by decide +kernel
theorem d12_60 : decode (xmb 12) 60 = .ok (.iload 4, 2) := by decide +kernel
theorem d12_62 : decode (xmb 12) 62 = .ok (.iload_n 3, 1) := by decide +kernel
theorem d12_63 : decode (xmb 12) 63 = .ok (.iadd, 1) := by decide +kernel
theorem d12_64 : decode (xmb 12) 64 = .ok (.iconst 1, 1) := by decide +kernel
theorem d12_65 : decode (xmb 12) 65 = .ok (.isub, 1) := by decide +kernel
theorem d12_66 : decode (xmb 12) 66 = .ok (.iload_n 3, 1) := by decide +kernel
theorem d12_67 : decode (xmb 12) 67 = .ok (.idiv, 1) := by decide +kernel
theorem d12_68 : decode (xmb 12) 68 = .ok (.istore 5, 2) := by decide +kernel
theorem d12_70 : decode (xmb 12) 70 = .ok (.iload 5, 2) := by decide +kernel
theorem d12_72 : decode (xmb 12) 72 = .ok (.iconst 1, 1) := by decide +kernel
theorem d12_73 : decode (xmb 12) 73 = .ok (.if_icmp .ge 7, 3) := by decide +kernel
theorem d12_76 : decode (xmb 12) 76 = .ok (.iload_n 3, 1) := by decide +kernel
theorem d12_77 : decode (xmb 12) 77 = .ok (.goto 7, 3) := by decide +kernel
theorem d12_80 : decode (xmb 12) 80 = .ok (.iload 5, 2) := by decide +kernel
theorem d12_82 : decode (xmb 12) 82 = .ok (.iload_n 3, 1) := by decide +kernel
theorem d12_83 : decode (xmb 12) 83 = .ok (.imul, 1) := by decide +kernel
theorem d12_84 : decode (xmb 12) 84 = .ok (.ireturn, 1) := by decide +kernel
theorem d13_0 : decode (xmb 13) 0 = .ok (.iconst 0, 1) := by decide +kernel
theorem d13_1 : decode (xmb 13) 1 = .ok (.istore_n 1, 1) := by decide +kernel
theorem d13_2 : decode (xmb 13) 2 = .ok (.iload_n 1, 1) := by decide +kernel
theorem d13_3 : decode (xmb 13) 3 = .ok (.iconst 4, 1) := by decide +kernel
theorem d13_4 : decode (xmb 13) 4 = .ok (.if_icmp .ge 24, 3) := by decide +kernel
theorem d13_7 : decode (xmb 13) 7 = .ok (.aload_n 0, 1) := by decide +kernel
theorem d13_8 : decode (xmb 13) 8 = .ok (.getfield 33, 3) := by decide +kernel
theorem d13_11 : decode (xmb 13) 11 = .ok (.iconst 0, 1) := by decide +kernel
theorem d13_12 : decode (xmb 13) 12 = .ok (.iaload, 1) := by decide +kernel
theorem d13_13 : decode (xmb 13) 13 = .ok (.iload_n 1, 1) := by decide +kernel
theorem d13_14 : decode (xmb 13) 14 = .ok (.invokestatic 88, 3) := by decide +kernel
theorem d13_17 : decode (xmb 13) 17 = .ok (.ifCond .eq 5, 3) := by decide +kernel
theorem d13_20 : decode (xmb 13) 20 = .ok (.iload_n 1, 1) := by decide +kernel
theorem d13_21 : decode (xmb 13) 21 = .ok (.ireturn, 1) := by decide +kernel
theorem d13_22 : decode (xmb 13) 22 = .ok (.iinc 1 1, 3) := by decide +kernel
theorem d13_25 : decode (xmb 13) 25 = .ok (.goto (-23), 3) := by decide +kernel
theorem d13_28 : decode (xmb 13) 28 = .ok (.iconst 0, 1) := by decide +kernel
theorem d13_29 : decode (xmb 13) 29 = .ok (.ireturn, 1) := by decide +kernel
theorem d14_0 : decode (xmb 14) 0 = .ok (.aload_n 0, 1) := by decide +kernel
theorem d14_1 : decode (xmb 14) 1 = .ok (.iload_n 1, 1) := by decide +kernel
theorem d14_2 : decode (xmb 14) 2 = .ok (.iload_n 2, 1) := by decide +kernel
theorem d14_3 : decode (xmb 14) 3 = .ok (.invokevirtual 132, 3) := by decide +kernel
theorem d14_6 : decode (xmb 14) 6 = .ok (.istore 4, 2) := by decide +kernel
theorem d14_8 : decode (xmb 14) 8 = .ok (.iconst 0, 1) := by decide +kernel
theorem d14_9 : decode (xmb 14) 9 = .ok (.istore 5, 2) := by decide +kernel
theorem d14_11 : decode (xmb 14) 11 = .ok (.iconst 3, 1) := by decide +kernel
theorem d14_12 : decode (xmb 14) 12 = .ok (.istore 6, 2) := by decide +kernel
theorem d14_14 : decode (xmb 14) 14 = .ok (.iload 6, 2) := by decide +kernel
theorem d14_16 : decode (xmb 14) 16 = .ok (.ifCond .lt 61, 3) := by decide +kernel
theorem d14_19 : decode (xmb 14) 19 = .ok (.aload_n 0, 1) := by decide +kernel
theorem d14_20 : decode (xmb 14) 20 = .ok (.getfield 33, 3) := by decide +kernel
theorem d14_23 : decode (xmb 14) 23 = .ok (.iconst 0, 1) := by decide +kernel
theorem d14_24 : decode (xmb 14) 24 = .ok (.iaload, 1) := by decide +kernel
theorem d14_25 : decode (xmb 14) 25 = .ok (.iload 6, 2) := by decide +kernel
theorem d14_27 : decode (xmb 14) 27 = .ok (.invokestatic 88, 3) := by decide +kernel
theorem d14_30 : decode (xmb 14) 30 = .ok (.ifCond .eq 41, 3) := by decide +kernel
theorem d14_33 : decode (xmb 14) 33 = .ok (.iload 5, 2) := by decide +kernel
theorem d14_35 : decode (xmb 14) 35 = .ok (.iload_n 3, 1) := by decide +kernel
theorem d14_36 : decode (xmb 14) 36 = .ok (.iload 6, 2) := by decide +kernel
theorem d14_38 : decode (xmb 14) 38 = .ok (.invokestatic 88, 3) := by decide +kernel
theorem d14_41 : decode (xmb 14) 41 = .ok (.ifCond .eq 15, 3) := by decide +kernel
theorem d14_44 : decode (xmb 14) 44 = .ok (.iload 4, 2) := by decide +kernel
theorem d14_46 : decode (xmb 14) 46 = .ok (.getstatic 121, 3) := by decide +kernel
theorem d14_49 : decode (xmb 14) 49 = .ok (.iload 6, 2) := by decide +kernel
theorem d14_51 : decode (xmb 14) 51 = .ok (.iaload, 1) := by decide +kernel
theorem d14_52 : decode (xmb 14) 52 = .ok (.idiv, 1) := by decide +kernel
theorem d14_53 : decode (xmb 14) 53 = .ok (.goto 4, 3) := by decide +kernel
theorem d14_56 : decode (xmb 14) 56 = .ok (.iconst 0, 1) := by decide +kernel
theorem d14_57 : decode (xmb 14) 57 = .ok (.iadd, 1) := by decide +kernel
theorem d14_58 : decode (xmb 14) 58 = .ok (.istore 5, 2) := by decide +kernel
theorem d14_60 : decode (xmb 14) 60 = .ok (.iload 4, 2) := by decide +kernel
theorem d14_62 : decode (xmb 14) 62 = .ok (.getstatic 121, 3) := by decide +kernel
theorem d14_65 : decode (xmb 14) 65 = .ok (.iload 6, 2) := by decide +kernel
theorem d14_67 : decode (xmb 14) 67 = .ok (.iaload, 1) := by decide +kernel
theorem d14_68 : decode (xmb 14) 68 = .ok (.irem, 1) := by decide +kernel
theorem d14_69 : decode (xmb 14) 69 = .ok (.istore 4, 2) := by decide +kernel
theorem d14_71 : decode (xmb 14) 71 = .ok (.iinc 6 (-1), 3) := by decide +kernel
theorem d14_74 : decode (xmb 14) 74 = .ok (.goto (-60), 3) := by decide +kernel
theorem d14_77 : decode (xmb 14) 77 = .ok (.iload 5, 2) := by decide +kernel
theorem d14_79 : decode (xmb 14) 79 = .ok (.ireturn, 1) := by decide +kernel
theorem d15_0 : decode (xmb 15) 0 = .ok (.iconst 0, 1) := by decide +kernel
theorem d15_1 : decode (xmb 15) 1 = .ok (.istore_n 2, 1) := by decide +kernel
theorem d15_2 : decode (xmb 15) 2 = .ok (.iconst 0, 1) := by decide +kernel
theorem d15_3 : decode (xmb 15) 3 = .ok (.istore_n 3, 1) := by decide +kernel
theorem d15_4 : decode (xmb 15) 4 = .ok (.iload_n 3, 1) := by decide +kernel
theorem d15_5 : decode (xmb 15) 5 = .ok (.aload_n 0, 1) := by decide +kernel
theorem d15_6 : decode (xmb 15) 6 = .ok (.getfield 39, 3) := by decide +kernel
theorem d15_9 : decode (xmb 15) 9 = .ok (.if_icmp .ge 20, 3) := by decide +kernel
theorem d15_12 : decode (xmb 15) 12 = .ok (.iload_n 2, 1) := by decide +kernel
theorem d15_13 : decode (xmb 15) 13 = .ok (.aload_n 0, 1) := by decide +kernel
theorem d15_14 : decode (xmb 15) 14 = .ok (.iload_n 3, 1) := by decide +kernel
theorem d15_15 : decode (xmb 15) 15 = .ok (.iload_n 1, 1) := by decide +kernel
theorem d15_16 : decode (xmb 15) 16 = .ok (.bipush 15, 2) := by decide +kernel
theorem d15_18 : decode (xmb 15) 18 = .ok (.invokevirtual 135, 3) := by decide +kernel
theorem d15_21 : decode (xmb 15) 21 = .ok (.iadd, 1) := by decide +kernel
theorem d15_22 : decode (xmb 15) 22 = .ok (.istore_n 2, 1) := by decide +kernel
theorem d15_23 : decode (xmb 15) 23 = .ok (.iinc 3 1, 3) := by decide +kernel
theorem d15_26 : decode (xmb 15) 26 = .ok (.goto (-22), 3) := by decide +kernel
theorem d15_29 : decode (xmb 15) 29 = .ok (.iload_n 2, 1) := by decide +kernel
theorem d15_30 : decode (xmb 15) 30 = .ok (.ireturn, 1) := by decide +kernel
theorem d16_0 : decode (xmb 16) 0 = .ok (.iconst 0, 1) := by decide +kernel
theorem d16_1 : decode (xmb 16) 1 = .ok (.istore_n 2, 1) := by decide +kernel
theorem d16_2 : decode (xmb 16) 2 = .ok (.iconst 0, 1) := by decide +kernel
theorem d16_3 : decode (xmb 16) 3 = .ok (.istore_n 3, 1) := by decide +kernel
theorem d16_4 : decode (xmb 16) 4 = .ok (.iload_n 3, 1) := by decide +kernel
theorem d16_5 : decode (xmb 16) 5 = .ok (.aload_n 0, 1) := by decide +kernel
theorem d16_6 : decode (xmb 16) 6 = .ok (.getfield 39, 3) := by decide +kernel
theorem d16_9 : decode (xmb 16) 9 = .ok (.if_icmp .ge 28, 3) := by decide +kernel
theorem d16_12 : decode (xmb 16) 12 = .ok (.iload_n 2, 1) := by decide +kernel
theorem d16_13 : decode (xmb 16) 13 = .ok (.aload_n 0, 1) := by decide +kernel
theorem d16_14 : decode (xmb 16) 14 = .ok (.iload_n 3, 1) := by decide +kernel
theorem d16_15 : decode (xmb 16) 15 = .ok (.iload_n 1, 1) := by decide +kernel
theorem d16_16 : decode (xmb 16) 16 = .ok (.invokevirtual 132, 3) := by decide +kernel
theorem d16_19 : decode (xmb 16) 19 = .ok (.aload_n 0, 1) := by decide +kernel
theorem d16_20 : decode (xmb 16) 20 = .ok (.iload_n 3, 1) := by decide +kernel
theorem d16_21 : decode (xmb 16) 21 = .ok (.iload_n 1, 1) := by decide +kernel
theorem d16_22 : decode (xmb 16) 22 = .ok (.invokevirtual 128, 3) := by decide +kernel
theorem d16_25 : decode (xmb 16) 25 = .ok (.isub, 1) := by decide +kernel
theorem d16_26 : decode (xmb 16) 26 = .ok (.invokestatic 138, 3) := by decide +kernel
theorem d16_29 : decode (xmb 16) 29 = .ok (.iadd, 1) := by decide +kernel
theorem d16_30 : decode (xmb 16) 30 = .ok (.istore_n 2, 1) := by decide +kernel
theorem d16_31 : decode (xmb 16) 31 = .ok (.iinc 3 1, 3) := by decide +kernel
theorem d16_34 : decode (xmb 16) 34 = .ok (.goto (-30), 3) := by decide +kernel
theorem d16_37 : decode (xmb 16) 37 = .ok (.iload_n 2, 1) := by decide +kernel
theorem d16_38 : decode (xmb 16) 38 = .ok (.ireturn, 1) := by decide +kernel
theorem d17_0 : decode (xmb 17) 0 = .ok (.iconst 0, 1) := by decide +kernel
theorem d17_1 : decode (xmb 17) 1 = .ok (.istore_n 2, 1) := by decide +kernel
theorem d17_2 : decode (xmb 17) 2 = .ok (.iconst 0, 1) := by decide +kernel
theorem d17_3 : decode (xmb 17) 3 = .ok (.istore_n 3, 1) := by decide +kernel
theorem d17_4 : decode (xmb 17) 4 = .ok (.iload_n 3, 1) := by decide +kernel
theorem d17_5 : decode (xmb 17) 5 = .ok (.aload_n 0, 1) := by decide +kernel
theorem d17_6 : decode (xmb 17) 6 = .ok (.getfield 43, 3) := by decide +kernel
theorem d17_9 : decode (xmb 17) 9 = .ok (.if_icmp .ge 25, 3) := by decide +kernel
theorem d17_12 : decode (xmb 17) 12 = .ok (.iload_n 2, 1) := by decide +kernel
theorem d17_13 : decode (xmb 17) 13 = .ok (.aload_n 0, 1) := by decide +kernel
theorem d17_14 : decode (xmb 17) 14 = .ok (.getfield 24, 3) := by decide +kernel
theorem d17_17 : decode (xmb 17) 17 = .ok (.iload_n 3, 1) := by decide +kernel
theorem d17_18 : decode (xmb 17) 18 = .ok (.iaload, 1) := by decide +kernel
theorem d17_19 : decode (xmb 17) 19 = .ok (.iload_n 1, 1) := by decide +kernel
theorem d17_20 : decode (xmb 17) 20 = .ok (.invokestatic 88, 3) := by decide +kernel
theorem d17_23 : decode (xmb 17) 23 = .ok (.invokestatic 143, 3) := by decide +kernel
theorem d17_26 : decode (xmb 17) 26 = .ok (.iadd, 1) := by decide +kernel
theorem d17_27 : decode (xmb 17) 27 = .ok (.istore_n 2, 1) := by decide +kernel
theorem d17_28 : decode (xmb 17) 28 = .ok (.iinc 3 1, 3) := by decide +kernel
theorem d17_31 : decode (xmb 17) 31 = .ok (.goto (-27), 3) := by decide +kernel
theorem d17_34 : decode (xmb 17) 34 = .ok (.iload_n 2, 1) := by decide +kernel
theorem d17_35 : decode (xmb 17) 35 = .ok (.ireturn, 1) := by decide +kernel
theorem d18_0 : decode (xmb 18) 0 = .ok (.iconst 0, 1) := by decide +kernel
theorem d18_1 : decode (xmb 18) 1 = .ok (.istore_n 1, 1) := by decide +kernel
theorem d18_2 : decode (xmb 18) 2 = .ok (.iconst 0, 1) := by decide +kernel
theorem d18_3 : decode (xmb 18) 3 = .ok (.istore_n 2, 1) := by decide +kernel
theorem d18_4 : decode (xmb 18) 4 = .ok (.iload_n 2, 1) := by decide +kernel
theorem d18_5 : decode (xmb 18) 5 = .ok (.aload_n 0, 1) := by decide +kernel
theorem d18_6 : decode (xmb 18) 6 = .ok (.getfield 39, 3) := by decide +kernel
theorem d18_9 : decode (xmb 18) 9 = .ok (.if_icmp .ge 28, 3) := by decide +kernel
theorem d18_12 : decode (xmb 18) 12 = .ok (.iload_n 1, 1) := by decide +kernel
theorem d18_13 : decode (xmb 18) 13 = .ok (.aload_n 0, 1) := by decide +kernel
theorem d18_14 : decode (xmb 18) 14 = .ok (.iload_n 2, 1) := by decide +kernel
theorem d18_15 : decode (xmb 18) 15 = .ok (.invokevirtual 147, 3) := by decide +kernel
theorem d18_18 : decode (xmb 18) 18 = .ok (.ifCond .ne 7, 3) := by decide +kernel
theorem d18_21 : decode (xmb 18) 21 = .ok (.iconst 1, 1) := by decide +kernel
theorem d18_22 : decode (xmb 18) 22 = .ok (.goto 4, 3) := by decide +kernel
theorem d18_25 : decode (xmb 18) 25 = .ok (.iconst 0, 1) := by decide +kernel
theorem d18_26 : decode (xmb 18) 26 = .ok (.invokestatic 143, 3) := by decide +kernel
theorem d18_29 : decode (xmb 18) 29 = .ok (.iadd, 1) := by decide +kernel
theorem d18_30 : decode (xmb 18) 30 = .ok (.istore_n 1, 1) := by decide +kernel
theorem d18_31 : decode (xmb 18) 31 = .ok (.iinc 2 1, 3) := by decide +kernel
theorem d18_34 : decode (xmb 18) 34 = .ok (.goto (-30), 3) := by decide +kernel
theorem d18_37 : decode (xmb 18) 37 = .ok (.iload_n 1, 1) := by decide +kernel
theorem d18_38 : decode (xmb 18) 38 = .ok (.ireturn, 1) := by decide +kernel
theorem d19_0 : decode (xmb 19) 0 = .ok (.iconst 0, 1) := by decide +kernel
theorem d19_1 : decode (xmb 19) 1 = .ok (.istore_n 1, 1) := by decide +kernel
theorem d19_2 : decode (xmb 19) 2 = .ok (.iconst 0, 1) := by decide +kernel
theorem d19_3 : decode (xmb 19) 3 = .ok (.istore_n 2, 1) := by decide +kernel
theorem d19_4 : decode (xmb 19) 4 = .ok (.iload_n 2, 1) := by decide +kernel
theorem d19_5 : decode (xmb 19) 5 = .ok (.aload_n 0, 1) := by decide +kernel
theorem d19_6 : decode (xmb 19) 6 = .ok (.getfield 43, 3) := by decide +kernel
theorem d19_9 : decode (xmb 19) 9 = .ok (.if_icmp .ge 18, 3) := by decide +kernel
theorem d19_12 : decode (xmb 19) 12 = .ok (.iload_n 1, 1) := by decide +kernel
theorem d19_13 : decode (xmb 19) 13 = .ok (.aload_n 0, 1) := by decide +kernel
theorem d19_14 : decode (xmb 19) 14 = .ok (.getfield 15, 3) := by decide +kernel
theorem d19_17 : decode (xmb 19) 17 = .ok (.iload_n 2, 1) := by decide +kernel
theorem d19_18 : decode (xmb 19) 18 = .ok (.iaload, 1) := by decide +kernel
theorem d19_19 : decode (xmb 19) 19 = .ok (.iadd, 1) := by decide +kernel
theorem d19_20 : decode (xmb 19) 20 = .ok (.istore_n 1, 1) := by decide +kernel
theorem d19_21 : decode (xmb 19) 21 = .ok (.iinc 2 1, 3) := by decide +kernel
theorem d19_24 : decode (xmb 19) 24 = .ok (.goto (-20), 3) := by decide +kernel
theorem d19_27 : decode (xmb 19) 27 = .ok (.iload_n 1, 1) := by decide +kernel
theorem d19_28 : decode (xmb 19) 28 = .ok (.ireturn, 1) := by decide +kernel
theorem d20_0 : decode (xmb 20) 0 = .ok (.iconst 0, 1) := by decide +kernel
theorem d20_1 : decode (xmb 20) 1 = .ok (.istore_n 2, 1) := by decide +kernel
theorem d20_2 : decode (xmb 20) 2 = .ok (.iconst 0, 1) := by decide +kernel
theorem d20_3 : decode (xmb 20) 3 = .ok (.istore_n 3, 1) := by decide +kernel
theorem d20_4 : decode (xmb 20) 4 = .ok (.iload_n 3, 1) := by decide +kernel
theorem d20_5 : decode (xmb 20) 5 = .ok (.aload_n 0, 1) := by decide +kernel
theorem d20_6 : decode (xmb 20) 6 = .ok (.getfield 43, 3) := by decide +kernel
theorem d20_9 : decode (xmb 20) 9 = .ok (.if_icmp .ge 25, 3) := by decide +kernel
theorem d20_12 : decode (xmb 20) 12 = .ok (.iload_n 2, 1) := by decide +kernel
theorem d20_13 : decode (xmb 20) 13 = .ok (.iload_n 3, 1) := by decide +kernel
theorem d20_14 : decode (xmb 20) 14 = .ok (.aload_n 0, 1) := by decide +kernel
theorem d20_15 : decode (xmb 20) 15 = .ok (.getfield 27, 3) := by decide +kernel
theorem d20_18 : decode (xmb 20) 18 = .ok (.iload_n 3, 1) := by decide +kernel
theorem d20_19 : decode (xmb 20) 19 = .ok (.iaload, 1) := by decide +kernel
theorem d20_20 : decode (xmb 20) 20 = .ok (.iload_n 1, 1) := by decide +kernel
theorem d20_21 : decode (xmb 20) 21 = .ok (.invokestatic 88, 3) := by decide +kernel
theorem d20_24 : decode (xmb 20) 24 = .ok (.invokestatic 108, 3) := by decide +kernel
theorem d20_27 : decode (xmb 20) 27 = .ok (.istore_n 2, 1) := by decide +kernel
theorem d20_28 : decode (xmb 20) 28 = .ok (.iinc 3 1, 3) := by decide +kernel
theorem d20_31 : decode (xmb 20) 31 = .ok (.goto (-27), 3) := by decide +kernel
theorem d20_34 : decode (xmb 20) 34 = .ok (.iload_n 2, 1) := by decide +kernel
theorem d20_35 : decode (xmb 20) 35 = .ok (.ireturn, 1) := by decide +kernel
theorem d21_0 : decode (xmb 21) 0 = .ok (.aload_n 0, 1) := by decide +kernel
theorem d21_1 : decode (xmb 21) 1 = .ok (.getfield 27, 3) := by decide +kernel
theorem d21_4 : decode (xmb 21) 4 = .ok (.iload_n 1, 1) := by decide +kernel
theorem d21_5 : decode (xmb 21) 5 = .ok (.iaload, 1) := by decide +kernel
theorem d21_6 : decode (xmb 21) 6 = .ok (.istore_n 2, 1) := by decide +kernel
theorem d21_7 : decode (xmb 21) 7 = .ok (.iconst 0, 1) := by decide +kernel
theorem d21_8 : decode (xmb 21) 8 = .ok (.istore_n 3, 1) := by decide +kernel
theorem d21_9 : decode (xmb 21) 9 = .ok (.iload_n 3, 1) := by decide +kernel
theorem d21_10 : decode (xmb 21) 10 = .ok (.aload_n 0, 1) := by decide +kernel
theorem d21_11 : decode (xmb 21) 11 = .ok (.getfield 43, 3) := by decide +kernel
theorem d21_14 : decode (xmb 21) 14 = .ok (.if_icmp .ge 46, 3) := by decide +kernel
theorem d21_17 : decode (xmb 21) 17 = .ok (.iconst 0, 1) := by decide +kernel
theorem d21_18 : decode (xmb 21) 18 = .ok (.istore 4, 2) := by decide +kernel
theorem d21_20 : decode (xmb 21) 20 = .ok (.iload 4, 2) := by decide +kernel
theorem d21_22 : decode (xmb 21) 22 = .ok (.aload_n 0, 1) := by decide +kernel
theorem d21_23 : decode (xmb 21) 23 = .ok (.getfield 43, 3) := by decide +kernel
theorem d21_26 : decode (xmb 21) 26 = .ok (.if_icmp .ge 28, 3) := by decide +kernel
theorem d21_29 : decode (xmb 21) 29 = .ok (.iload_n 2, 1) := by decide +kernel
theorem d21_30 : decode (xmb 21) 30 = .ok (.iload 4, 2) := by decide +kernel
theorem d21_32 : decode (xmb 21) 32 = .ok (.invokestatic 88, 3) := by decide +kernel
theorem d21_35 : decode (xmb 21) 35 = .ok (.ifCond .eq 13, 3) := by decide +kernel
theorem d21_38 : decode (xmb 21) 38 = .ok (.iload_n 2, 1) := by decide +kernel
theorem d21_39 : decode (xmb 21) 39 = .ok (.aload_n 0, 1) := by decide +kernel
theorem d21_40 : decode (xmb 21) 40 = .ok (.getfield 27, 3) := by decide +kernel
theorem d21_43 : decode (xmb 21) 43 = .ok (.iload 4, 2) := by decide +kernel
theorem d21_45 : decode (xmb 21) 45 = .ok (.iaload, 1) := by decide +kernel
theorem d21_46 : decode (xmb 21) 46 = .ok (.ior, 1) := by decide +kernel
theorem d21_47 : decode (xmb 21) 47 = .ok (.istore_n 2, 1) := by decide +kernel
theorem d21_48 : decode (xmb 21) 48 = .ok (.iinc 4 1, 3) := by decide +kernel
theorem d21_51 : decode (xmb 21) 51 = .ok (.goto (-31), 3) := by decide +kernel
theorem d21_54 : decode (xmb 21) 54 = .ok (.iinc 3 1, 3) := by decide +kernel
theorem d21_57 : decode (xmb 21) 57 = .ok (.goto (-48), 3) := by decide +kernel
theorem d21_60 : decode (xmb 21) 60 = .ok (.iload_n 2, 1) := by decide +kernel
theorem d21_61 : decode (xmb 21) 61 = .ok (.ireturn, 1) := by decide +kernel
theorem d23_0 : decode (xmb 23) 0 = .ok (.aload_n 0, 1) := by decide +kernel
theorem d23_1 : decode (xmb 23) 1 = .ok (.getfield 15, 3) := by decide +kernel
theorem d23_4 : decode (xmb 23) 4 = .ok (.bipush 120, 2) := by decide +kernel
theorem d23_6 : decode (xmb 23) 6 = .ok (.if_icmp .ge 23, 3) := by decide +kernel
theorem d23_9 : decode (xmb 23) 9 = .ok (.aload_n 0, 1) := by decide +kernel
theorem d23_10 : decode (xmb 23) 10 = .ok (.getfield 9, 3) := by decide +kernel
theorem d23_13 : decode (xmb 23) 13 = .ok (.aload_n 0, 1) := by decide +kernel
theorem d23_14 : decode (xmb 23) 14 = .ok (.getfield 15, 3) := by decide +kernel
theorem d23_17 : decode (xmb 23) 17 = .ok (.iload_n 1, 1) := by decide +kernel
theorem d23_18 : decode (xmb 23) 18 = .ok (.castore, 1) := by decide +kernel
theorem d23_19 : decode (xmb 23) 19 = .ok (.aload_n 0, 1) := by decide +kernel
theorem d23_20 : decode (xmb 23) 20 = .ok (.dup, 1) := by decide +kernel
theorem d23_21 : decode (xmb 23) 21 = .ok (.getfield 15, 3) := by decide +kernel
theorem d23_24 : decode (xmb 23) 24 = .ok (.iconst 1, 1) := by decide +kernel
theorem d23_25 : decode (xmb 23) 25 = .ok (.iadd, 1) := by decide +kernel
theorem d23_26 : decode (xmb 23) 26 = .ok (.putfield 15, 3) := by decide +kernel
theorem d23_29 : decode (xmb 23) 29 = .ok (.aload_n 0, 1) := by decide +kernel
theorem d23_30 : decode (xmb 23) 30 = .ok (.getfield 15, 3) := by decide +kernel
theorem d23_33 : decode (xmb 23) 33 = .ok (.ireturn, 1) := by decide +kernel
theorem d24_0 : decode (xmb 24) 0 = .ok (.aload_n 1, 1) := by decide +kernel
theorem d24_1 : decode (xmb 24) 1 = .ok (.invokevirtual 19, 3) := by decide +kernel
theorem d24_4 : decode (xmb 24) 4 = .ok (.aload_n 0, 1) := by decide +kernel
theorem d24_5 : decode (xmb 24) 5 = .ok (.iconst 0, 1) := by decide +kernel
theorem d24_6 : decode (xmb 24) 6 = .ok (.putfield 24, 3) := by decide +kernel
theorem d24_9 : decode (xmb 24) 9 = .ok (.aload_n 0, 1) := by decide +kernel
theorem d24_10 : decode (xmb 24) 10 = .ok (.iconst 0, 1) := by decide +kernel
theorem d24_11 : decode (xmb 24) 11 = .ok (.putfield 27, 3) := by decide +kernel
theorem d24_14 : decode (xmb 24) 14 = .ok (.aload_n 0, 1) := by decide +kernel
theorem d24_15 : decode (xmb 24) 15 = .ok (.iconst 0, 1) := by decide +kernel
theorem d24_16 : decode (xmb 24) 16 = .ok (.putfield 30, 3) := by decide +kernel
theorem d24_19 : decode (xmb 24) 19 = .ok (.aload_n 0, 1) := by decide +kernel
theorem d24_20 : decode (xmb 24) 20 = .ok (.bipush 67, 2) := by decide +kernel
theorem d24_22 : decode (xmb 24) 22 = .ok (.invokevirtual 34, 3) := by decide +kernel
theorem d24_25 : decode (xmb 24) 25 = .ok (.iconst 0, 1) := by decide +kernel
theorem d24_26 : decode (xmb 24) 26 = .ok (.istore_n 2, 1) := by decide +kernel
theorem d24_27 : decode (xmb 24) 27 = .ok (.iload_n 2, 1) := by decide +kernel
theorem d24_28 : decode (xmb 24) 28 = .ok (.bipush 120, 2) := by decide +kernel
theorem d24_30 : decode (xmb 24) 30 = .ok (.if_icmp .ge 72, 3) := by decide +kernel
theorem d24_33 : decode (xmb 24) 33 = .ok (.aload_n 0, 1) := by decide +kernel
theorem d24_34 : decode (xmb 24) 34 = .ok (.getfield 30, 3) := by decide +kernel
theorem d24_37 : decode (xmb 24) 37 = .ok (.ifCond .ne 65, 3) := by decide +kernel
theorem d24_40 : decode (xmb 24) 40 = .ok (.aload_n 0, 1) := by decide +kernel
theorem d24_41 : decode (xmb 24) 41 = .ok (.getfield 27, 3) := by decide +kernel
theorem d24_44 : decode (xmb 24) 44 = .ok (.aload_n 0, 1) := by decide +kernel
theorem d24_45 : decode (xmb 24) 45 = .ok (.getfield 15, 3) := by decide +kernel
theorem d24_48 : decode (xmb 24) 48 = .ok (.if_icmp .ge 54, 3) := by decide +kernel
theorem d24_51 : decode (xmb 24) 51 = .ok (.aload_n 0, 1) := by decide +kernel
theorem d24_52 : decode (xmb 24) 52 = .ok (.aload_n 1, 1) := by decide +kernel
theorem d24_53 : decode (xmb 24) 53 = .ok (.invokevirtual 38, 3) := by decide +kernel
theorem d24_56 : decode (xmb 24) 56 = .ok (.aload_n 0, 1) := by decide +kernel
theorem d24_57 : decode (xmb 24) 57 = .ok (.getfield 30, 3) := by decide +kernel
theorem d24_60 : decode (xmb 24) 60 = .ok (.ifCond .ne 36, 3) := by decide +kernel
theorem d24_63 : decode (xmb 24) 63 = .ok (.aload_n 1, 1) := by decide +kernel
theorem d24_64 : decode (xmb 24) 64 = .ok (.aload_n 0, 1) := by decide +kernel
theorem d24_65 : decode (xmb 24) 65 = .ok (.getfield 42, 3) := by decide +kernel
theorem d24_68 : decode (xmb 24) 68 = .ok (.aload_n 0, 1) := by decide +kernel
theorem d24_69 : decode (xmb 24) 69 = .ok (.getfield 45, 3) := by decide +kernel
theorem d24_72 : decode (xmb 24) 72 = .ok (.aload_n 0, 1) := by decide +kernel
theorem d24_73 : decode (xmb 24) 73 = .ok (.getfield 48, 3) := by decide +kernel
theorem d24_76 : decode (xmb 24) 76 = .ok (.aload_n 0, 1) := by decide +kernel
theorem d24_77 : decode (xmb 24) 77 = .ok (.getfield 51, 3) := by decide +kernel
theorem d24_80 : decode (xmb 24) 80 = .ok (.invokevirtual 54, 3) := by decide +kernel
theorem d24_83 : decode (xmb 24) 83 = .ok (.ifCond .ne 13, 3) := by decide +kernel
theorem d24_86 : decode (xmb 24) 86 = .ok (.aload_n 0, 1) := by decide +kernel
theorem d24_87 : decode (xmb 24) 87 = .ok (.dup, 1) := by decide +kernel
theorem d24_88 : decode (xmb 24) 88 = .ok (.getfield 24, 3) := by decide +kernel
theorem d24_91 : decode (xmb 24) 91 = .ok (.iconst 1, 1) := by decide +kernel
theorem d24_92 : decode (xmb 24) 92 = .ok (.iadd, 1) := by decide +kernel
theorem d24_93 : decode (xmb 24) 93 = .ok (.putfield 24, 3) := by decide +kernel
theorem d24_96 : decode (xmb 24) 96 = .ok (.iinc 2 1, 3) := by decide +kernel
theorem d24_99 : decode (xmb 24) 99 = .ok (.goto (-72), 3) := by decide +kernel
theorem d24_102 : decode (xmb 24) 102 = .ok (.aload_n 0, 1) := by decide +kernel
theorem d24_103 : decode (xmb 24) 103 = .ok (.getfield 30, 3) := by decide +kernel
theorem d24_106 : decode (xmb 24) 106 = .ok (.ifCond .eq 10, 3) := by decide +kernel
theorem d24_109 : decode (xmb 24) 109 = .ok (.aload_n 0, 1) := by decide +kernel
theorem d24_110 : decode (xmb 24) 110 = .ok (.getfield 27, 3) := by decide +kernel
theorem d24_113 : decode (xmb 24) 113 = .ok (.goto 4, 3) := by decide +kernel
theorem d24_116 : decode (xmb 24) 116 = .ok (.iconst (-1), 1) := by decide +kernel
theorem d24_117 : decode (xmb 24) 117 = .ok (.ireturn, 1) := by decide +kernel
theorem d25_0 : decode (xmb 25) 0 = .ok (.aload_n 0, 1) := by decide +kernel
theorem d25_1 : decode (xmb 25) 1 = .ok (.getstatic 58, 3) := by decide +kernel
theorem d25_4 : decode (xmb 25) 4 = .ok (.invokevirtual 61, 3) := by decide +kernel
theorem d25_7 : decode (xmb 25) 7 = .ok (.tableswitch 154 0 5 #[37, 51, 76, 96, 113, 134], 37) := by decide +kernel
theorem d25_44 : decode (xmb 25) 44 = .ok (.aload_n 0, 1) := by decide +kernel
theorem d25_45 : decode (xmb 25) 45 = .ok (.iconst 0, 1) := by decide +kernel
theorem d25_46 : decode (xmb 25) 46 = .ok (.aload_n 0, 1) := by decide +kernel
theorem d25_47 : decode (xmb 25) 47 = .ok (.invokevirtual 65, 3) := by decide +kernel
theorem d25_50 : decode (xmb 25) 50 = .ok (.iconst 0, 1) := by decide +kernel
theorem d25_51 : decode (xmb 25) 51 = .ok (.iconst 0, 1) := by decide +kernel
theorem d25_52 : decode (xmb 25) 52 = .ok (.invokevirtual 69, 3) := by decide +kernel
theorem d25_55 : decode (xmb 25) 55 = .ok (.goto 120, 3) := by decide +kernel
theorem d25_58 : decode (xmb 25) 58 = .ok (.aload_n 0, 1) := by decide +kernel
theorem d25_59 : decode (xmb 25) 59 = .ok (.iconst 1, 1) := by decide +kernel
theorem d25_60 : decode (xmb 25) 60 = .ok (.aload_n 0, 1) := by decide +kernel
theorem d25_61 : decode (xmb 25) 61 = .ok (.iconst 1, 1) := by decide +kernel
theorem d25_62 : decode (xmb 25) 62 = .ok (.bipush 90, 2) := by decide +kernel
theorem d25_64 : decode (xmb 25) 64 = .ok (.invokevirtual 73, 3) := by decide +kernel
theorem d25_67 : decode (xmb 25) 67 = .ok (.aload_n 0, 1) := by decide +kernel
theorem d25_68 : decode (xmb 25) 68 = .ok (.invokevirtual 77, 3) := by decide +kernel
theorem d25_71 : decode (xmb 25) 71 = .ok (.aload_n 0, 1) := by decide +kernel
theorem d25_72 : decode (xmb 25) 72 = .ok (.iconst 0, 1) := by decide +kernel
theorem d25_73 : decode (xmb 25) 73 = .ok (.iconst 1, 1) := by decide +kernel
theorem d25_74 : decode (xmb 25) 74 = .ok (.invokevirtual 80, 3) := by decide +kernel
theorem d25_77 : decode (xmb 25) 77 = .ok (.invokevirtual 69, 3) := by decide +kernel
theorem d25_80 : decode (xmb 25) 80 = .ok (.goto 95, 3) := by decide +kernel
theorem d25_83 : decode (xmb 25) 83 = .ok (.aload_n 0, 1) := by decide +kernel
theorem d25_84 : decode (xmb 25) 84 = .ok (.iconst 2, 1) := by decide +kernel
theorem d25_85 : decode (xmb 25) 85 = .ok (.aload_n 0, 1) := by decide +kernel
theorem d25_86 : decode (xmb 25) 86 = .ok (.invokevirtual 83, 3) := by decide +kernel
theorem d25_89 : decode (xmb 25) 89 = .ok (.aload_n 0, 1) := by decide +kernel
theorem d25_90 : decode (xmb 25) 90 = .ok (.iconst 0, 1) := by decide +kernel
theorem d25_91 : decode (xmb 25) 91 = .ok (.bipush 11, 2) := by decide +kernel
theorem d25_93 : decode (xmb 25) 93 = .ok (.invokevirtual 73, 3) := by decide +kernel
theorem d25_96 : decode (xmb 25) 96 = .ok (.iconst 1, 1) := by decide +kernel
theorem d25_97 : decode (xmb 25) 97 = .ok (.invokevirtual 69, 3) := by decide +kernel
theorem d25_100 : decode (xmb 25) 100 = .ok (.goto 75, 3) := by decide +kernel
theorem d25_103 : decode (xmb 25) 103 = .ok (.aload_n 0, 1) := by decide +kernel
theorem d25_104 : decode (xmb 25) 104 = .ok (.iconst 3, 1) := by decide +kernel
theorem d25_105 : decode (xmb 25) 105 = .ok (.aload_n 0, 1) := by decide +kernel
theorem d25_106 : decode (xmb 25) 106 = .ok (.invokevirtual 83, 3) := by decide +kernel
theorem d25_109 : decode (xmb 25) 109 = .ok (.aload_n 0, 1) := by decide +kernel
theorem d25_110 : decode (xmb 25) 110 = .ok (.invokevirtual 83, 3) := by decide +kernel
theorem d25_113 : decode (xmb 25) 113 = .ok (.iconst 1, 1) := by decide +kernel
theorem d25_114 : decode (xmb 25) 114 = .ok (.invokevirtual 69, 3) := by decide +kernel
theorem d25_117 : decode (xmb 25) 117 = .ok (.goto 58, 3) := by decide +kernel
theorem d25_120 : decode (xmb 25) 120 = .ok (.aload_n 0, 1) := by decide +kernel
theorem d25_121 : decode (xmb 25) 121 = .ok (.iconst 4, 1) := by decide +kernel
theorem d25_122 : decode (xmb 25) 122 = .ok (.aload_n 0, 1) := by decide +kernel
theorem d25_123 : decode (xmb 25) 123 = .ok (.iconst 0, 1) := by decide +kernel
theorem d25_124 : decode (xmb 25) 124 = .ok (.iconst 3, 1) := by decide +kernel
theorem d25_125 : decode (xmb 25) 125 = .ok (.invokevirtual 80, 3) := by decide +kernel
theorem d25_128 : decode (xmb 25) 128 = .ok (.aload_n 0, 1) := by decide +kernel
theorem d25_129 : decode (xmb 25) 129 = .ok (.iconst 0, 1) := by decide +kernel
theorem d25_130 : decode (xmb 25) 130 = .ok (.iconst 3, 1) := by decide +kernel
theorem d25_131 : decode (xmb 25) 131 = .ok (.invokevirtual 80, 3) := by decide +kernel
theorem d25_134 : decode (xmb 25) 134 = .ok (.iconst 0, 1) := by decide +kernel
theorem d25_135 : decode (xmb 25) 135 = .ok (.invokevirtual 69, 3) := by decide +kernel
theorem d25_138 : decode (xmb 25) 138 = .ok (.goto 37, 3) := by decide +kernel
theorem d25_141 : decode (xmb 25) 141 = .ok (.aload_n 0, 1) := by decide +kernel
theorem d25_142 : decode (xmb 25) 142 = .ok (.iconst 5, 1) := by decide +kernel
theorem d25_143 : decode (xmb 25) 143 = .ok (.aload_n 1, 1) := by decide +kernel
theorem d25_144 : decode (xmb 25) 144 = .ok (.getfield 86, 3) := by decide +kernel
theorem d25_147 : decode (xmb 25) 147 = .ok (.aload_n 0, 1) := by decide +kernel
theorem d25_148 : decode (xmb 25) 148 = .ok (.iconst 1, 1) := by decide +kernel
theorem d25_149 : decode (xmb 25) 149 = .ok (.bipush 24, 2) := by decide +kernel
theorem d25_151 : decode (xmb 25) 151 = .ok (.invokevirtual 73, 3) := by decide +kernel
theorem d25_154 : decode (xmb 25) 154 = .ok (.iconst 0, 1) := by decide +kernel
theorem d25_155 : decode (xmb 25) 155 = .ok (.invokevirtual 69, 3) := by decide +kernel
theorem d25_158 : decode (xmb 25) 158 = .ok (.goto 17, 3) := by decide +kernel
theorem d25_161 : decode (xmb 25) 161 = .ok (.aload_n 0, 1) := by decide +kernel
theorem d25_162 : decode (xmb 25) 162 = .ok (.bipush 6, 2) := by decide +kernel
theorem d25_164 : decode (xmb 25) 164 = .ok (.iconst 4, 1) := by decide +kernel
theorem d25_165 : decode (xmb 25) 165 = .ok (.aload_n 0, 1) := by decide +kernel
theorem d25_166 : decode (xmb 25) 166 = .ok (.iconst 0, 1) := by decide +kernel
theorem d25_167 : decode (xmb 25) 167 = .ok (.iconst 3, 1) := by decide +kernel
theorem d25_168 : decode (xmb 25) 168 = .ok (.invokevirtual 80, 3) := by decide +kernel
theorem d25_171 : decode (xmb 25) 171 = .ok (.iconst 0, 1) := by decide +kernel
theorem d25_172 : decode (xmb 25) 172 = .ok (.invokevirtual 69, 3) := by decide +kernel
theorem d25_175 : decode (xmb 25) 175 = .ok (.return_, 1) := by decide +kernel
theorem d26_0 : decode (xmb 26) 0 = .ok (.aload_n 0, 1) := by decide +kernel
theorem d26_1 : decode (xmb 26) 1 = .ok (.iload_n 1, 1) := by decide +kernel
theorem d26_2 : decode (xmb 26) 2 = .ok (.putfield 42, 3) := by decide +kernel
theorem d26_5 : decode (xmb 26) 5 = .ok (.aload_n 0, 1) := by decide +kernel
theorem d26_6 : decode (xmb 26) 6 = .ok (.iload_n 2, 1) := by decide +kernel
theorem d26_7 : decode (xmb 26) 7 = .ok (.putfield 45, 3) := by decide +kernel
theorem d26_10 : decode (xmb 26) 10 = .ok (.aload_n 0, 1) := by decide +kernel
theorem d26_11 : decode (xmb 26) 11 = .ok (.iload_n 3, 1) := by decide +kernel
theorem d26_12 : decode (xmb 26) 12 = .ok (.putfield 48, 3) := by decide +kernel
theorem d26_15 : decode (xmb 26) 15 = .ok (.aload_n 0, 1) := by decide +kernel
theorem d26_16 : decode (xmb 26) 16 = .ok (.iload 4, 2) := by decide +kernel
theorem d26_18 : decode (xmb 26) 18 = .ok (.putfield 51, 3) := by decide +kernel
theorem d26_21 : decode (xmb 26) 21 = .ok (.return_, 1) := by decide +kernel
theorem d27_0 : decode (xmb 27) 0 = .ok (.aload_n 0, 1) := by decide +kernel
theorem d27_1 : decode (xmb 27) 1 = .ok (.iconst 0, 1) := by decide +kernel
theorem d27_2 : decode (xmb 27) 2 = .ok (.bipush 13, 2) := by decide +kernel
theorem d27_4 : decode (xmb 27) 4 = .ok (.invokevirtual 73, 3) := by decide +kernel
theorem d27_7 : decode (xmb 27) 7 = .ok (.ireturn, 1) := by decide +kernel
theorem d28_0 : decode (xmb 28) 0 = .ok (.aload_n 0, 1) := by decide +kernel
theorem d28_1 : decode (xmb 28) 1 = .ok (.iconst 0, 1) := by decide +kernel
theorem d28_2 : decode (xmb 28) 2 = .ok (.iconst 4, 1) := by decide +kernel
theorem d28_3 : decode (xmb 28) 3 = .ok (.invokevirtual 80, 3) := by decide +kernel
theorem d28_6 : decode (xmb 28) 6 = .ok (.istore_n 1, 1) := by decide +kernel
theorem d28_7 : decode (xmb 28) 7 = .ok (.iload_n 1, 1) := by decide +kernel
theorem d28_8 : decode (xmb 28) 8 = .ok (.invokestatic 89, 3) := by decide +kernel
theorem d28_11 : decode (xmb 28) 11 = .ok (.ifCond .eq 7, 3) := by decide +kernel
theorem d28_14 : decode (xmb 28) 14 = .ok (.iload_n 1, 1) := by decide +kernel
theorem d28_15 : decode (xmb 28) 15 = .ok (.goto 4, 3) := by decide +kernel
theorem d28_18 : decode (xmb 28) 18 = .ok (.iconst (-1), 1) := by decide +kernel
theorem d28_19 : decode (xmb 28) 19 = .ok (.ireturn, 1) := by decide +kernel
theorem d29_0 : decode (xmb 29) 0 = .ok (.aload_n 0, 1) := by decide +kernel
theorem d29_1 : decode (xmb 29) 1 = .ok (.iconst 0, 1) := by decide +kernel
theorem d29_2 : decode (xmb 29) 2 = .ok (.bipush 99, 2) := by decide +kernel
theorem d29_4 : decode (xmb 29) 4 = .ok (.invokevirtual 73, 3) := by decide +kernel
theorem d29_7 : decode (xmb 29) 7 = .ok (.istore_n 1, 1) := by decide +kernel
theorem d29_8 : decode (xmb 29) 8 = .ok (.iconst 0, 1) := by decide +kernel
theorem d29_9 : decode (xmb 29) 9 = .ok (.istore_n 2, 1) := by decide +kernel
theorem d29_10 : decode (xmb 29) 10 = .ok (.iconst 1, 1) := by decide +kernel
theorem d29_11 : decode (xmb 29) 11 = .ok (.istore_n 3, 1) := by decide +kernel
theorem d29_12 : decode (xmb 29) 12 = .ok (.aload_n 0, 1) := by decide +kernel
theorem d29_13 : decode (xmb 29) 13 = .ok (.bipush 43, 2) := by decide +kernel
theorem d29_15 : decode (xmb 29) 15 = .ok (.invokevirtual 93, 3) := by decide +kernel
theorem d29_18 : decode (xmb 29) 18 = .ok (.ifCond .eq 37, 3) := by decide +kernel
theorem d29_21 : decode (xmb 29) 21 = .ok (.aload_n 0, 1) := by decide +kernel
theorem d29_22 : decode (xmb 29) 22 = .ok (.dup, 1) := by decide +kernel
theorem d29_23 : decode (xmb 29) 23 = .ok (.getfield 27, 3) := by decide +kernel
theorem d29_26 : decode (xmb 29) 26 = .ok (.iconst 1, 1) := by decide +kernel
theorem d29_27 : decode (xmb 29) 27 = .ok (.iadd, 1) := by decide +kernel
theorem d29_28 : decode (xmb 29) 28 = .ok (.putfield 27, 3) := by decide +kernel
theorem d29_31 : decode (xmb 29) 31 = .ok (.aload_n 0, 1) := by decide +kernel
theorem d29_32 : decode (xmb 29) 32 = .ok (.iconst 1, 1) := by decide +kernel
theorem d29_33 : decode (xmb 29) 33 = .ok (.bipush 7, 2) := by decide +kernel
theorem d29_35 : decode (xmb 29) 35 = .ok (.invokevirtual 80, 3) := by decide +kernel
theorem d29_38 : decode (xmb 29) 38 = .ok (.istore_n 2, 1) := by decide +kernel
theorem d29_39 : decode (xmb 29) 39 = .ok (.aload_n 0, 1) := by decide +kernel
theorem d29_40 : decode (xmb 29) 40 = .ok (.bipush 47, 2) := by decide +kernel
theorem d29_42 : decode (xmb 29) 42 = .ok (.invokevirtual 34, 3) := by decide +kernel
theorem d29_45 : decode (xmb 29) 45 = .ok (.aload_n 0, 1) := by decide +kernel
theorem d29_46 : decode (xmb 29) 46 = .ok (.iload_n 2, 1) := by decide +kernel
theorem d29_47 : decode (xmb 29) 47 = .ok (.iconst 1, 1) := by decide +kernel
theorem d29_48 : decode (xmb 29) 48 = .ok (.iadd, 1) := by decide +kernel
theorem d29_49 : decode (xmb 29) 49 = .ok (.bipush 8, 2) := by decide +kernel
theorem d29_51 : decode (xmb 29) 51 = .ok (.invokevirtual 80, 3) := by decide +kernel
theorem d29_54 : decode (xmb 29) 54 = .ok (.istore_n 3, 1) := by decide +kernel
theorem d29_55 : decode (xmb 29) 55 = .ok (.aload_n 0, 1) := by decide +kernel
theorem d29_56 : decode (xmb 29) 56 = .ok (.getstatic 97, 3) := by decide +kernel
theorem d29_59 : decode (xmb 29) 59 = .ok (.invokevirtual 61, 3) := by decide +kernel
theorem d29_62 : decode (xmb 29) 62 = .ok (.istore 4, 2) := by decide +kernel
theorem d29_64 : decode (xmb 29) 64 = .ok (.aload_n 0, 1) := by decide +kernel
theorem d29_65 : decode (xmb 29) 65 = .ok (.getfield 30, 3) := by decide +kernel
theorem d29_68 : decode (xmb 29) 68 = .ok (.ifCond .ne 13, 3) := by decide +kernel
theorem d29_71 : decode (xmb 29) 71 = .ok (.iload 4, 2) := by decide +kernel
theorem d29_73 : decode (xmb 29) 73 = .ok (.ifCond .lt 8, 3) := by decide +kernel
theorem d29_76 : decode (xmb 29) 76 = .ok (.iload_n 3, 1) := by decide +kernel
theorem d29_77 : decode (xmb 29) 77 = .ok (.iconst 1, 1) := by decide +kernel
theorem d29_78 : decode (xmb 29) 78 = .ok (.if_icmp .ge 5, 3) := by decide +kernel
theorem d29_81 : decode (xmb 29) 81 = .ok (.iconst 0, 1) := by decide +kernel
theorem d29_82 : decode (xmb 29) 82 = .ok (.ireturn, 1) := by decide +kernel
theorem d29_83 : decode (xmb 29) 83 = .ok (.getstatic 100, 3) := by decide +kernel
theorem d29_86 : decode (xmb 29) 86 = .ok (.iload 4, 2) := by decide +kernel
theorem d29_88 : decode (xmb 29) 88 = .ok (.iaload, 1) := by decide +kernel
theorem d29_89 : decode (xmb 29) 89 = .ok (.iload_n 1, 1) := by decide +kernel
theorem d29_90 : decode (xmb 29) 90 = .ok (.imul, 1) := by decide +kernel
theorem d29_91 : decode (xmb 29) 91 = .ok (.getstatic 100, 3) := by decide +kernel
theorem d29_94 : decode (xmb 29) 94 = .ok (.iload 4, 2) := by decide +kernel
theorem d29_96 : decode (xmb 29) 96 = .ok (.iaload, 1) := by decide +kernel
theorem d29_97 : decode (xmb 29) 97 = .ok (.iload_n 2, 1) := by decide +kernel
theorem d29_98 : decode (xmb 29) 98 = .ok (.imul, 1) := by decide +kernel
theorem d29_99 : decode (xmb 29) 99 = .ok (.iload_n 3, 1) := by decide +kernel
theorem d29_100 : decode (xmb 29) 100 = .ok (.idiv, 1) := by decide +kernel
theorem d29_101 : decode (xmb 29) 101 = .ok (.iadd, 1) := by decide +kernel
theorem d29_102 : decode (xmb 29) 102 = .ok (.ireturn, 1) := by decide +kernel
theorem d30_0 : decode (xmb 30) 0 = .ok (.aload_n 0, 1) := by decide +kernel
theorem d30_1 : decode (xmb 30) 1 = .ok (.iload_n 1, 1) := by decide +kernel
theorem d30_2 : decode (xmb 30) 2 = .ok (.bipush 10, 2) := by decide +kernel
theorem d30_4 : decode (xmb 30) 4 = .ok (.idiv, 1) := by decide +kernel
theorem d30_5 : decode (xmb 30) 5 = .ok (.iload_n 2, 1) := by decide +kernel
theorem d30_6 : decode (xmb 30) 6 = .ok (.bipush 10, 2) := by decide +kernel
theorem d30_8 : decode (xmb 30) 8 = .ok (.idiv, 1) := by decide +kernel
theorem d30_9 : decode (xmb 30) 9 = .ok (.invokevirtual 80, 3) := by decide +kernel
theorem d30_12 : decode (xmb 30) 12 = .ok (.istore_n 3, 1) := by decide +kernel
theorem d30_13 : decode (xmb 30) 13 = .ok (.iload_n 3, 1) := by decide +kernel
theorem d30_14 : decode (xmb 30) 14 = .ok (.iload_n 1, 1) := by decide +kernel
theorem d30_15 : decode (xmb 30) 15 = .ok (.bipush 10, 2) := by decide +kernel
theorem d30_17 : decode (xmb 30) 17 = .ok (.idiv, 1) := by decide +kernel
theorem d30_18 : decode (xmb 30) 18 = .ok (.if_icmp .ne 10, 3) := by decide +kernel
theorem d30_21 : decode (xmb 30) 21 = .ok (.iload_n 1, 1) := by decide +kernel
theorem d30_22 : decode (xmb 30) 22 = .ok (.bipush 10, 2) := by decide +kernel
theorem d30_24 : decode (xmb 30) 24 = .ok (.irem, 1) := by decide +kernel
theorem d30_25 : decode (xmb 30) 25 = .ok (.goto 4, 3) := by decide +kernel
theorem d30_28 : decode (xmb 30) 28 = .ok (.iconst 0, 1) := by decide +kernel
theorem d30_29 : decode (xmb 30) 29 = .ok (.istore 4, 2) := by decide +kernel
theorem d30_31 : decode (xmb 30) 31 = .ok (.iload_n 3, 1) := by decide +kernel
theorem d30_32 : decode (xmb 30) 32 = .ok (.iload_n 2, 1) := by decide +kernel
theorem d30_33 : decode (xmb 30) 33 = .ok (.bipush 10, 2) := by decide +kernel
theorem d30_35 : decode (xmb 30) 35 = .ok (.idiv, 1) := by decide +kernel
theorem d30_36 : decode (xmb 30) 36 = .ok (.if_icmp .ne 10, 3) := by decide +kernel
theorem d30_39 : decode (xmb 30) 39 = .ok (.iload_n 2, 1) := by decide +kernel
theorem d30_40 : decode (xmb 30) 40 = .ok (.bipush 10, 2) := by decide +kernel
theorem d30_42 : decode (xmb 30) 42 = .ok (.irem, 1) := by decide +kernel
theorem d30_43 : decode (xmb 30) 43 = .ok (.goto 5, 3) := by decide +kernel
theorem d30_46 : decode (xmb 30) 46 = .ok (.bipush 9, 2) := by decide +kernel
theorem d30_48 : decode (xmb 30) 48 = .ok (.istore 5, 2) := by decide +kernel
theorem d30_50 : decode (xmb 30) 50 = .ok (.bipush 10, 2) := by decide +kernel
theorem d30_52 : decode (xmb 30) 52 = .ok (.iload_n 3, 1) := by decide +kernel
theorem d30_53 : decode (xmb 30) 53 = .ok (.imul, 1) := by decide +kernel
theorem d30_54 : decode (xmb 30) 54 = .ok (.aload_n 0, 1) := by decide +kernel
theorem d30_55 : decode (xmb 30) 55 = .ok (.iload 4, 2) := by decide +kernel
theorem d30_57 : decode (xmb 30) 57 = .ok (.iload 5, 2) := by decide +kernel
theorem d30_59 : decode (xmb 30) 59 = .ok (.invokevirtual 80, 3) := by decide +kernel
theorem d30_62 : decode (xmb 30) 62 = .ok (.iadd, 1) := by decide +kernel
theorem d30_63 : decode (xmb 30) 63 = .ok (.ireturn, 1) := by decide +kernel
theorem d31_0 : decode (xmb 31) 0 = .ok (.iload_n 1, 1) := by decide +kernel
theorem d31_1 : decode (xmb 31) 1 = .ok (.istore_n 3, 1) := by decide +kernel
theorem d31_2 : decode (xmb 31) 2 = .ok (.iload_n 3, 1) := by decide +kernel
theorem d31_3 : decode (xmb 31) 3 = .ok (.iload_n 2, 1) := by decide +kernel
theorem d31_4 : decode (xmb 31) 4 = .ok (.if_icmp .gt 33, 3) := by decide +kernel
theorem d31_7 : decode (xmb 31) 7 = .ok (.aload_n 0, 1) := by decide +kernel
theorem d31_8 : decode (xmb 31) 8 = .ok (.bipush 48, 2) := by decide +kernel
theorem d31_10 : decode (xmb 31) 10 = .ok (.iload_n 3, 1) := by decide +kernel
theorem d31_11 : decode (xmb 31) 11 = .ok (.iadd, 1) := by decide +kernel
theorem d31_12 : decode (xmb 31) 12 = .ok (.i2c, 1) := by decide +kernel
theorem d31_13 : decode (xmb 31) 13 = .ok (.invokevirtual 93, 3) := by decide +kernel
theorem d31_16 : decode (xmb 31) 16 = .ok (.ifCond .eq 15, 3) := by decide +kernel
theorem d31_19 : decode (xmb 31) 19 = .ok (.aload_n 0, 1) := by decide +kernel
theorem d31_20 : decode (xmb 31) 20 = .ok (.dup, 1) := by decide +kernel
theorem d31_21 : decode (xmb 31) 21 = .ok (.getfield 27, 3) := by decide +kernel
theorem d31_24 : decode (xmb 31) 24 = .ok (.iconst 1, 1) := by decide +kernel
theorem d31_25 : decode (xmb 31) 25 = .ok (.iadd, 1) := by decide +kernel
theorem d31_26 : decode (xmb 31) 26 = .ok (.putfield 27, 3) := by decide +kernel
theorem d31_29 : decode (xmb 31) 29 = .ok (.iload_n 3, 1) := by decide +kernel
theorem d31_30 : decode (xmb 31) 30 = .ok (.ireturn, 1) := by decide +kernel
theorem d31_31 : decode (xmb 31) 31 = .ok (.iinc 3 1, 3) := by decide +kernel
theorem d31_34 : decode (xmb 31) 34 = .ok (.goto (-32), 3) := by decide +kernel
theorem d31_37 : decode (xmb 31) 37 = .ok (.aload_n 0, 1) := by decide +kernel
theorem d31_38 : decode (xmb 31) 38 = .ok (.iconst 1, 1) := by decide +kernel
theorem d31_39 : decode (xmb 31) 39 = .ok (.putfield 30, 3) := by decide +kernel
theorem d31_42 : decode (xmb 31) 42 = .ok (.iconst 0, 1) := by decide +kernel
theorem d31_43 : decode (xmb 31) 43 = .ok (.ireturn, 1) := by decide +kernel
theorem d32_0 : decode (xmb 32) 0 = .ok (.iconst 0, 1) := by decide +kernel
theorem d32_1 : decode (xmb 32) 1 = .ok (.istore_n 2, 1) := by decide +kernel
theorem d32_2 : decode (xmb 32) 2 = .ok (.iload_n 2, 1) := by decide +kernel
theorem d32_3 : decode (xmb 32) 3 = .ok (.aload_n 1, 1) := by decide +kernel
theorem d32_4 : decode (xmb 32) 4 = .ok (.arraylength, 1) := by decide +kernel
theorem d32_5 : decode (xmb 32) 5 = .ok (.if_icmp .ge 31, 3) := by decide +kernel
theorem d32_8 : decode (xmb 32) 8 = .ok (.aload_n 0, 1) := by decide +kernel
theorem d32_9 : decode (xmb 32) 9 = .ok (.aload_n 1, 1) := by decide +kernel
theorem d32_10 : decode (xmb 32) 10 = .ok (.iload_n 2, 1) := by decide +kernel
theorem d32_11 : decode (xmb 32) 11 = .ok (.caload, 1) := by decide +kernel
theorem d32_12 : decode (xmb 32) 12 = .ok (.invokevirtual 93, 3) := by decide +kernel
theorem d32_15 : decode (xmb 32) 15 = .ok (.ifCond .eq 15, 3) := by decide +kernel
theorem d32_18 : decode (xmb 32) 18 = .ok (.aload_n 0, 1) := by decide +kernel
theorem d32_19 : decode (xmb 32) 19 = .ok (.dup, 1) := by decide +kernel
theorem d32_20 : decode (xmb 32) 20 = .ok (.getfield 27, 3) := by decide +kernel
theorem d32_23 : decode (xmb 32) 23 = .ok (.iconst 1, 1) := by decide +kernel
theorem d32_24 : decode (xmb 32) 24 = .ok (.iadd, 1) := by decide +kernel
theorem d32_25 : decode (xmb 32) 25 = .ok (.putfield 27, 3) := by decide +kernel
theorem d32_28 : decode (xmb 32) 28 = .ok (.iload_n 2, 1) := by decide +kernel
theorem d32_29 : decode (xmb 32) 29 = .ok (.ireturn, 1) := by decide +kernel
theorem d32_30 : decode (xmb 32) 30 = .ok (.iinc 2 1, 3) := by decide +kernel
theorem d32_33 : decode (xmb 32) 33 = .ok (.goto (-31), 3) := by decide +kernel
theorem d32_36 : decode (xmb 32) 36 = .ok (.aload_n 0, 1) := by decide +kernel
theorem d32_37 : decode (xmb 32) 37 = .ok (.iconst 1, 1) := by decide +kernel
theorem d32_38 : decode (xmb 32) 38 = .ok (.putfield 30, 3) := by decide +kernel
theorem d32_41 : decode (xmb 32) 41 = .ok (.iconst (-1), 1) := by decide +kernel
theorem d32_42 : decode (xmb 32) 42 = .ok (.ireturn, 1) := by decide +kernel
theorem d33_0 : decode (xmb 33) 0 = .ok (.aload_n 0, 1) := by decide +kernel
theorem d33_1 : decode (xmb 33) 1 = .ok (.iload_n 1, 1) := by decide +kernel
theorem d33_2 : decode (xmb 33) 2 = .ok (.invokevirtual 93, 3) := by decide +kernel
theorem d33_5 : decode (xmb 33) 5 = .ok (.ifCond .eq 16, 3) := by decide +kernel
theorem d33_8 : decode (xmb 33) 8 = .ok (.aload_n 0, 1) := by decide +kernel
theorem d33_9 : decode (xmb 33) 9 = .ok (.dup, 1) := by decide +kernel
theorem d33_10 : decode (xmb 33) 10 = .ok (.getfield 27, 3) := by decide +kernel
theorem d33_13 : decode (xmb 33) 13 = .ok (.iconst 1, 1) := by decide +kernel
theorem d33_14 : decode (xmb 33) 14 = .ok (.iadd, 1) := by decide +kernel
theorem d33_15 : decode (xmb 33) 15 = .ok (.putfield 27, 3) := by decide +kernel
theorem d33_18 : decode (xmb 33) 18 = .ok (.goto 8, 3) := by decide +kernel
theorem d33_21 : decode (xmb 33) 21 = .ok (.aload_n 0, 1) := by decide +kernel
theorem d33_22 : decode (xmb 33) 22 = .ok (.iconst 1, 1) := by decide +kernel
theorem d33_23 : decode (xmb 33) 23 = .ok (.putfield 30, 3) := by decide +kernel
theorem d33_26 : decode (xmb 33) 26 = .ok (.return_, 1) := by decide +kernel
theorem d34_0 : decode (xmb 34) 0 = .ok (.aload_n 0, 1) := by decide +kernel
theorem d34_1 : decode (xmb 34) 1 = .ok (.getfield 30, 3) := by decide +kernel
theorem d34_4 : decode (xmb 34) 4 = .ok (.ifCond .ne 31, 3) := by decide +kernel
theorem d34_7 : decode (xmb 34) 7 = .ok (.aload_n 0, 1) := by decide +kernel
theorem d34_8 : decode (xmb 34) 8 = .ok (.getfield 27, 3) := by decide +kernel
theorem d34_11 : decode (xmb 34) 11 = .ok (.aload_n 0, 1) := by decide +kernel
theorem d34_12 : decode (xmb 34) 12 = .ok (.getfield 15, 3) := by decide +kernel
theorem d34_15 : decode (xmb 34) 15 = .ok (.if_icmp .ge 20, 3) := by decide +kernel
theorem d34_18 : decode (xmb 34) 18 = .ok (.aload_n 0, 1) := by decide +kernel
theorem d34_19 : decode (xmb 34) 19 = .ok (.getfield 9, 3) := by decide +kernel
theorem d34_22 : decode (xmb 34) 22 = .ok (.aload_n 0, 1) := by decide +kernel
theorem d34_23 : decode (xmb 34) 23 = .ok (.getfield 27, 3) := by decide +kernel
theorem d34_26 : decode (xmb 34) 26 = .ok (.caload, 1) := by decide +kernel
theorem d34_27 : decode (xmb 34) 27 = .ok (.iload_n 1, 1) := by decide +kernel
theorem d34_28 : decode (xmb 34) 28 = .ok (.if_icmp .ne 7, 3) := by decide +kernel
theorem d34_31 : decode (xmb 34) 31 = .ok (.iconst 1, 1) := by decide +kernel
theorem d34_32 : decode (xmb 34) 32 = .ok (.goto 4, 3) := by decide +kernel
theorem d34_35 : decode (xmb 34) 35 = .ok (.iconst 0, 1) := by decide +kernel
theorem d34_36 : decode (xmb 34) 36 = .ok (.ireturn, 1) := by decide +kernel
theorem d36_0 : decode (xmb 36) 0 = .ok (.aload_n 0, 1) := by decide +kernel
theorem d36_1 : decode (xmb 36) 1 = .ok (.getfield 11, 3) := by decide +kernel
theorem d36_4 : decode (xmb 36) 4 = .ok (.aload_n 0, 1) := by decide +kernel
theorem d36_5 : decode (xmb 36) 5 = .ok (.getfield 18, 3) := by decide +kernel
theorem d36_8 : decode (xmb 36) 8 = .ok (.aaload, 1) := by decide +kernel
theorem d36_9 : decode (xmb 36) 9 = .ok (.aload_n 1, 1) := by decide +kernel
theorem d36_10 : decode (xmb 36) 10 = .ok (.invokevirtual 22, 3) := by decide +kernel
theorem d36_13 : decode (xmb 36) 13 = .ok (.aload_n 0, 1) := by decide +kernel
theorem d36_14 : decode (xmb 36) 14 = .ok (.aload_n 0, 1) := by decide +kernel
theorem d36_15 : decode (xmb 36) 15 = .ok (.getfield 18, 3) := by decide +kernel
theorem d36_18 : decode (xmb 36) 18 = .ok (.iconst 1, 1) := by decide +kernel
theorem d36_19 : decode (xmb 36) 19 = .ok (.iadd, 1) := by decide +kernel
theorem d36_20 : decode (xmb 36) 20 = .ok (.bipush 14, 2) := by decide +kernel
theorem d36_22 : decode (xmb 36) 22 = .ok (.if_icmp .ge 12, 3) := by decide +kernel
theorem d36_25 : decode (xmb 36) 25 = .ok (.aload_n 0, 1) := by decide +kernel
theorem d36_26 : decode (xmb 36) 26 = .ok (.getfield 18, 3) := by decide +kernel
theorem d36_29 : decode (xmb 36) 29 = .ok (.iconst 1, 1) := by decide +kernel
theorem d36_30 : decode (xmb 36) 30 = .ok (.iadd, 1) := by decide +kernel
theorem d36_31 : decode (xmb 36) 31 = .ok (.goto 4, 3) := by decide +kernel
theorem d36_34 : decode (xmb 36) 34 = .ok (.iconst 0, 1) := by decide +kernel
theorem d36_35 : decode (xmb 36) 35 = .ok (.putfield 18, 3) := by decide +kernel
theorem d36_38 : decode (xmb 36) 38 = .ok (.aload_n 0, 1) := by decide +kernel
theorem d36_39 : decode (xmb 36) 39 = .ok (.aload_n 0, 1) := by decide +kernel
theorem d36_40 : decode (xmb 36) 40 = .ok (.getfield 26, 3) := by decide +kernel
theorem d36_43 : decode (xmb 36) 43 = .ok (.iconst 1, 1) := by decide +kernel
theorem d36_44 : decode (xmb 36) 44 = .ok (.iadd, 1) := by decide +kernel
theorem d36_45 : decode (xmb 36) 45 = .ok (.bipush 14, 2) := by decide +kernel
theorem d36_47 : decode (xmb 36) 47 = .ok (.invokestatic 29, 3) := by decide +kernel
theorem d36_50 : decode (xmb 36) 50 = .ok (.putfield 26, 3) := by decide +kernel
theorem d36_53 : decode (xmb 36) 53 = .ok (.return_, 1) := by decide +kernel
theorem d37_0 : decode (xmb 37) 0 = .ok (.aload_n 0, 1) := by decide +kernel
theorem d37_1 : decode (xmb 37) 1 = .ok (.aload_n 0, 1) := by decide +kernel
theorem d37_2 : decode (xmb 37) 2 = .ok (.getfield 18, 3) := by decide +kernel
theorem d37_5 : decode (xmb 37) 5 = .ok (.ifCond .le 12, 3) := by decide +kernel
theorem d37_8 : decode (xmb 37) 8 = .ok (.aload_n 0, 1) := by decide +kernel
theorem d37_9 : decode (xmb 37) 9 = .ok (.getfield 18, 3) := by decide +kernel
theorem d37_12 : decode (xmb 37) 12 = .ok (.iconst 1, 1) := by decide +kernel
theorem d37_13 : decode (xmb 37) 13 = .ok (.isub, 1) := by decide +kernel
theorem d37_14 : decode (xmb 37) 14 = .ok (.goto 5, 3) := by decide +kernel
theorem d37_17 : decode (xmb 37) 17 = .ok (.bipush 13, 2) := by decide +kernel
theorem d37_19 : decode (xmb 37) 19 = .ok (.putfield 18, 3) := by decide +kernel
theorem d37_22 : decode (xmb 37) 22 = .ok (.aload_n 1, 1) := by decide +kernel
theorem d37_23 : decode (xmb 37) 23 = .ok (.aload_n 0, 1) := by decide +kernel
theorem d37_24 : decode (xmb 37) 24 = .ok (.getfield 11, 3) := by decide +kernel
theorem d37_27 : decode (xmb 37) 27 = .ok (.aload_n 0, 1) := by decide +kernel
theorem d37_28 : decode (xmb 37) 28 = .ok (.getfield 18, 3) := by decide +kernel
theorem d37_31 : decode (xmb 37) 31 = .ok (.aaload, 1) := by decide +kernel
theorem d37_32 : decode (xmb 37) 32 = .ok (.invokevirtual 22, 3) := by decide +kernel
theorem d37_35 : decode (xmb 37) 35 = .ok (.aload_n 0, 1) := by decide +kernel
theorem d37_36 : decode (xmb 37) 36 = .ok (.dup, 1) := by decide +kernel
theorem d37_37 : decode (xmb 37) 37 = .ok (.getfield 26, 3) := by decide +kernel
theorem d37_40 : decode (xmb 37) 40 = .ok (.iconst 1, 1) := by decide +kernel
theorem d37_41 : decode (xmb 37) 41 = .ok (.isub, 1) := by decide +kernel
theorem d37_42 : decode (xmb 37) 42 = .ok (.putfield 26, 3) := by decide +kernel
theorem d37_45 : decode (xmb 37) 45 = .ok (.aload_n 0, 1) := by decide +kernel
theorem d37_46 : decode (xmb 37) 46 = .ok (.getfield 26, 3) := by decide +kernel
theorem d37_49 : decode (xmb 37) 49 = .ok (.ireturn, 1) := by decide +kernel
theorem d38_0 : decode (xmb 38) 0 = .ok (.aload_n 0, 1) := by decide +kernel
theorem d38_1 : decode (xmb 38) 1 = .ok (.iconst 0, 1) := by decide +kernel
theorem d38_2 : decode (xmb 38) 2 = .ok (.putfield 26, 3) := by decide +kernel
theorem d38_5 : decode (xmb 38) 5 = .ok (.return_, 1) := by decide +kernel
theorem d40_0 : decode (xmb 40) 0 = .ok (.aload_n 0, 1) := by decide +kernel
theorem d40_1 : decode (xmb 40) 1 = .ok (.invokevirtual 37, 3) := by decide +kernel
theorem d40_4 : decode (xmb 40) 4 = .ok (.iconst 0, 1) := by decide +kernel
theorem d40_5 : decode (xmb 40) 5 = .ok (.istore_n 1, 1) := by decide +kernel
theorem d40_6 : decode (xmb 40) 6 = .ok (.iconst 0, 1) := by decide +kernel
theorem d40_7 : decode (xmb 40) 7 = .ok (.istore_n 2, 1) := by decide +kernel
theorem d40_8 : decode (xmb 40) 8 = .ok (.iload_n 2, 1) := by decide +kernel
theorem d40_9 : decode (xmb 40) 9 = .ok (.aload_n 0, 1) := by decide +kernel
theorem d40_10 : decode (xmb 40) 10 = .ok (.getfield 12, 3) := by decide +kernel
theorem d40_13 : decode (xmb 40) 13 = .ok (.getfield 40, 3) := by decide +kernel
theorem d40_16 : decode (xmb 40) 16 = .ok (.if_icmp .ge 20, 3) := by decide +kernel
theorem d40_19 : decode (xmb 40) 19 = .ok (.iload_n 1, 1) := by decide +kernel
theorem d40_20 : decode (xmb 40) 20 = .ok (.aload_n 0, 1) := by decide +kernel
theorem d40_21 : decode (xmb 40) 21 = .ok (.getfield 25, 3) := by decide +kernel
theorem d40_24 : decode (xmb 40) 24 = .ok (.iload_n 2, 1) := by decide +kernel
theorem d40_25 : decode (xmb 40) 25 = .ok (.iaload, 1) := by decide +kernel
theorem d40_26 : decode (xmb 40) 26 = .ok (.invokestatic 44, 3) := by decide +kernel
theorem d40_29 : decode (xmb 40) 29 = .ok (.istore_n 1, 1) := by decide +kernel
theorem d40_30 : decode (xmb 40) 30 = .ok (.iinc 2 1, 3) := by decide +kernel
theorem d40_33 : decode (xmb 40) 33 = .ok (.goto (-25), 3) := by decide +kernel
theorem d40_36 : decode (xmb 40) 36 = .ok (.iload_n 1, 1) := by decide +kernel
theorem d40_37 : decode (xmb 40) 37 = .ok (.ireturn, 1) := by decide +kernel
theorem d41_0 : decode (xmb 41) 0 = .ok (.iconst 0, 1) := by decide +kernel
theorem d41_1 : decode (xmb 41) 1 = .ok (.istore_n 2, 1) := by decide +kernel
theorem d41_2 : decode (xmb 41) 2 = .ok (.iload_n 2, 1) := by decide +kernel
theorem d41_3 : decode (xmb 41) 3 = .ok (.aload_n 0, 1) := by decide +kernel
theorem d41_4 : decode (xmb 41) 4 = .ok (.getfield 50, 3) := by decide +kernel
theorem d41_7 : decode (xmb 41) 7 = .ok (.if_icmp .ge 42, 3) := by decide +kernel
theorem d41_10 : decode (xmb 41) 10 = .ok (.aload_n 0, 1) := by decide +kernel
theorem d41_11 : decode (xmb 41) 11 = .ok (.getfield 12, 3) := by decide +kernel
theorem d41_14 : decode (xmb 41) 14 = .ok (.getfield 53, 3) := by decide +kernel
theorem d41_17 : decode (xmb 41) 17 = .ok (.aload_n 0, 1) := by decide +kernel
theorem d41_18 : decode (xmb 41) 18 = .ok (.getfield 31, 3) := by decide +kernel
theorem d41_21 : decode (xmb 41) 21 = .ok (.iload_n 2, 1) := by decide +kernel
theorem d41_22 : decode (xmb 41) 22 = .ok (.iaload, 1) := by decide +kernel
theorem d41_23 : decode (xmb 41) 23 = .ok (.iaload, 1) := by decide +kernel
theorem d41_24 : decode (xmb 41) 24 = .ok (.iload_n 1, 1) := by decide +kernel
theorem d41_25 : decode (xmb 41) 25 = .ok (.invokestatic 56, 3) := by decide +kernel
theorem d41_28 : decode (xmb 41) 28 = .ok (.ifCond .eq 15, 3) := by decide +kernel
theorem d41_31 : decode (xmb 41) 31 = .ok (.aload_n 0, 1) := by decide +kernel
theorem d41_32 : decode (xmb 41) 32 = .ok (.getfield 18, 3) := by decide +kernel
theorem d41_35 : decode (xmb 41) 35 = .ok (.aload_n 0, 1) := by decide +kernel
theorem d41_36 : decode (xmb 41) 36 = .ok (.getfield 31, 3) := by decide +kernel
theorem d41_39 : decode (xmb 41) 39 = .ok (.iload_n 2, 1) := by decide +kernel
theorem d41_40 : decode (xmb 41) 40 = .ok (.iaload, 1) := by decide +kernel
theorem d41_41 : decode (xmb 41) 41 = .ok (.iaload, 1) := by decide +kernel
theorem d41_42 : decode (xmb 41) 42 = .ok (.ireturn, 1) := by decide +kernel
theorem d41_43 : decode (xmb 41) 43 = .ok (.iinc 2 1, 3) := by decide +kernel
theorem d41_46 : decode (xmb 41) 46 = .ok (.goto (-44), 3) := by decide +kernel
theorem d41_49 : decode (xmb 41) 49 = .ok (.iconst (-1), 1) := by decide +kernel
theorem d41_50 : decode (xmb 41) 50 = .ok (.ireturn, 1) := by decide +kernel
theorem d42_0 : decode (xmb 42) 0 = .ok (.iconst 0, 1) := by decide +kernel
theorem d42_1 : decode (xmb 42) 1 = .ok (.istore_n 3, 1) := by decide +kernel
theorem d42_2 : decode (xmb 42) 2 = .ok (.iconst 0, 1) := by decide +kernel
theorem d42_3 : decode (xmb 42) 3 = .ok (.istore 4, 2) := by decide +kernel
theorem d42_5 : decode (xmb 42) 5 = .ok (.iload 4, 2) := by decide +kernel
theorem d42_7 : decode (xmb 42) 7 = .ok (.aload_n 0, 1) := by decide +kernel
theorem d42_8 : decode (xmb 42) 8 = .ok (.getfield 50, 3) := by decide +kernel
theorem d42_11 : decode (xmb 42) 11 = .ok (.if_icmp .ge 28, 3) := by decide +kernel
theorem d42_14 : decode (xmb 42) 14 = .ok (.iload_n 3, 1) := by decide +kernel
theorem d42_15 : decode (xmb 42) 15 = .ok (.aload_n 0, 1) := by decide +kernel
theorem d42_16 : decode (xmb 42) 16 = .ok (.iload_n 1, 1) := by decide +kernel
theorem d42_17 : decode (xmb 42) 17 = .ok (.iload_n 2, 1) := by decide +kernel
theorem d42_18 : decode (xmb 42) 18 = .ok (.aload_n 0, 1) := by decide +kernel
theorem d42_19 : decode (xmb 42) 19 = .ok (.getfield 31, 3) := by decide +kernel
theorem d42_22 : decode (xmb 42) 22 = .ok (.iload 4, 2) := by decide +kernel
theorem d42_24 : decode (xmb 42) 24 = .ok (.iaload, 1) := by decide +kernel
theorem d42_25 : decode (xmb 42) 25 = .ok (.invokevirtual 60, 3) := by decide +kernel
theorem d42_28 : decode (xmb 42) 28 = .ok (.invokestatic 64, 3) := by decide +kernel
theorem d42_31 : decode (xmb 42) 31 = .ok (.iadd, 1) := by decide +kernel
theorem d42_32 : decode (xmb 42) 32 = .ok (.istore_n 3, 1) := by decide +kernel
theorem d42_33 : decode (xmb 42) 33 = .ok (.iinc 4 1, 3) := by decide +kernel
theorem d42_36 : decode (xmb 42) 36 = .ok (.goto (-31), 3) := by decide +kernel
theorem d42_39 : decode (xmb 42) 39 = .ok (.iload_n 3, 1) := by decide +kernel
theorem d42_40 : decode (xmb 42) 40 = .ok (.ireturn, 1) := by decide +kernel
theorem d43_0 : decode (xmb 43) 0 = .ok (.aload_n 0, 1) := by decide +kernel
theorem d43_1 : decode (xmb 43) 1 = .ok (.getfield 18, 3) := by decide +kernel
theorem d43_4 : decode (xmb 43) 4 = .ok (.iload_n 3, 1) := by decide +kernel
theorem d43_5 : decode (xmb 43) 5 = .ok (.iaload, 1) := by decide +kernel
theorem d43_6 : decode (xmb 43) 6 = .ok (.iload_n 1, 1) := by decide +kernel
theorem d43_7 : decode (xmb 43) 7 = .ok (.if_icmp .gt 17, 3) := by decide +kernel
theorem d43_10 : decode (xmb 43) 10 = .ok (.iload_n 1, 1) := by decide +kernel
theorem d43_11 : decode (xmb 43) 11 = .ok (.aload_n 0, 1) := by decide +kernel
theorem d43_12 : decode (xmb 43) 12 = .ok (.getfield 22, 3) := by decide +kernel
theorem d43_15 : decode (xmb 43) 15 = .ok (.iload_n 3, 1) := by decide +kernel
theorem d43_16 : decode (xmb 43) 16 = .ok (.iaload, 1) := by decide +kernel
theorem d43_17 : decode (xmb 43) 17 = .ok (.if_icmp .ge 7, 3) := by decide +kernel
theorem d43_20 : decode (xmb 43) 20 = .ok (.iconst 1, 1) := by decide +kernel
theorem d43_21 : decode (xmb 43) 21 = .ok (.goto 4, 3) := by decide +kernel
theorem d43_24 : decode (xmb 43) 24 = .ok (.iconst 0, 1) := by decide +kernel
theorem d43_25 : decode (xmb 43) 25 = .ok (.istore 4, 2) := by decide +kernel
theorem d43_27 : decode (xmb 43) 27 = .ok (.iload_n 2, 1) := by decide +kernel
theorem d43_28 : decode (xmb 43) 28 = .ok (.ifCond .ne 27, 3) := by decide +kernel
theorem d43_31 : decode (xmb 43) 31 = .ok (.iload 4, 2) := by decide +kernel
theorem d43_33 : decode (xmb 43) 33 = .ok (.ifCond .eq 20, 3) := by decide +kernel
theorem d43_36 : decode (xmb 43) 36 = .ok (.aload_n 0, 1) := by decide +kernel
theorem d43_37 : decode (xmb 43) 37 = .ok (.getfield 12, 3) := by decide +kernel
theorem d43_40 : decode (xmb 43) 40 = .ok (.getfield 68, 3) := by decide +kernel
theorem d43_43 : decode (xmb 43) 43 = .ok (.iload_n 3, 1) := by decide +kernel
theorem d43_44 : decode (xmb 43) 44 = .ok (.iaload, 1) := by decide +kernel
theorem d43_45 : decode (xmb 43) 45 = .ok (.iconst 1, 1) := by decide +kernel
theorem d43_46 : decode (xmb 43) 46 = .ok (.if_icmp .ne 7, 3) := by decide +kernel
theorem d43_49 : decode (xmb 43) 49 = .ok (.iconst 1, 1) := by decide +kernel
theorem d43_50 : decode (xmb 43) 50 = .ok (.goto 4, 3) := by decide +kernel
theorem d43_53 : decode (xmb 43) 53 = .ok (.iconst 0, 1) := by decide +kernel
theorem d43_54 : decode (xmb 43) 54 = .ok (.ireturn, 1) := by decide +kernel
theorem d43_55 : decode (xmb 43) 55 = .ok (.iload_n 2, 1) := by decide +kernel
theorem d43_56 : decode (xmb 43) 56 = .ok (.iconst 4, 1) := by decide +kernel
theorem d43_57 : decode (xmb 43) 57 = .ok (.if_icmp .gt 29, 3) := by decide +kernel
theorem d43_60 : decode (xmb 43) 60 = .ok (.iload 4, 2) := by decide +kernel
theorem d43_62 : decode (xmb 43) 62 = .ok (.ifCond .eq 22, 3) := by decide +kernel
theorem d43_65 : decode (xmb 43) 65 = .ok (.aload_n 0, 1) := by decide +kernel
theorem d43_66 : decode (xmb 43) 66 = .ok (.getfield 12, 3) := by decide +kernel
theorem d43_69 : decode (xmb 43) 69 = .ok (.getfield 71, 3) := by decide +kernel
theorem d43_72 : decode (xmb 43) 72 = .ok (.iload_n 3, 1) := by decide +kernel
theorem d43_73 : decode (xmb 43) 73 = .ok (.iaload, 1) := by decide +kernel
theorem d43_74 : decode (xmb 43) 74 = .ok (.iload_n 2, 1) := by decide +kernel
theorem d43_75 : decode (xmb 43) 75 = .ok (.iconst 1, 1) := by decide +kernel
theorem d43_76 : decode (xmb 43) 76 = .ok (.isub, 1) := by decide +kernel
theorem d43_77 : decode (xmb 43) 77 = .ok (.if_icmp .ne 7, 3) := by decide +kernel
theorem d43_80 : decode (xmb 43) 80 = .ok (.iconst 1, 1) := by decide +kernel
theorem d43_81 : decode (xmb 43) 81 = .ok (.goto 4, 3) := by decide +kernel
theorem d43_84 : decode (xmb 43) 84 = .ok (.iconst 0, 1) := by decide +kernel
theorem d43_85 : decode (xmb 43) 85 = .ok (.ireturn, 1) := by decide +kernel
theorem d43_86 : decode (xmb 43) 86 = .ok (.iload_n 2, 1) := by decide +kernel
theorem d43_87 : decode (xmb 43) 87 = .ok (.bipush 8, 2) := by decide +kernel
theorem d43_89 : decode (xmb 43) 89 = .ok (.if_icmp .gt 45, 3) := by decide +kernel
theorem d43_92 : decode (xmb 43) 92 = .ok (.aload_n 0, 1) := by decide +kernel
theorem d43_93 : decode (xmb 43) 93 = .ok (.getfield 12, 3) := by decide +kernel
theorem d43_96 : decode (xmb 43) 96 = .ok (.getfield 71, 3) := by decide +kernel
theorem d43_99 : decode (xmb 43) 99 = .ok (.iload_n 3, 1) := by decide +kernel
theorem d43_100 : decode (xmb 43) 100 = .ok (.iaload, 1) := by decide +kernel
theorem d43_101 : decode (xmb 43) 101 = .ok (.iload_n 2, 1) := by decide +kernel
theorem d43_102 : decode (xmb 43) 102 = .ok (.iconst 1, 1) := by decide +kernel
theorem d43_103 : decode (xmb 43) 103 = .ok (.isub, 1) := by decide +kernel
theorem d43_104 : decode (xmb 43) 104 = .ok (.iconst 4, 1) := by decide +kernel
theorem d43_105 : decode (xmb 43) 105 = .ok (.isub, 1) := by decide +kernel
theorem d43_106 : decode (xmb 43) 106 = .ok (.if_icmp .ne 26, 3) := by decide +kernel
theorem d43_109 : decode (xmb 43) 109 = .ok (.aload_n 0, 1) := by decide +kernel
theorem d43_110 : decode (xmb 43) 110 = .ok (.getfield 22, 3) := by decide +kernel
theorem d43_113 : decode (xmb 43) 113 = .ok (.iload_n 3, 1) := by decide +kernel
theorem d43_114 : decode (xmb 43) 114 = .ok (.iaload, 1) := by decide +kernel
theorem d43_115 : decode (xmb 43) 115 = .ok (.iload_n 1, 1) := by decide +kernel
theorem d43_116 : decode (xmb 43) 116 = .ok (.if_icmp .gt 16, 3) := by decide +kernel
theorem d43_119 : decode (xmb 43) 119 = .ok (.iload_n 1, 1) := by decide +kernel
theorem d43_120 : decode (xmb 43) 120 = .ok (.aload_n 0, 1) := by decide +kernel
theorem d43_121 : decode (xmb 43) 121 = .ok (.iload_n 3, 1) := by decide +kernel
theorem d43_122 : decode (xmb 43) 122 = .ok (.invokevirtual 74, 3) := by decide +kernel
theorem d43_125 : decode (xmb 43) 125 = .ok (.if_icmp .ge 7, 3) := by decide +kernel
theorem d43_128 : decode (xmb 43) 128 = .ok (.iconst 1, 1) := by decide +kernel
theorem d43_129 : decode (xmb 43) 129 = .ok (.goto 4, 3) := by decide +kernel
theorem d43_132 : decode (xmb 43) 132 = .ok (.iconst 0, 1) := by decide +kernel
theorem d43_133 : decode (xmb 43) 133 = .ok (.ireturn, 1) := by decide +kernel
theorem d43_134 : decode (xmb 43) 134 = .ok (.aload_n 0, 1) := by decide +kernel
theorem d43_135 : decode (xmb 43) 135 = .ok (.getfield 22, 3) := by decide +kernel
theorem d43_138 : decode (xmb 43) 138 = .ok (.iload_n 3, 1) := by decide +kernel
theorem d43_139 : decode (xmb 43) 139 = .ok (.iaload, 1) := by decide +kernel
theorem d43_140 : decode (xmb 43) 140 = .ok (.iload_n 1, 1) := by decide +kernel
theorem d43_141 : decode (xmb 43) 141 = .ok (.if_icmp .gt 7, 3) := by decide +kernel
theorem d43_144 : decode (xmb 43) 144 = .ok (.iconst 1, 1) := by decide +kernel
theorem d43_145 : decode (xmb 43) 145 = .ok (.goto 4, 3) := by decide +kernel
theorem d43_148 : decode (xmb 43) 148 = .ok (.iconst 0, 1) := by decide +kernel
theorem d43_149 : decode (xmb 43) 149 = .ok (.ireturn, 1) := by decide +kernel
theorem d44_0 : decode (xmb 44) 0 = .ok (.aload_n 0, 1) := by decide +kernel
theorem d44_1 : decode (xmb 44) 1 = .ok (.getfield 22, 3) := by decide +kernel
theorem d44_4 : decode (xmb 44) 4 = .ok (.iload_n 1, 1) := by decide +kernel
theorem d44_5 : decode (xmb 44) 5 = .ok (.iaload, 1) := by decide +kernel
theorem d44_6 : decode (xmb 44) 6 = .ok (.aload_n 0, 1) := by decide +kernel
theorem d44_7 : decode (xmb 44) 7 = .ok (.getfield 12, 3) := by decide +kernel
theorem d44_10 : decode (xmb 44) 10 = .ok (.getfield 78, 3) := by decide +kernel
theorem d44_13 : decode (xmb 44) 13 = .ok (.iconst 2, 1) := by decide +kernel
theorem d44_14 : decode (xmb 44) 14 = .ok (.iaload, 1) := by decide +kernel
theorem d44_15 : decode (xmb 44) 15 = .ok (.iadd, 1) := by decide +kernel
theorem d44_16 : decode (xmb 44) 16 = .ok (.ireturn, 1) := by decide +kernel
theorem d45_0 : decode (xmb 45) 0 = .ok (.aload_n 0, 1) := by decide +kernel
theorem d45_1 : decode (xmb 45) 1 = .ok (.invokevirtual 81, 3) := by decide +kernel
theorem d45_4 : decode (xmb 45) 4 = .ok (.aload_n 0, 1) := by decide +kernel
theorem d45_5 : decode (xmb 45) 5 = .ok (.iconst 0, 1) := by decide +kernel
theorem d45_6 : decode (xmb 45) 6 = .ok (.putfield 50, 3) := by decide +kernel
theorem d45_9 : decode (xmb 45) 9 = .ok (.aload_n 0, 1) := by decide +kernel
theorem d45_10 : decode (xmb 45) 10 = .ok (.iconst 0, 1) := by decide +kernel
theorem d45_11 : decode (xmb 45) 11 = .ok (.putfield 84, 3) := by decide +kernel
theorem d45_14 : decode (xmb 45) 14 = .ok (.iconst 0, 1) := by decide +kernel
theorem d45_15 : decode (xmb 45) 15 = .ok (.istore_n 1, 1) := by decide +kernel
theorem d45_16 : decode (xmb 45) 16 = .ok (.iload_n 1, 1) := by decide +kernel
theorem d45_17 : decode (xmb 45) 17 = .ok (.aload_n 0, 1) := by decide +kernel
theorem d45_18 : decode (xmb 45) 18 = .ok (.getfield 12, 3) := by decide +kernel
theorem d45_21 : decode (xmb 45) 21 = .ok (.getfield 40, 3) := by decide +kernel
theorem d45_24 : decode (xmb 45) 24 = .ok (.if_icmp .ge 23, 3) := by decide +kernel
theorem d45_27 : decode (xmb 45) 27 = .ok (.aload_n 0, 1) := by decide +kernel
theorem d45_28 : decode (xmb 45) 28 = .ok (.getfield 18, 3) := by decide +kernel
theorem d45_31 : decode (xmb 45) 31 = .ok (.iload_n 1, 1) := by decide +kernel
theorem d45_32 : decode (xmb 45) 32 = .ok (.iconst (-1), 1) := by decide +kernel
theorem d45_33 : decode (xmb 45) 33 = .ok (.iastore, 1) := by decide +kernel
theorem d45_34 : decode (xmb 45) 34 = .ok (.aload_n 0, 1) := by decide +kernel
theorem d45_35 : decode (xmb 45) 35 = .ok (.getfield 22, 3) := by decide +kernel
theorem d45_38 : decode (xmb 45) 38 = .ok (.iload_n 1, 1) := by decide +kernel
theorem d45_39 : decode (xmb 45) 39 = .ok (.iconst (-1), 1) := by decide +kernel
theorem d45_40 : decode (xmb 45) 40 = .ok (.iastore, 1) := by decide +kernel
theorem d45_41 : decode (xmb 45) 41 = .ok (.iinc 1 1, 3) := by decide +kernel
theorem d45_44 : decode (xmb 45) 44 = .ok (.goto (-28), 3) := by decide +kernel
theorem d45_47 : decode (xmb 45) 47 = .ok (.iconst 0, 1) := by decide +kernel
theorem d45_48 : decode (xmb 45) 48 = .ok (.istore_n 1, 1) := by decide +kernel
theorem d45_49 : decode (xmb 45) 49 = .ok (.iconst 0, 1) := by decide +kernel
theorem d45_50 : decode (xmb 45) 50 = .ok (.istore_n 2, 1) := by decide +kernel
theorem d45_51 : decode (xmb 45) 51 = .ok (.iload_n 2, 1) := by decide +kernel
theorem d45_52 : decode (xmb 45) 52 = .ok (.bipush 28, 2) := by decide +kernel
theorem d45_54 : decode (xmb 45) 54 = .ok (.if_icmp .gt 30, 3) := by decide +kernel
theorem d45_57 : decode (xmb 45) 57 = .ok (.iload_n 1, 1) := by decide +kernel
theorem d45_58 : decode (xmb 45) 58 = .ok (.iconst (-1), 1) := by decide +kernel
theorem d45_59 : decode (xmb 45) 59 = .ok (.if_icmp .eq 25, 3) := by decide +kernel
theorem d45_62 : decode (xmb 45) 62 = .ok (.aload_n 0, 1) := by decide +kernel
theorem d45_63 : decode (xmb 45) 63 = .ok (.iload_n 1, 1) := by decide +kernel
theorem d45_64 : decode (xmb 45) 64 = .ok (.invokevirtual 87, 3) := by decide +kernel
theorem d45_67 : decode (xmb 45) 67 = .ok (.aload_n 0, 1) := by decide +kernel
theorem d45_68 : decode (xmb 45) 68 = .ok (.iload_n 1, 1) := by decide +kernel
theorem d45_69 : decode (xmb 45) 69 = .ok (.invokevirtual 91, 3) := by decide +kernel
theorem d45_72 : decode (xmb 45) 72 = .ok (.aload_n 0, 1) := by decide +kernel
theorem d45_73 : decode (xmb 45) 73 = .ok (.iload_n 1, 1) := by decide +kernel
theorem d45_74 : decode (xmb 45) 74 = .ok (.invokevirtual 94, 3) := by decide +kernel
theorem d45_77 : decode (xmb 45) 77 = .ok (.istore_n 1, 1) := by decide +kernel
theorem d45_78 : decode (xmb 45) 78 = .ok (.iinc 2 1, 3) := by decide +kernel
theorem d45_81 : decode (xmb 45) 81 = .ok (.goto (-30), 3) := by decide +kernel
theorem d45_84 : decode (xmb 45) 84 = .ok (.aload_n 0, 1) := by decide +kernel
theorem d45_85 : decode (xmb 45) 85 = .ok (.aload_n 0, 1) := by decide +kernel
theorem d45_86 : decode (xmb 45) 86 = .ok (.getfield 12, 3) := by decide +kernel
theorem d45_89 : decode (xmb 45) 89 = .ok (.getfield 40, 3) := by decide +kernel
theorem d45_92 : decode (xmb 45) 92 = .ok (.aload_n 0, 1) := by decide +kernel
theorem d45_93 : decode (xmb 45) 93 = .ok (.getfield 50, 3) := by decide +kernel
theorem d45_96 : decode (xmb 45) 96 = .ok (.isub, 1) := by decide +kernel
theorem d45_97 : decode (xmb 45) 97 = .ok (.putfield 97, 3) := by decide +kernel
theorem d45_100 : decode (xmb 45) 100 = .ok (.return_, 1) := by decide +kernel
theorem d46_0 : decode (xmb 46) 0 = .ok (.aload_n 0, 1) := by decide +kernel
theorem d46_1 : decode (xmb 46) 1 = .ok (.getfield 12, 3) := by decide +kernel
theorem d46_4 : decode (xmb 46) 4 = .ok (.getfield 78, 3) := by decide +kernel
theorem d46_7 : decode (xmb 46) 7 = .ok (.iconst 4, 1) := by decide +kernel
theorem d46_8 : decode (xmb 46) 8 = .ok (.iaload, 1) := by decide +kernel
theorem d46_9 : decode (xmb 46) 9 = .ok (.istore_n 1, 1) := by decide +kernel
theorem d46_10 : decode (xmb 46) 10 = .ok (.iload_n 1, 1) := by decide +kernel
theorem d46_11 : decode (xmb 46) 11 = .ok (.iconst 2, 1) := by decide +kernel
theorem d46_12 : decode (xmb 46) 12 = .ok (.if_icmp .ne 7, 3) := by decide +kernel
theorem d46_15 : decode (xmb 46) 15 = .ok (.aload_n 0, 1) := by decide +kernel
theorem d46_16 : decode (xmb 46) 16 = .ok (.invokevirtual 37, 3) := by decide +kernel
theorem d46_19 : decode (xmb 46) 19 = .ok (.iconst 0, 1) := by decide +kernel
theorem d46_20 : decode (xmb 46) 20 = .ok (.istore_n 2, 1) := by decide +kernel
theorem d46_21 : decode (xmb 46) 21 = .ok (.iload_n 2, 1) := by decide +kernel
theorem d46_22 : decode (xmb 46) 22 = .ok (.aload_n 0, 1) := by decide +kernel
theorem d46_23 : decode (xmb 46) 23 = .ok (.getfield 12, 3) := by decide +kernel
theorem d46_26 : decode (xmb 46) 26 = .ok (.getfield 40, 3) := by decide +kernel
theorem d46_29 : decode (xmb 46) 29 = .ok (.if_icmp .ge 21, 3) := by decide +kernel
theorem d46_32 : decode (xmb 46) 32 = .ok (.aload_n 0, 1) := by decide +kernel
theorem d46_33 : decode (xmb 46) 33 = .ok (.getfield 28, 3) := by decide +kernel
theorem d46_36 : decode (xmb 46) 36 = .ok (.iload_n 2, 1) := by decide +kernel
theorem d46_37 : decode (xmb 46) 37 = .ok (.aload_n 0, 1) := by decide +kernel
theorem d46_38 : decode (xmb 46) 38 = .ok (.iload_n 1, 1) := by decide +kernel
theorem d46_39 : decode (xmb 46) 39 = .ok (.iload_n 2, 1) := by decide +kernel
theorem d46_40 : decode (xmb 46) 40 = .ok (.invokevirtual 100, 3) := by decide +kernel
theorem d46_43 : decode (xmb 46) 43 = .ok (.iastore, 1) := by decide +kernel
theorem d46_44 : decode (xmb 46) 44 = .ok (.iinc 2 1, 3) := by decide +kernel
theorem d46_47 : decode (xmb 46) 47 = .ok (.goto (-26), 3) := by decide +kernel
theorem d46_50 : decode (xmb 46) 50 = .ok (.return_, 1) := by decide +kernel
theorem d47_0 : decode (xmb 47) 0 = .ok (.iload_n 1, 1) := by decide +kernel
theorem d47_1 : decode (xmb 47) 1 = .ok (.tableswitch 56 1 3 #[27, 37, 44], 27) := by decide +kernel
theorem d47_28 : decode (xmb 47) 28 = .ok (.aload_n 0, 1) := by decide +kernel
theorem d47_29 : decode (xmb 47) 29 = .ok (.getfield 12, 3) := by decide +kernel
theorem d47_32 : decode (xmb 47) 32 = .ok (.getfield 103, 3) := by decide +kernel
theorem d47_35 : decode (xmb 47) 35 = .ok (.iload_n 2, 1) := by decide +kernel
theorem d47_36 : decode (xmb 47) 36 = .ok (.iaload, 1) := by decide +kernel
theorem d47_37 : decode (xmb 47) 37 = .ok (.ireturn, 1) := by decide +kernel
theorem d47_38 : decode (xmb 47) 38 = .ok (.aload_n 0, 1) := by decide +kernel
theorem d47_39 : decode (xmb 47) 39 = .ok (.getfield 25, 3) := by decide +kernel
theorem d47_42 : decode (xmb 47) 42 = .ok (.iload_n 2, 1) := by decide +kernel
theorem d47_43 : decode (xmb 47) 43 = .ok (.iaload, 1) := by decide +kernel
theorem d47_44 : decode (xmb 47) 44 = .ok (.ireturn, 1) := by decide +kernel
theorem d47_45 : decode (xmb 47) 45 = .ok (.aload_n 0, 1) := by decide +kernel
theorem d47_46 : decode (xmb 47) 46 = .ok (.getfield 12, 3) := by decide +kernel
theorem d47_49 : decode (xmb 47) 49 = .ok (.iload_n 2, 1) := by decide +kernel
theorem d47_50 : decode (xmb 47) 50 = .ok (.invokevirtual 106, 3) := by decide +kernel
theorem d47_53 : decode (xmb 47) 53 = .ok (.invokestatic 109, 3) := by decide +kernel
theorem d47_56 : decode (xmb 47) 56 = .ok (.ireturn, 1) := by decide +kernel
theorem d47_57 : decode (xmb 47) 57 = .ok (.iconst 0, 1) := by decide +kernel
theorem d47_58 : decode (xmb 47) 58 = .ok (.ireturn, 1) := by decide +kernel
theorem d48_0 : decode (xmb 48) 0 = .ok (.aload_n 0, 1) := by decide +kernel
theorem d48_1 : decode (xmb 48) 1 = .ok (.getfield 12, 3) := by decide +kernel
theorem d48_4 : decode (xmb 48) 4 = .ok (.getfield 103, 3) := by decide +kernel
theorem d48_7 : decode (xmb 48) 7 = .ok (.iconst 0, 1) := by decide +kernel
theorem d48_8 : decode (xmb 48) 8 = .ok (.aload_n 0, 1) := by decide +kernel
theorem d48_9 : decode (xmb 48) 9 = .ok (.getfield 25, 3) := by decide +kernel
theorem d48_12 : decode (xmb 48) 12 = .ok (.iconst 0, 1) := by decide +kernel
theorem d48_13 : decode (xmb 48) 13 = .ok (.bipush 14, 2) := by decide +kernel
theorem d48_15 : decode (xmb 48) 15 = .ok (.invokestatic 114, 3) := by decide +kernel
theorem d48_18 : decode (xmb 48) 18 = .ok (.iconst 1, 1) := by decide +kernel
theorem d48_19 : decode (xmb 48) 19 = .ok (.istore_n 1, 1) := by decide +kernel
theorem d48_20 : decode (xmb 48) 20 = .ok (.iload_n 1, 1) := by decide +kernel
theorem d48_21 : decode (xmb 48) 21 = .ok (.aload_n 0, 1) := by decide +kernel
theorem d48_22 : decode (xmb 48) 22 = .ok (.getfield 12, 3) := by decide +kernel
theorem d48_25 : decode (xmb 48) 25 = .ok (.getfield 40, 3) := by decide +kernel
theorem d48_28 : decode (xmb 48) 28 = .ok (.if_icmp .ge 33, 3) := by decide +kernel
theorem d48_31 : decode (xmb 48) 31 = .ok (.iconst 0, 1) := by decide +kernel
theorem d48_32 : decode (xmb 48) 32 = .ok (.istore_n 2, 1) := by decide +kernel
theorem d48_33 : decode (xmb 48) 33 = .ok (.iload_n 2, 1) := by decide +kernel
theorem d48_34 : decode (xmb 48) 34 = .ok (.aload_n 0, 1) := by decide +kernel
theorem d48_35 : decode (xmb 48) 35 = .ok (.getfield 12, 3) := by decide +kernel
theorem d48_38 : decode (xmb 48) 38 = .ok (.getfield 40, 3) := by decide +kernel
theorem d48_41 : decode (xmb 48) 41 = .ok (.if_icmp .ge 14, 3) := by decide +kernel
theorem d48_44 : decode (xmb 48) 44 = .ok (.aload_n 0, 1) := by decide +kernel
theorem d48_45 : decode (xmb 48) 45 = .ok (.iload_n 2, 1) := by decide +kernel
theorem d48_46 : decode (xmb 48) 46 = .ok (.invokevirtual 120, 3) := by decide +kernel
theorem d48_49 : decode (xmb 48) 49 = .ok (.iinc 2 1, 3) := by decide +kernel
theorem d48_52 : decode (xmb 48) 52 = .ok (.goto (-19), 3) := by decide +kernel
theorem d48_55 : decode (xmb 48) 55 = .ok (.iinc 1 1, 3) := by decide +kernel
theorem d48_58 : decode (xmb 48) 58 = .ok (.goto (-38), 3) := by decide +kernel
theorem d48_61 : decode (xmb 48) 61 = .ok (.return_, 1) := by decide +kernel
theorem d49_0 : decode (xmb 49) 0 = .ok (.iconst 0, 1) := by decide +kernel
theorem d49_1 : decode (xmb 49) 1 = .ok (.istore_n 2, 1) := by decide +kernel
theorem d49_2 : decode (xmb 49) 2 = .ok (.iload_n 2, 1) := by decide +kernel
theorem d49_3 : decode (xmb 49) 3 = .ok (.aload_n 0, 1) := by decide +kernel
theorem d49_4 : decode (xmb 49) 4 = .ok (.getfield 12, 3) := by decide +kernel
theorem d49_7 : decode (xmb 49) 7 = .ok (.getfield 40, 3) := by decide +kernel
theorem d49_10 : decode (xmb 49) 10 = .ok (.if_icmp .ge 56, 3) := by decide +kernel
theorem d49_13 : decode (xmb 49) 13 = .ok (.aload_n 0, 1) := by decide +kernel
theorem d49_14 : decode (xmb 49) 14 = .ok (.getfield 12, 3) := by decide +kernel
theorem d49_17 : decode (xmb 49) 17 = .ok (.getfield 123, 3) := by decide +kernel
theorem d49_20 : decode (xmb 49) 20 = .ok (.iload_n 1, 1) := by decide +kernel
theorem d49_21 : decode (xmb 49) 21 = .ok (.iaload, 1) := by decide +kernel
theorem d49_22 : decode (xmb 49) 22 = .ok (.iload_n 2, 1) := by decide +kernel
theorem d49_23 : decode (xmb 49) 23 = .ok (.invokestatic 56, 3) := by decide +kernel
theorem d49_26 : decode (xmb 49) 26 = .ok (.ifCond .eq 34, 3) := by decide +kernel
theorem d49_29 : decode (xmb 49) 29 = .ok (.aload_n 0, 1) := by decide +kernel
theorem d49_30 : decode (xmb 49) 30 = .ok (.getfield 25, 3) := by decide +kernel
theorem d49_33 : decode (xmb 49) 33 = .ok (.iload_n 2, 1) := by decide +kernel
theorem d49_34 : decode (xmb 49) 34 = .ok (.aload_n 0, 1) := by decide +kernel
theorem d49_35 : decode (xmb 49) 35 = .ok (.getfield 25, 3) := by decide +kernel
theorem d49_38 : decode (xmb 49) 38 = .ok (.iload_n 2, 1) := by decide +kernel
theorem d49_39 : decode (xmb 49) 39 = .ok (.iaload, 1) := by decide +kernel
theorem d49_40 : decode (xmb 49) 40 = .ok (.aload_n 0, 1) := by decide +kernel
theorem d49_41 : decode (xmb 49) 41 = .ok (.getfield 12, 3) := by decide +kernel
theorem d49_44 : decode (xmb 49) 44 = .ok (.getfield 103, 3) := by decide +kernel
theorem d49_47 : decode (xmb 49) 47 = .ok (.iload_n 2, 1) := by decide +kernel
theorem d49_48 : decode (xmb 49) 48 = .ok (.iaload, 1) := by decide +kernel
theorem d49_49 : decode (xmb 49) 49 = .ok (.aload_n 0, 1) := by decide +kernel
theorem d49_50 : decode (xmb 49) 50 = .ok (.getfield 25, 3) := by decide +kernel
theorem d49_53 : decode (xmb 49) 53 = .ok (.iload_n 1, 1) := by decide +kernel
theorem d49_54 : decode (xmb 49) 54 = .ok (.iaload, 1) := by decide +kernel
theorem d49_55 : decode (xmb 49) 55 = .ok (.iadd, 1) := by decide +kernel
theorem d49_56 : decode (xmb 49) 56 = .ok (.invokestatic 44, 3) := by decide +kernel
theorem d49_59 : decode (xmb 49) 59 = .ok (.iastore, 1) := by decide +kernel
theorem d49_60 : decode (xmb 49) 60 = .ok (.iinc 2 1, 3) := by decide +kernel
theorem d49_63 : decode (xmb 49) 63 = .ok (.goto (-61), 3) := by decide +kernel
theorem d49_66 : decode (xmb 49) 66 = .ok (.return_, 1) := by decide +kernel
theorem d50_0 : decode (xmb 50) 0 = .ok (.aload_n 0, 1) := by decide +kernel
theorem d50_1 : decode (xmb 50) 1 = .ok (.iconst 0, 1) := by decide +kernel
theorem d50_2 : decode (xmb 50) 2 = .ok (.putfield 126, 3) := by decide +kernel
theorem d50_5 : decode (xmb 50) 5 = .ok (.aload_n 0, 1) := by decide +kernel
theorem d50_6 : decode (xmb 50) 6 = .ok (.aload_n 0, 1) := by decide +kernel
theorem d50_7 : decode (xmb 50) 7 = .ok (.getfield 12, 3) := by decide +kernel
theorem d50_10 : decode (xmb 50) 10 = .ok (.getfield 78, 3) := by decide +kernel
theorem d50_13 : decode (xmb 50) 13 = .ok (.iconst 3, 1) := by decide +kernel
theorem d50_14 : decode (xmb 50) 14 = .ok (.iaload, 1) := by decide +kernel
theorem d50_15 : decode (xmb 50) 15 = .ok (.putfield 129, 3) := by decide +kernel
theorem d50_18 : decode (xmb 50) 18 = .ok (.aload_n 0, 1) := by decide +kernel
theorem d50_19 : decode (xmb 50) 19 = .ok (.getfield 12, 3) := by decide +kernel
theorem d50_22 : decode (xmb 50) 22 = .ok (.getfield 132, 3) := by decide +kernel
theorem d50_25 : decode (xmb 50) 25 = .ok (.iconst 0, 1) := by decide +kernel
theorem d50_26 : decode (xmb 50) 26 = .ok (.aload_n 0, 1) := by decide +kernel
theorem d50_27 : decode (xmb 50) 27 = .ok (.getfield 34, 3) := by decide +kernel
theorem d50_30 : decode (xmb 50) 30 = .ok (.iconst 0, 1) := by decide +kernel
theorem d50_31 : decode (xmb 50) 31 = .ok (.iconst 4, 1) := by decide +kernel
theorem d50_32 : decode (xmb 50) 32 = .ok (.invokestatic 114, 3) := by decide +kernel
theorem d50_35 : decode (xmb 50) 35 = .ok (.iconst 0, 1) := by decide +kernel
theorem d50_36 : decode (xmb 50) 36 = .ok (.istore_n 2, 1) := by decide +kernel
theorem d50_37 : decode (xmb 50) 37 = .ok (.iload_n 2, 1) := by decide +kernel
theorem d50_38 : decode (xmb 50) 38 = .ok (.aload_n 0, 1) := by decide +kernel
theorem d50_39 : decode (xmb 50) 39 = .ok (.getfield 50, 3) := by decide +kernel
theorem d50_42 : decode (xmb 50) 42 = .ok (.if_icmp .ge 74, 3) := by decide +kernel
theorem d50_45 : decode (xmb 50) 45 = .ok (.aload_n 0, 1) := by decide +kernel
theorem d50_46 : decode (xmb 50) 46 = .ok (.getfield 31, 3) := by decide +kernel
theorem d50_49 : decode (xmb 50) 49 = .ok (.iload_n 2, 1) := by decide +kernel
theorem d50_50 : decode (xmb 50) 50 = .ok (.iaload, 1) := by decide +kernel
theorem d50_51 : decode (xmb 50) 51 = .ok (.istore_n 3, 1) := by decide +kernel
