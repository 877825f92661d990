theorem d1_0 : decode (xmb 1) 0 = .ok (.aload_n 0, 1) := by decide +kernel
theorem d1_1 : decode (xmb 1) 1 = .ok (.iconst 0, 1) := by decide +kernel
theorem d1_2 : decode (xmb 1) 2 = .ok (.putfield 39, 3) := by decide +kernel
theorem d1_5 : decode (xmb 1) 5 = .ok (.aload_n 0, 1) := by decide +kernel
theorem d1_6 : decode (xmb 1) 6 = .ok (.iconst 0, 1) := by decide +kernel
theorem d1_7 : decode (xmb 1) 7 = .ok (.putfield 43, 3) := by decide +kernel
theorem d1_10 : decode (xmb 1) 10 = .ok (.aload_n 0, 1) := by decide +kernel
theorem d1_11 : decode (xmb 1) 11 = .ok (.iconst 4, 1) := by decide +kernel
theorem d1_12 : decode (xmb 1) 12 = .ok (.putfield 46, 3) := by decide +kernel
theorem d1_15 : decode (xmb 1) 15 = .ok (.aload_n 0, 1) := by decide +kernel
theorem d1_16 : decode (xmb 1) 16 = .ok (.iconst 4, 1) := by decide +kernel
theorem d1_17 : decode (xmb 1) 17 = .ok (.putfield 49, 3) := by decide +kernel
theorem d1_20 : decode (xmb 1) 20 = .ok (.iconst 0, 1) := by decide +kernel
theorem d1_21 : decode (xmb 1) 21 = .ok (.istore_n 1, 1) := by decide +kernel
theorem d1_22 : decode (xmb 1) 22 = .ok (.iload_n 1, 1) := by decide +kernel
theorem d1_23 : decode (xmb 1) 23 = .ok (.iconst 4, 1) := by decide +kernel
theorem d1_24 : decode (xmb 1) 24 = .ok (.if_icmp .ge 16, 3) := by decide +kernel
theorem d1_27 : decode (xmb 1) 27 = .ok (.aload_n 0, 1) := by decide +kernel
theorem d1_28 : decode (xmb 1) 28 = .ok (.getfield 30, 3) := by decide +kernel
theorem d1_31 : decode (xmb 1) 31 = .ok (.iload_n 1, 1) := by decide +kernel
theorem d1_32 : decode (xmb 1) 32 = .ok (.iconst 1, 1) := by decide +kernel
theorem d1_33 : decode (xmb 1) 33 = .ok (.iastore, 1) := by decide +kernel
theorem d1_34 : decode (xmb 1) 34 = .ok (.iinc 1 1, 3) := by decide +kernel
theorem d1_37 : decode (xmb 1) 37 = .ok (.goto (-15), 3) := by decide +kernel
theorem d1_40 : decode (xmb 1) 40 = .ok (.getstatic 52, 3) := by decide +kernel
theorem d1_43 : decode (xmb 1) 43 = .ok (.iconst 0, 1) := by decide +kernel
theorem d1_44 : decode (xmb 1) 44 = .ok (.aload_n 0, 1) := by decide +kernel
theorem d1_45 : decode (xmb 1) 45 = .ok (.getfield 33, 3) := by decide +kernel
theorem d1_48 : decode (xmb 1) 48 = .ok (.iconst 0, 1) := by decide +kernel
theorem d1_49 : decode (xmb 1) 49 = .ok (.iconst 5, 1) := by decide +kernel
theorem d1_50 : decode (xmb 1) 50 = .ok (.invokestatic 55, 3) := by decide +kernel
theorem d1_53 : decode (xmb 1) 53 = .ok (.return_, 1) := by decide +kernel
theorem d2_0 : decode (xmb 2) 0 = .ok (.aload_n 0, 1) := by decide +kernel
theorem d2_1 : decode (xmb 2) 1 = .ok (.aload_n 1, 1) := by decide +kernel
theorem d2_2 : decode (xmb 2) 2 = .ok (.getfield 39, 3) := by decide +kernel
theorem d2_5 : decode (xmb 2) 5 = .ok (.putfield 39, 3) := by decide +kernel
theorem d2_8 : decode (xmb 2) 8 = .ok (.aload_n 0, 1) := by decide +kernel
theorem d2_9 : decode (xmb 2) 9 = .ok (.aload_n 1, 1) := by decide +kernel
theorem d2_10 : decode (xmb 2) 10 = .ok (.getfield 43, 3) := by decide +kernel
theorem d2_13 : decode (xmb 2) 13 = .ok (.putfield 43, 3) := by decide +kernel
theorem d2_16 : decode (xmb 2) 16 = .ok (.aload_n 0, 1) := by decide +kernel
theorem d2_17 : decode (xmb 2) 17 = .ok (.aload_n 1, 1) := by decide +kernel
theorem d2_18 : decode (xmb 2) 18 = .ok (.getfield 46, 3) := by decide +kernel
theorem d2_21 : decode (xmb 2) 21 = .ok (.putfield 46, 3) := by decide +kernel
theorem d2_24 : decode (xmb 2) 24 = .ok (.aload_n 0, 1) := by decide +kernel
theorem d2_25 : decode (xmb 2) 25 = .ok (.aload_n 1, 1) := by decide +kernel
theorem d2_26 : decode (xmb 2) 26 = .ok (.getfield 49, 3) := by decide +kernel
theorem d2_29 : decode (xmb 2) 29 = .ok (.putfield 49, 3) := by decide +kernel
theorem d2_32 : decode (xmb 2) 32 = .ok (.aload_n 1, 1) := by decide +kernel
theorem d2_33 : decode (xmb 2) 33 = .ok (.getfield 9, 3) := by decide +kernel
theorem d2_36 : decode (xmb 2) 36 = .ok (.iconst 0, 1) := by decide +kernel
theorem d2_37 : decode (xmb 2) 37 = .ok (.aload_n 0, 1) := by decide +kernel
theorem d2_38 : decode (xmb 2) 38 = .ok (.getfield 9, 3) := by decide +kernel
theorem d2_41 : decode (xmb 2) 41 = .ok (.iconst 0, 1) := by decide +kernel
theorem d2_42 : decode (xmb 2) 42 = .ok (.bipush 12, 2) := by decide +kernel
theorem d2_44 : decode (xmb 2) 44 = .ok (.invokestatic 55, 3) := by decide +kernel
theorem d2_47 : decode (xmb 2) 47 = .ok (.aload_n 1, 1) := by decide +kernel
theorem d2_48 : decode (xmb 2) 48 = .ok (.getfield 15, 3) := by decide +kernel
theorem d2_51 : decode (xmb 2) 51 = .ok (.iconst 0, 1) := by decide +kernel
theorem d2_52 : decode (xmb 2) 52 = .ok (.aload_n 0, 1) := by decide +kernel
theorem d2_53 : decode (xmb 2) 53 = .ok (.getfield 15, 3) := by decide +kernel
theorem d2_56 : decode (xmb 2) 56 = .ok (.iconst 0, 1) := by decide +kernel
theorem d2_57 : decode (xmb 2) 57 = .ok (.bipush 14, 2) := by decide +kernel
theorem d2_59 : decode (xmb 2) 59 = .ok (.invokestatic 55, 3) := by decide +kernel
theorem d2_62 : decode (xmb 2) 62 = .ok (.aload_n 1, 1) := by decide +kernel
theorem d2_63 : decode (xmb 2) 63 = .ok (.getfield 18, 3) := by decide +kernel
theorem d2_66 : decode (xmb 2) 66 = .ok (.iconst 0, 1) := by decide +kernel
theorem d2_67 : decode (xmb 2) 67 = .ok (.aload_n 0, 1) := by decide +kernel
theorem d2_68 : decode (xmb 2) 68 = .ok (.getfield 18, 3) := by decide +kernel
theorem d2_71 : decode (xmb 2) 71 = .ok (.iconst 0, 1) := by decide +kernel
theorem d2_72 : decode (xmb 2) 72 = .ok (.bipush 14, 2) := by decide +kernel
theorem d2_74 : decode (xmb 2) 74 = .ok (.invokestatic 55, 3) := by decide +kernel
theorem d2_77 : decode (xmb 2) 77 = .ok (.aload_n 1, 1) := by decide +kernel
theorem d2_78 : decode (xmb 2) 78 = .ok (.getfield 21, 3) := by decide +kernel
theorem d2_81 : decode (xmb 2) 81 = .ok (.iconst 0, 1) := by decide +kernel
theorem d2_82 : decode (xmb 2) 82 = .ok (.aload_n 0, 1) := by decide +kernel
theorem d2_83 : decode (xmb 2) 83 = .ok (.getfield 21, 3) := by decide +kernel
theorem d2_86 : decode (xmb 2) 86 = .ok (.iconst 0, 1) := by decide +kernel
theorem d2_87 : decode (xmb 2) 87 = .ok (.bipush 14, 2) := by decide +kernel
theorem d2_89 : decode (xmb 2) 89 = .ok (.invokestatic 55, 3) := by decide +kernel
theorem d2_92 : decode (xmb 2) 92 = .ok (.aload_n 1, 1) := by decide +kernel
theorem d2_93 : decode (xmb 2) 93 = .ok (.getfield 24, 3) := by decide +kernel
theorem d2_96 : decode (xmb 2) 96 = .ok (.iconst 0, 1) := by decide +kernel
theorem d2_97 : decode (xmb 2) 97 = .ok (.aload_n 0, 1) := by decide +kernel
theorem d2_98 : decode (xmb 2) 98 = .ok (.getfield 24, 3) := by decide +kernel
theorem d2_101 : decode (xmb 2) 101 = .ok (.iconst 0, 1) := by decide +kernel
theorem d2_102 : decode (xmb 2) 102 = .ok (.bipush 14, 2) := by decide +kernel
theorem d2_104 : decode (xmb 2) 104 = .ok (.invokestatic 55, 3) := by decide +kernel
theorem d2_107 : decode (xmb 2) 107 = .ok (.aload_n 1, 1) := by decide +kernel
theorem d2_108 : decode (xmb 2) 108 = .ok (.getfield 27, 3) := by decide +kernel
theorem d2_111 : decode (xmb 2) 111 = .ok (.iconst 0, 1) := by decide +kernel
theorem d2_112 : decode (xmb 2) 112 = .ok (.aload_n 0, 1) := by decide +kernel
theorem d2_113 : decode (xmb 2) 113 = .ok (.getfield 27, 3) := by decide +kernel
theorem d2_116 : decode (xmb 2) 116 = .ok (.iconst 0, 1) := by decide +kernel
theorem d2_117 : decode (xmb 2) 117 = .ok (.bipush 14, 2) := by decide +kernel
theorem d2_119 : decode (xmb 2) 119 = .ok (.invokestatic 55, 3) := by decide +kernel
theorem d2_122 : decode (xmb 2) 122 = .ok (.aload_n 1, 1) := by decide +kernel
theorem d2_123 : decode (xmb 2) 123 = .ok (.getfield 30, 3) := by decide +kernel
theorem d2_126 : decode (xmb 2) 126 = .ok (.iconst 0, 1) := by decide +kernel
theorem d2_127 : decode (xmb 2) 127 = .ok (.aload_n 0, 1) := by decide +kernel
theorem d2_128 : decode (xmb 2) 128 = .ok (.getfield 30, 3) := by decide +kernel
theorem d2_131 : decode (xmb 2) 131 = .ok (.iconst 0, 1) := by decide +kernel
theorem d2_132 : decode (xmb 2) 132 = .ok (.iconst 4, 1) := by decide +kernel
theorem d2_133 : decode (xmb 2) 133 = .ok (.invokestatic 55, 3) := by decide +kernel
theorem d2_136 : decode (xmb 2) 136 = .ok (.aload_n 1, 1) := by decide +kernel
theorem d2_137 : decode (xmb 2) 137 = .ok (.getfield 33, 3) := by decide +kernel
theorem d2_140 : decode (xmb 2) 140 = .ok (.iconst 0, 1) := by decide +kernel
theorem d2_141 : decode (xmb 2) 141 = .ok (.aload_n 0, 1) := by decide +kernel
theorem d2_142 : decode (xmb 2) 142 = .ok (.getfield 33, 3) := by decide +kernel
theorem d2_145 : decode (xmb 2) 145 = .ok (.iconst 0, 1) := by decide +kernel
theorem d2_146 : decode (xmb 2) 146 = .ok (.iconst 5, 1) := by decide +kernel
theorem d2_147 : decode (xmb 2) 147 = .ok (.invokestatic 55, 3) := by decide +kernel
theorem d2_150 : decode (xmb 2) 150 = .ok (.return_, 1) := by decide +kernel
theorem d3_0 : decode (xmb 3) 0 = .ok (.iload_n 1, 1) := by decide +kernel
theorem d3_1 : decode (xmb 3) 1 = .ok (.iconst 0, 1) := by decide +kernel
theorem d3_2 : decode (xmb 3) 2 = .ok (.aload_n 0, 1) := by decide +kernel
theorem d3_3 : decode (xmb 3) 3 = .ok (.getfield 39, 3) := by decide +kernel
theorem d3_6 : decode (xmb 3) 6 = .ok (.iconst 1, 1) := by decide +kernel
theorem d3_7 : decode (xmb 3) 7 = .ok (.isub, 1) := by decide +kernel
theorem d3_8 : decode (xmb 3) 8 = .ok (.invokestatic 61, 3) := by decide +kernel
theorem d3_11 : decode (xmb 3) 11 = .ok (.ireturn, 1) := by decide +kernel
theorem d4_0 : decode (xmb 4) 0 = .ok (.iload_n 1, 1) := by decide +kernel
theorem d4_1 : decode (xmb 4) 1 = .ok (.iconst 0, 1) := by decide +kernel
theorem d4_2 : decode (xmb 4) 2 = .ok (.aload_n 0, 1) := by decide +kernel
theorem d4_3 : decode (xmb 4) 3 = .ok (.getfield 43, 3) := by decide +kernel
theorem d4_6 : decode (xmb 4) 6 = .ok (.iconst 1, 1) := by decide +kernel
theorem d4_7 : decode (xmb 4) 7 = .ok (.isub, 1) := by decide +kernel
theorem d4_8 : decode (xmb 4) 8 = .ok (.invokestatic 61, 3) := by decide +kernel
theorem d4_11 : decode (xmb 4) 11 = .ok (.ireturn, 1) := by decide +kernel
theorem d5_0 : decode (xmb 5) 0 = .ok (.aload_n 0, 1) := by decide +kernel
theorem d5_1 : decode (xmb 5) 1 = .ok (.iload_n 1, 1) := by decide +kernel
theorem d5_2 : decode (xmb 5) 2 = .ok (.iload_n 2, 1) := by decide +kernel
theorem d5_3 : decode (xmb 5) 3 = .ok (.iload_n 3, 1) := by decide +kernel
theorem d5_4 : decode (xmb 5) 4 = .ok (.iload 4, 2) := by decide +kernel
theorem d5_6 : decode (xmb 5) 6 = .ok (.invokevirtual 65, 3) := by decide +kernel
theorem d5_9 : decode (xmb 5) 9 = .ok (.ifCond .eq 5, 3) := by decide +kernel
theorem d5_12 : decode (xmb 5) 12 = .ok (.iconst 0, 1) := by decide +kernel
theorem d5_13 : decode (xmb 5) 13 = .ok (.ireturn, 1) := by decide +kernel
theorem d5_14 : decode (xmb 5) 14 = .ok (.aload_n 0, 1) := by decide +kernel
theorem d5_15 : decode (xmb 5) 15 = .ok (.iload_n 1, 1) := by decide +kernel
theorem d5_16 : decode (xmb 5) 16 = .ok (.iload_n 2, 1) := by decide +kernel
theorem d5_17 : decode (xmb 5) 17 = .ok (.iload_n 3, 1) := by decide +kernel
theorem d5_18 : decode (xmb 5) 18 = .ok (.iload 4, 2) := by decide +kernel
theorem d5_20 : decode (xmb 5) 20 = .ok (.invokevirtual 69, 3) := by decide +kernel
theorem d5_23 : decode (xmb 5) 23 = .ok (.pop, 1) := by decide +kernel
theorem d5_24 : decode (xmb 5) 24 = .ok (.iconst 1, 1) := by decide +kernel
theorem d5_25 : decode (xmb 5) 25 = .ok (.ireturn, 1) := by decide +kernel
theorem d6_0 : decode (xmb 6) 0 = .ok (.iload_n 1, 1) := by decide +kernel
theorem d6_1 : decode (xmb 6) 1 = .ok (.tableswitch 288 0 7 #[47, 73, 116, 143, 190, 205, 236, 271], 47) := by decide +kernel
theorem d6_48 : decode (xmb 6) 48 = .ok (.iconst 1, 1) := by decide +kernel
theorem d6_49 : decode (xmb 6) 49 = .ok (.iload_n 2, 1) := by decide +kernel
theorem d6_50 : decode (xmb 6) 50 = .ok (.iconst 1, 1) := by decide +kernel
theorem d6_51 : decode (xmb 6) 51 = .ok (.ldc 72, 2) := by decide +kernel
theorem d6_53 : decode (xmb 6) 53 = .ok (.invokestatic 61, 3) := by decide +kernel
theorem d6_56 : decode (xmb 6) 56 = .ok (.aload_n 0, 1) := by decide +kernel
theorem d6_57 : decode (xmb 6) 57 = .ok (.getfield 39, 3) := by decide +kernel
theorem d6_60 : decode (xmb 6) 60 = .ok (.bipush 12, 2) := by decide +kernel
theorem d6_62 : decode (xmb 6) 62 = .ok (.if_icmp .ge 7, 3) := by decide +kernel
theorem d6_65 : decode (xmb 6) 65 = .ok (.iconst 1, 1) := by decide +kernel
theorem d6_66 : decode (xmb 6) 66 = .ok (.goto 4, 3) := by decide +kernel
theorem d6_69 : decode (xmb 6) 69 = .ok (.iconst 0, 1) := by decide +kernel
theorem d6_70 : decode (xmb 6) 70 = .ok (.invokestatic 73, 3) := by decide +kernel
theorem d6_73 : decode (xmb 6) 73 = .ok (.ireturn, 1) := by decide +kernel
theorem d6_74 : decode (xmb 6) 74 = .ok (.iconst 1, 1) := by decide +kernel
theorem d6_75 : decode (xmb 6) 75 = .ok (.iload_n 2, 1) := by decide +kernel
theorem d6_76 : decode (xmb 6) 76 = .ok (.iconst 1, 1) := by decide +kernel
theorem d6_77 : decode (xmb 6) 77 = .ok (.bipush 90, 2) := by decide +kernel
theorem d6_79 : decode (xmb 6) 79 = .ok (.invokestatic 61, 3) := by decide +kernel
theorem d6_82 : decode (xmb 6) 82 = .ok (.ifCond .eq 16, 3) := by decide +kernel
theorem d6_85 : decode (xmb 6) 85 = .ok (.iload_n 3, 1) := by decide +kernel
theorem d6_86 : decode (xmb 6) 86 = .ok (.iconst (-1), 1) := by decide +kernel
theorem d6_87 : decode (xmb 6) 87 = .ok (.iconst 3, 1) := by decide +kernel
theorem d6_88 : decode (xmb 6) 88 = .ok (.invokestatic 61, 3) := by decide +kernel
theorem d6_91 : decode (xmb 6) 91 = .ok (.ifCond .eq 7, 3) := by decide +kernel
theorem d6_94 : decode (xmb 6) 94 = .ok (.iconst 1, 1) := by decide +kernel
theorem d6_95 : decode (xmb 6) 95 = .ok (.goto 4, 3) := by decide +kernel
theorem d6_98 : decode (xmb 6) 98 = .ok (.iconst 0, 1) := by decide +kernel
theorem d6_99 : decode (xmb 6) 99 = .ok (.aload_n 0, 1) := by decide +kernel
theorem d6_100 : decode (xmb 6) 100 = .ok (.getfield 43, 3) := by decide +kernel
theorem d6_103 : decode (xmb 6) 103 = .ok (.bipush 14, 2) := by decide +kernel
theorem d6_105 : decode (xmb 6) 105 = .ok (.if_icmp .ge 7, 3) := by decide +kernel
theorem d6_108 : decode (xmb 6) 108 = .ok (.iconst 1, 1) := by decide +kernel
theorem d6_109 : decode (xmb 6) 109 = .ok (.goto 4, 3) := by decide +kernel
theorem d6_112 : decode (xmb 6) 112 = .ok (.iconst 0, 1) := by decide +kernel
theorem d6_113 : decode (xmb 6) 113 = .ok (.invokestatic 73, 3) := by decide +kernel
theorem d6_116 : decode (xmb 6) 116 = .ok (.ireturn, 1) := by decide +kernel
theorem d6_117 : decode (xmb 6) 117 = .ok (.aload_n 0, 1) := by decide +kernel
theorem d6_118 : decode (xmb 6) 118 = .ok (.iload_n 2, 1) := by decide +kernel
theorem d6_119 : decode (xmb 6) 119 = .ok (.invokevirtual 77, 3) := by decide +kernel
theorem d6_122 : decode (xmb 6) 122 = .ok (.ifCond .eq 15, 3) := by decide +kernel
theorem d6_125 : decode (xmb 6) 125 = .ok (.aload_n 0, 1) := by decide +kernel
theorem d6_126 : decode (xmb 6) 126 = .ok (.iload_n 3, 1) := by decide +kernel
theorem d6_127 : decode (xmb 6) 127 = .ok (.invokevirtual 81, 3) := by decide +kernel
theorem d6_130 : decode (xmb 6) 130 = .ok (.ifCond .eq 7, 3) := by decide +kernel
theorem d6_133 : decode (xmb 6) 133 = .ok (.iconst 1, 1) := by decide +kernel
theorem d6_134 : decode (xmb 6) 134 = .ok (.goto 4, 3) := by decide +kernel
theorem d6_137 : decode (xmb 6) 137 = .ok (.iconst 0, 1) := by decide +kernel
theorem d6_138 : decode (xmb 6) 138 = .ok (.iconst 1, 1) := by decide +kernel
theorem d6_139 : decode (xmb 6) 139 = .ok (.iconst 1, 1) := by decide +kernel
theorem d6_140 : decode (xmb 6) 140 = .ok (.invokestatic 73, 3) := by decide +kernel
theorem d6_143 : decode (xmb 6) 143 = .ok (.ireturn, 1) := by decide +kernel
theorem d6_144 : decode (xmb 6) 144 = .ok (.aload_n 0, 1) := by decide +kernel
theorem d6_145 : decode (xmb 6) 145 = .ok (.iload_n 2, 1) := by decide +kernel
theorem d6_146 : decode (xmb 6) 146 = .ok (.invokevirtual 77, 3) := by decide +kernel
theorem d6_149 : decode (xmb 6) 149 = .ok (.ifCond .eq 11, 3) := by decide +kernel
theorem d6_152 : decode (xmb 6) 152 = .ok (.aload_n 0, 1) := by decide +kernel
theorem d6_153 : decode (xmb 6) 153 = .ok (.iload_n 3, 1) := by decide +kernel
theorem d6_154 : decode (xmb 6) 154 = .ok (.invokevirtual 77, 3) := by decide +kernel
theorem d6_157 : decode (xmb 6) 157 = .ok (.ifCond .ne 5, 3) := by decide +kernel
theorem d6_160 : decode (xmb 6) 160 = .ok (.iconst 1, 1) := by decide +kernel
theorem d6_161 : decode (xmb 6) 161 = .ok (.ireturn, 1) := by decide +kernel
theorem d6_162 : decode (xmb 6) 162 = .ok (.iload 4, 2) := by decide +kernel
theorem d6_164 : decode (xmb 6) 164 = .ok (.iconst 1, 1) := by decide +kernel
theorem d6_165 : decode (xmb 6) 165 = .ok (.if_icmp .ne 24, 3) := by decide +kernel
theorem d6_168 : decode (xmb 6) 168 = .ok (.iload_n 2, 1) := by decide +kernel
theorem d6_169 : decode (xmb 6) 169 = .ok (.iload_n 3, 1) := by decide +kernel
theorem d6_170 : decode (xmb 6) 170 = .ok (.if_icmp .eq 15, 3) := by decide +kernel
theorem d6_173 : decode (xmb 6) 173 = .ok (.aload_n 0, 1) := by decide +kernel
theorem d6_174 : decode (xmb 6) 174 = .ok (.iload_n 3, 1) := by decide +kernel
theorem d6_175 : decode (xmb 6) 175 = .ok (.invokevirtual 84, 3) := by decide +kernel
theorem d6_178 : decode (xmb 6) 178 = .ok (.iload_n 2, 1) := by decide +kernel
theorem d6_179 : decode (xmb 6) 179 = .ok (.invokestatic 88, 3) := by decide +kernel
theorem d6_182 : decode (xmb 6) 182 = .ok (.ifCond .eq 7, 3) := by decide +kernel
theorem d6_185 : decode (xmb 6) 185 = .ok (.iconst 3, 1) := by decide +kernel
theorem d6_186 : decode (xmb 6) 186 = .ok (.goto 4, 3) := by decide +kernel
theorem d6_189 : decode (xmb 6) 189 = .ok (.iconst 0, 1) := by decide +kernel
theorem d6_190 : decode (xmb 6) 190 = .ok (.ireturn, 1) := by decide +kernel
theorem d6_191 : decode (xmb 6) 191 = .ok (.iload_n 2, 1) := by decide +kernel
theorem d6_192 : decode (xmb 6) 192 = .ok (.invokestatic 92, 3) := by decide +kernel
theorem d6_195 : decode (xmb 6) 195 = .ok (.iload_n 3, 1) := by decide +kernel
theorem d6_196 : decode (xmb 6) 196 = .ok (.iconst 0, 1) := by decide +kernel
theorem d6_197 : decode (xmb 6) 197 = .ok (.iconst 3, 1) := by decide +kernel
theorem d6_198 : decode (xmb 6) 198 = .ok (.invokestatic 61, 3) := by decide +kernel
theorem d6_201 : decode (xmb 6) 201 = .ok (.iconst 1, 1) := by decide +kernel
theorem d6_202 : decode (xmb 6) 202 = .ok (.invokestatic 73, 3) := by decide +kernel
theorem d6_205 : decode (xmb 6) 205 = .ok (.ireturn, 1) := by decide +kernel
theorem d6_206 : decode (xmb 6) 206 = .ok (.iconst 1, 1) := by decide +kernel
theorem d6_207 : decode (xmb 6) 207 = .ok (.iload_n 2, 1) := by decide +kernel
theorem d6_208 : decode (xmb 6) 208 = .ok (.iconst 1, 1) := by decide +kernel
theorem d6_209 : decode (xmb 6) 209 = .ok (.bipush 24, 2) := by decide +kernel
theorem d6_211 : decode (xmb 6) 211 = .ok (.invokestatic 61, 3) := by decide +kernel
theorem d6_214 : decode (xmb 6) 214 = .ok (.ifCond .eq 17, 3) := by decide +kernel
theorem d6_217 : decode (xmb 6) 217 = .ok (.iload_n 3, 1) := by decide +kernel
theorem d6_218 : decode (xmb 6) 218 = .ok (.iconst 1, 1) := by decide +kernel
theorem d6_219 : decode (xmb 6) 219 = .ok (.bipush 24, 2) := by decide +kernel
theorem d6_221 : decode (xmb 6) 221 = .ok (.invokestatic 61, 3) := by decide +kernel
theorem d6_224 : decode (xmb 6) 224 = .ok (.ifCond .eq 7, 3) := by decide +kernel
theorem d6_227 : decode (xmb 6) 227 = .ok (.iconst 1, 1) := by decide +kernel
theorem d6_228 : decode (xmb 6) 228 = .ok (.goto 4, 3) := by decide +kernel
theorem d6_231 : decode (xmb 6) 231 = .ok (.iconst 0, 1) := by decide +kernel
theorem d6_232 : decode (xmb 6) 232 = .ok (.iconst 1, 1) := by decide +kernel
theorem d6_233 : decode (xmb 6) 233 = .ok (.invokestatic 73, 3) := by decide +kernel
theorem d6_236 : decode (xmb 6) 236 = .ok (.ireturn, 1) := by decide +kernel
theorem d6_237 : decode (xmb 6) 237 = .ok (.iconst 1, 1) := by decide +kernel
theorem d6_238 : decode (xmb 6) 238 = .ok (.iload_n 2, 1) := by decide +kernel
theorem d6_239 : decode (xmb 6) 239 = .ok (.invokestatic 95, 3) := by decide +kernel
theorem d6_242 : decode (xmb 6) 242 = .ok (.ifCond .eq 24, 3) := by decide +kernel
theorem d6_245 : decode (xmb 6) 245 = .ok (.iload_n 3, 1) := by decide +kernel
theorem d6_246 : decode (xmb 6) 246 = .ok (.getstatic 98, 3) := by decide +kernel
theorem d6_249 : decode (xmb 6) 249 = .ok (.iload_n 2, 1) := by decide +kernel
theorem d6_250 : decode (xmb 6) 250 = .ok (.iaload, 1) := by decide +kernel
theorem d6_251 : decode (xmb 6) 251 = .ok (.getstatic 101, 3) := by decide +kernel
theorem d6_254 : decode (xmb 6) 254 = .ok (.iload_n 2, 1) := by decide +kernel
theorem d6_255 : decode (xmb 6) 255 = .ok (.iaload, 1) := by decide +kernel
theorem d6_256 : decode (xmb 6) 256 = .ok (.invokestatic 61, 3) := by decide +kernel
theorem d6_259 : decode (xmb 6) 259 = .ok (.ifCond .eq 7, 3) := by decide +kernel
theorem d6_262 : decode (xmb 6) 262 = .ok (.iconst 1, 1) := by decide +kernel
theorem d6_263 : decode (xmb 6) 263 = .ok (.goto 4, 3) := by decide +kernel
theorem d6_266 : decode (xmb 6) 266 = .ok (.iconst 0, 1) := by decide +kernel
theorem d6_267 : decode (xmb 6) 267 = .ok (.iconst 1, 1) := by decide +kernel
theorem d6_268 : decode (xmb 6) 268 = .ok (.invokestatic 73, 3) := by decide +kernel
theorem d6_271 : decode (xmb 6) 271 = .ok (.ireturn, 1) := by decide +kernel
theorem d6_272 : decode (xmb 6) 272 = .ok (.aload_n 0, 1) := by decide +kernel
theorem d6_273 : decode (xmb 6) 273 = .ok (.iload_n 2, 1) := by decide +kernel
theorem d6_274 : decode (xmb 6) 274 = .ok (.invokevirtual 81, 3) := by decide +kernel
theorem d6_277 : decode (xmb 6) 277 = .ok (.iload_n 3, 1) := by decide +kernel
theorem d6_278 : decode (xmb 6) 278 = .ok (.iconst 1, 1) := by decide +kernel
theorem d6_279 : decode (xmb 6) 279 = .ok (.ldc 72, 2) := by decide +kernel
theorem d6_281 : decode (xmb 6) 281 = .ok (.invokestatic 61, 3) := by decide +kernel
theorem d6_284 : decode (xmb 6) 284 = .ok (.iconst 1, 1) := by decide +kernel
theorem d6_285 : decode (xmb 6) 285 = .ok (.invokestatic 73, 3) := by decide +kernel
theorem d6_288 : decode (xmb 6) 288 = .ok (.ireturn, 1) := by decide +kernel
theorem d6_289 : decode (xmb 6) 289 = .ok (.aload_n 0, 1) := by decide +kernel
theorem d6_290 : decode (xmb 6) 290 = .ok (.iload_n 2, 1) := by decide +kernel
theorem d6_291 : decode (xmb 6) 291 = .ok (.invokevirtual 77, 3) := by decide +kernel
theorem d6_294 : decode (xmb 6) 294 = .ok (.iload_n 3, 1) := by decide +kernel
theorem d6_295 : decode (xmb 6) 295 = .ok (.iconst 1, 1) := by decide +kernel
theorem d6_296 : decode (xmb 6) 296 = .ok (.bipush 90, 2) := by decide +kernel
theorem d6_298 : decode (xmb 6) 298 = .ok (.invokestatic 61, 3) := by decide +kernel
theorem d6_301 : decode (xmb 6) 301 = .ok (.iconst 1, 1) := by decide +kernel
theorem d6_302 : decode (xmb 6) 302 = .ok (.invokestatic 73, 3) := by decide +kernel
theorem d6_305 : decode (xmb 6) 305 = .ok (.ireturn, 1) := by decide +kernel
theorem d7_0 : decode (xmb 7) 0 = .ok (.iload_n 0, 1) := by decide +kernel
theorem d7_1 : decode (xmb 7) 1 = .ok (.ifCond .ne 5, 3) := by decide +kernel
theorem d7_4 : decode (xmb 7) 4 = .ok (.iconst 1, 1) := by decide +kernel
theorem d7_5 : decode (xmb 7) 5 = .ok (.ireturn, 1) := by decide +kernel
theorem d7_6 : decode (xmb 7) 6 = .ok (.iload_n 1, 1) := by decide +kernel
theorem d7_7 : decode (xmb 7) 7 = .ok (.ifCond .ne 5, 3) := by decide +kernel
theorem d7_10 : decode (xmb 7) 10 = .ok (.iconst 2, 1) := by decide +kernel
theorem d7_11 : decode (xmb 7) 11 = .ok (.ireturn, 1) := by decide +kernel
theorem d7_12 : decode (xmb 7) 12 = .ok (.iload_n 2, 1) := by decide +kernel
theorem d7_13 : decode (xmb 7) 13 = .ok (.ifCond .eq 7, 3) := by decide +kernel
theorem d7_16 : decode (xmb 7) 16 = .ok (.iconst 0, 1) := by decide +kernel
theorem d7_17 : decode (xmb 7) 17 = .ok (.goto 4, 3) := by decide +kernel
theorem d7_20 : decode (xmb 7) 20 = .ok (.iconst 3, 1) := by decide +kernel
theorem d7_21 : decode (xmb 7) 21 = .ok (.ireturn, 1) := by decide +kernel
theorem d8_0 : decode (xmb 8) 0 = .ok (.iload_n 1, 1) := by decide +kernel
theorem d8_1 : decode (xmb 8) 1 = .ok (.tableswitch 197 0 7 #[47, 69, 78, 115, 152, 162, 177, 187], 47) := by decide +kernel
theorem d8_48 : decode (xmb 8) 48 = .ok (.aload_n 0, 1) := by decide +kernel
theorem d8_49 : decode (xmb 8) 49 = .ok (.getfield 9, 3) := by decide +kernel
theorem d8_52 : decode (xmb 8) 52 = .ok (.aload_n 0, 1) := by decide +kernel
theorem d8_53 : decode (xmb 8) 53 = .ok (.getfield 39, 3) := by decide +kernel
theorem d8_56 : decode (xmb 8) 56 = .ok (.iload_n 2, 1) := by decide +kernel
theorem d8_57 : decode (xmb 8) 57 = .ok (.iastore, 1) := by decide +kernel
theorem d8_58 : decode (xmb 8) 58 = .ok (.aload_n 0, 1) := by decide +kernel
theorem d8_59 : decode (xmb 8) 59 = .ok (.dup, 1) := by decide +kernel
theorem d8_60 : decode (xmb 8) 60 = .ok (.getfield 39, 3) := by decide +kernel
theorem d8_63 : decode (xmb 8) 63 = .ok (.dup_x1, 1) := by decide +kernel
theorem d8_64 : decode (xmb 8) 64 = .ok (.iconst 1, 1) := by decide +kernel
theorem d8_65 : decode (xmb 8) 65 = .ok (.iadd, 1) := by decide +kernel
theorem d8_66 : decode (xmb 8) 66 = .ok (.putfield 39, 3) := by decide +kernel
theorem d8_69 : decode (xmb 8) 69 = .ok (.ireturn, 1) := by decide +kernel
theorem d8_70 : decode (xmb 8) 70 = .ok (.aload_n 0, 1) := by decide +kernel
theorem d8_71 : decode (xmb 8) 71 = .ok (.iload_n 2, 1) := by decide +kernel
theorem d8_72 : decode (xmb 8) 72 = .ok (.iload_n 3, 1) := by decide +kernel
theorem d8_73 : decode (xmb 8) 73 = .ok (.iload 4, 2) := by decide +kernel
theorem d8_75 : decode (xmb 8) 75 = .ok (.invokevirtual 104, 3) := by decide +kernel
theorem d8_78 : decode (xmb 8) 78 = .ok (.ireturn, 1) := by decide +kernel
theorem d8_79 : decode (xmb 8) 79 = .ok (.aload_n 0, 1) := by decide +kernel
theorem d8_80 : decode (xmb 8) 80 = .ok (.getfield 24, 3) := by decide +kernel
theorem d8_83 : decode (xmb 8) 83 = .ok (.iload_n 2, 1) := by decide +kernel
theorem d8_84 : decode (xmb 8) 84 = .ok (.aload_n 0, 1) := by decide +kernel
theorem d8_85 : decode (xmb 8) 85 = .ok (.getfield 24, 3) := by decide +kernel
theorem d8_88 : decode (xmb 8) 88 = .ok (.iload_n 2, 1) := by decide +kernel
theorem d8_89 : decode (xmb 8) 89 = .ok (.iaload, 1) := by decide +kernel
theorem d8_90 : decode (xmb 8) 90 = .ok (.iload_n 3, 1) := by decide +kernel
theorem d8_91 : decode (xmb 8) 91 = .ok (.iload 4, 2) := by decide +kernel
theorem d8_93 : decode (xmb 8) 93 = .ok (.iconst 1, 1) := by decide +kernel
theorem d8_94 : decode (xmb 8) 94 = .ok (.if_icmp .ne 7, 3) := by decide +kernel
theorem d8_97 : decode (xmb 8) 97 = .ok (.iconst 1, 1) := by decide +kernel
theorem d8_98 : decode (xmb 8) 98 = .ok (.goto 4, 3) := by decide +kernel
theorem d8_101 : decode (xmb 8) 101 = .ok (.iconst 0, 1) := by decide +kernel
theorem d8_102 : decode (xmb 8) 102 = .ok (.invokestatic 108, 3) := by decide +kernel
theorem d8_105 : decode (xmb 8) 105 = .ok (.iastore, 1) := by decide +kernel
theorem d8_106 : decode (xmb 8) 106 = .ok (.aload_n 0, 1) := by decide +kernel
theorem d8_107 : decode (xmb 8) 107 = .ok (.getfield 24, 3) := by decide +kernel
theorem d8_110 : decode (xmb 8) 110 = .ok (.iload_n 2, 1) := by decide +kernel
theorem d8_111 : decode (xmb 8) 111 = .ok (.iaload, 1) := by decide +kernel
theorem d8_112 : decode (xmb 8) 112 = .ok (.invokestatic 112, 3) := by decide +kernel
theorem d8_115 : decode (xmb 8) 115 = .ok (.ireturn, 1) := by decide +kernel
theorem d8_116 : decode (xmb 8) 116 = .ok (.aload_n 0, 1) := by decide +kernel
theorem d8_117 : decode (xmb 8) 117 = .ok (.getfield 27, 3) := by decide +kernel
theorem d8_120 : decode (xmb 8) 120 = .ok (.iload_n 2, 1) := by decide +kernel
theorem d8_121 : decode (xmb 8) 121 = .ok (.aload_n 0, 1) := by decide +kernel
theorem d8_122 : decode (xmb 8) 122 = .ok (.getfield 27, 3) := by decide +kernel
theorem d8_125 : decode (xmb 8) 125 = .ok (.iload_n 2, 1) := by decide +kernel
theorem d8_126 : decode (xmb 8) 126 = .ok (.iaload, 1) := by decide +kernel
theorem d8_127 : decode (xmb 8) 127 = .ok (.iload_n 3, 1) := by decide +kernel
theorem d8_128 : decode (xmb 8) 128 = .ok (.iload 4, 2) := by decide +kernel
theorem d8_130 : decode (xmb 8) 130 = .ok (.iconst 1, 1) := by decide +kernel
theorem d8_131 : decode (xmb 8) 131 = .ok (.if_icmp .ne 7, 3) := by decide +kernel
theorem d8_134 : decode (xmb 8) 134 = .ok (.iconst 1, 1) := by decide +kernel
theorem d8_135 : decode (xmb 8) 135 = .ok (.goto 4, 3) := by decide +kernel
theorem d8_138 : decode (xmb 8) 138 = .ok (.iconst 0, 1) := by decide +kernel
theorem d8_139 : decode (xmb 8) 139 = .ok (.invokestatic 108, 3) := by decide +kernel
theorem d8_142 : decode (xmb 8) 142 = .ok (.iastore, 1) := by decide +kernel
theorem d8_143 : decode (xmb 8) 143 = .ok (.aload_n 0, 1) := by decide +kernel
theorem d8_144 : decode (xmb 8) 144 = .ok (.getfield 27, 3) := by decide +kernel
theorem d8_147 : decode (xmb 8) 147 = .ok (.iload_n 2, 1) := by decide +kernel
theorem d8_148 : decode (xmb 8) 148 = .ok (.iaload, 1) := by decide +kernel
theorem d8_149 : decode (xmb 8) 149 = .ok (.invokestatic 112, 3) := by decide +kernel
theorem d8_152 : decode (xmb 8) 152 = .ok (.ireturn, 1) := by decide +kernel
theorem d8_153 : decode (xmb 8) 153 = .ok (.aload_n 0, 1) := by decide +kernel
theorem d8_154 : decode (xmb 8) 154 = .ok (.getfield 30, 3) := by decide +kernel
theorem d8_157 : decode (xmb 8) 157 = .ok (.iload_n 2, 1) := by decide +kernel
theorem d8_158 : decode (xmb 8) 158 = .ok (.iload_n 3, 1) := by decide +kernel
theorem d8_159 : decode (xmb 8) 159 = .ok (.invokestatic 117, 3) := by decide +kernel
theorem d8_162 : decode (xmb 8) 162 = .ok (.ireturn, 1) := by decide +kernel
theorem d8_163 : decode (xmb 8) 163 = .ok (.aload_n 0, 1) := by decide +kernel
theorem d8_164 : decode (xmb 8) 164 = .ok (.iload_n 2, 1) := by decide +kernel
theorem d8_165 : decode (xmb 8) 165 = .ok (.putfield 46, 3) := by decide +kernel
theorem d8_168 : decode (xmb 8) 168 = .ok (.aload_n 0, 1) := by decide +kernel
theorem d8_169 : decode (xmb 8) 169 = .ok (.iload_n 3, 1) := by decide +kernel
theorem d8_170 : decode (xmb 8) 170 = .ok (.putfield 49, 3) := by decide +kernel
theorem d8_173 : decode (xmb 8) 173 = .ok (.aload_n 0, 1) := by decide +kernel
theorem d8_174 : decode (xmb 8) 174 = .ok (.getfield 49, 3) := by decide +kernel
theorem d8_177 : decode (xmb 8) 177 = .ok (.ireturn, 1) := by decide +kernel
theorem d8_178 : decode (xmb 8) 178 = .ok (.aload_n 0, 1) := by decide +kernel
theorem d8_179 : decode (xmb 8) 179 = .ok (.getfield 33, 3) := by decide +kernel
theorem d8_182 : decode (xmb 8) 182 = .ok (.iload_n 2, 1) := by decide +kernel
theorem d8_183 : decode (xmb 8) 183 = .ok (.iload_n 3, 1) := by decide +kernel
theorem d8_184 : decode (xmb 8) 184 = .ok (.invokestatic 117, 3) := by decide +kernel
theorem d8_187 : decode (xmb 8) 187 = .ok (.ireturn, 1) := by decide +kernel
theorem d8_188 : decode (xmb 8) 188 = .ok (.aload_n 0, 1) := by decide +kernel
theorem d8_189 : decode (xmb 8) 189 = .ok (.getfield 9, 3) := by decide +kernel
theorem d8_192 : decode (xmb 8) 192 = .ok (.iload_n 2, 1) := by decide +kernel
theorem d8_193 : decode (xmb 8) 193 = .ok (.iload_n 3, 1) := by decide +kernel
theorem d8_194 : decode (xmb 8) 194 = .ok (.invokestatic 117, 3) := by decide +kernel
theorem d8_197 : decode (xmb 8) 197 = .ok (.ireturn, 1) := by decide +kernel
theorem d8_198 : decode (xmb 8) 198 = .ok (.aload_n 0, 1) := by decide +kernel
theorem d8_199 : decode (xmb 8) 199 = .ok (.getfield 15, 3) := by decide +kernel
theorem d8_202 : decode (xmb 8) 202 = .ok (.iload_n 2, 1) := by decide +kernel
theorem d8_203 : decode (xmb 8) 203 = .ok (.iload_n 3, 1) := by decide +kernel
theorem d8_204 : decode (xmb 8) 204 = .ok (.invokestatic 117, 3) := by decide +kernel
theorem d8_207 : decode (xmb 8) 207 = .ok (.ireturn, 1) := by decide +kernel
theorem d9_0 : decode (xmb 9) 0 = .ok (.aload_n 0, 1) := by decide +kernel
theorem d9_1 : decode (xmb 9) 1 = .ok (.getfield 15, 3) := by decide +kernel
theorem d9_4 : decode (xmb 9) 4 = .ok (.aload_n 0, 1) := by decide +kernel
theorem d9_5 : decode (xmb 9) 5 = .ok (.getfield 43, 3) := by decide +kernel
theorem d9_8 : decode (xmb 9) 8 = .ok (.iload_n 1, 1) := by decide +kernel
theorem d9_9 : decode (xmb 9) 9 = .ok (.iastore, 1) := by decide +kernel
theorem d9_10 : decode (xmb 9) 10 = .ok (.aload_n 0, 1) := by decide +kernel
theorem d9_11 : decode (xmb 9) 11 = .ok (.getfield 18, 3) := by decide +kernel
theorem d9_14 : decode (xmb 9) 14 = .ok (.aload_n 0, 1) := by decide +kernel
theorem d9_15 : decode (xmb 9) 15 = .ok (.getfield 43, 3) := by decide +kernel
theorem d9_18 : decode (xmb 9) 18 = .ok (.iload_n 2, 1) := by decide +kernel
theorem d9_19 : decode (xmb 9) 19 = .ok (.iastore, 1) := by decide +kernel
theorem d9_20 : decode (xmb 9) 20 = .ok (.aload_n 0, 1) := by decide +kernel
theorem d9_21 : decode (xmb 9) 21 = .ok (.getfield 21, 3) := by decide +kernel
theorem d9_24 : decode (xmb 9) 24 = .ok (.aload_n 0, 1) := by decide +kernel
theorem d9_25 : decode (xmb 9) 25 = .ok (.getfield 43, 3) := by decide +kernel
theorem d9_28 : decode (xmb 9) 28 = .ok (.iload_n 3, 1) := by decide +kernel
theorem d9_29 : decode (xmb 9) 29 = .ok (.iastore, 1) := by decide +kernel
theorem d9_30 : decode (xmb 9) 30 = .ok (.aload_n 0, 1) := by decide +kernel
theorem d9_31 : decode (xmb 9) 31 = .ok (.getfield 24, 3) := by decide +kernel
theorem d9_34 : decode (xmb 9) 34 = .ok (.aload_n 0, 1) := by decide +kernel
theorem d9_35 : decode (xmb 9) 35 = .ok (.getfield 43, 3) := by decide +kernel
theorem d9_38 : decode (xmb 9) 38 = .ok (.iconst 0, 1) := by decide +kernel
theorem d9_39 : decode (xmb 9) 39 = .ok (.iastore, 1) := by decide +kernel
theorem d9_40 : decode (xmb 9) 40 = .ok (.aload_n 0, 1) := by decide +kernel
theorem d9_41 : decode (xmb 9) 41 = .ok (.getfield 27, 3) := by decide +kernel
theorem d9_44 : decode (xmb 9) 44 = .ok (.aload_n 0, 1) := by decide +kernel
theorem d9_45 : decode (xmb 9) 45 = .ok (.getfield 43, 3) := by decide +kernel
theorem d9_48 : decode (xmb 9) 48 = .ok (.iconst 0, 1) := by decide +kernel
theorem d9_49 : decode (xmb 9) 49 = .ok (.iastore, 1) := by decide +kernel
theorem d9_50 : decode (xmb 9) 50 = .ok (.aload_n 0, 1) := by decide +kernel
theorem d9_51 : decode (xmb 9) 51 = .ok (.dup, 1) := by decide +kernel
theorem d9_52 : decode (xmb 9) 52 = .ok (.getfield 43, 3) := by decide +kernel
theorem d9_55 : decode (xmb 9) 55 = .ok (.dup_x1, 1) := by decide +kernel
theorem d9_56 : decode (xmb 9) 56 = .ok (.iconst 1, 1) := by decide +kernel
theorem d9_57 : decode (xmb 9) 57 = .ok (.iadd, 1) := by decide +kernel
theorem d9_58 : decode (xmb 9) 58 = .ok (.putfield 43, 3) := by decide +kernel
theorem d9_61 : decode (xmb 9) 61 = .ok (.ireturn, 1) := by decide +kernel
theorem d10_0 : decode (xmb 10) 0 = .ok (.aload_n 0, 1) := by decide +kernel
theorem d10_1 : decode (xmb 10) 1 = .ok (.iload_n 1, 1) := by decide +kernel
theorem d10_2 : decode (xmb 10) 2 = .ok (.iaload, 1) := by decide +kernel
theorem d10_3 : decode (xmb 10) 3 = .ok (.istore_n 3, 1) := by decide +kernel
theorem d10_4 : decode (xmb 10) 4 = .ok (.aload_n 0, 1) := by decide +kernel
theorem d10_5 : decode (xmb 10) 5 = .ok (.iload_n 1, 1) := by decide +kernel
theorem d10_6 : decode (xmb 10) 6 = .ok (.iload_n 2, 1) := by decide +kernel
theorem d10_7 : decode (xmb 10) 7 = .ok (.iastore, 1) := by decide +kernel
theorem d10_8 : decode (xmb 10) 8 = .ok (.iload_n 3, 1) := by decide +kernel
theorem d10_9 : decode (xmb 10) 9 = .ok (.ireturn, 1) := by decide +kernel
theorem d11_0 : decode (xmb 11) 0 = .ok (.aload_n 0, 1) := by decide +kernel
theorem d11_1 : decode (xmb 11) 1 = .ok (.getfield 46, 3) := by decide +kernel
theorem d11_4 : decode (xmb 11) 4 = .ok (.iconst 1, 1) := by decide +kernel
theorem d11_5 : decode (xmb 11) 5 = .ok (.if_icmp .ge 7, 3) := by decide +kernel
theorem d11_8 : decode (xmb 11) 8 = .ok (.iconst 0, 1) := by decide +kernel
theorem d11_9 : decode (xmb 11) 9 = .ok (.goto 16, 3) := by decide +kernel
theorem d11_12 : decode (xmb 11) 12 = .ok (.aload_n 0, 1) := by decide +kernel
theorem d11_13 : decode (xmb 11) 13 = .ok (.getfield 9, 3) := by decide +kernel
theorem d11_16 : decode (xmb 11) 16 = .ok (.iload_n 1, 1) := by decide +kernel
theorem d11_17 : decode (xmb 11) 17 = .ok (.iaload, 1) := by decide +kernel
theorem d11_18 : decode (xmb 11) 18 = .ok (.iload_n 2, 1) := by decide +kernel
theorem d11_19 : decode (xmb 11) 19 = .ok (.imul, 1) := by decide +kernel
theorem d11_20 : decode (xmb 11) 20 = .ok (.aload_n 0, 1) := by decide +kernel
theorem d11_21 : decode (xmb 11) 21 = .ok (.getfield 46, 3) := by decide +kernel
theorem d11_24 : decode (xmb 11) 24 = .ok (.idiv, 1) := by decide +kernel
theorem d11_25 : decode (xmb 11) 25 = .ok (.istore_n 3, 1) := by decide +kernel
theorem d11_26 : decode (xmb 11) 26 = .ok (.iload_n 3, 1) := by decide +kernel
theorem d11_27 : decode (xmb 11) 27 = .ok (.iconst 1, 1) := by decide +kernel
theorem d11_28 : decode (xmb 11) 28 = .ok (.if_icmp .ge 7, 3) := by decide +kernel
theorem d11_31 : decode (xmb 11) 31 = .ok (.iconst 1, 1) := by decide +kernel
theorem d11_32 : decode (xmb 11) 32 = .ok (.goto 4, 3) := by decide +kernel
theorem d11_35 : decode (xmb 11) 35 = .ok (.iload_n 3, 1) := by decide +kernel
theorem d11_36 : decode (xmb 11) 36 = .ok (.ireturn, 1) := by decide +kernel
theorem d12_0 : decode (xmb 12) 0 = .ok (.getstatic 121, 3) := by decide +kernel
theorem d12_3 : decode (xmb 12) 3 = .ok (.aload_n 0, 1) := by decide +kernel
theorem d12_4 : decode (xmb 12) 4 = .ok (.invokevirtual 124, 3) := by decide +kernel
theorem d12_7 : decode (xmb 12) 7 = .ok (.iaload, 1) := by decide +kernel
theorem d12_8 : decode (xmb 12) 8 = .ok (.istore_n 3, 1) := by decide +kernel
theorem d12_9 : decode (xmb 12) 9 = .ok (.aload_n 0, 1) := by decide +kernel
theorem d12_10 : decode (xmb 12) 10 = .ok (.iload_n 1, 1) := by decide +kernel
theorem d12_11 : decode (xmb 12) 11 = .ok (.iload_n 2, 1) := by decide +kernel
theorem d12_12 : decode (xmb 12) 12 = .ok (.invokevirtual 128, 3) := by decide +kernel
theorem d12_15 : decode (xmb 12) 15 = .ok (.istore 4, 2) := by decide +kernel
theorem d12_17 : decode (xmb 12) 17 = .ok (.aload_n 0, 1) := by decide +kernel
theorem d12_18 : decode (xmb 12) 18 = .ok (.getfield 33, 3) := by decide +kernel
theorem d12_21 : decode (xmb 12) 21 = .ok (.iconst 1, 1) := by decide +kernel
theorem d12_22 : decode (xmb 12) 22 = .ok (.iaload, 1) := by decide +kernel
theorem d12_23 : decode (xmb 12) 23 = .ok (.ifCond .ne 12, 3) := by decide +kernel
theorem d12_26 : decode (xmb 12) 26 = .ok (.iload 4, 2) := by decide +kernel
theorem d12_28 : decode (xmb 12) 28 = .ok (.iload_n 3, 1) := by decide +kernel
theorem d12_29 : decode (xmb 12) 29 = .ok (.idiv, 1) := by decide +kernel
theorem d12_30 : decode (xmb 12) 30 = .ok (.istore 5, 2) := by decide +kernel
theorem d12_32 : decode (xmb 12) 32 = .ok (.goto 38, 3) := by decide +kernel
theorem d12_35 : decode (xmb 12) 35 = .ok (.aload_n 0, 1) := by decide +kernel
theorem d12_36 : decode (xmb 12) 36 = .ok (.getfield 33, 3) := by decide +kernel
theorem d12_39 : decode (xmb 12) 39 = .ok (.iconst 1, 1) := by decide +kernel
theorem d12_40 : decode (xmb 12) 40 = .ok (.iaload, 1) := by decide +kernel
theorem d12_41 : decode (xmb 12) 41 = .ok (.iconst 1, 1) := by decide +kernel
theorem d12_42 : decode (xmb 12) 42 = .ok (.if_icmp .ne 18, 3) := by decide +kernel
theorem d12_45 : decode (xmb 12) 45 = .ok (.iconst 2, 1) := by decide +kernel
theorem d12_46 : decode (xmb 12) 46 = .ok (.iload 4, 2) := by decide +kernel
theorem d12_48 : decode (xmb 12) 48 = .ok (.imul, 1) := by decide +kernel
theorem d12_49 : decode (xmb 12) 49 = .ok (.iload_n 3, 1) := by decide +kernel
theorem d12_50 : decode (xmb 12) 50 = .ok (.iadd, 1) := by decide +kernel
theorem d12_51 : decode (xmb 12) 51 = .ok (.iconst 2, 1) := by decide +kernel
theorem d12_52 : decode (xmb 12) 52 = .ok (.iload_n 3, 1) := by decide +kernel
theorem d12_53 : decode (xmb 12) 53 = .ok (.imul, 1) := by decide +kernel
theorem d12_54 : decode (xmb 12) 54 = .ok (.idiv, 1) := by decide +kernel
theorem d12_55 : decode (xmb 12) 55 = .ok (.istore 5, 2) := by decide +kernel
theorem d12_57 : decode (xmb 12) 57 = .ok (.goto 13, 3) := by decide +kernel
theorem d12_60 : decode (xmb 12) 60 = .ok (.iload 4, 2) := by decide +kernel
theorem d12_62 : decode (xmb 12) 62 = .ok (.iload_n 3, 1) := by decide +kernel
theorem d12_63 : decode (xmb 12) 63 = .ok (.iadd, 1) := by decide +kernel
theorem d12_64 : decode (xmb 12) 64 = .ok (.iconst 1, 1) := by decide +kernel
theorem d12_65 : decode (xmb 12) 65 = .ok (.isub, 1) := by decide +kernel
theorem d12_66 : decode (xmb 12) 66 = .ok (.iload_n 3, 1) := by decide +kernel
theorem d12_67 : decode (xmb 12) 67 = .ok (.idiv, 1) := by decide +kernel
theorem d12_68 : decode (xmb 12) 68 = .ok (.istore 5, 2) := by decide +kernel
theorem d12_70 : decode (xmb 12) 70 = .ok (.iload 5, 2) := by decide +kernel
theorem d12_72 : decode (xmb 12) 72 = .ok (.iconst 1, 1) := by decide +kernel
theorem d12_73 : decode (xmb 12) 73 = .ok (.if_icmp .ge 7, 3) := by decide +kernel
theorem d12_76 : decode (xmb 12) 76 = .ok (.iload_n 3, 1) := by decide +kernel
theorem d12_77 : decode (xmb 12) 77 = .ok (.goto 7, 3) := by decide +kernel
theorem d12_80 : decode (xmb 12) 80 = .ok (.iload 5, 2) := by decide +kernel
theorem d12_82 : decode (xmb 12) 82 = .ok (.iload_n 3, 1) := by decide +kernel
theorem d12_83 : decode (xmb 12) 83 = .ok (.imul, 1) := by decide +kernel
theorem d12_84 : decode (xmb 12) 84 = .ok (.ireturn, 1) := by decide +kernel
theorem d13_0 : decode (xmb 13) 0 = .ok (.iconst 0, 1) := by decide +kernel
theorem d13_1 : decode (xmb 13) 1 = .ok (.istore_n 1, 1) := by decide +kernel
theorem d13_2 : decode (xmb 13) 2 = .ok (.iload_n 1, 1) := by decide +kernel
theorem d13_3 : decode (xmb 13) 3 = .ok (.iconst 4, 1) := by decide +kernel
theorem d13_4 : decode (xmb 13) 4 = .ok (.if_icmp .ge 24, 3) := by decide +kernel
theorem d13_7 : decode (xmb 13) 7 = .ok (.aload_n 0, 1) := by decide +kernel
theorem d13_8 : decode (xmb 13) 8 = .ok (.getfield 33, 3) := by decide +kernel
theorem d13_11 : decode (xmb 13) 11 = .ok (.iconst 0, 1) := by decide +kernel
theorem d13_12 : decode (xmb 13) 12 = .ok (.iaload, 1) := by decide +kernel
theorem d13_13 : decode (xmb 13) 13 = .ok (.iload_n 1, 1) := by decide +kernel
theorem d13_14 : decode (xmb 13) 14 = .ok (.invokestatic 88, 3) := by decide +kernel
theorem d13_17 : decode (xmb 13) 17 = .ok (.ifCond .eq 5, 3) := by decide +kernel
theorem d13_20 : decode (xmb 13) 20 = .ok (.iload_n 1, 1) := by decide +kernel
theorem d13_21 : decode (xmb 13) 21 = .ok (.ireturn, 1) := by decide +kernel
theorem d13_22 : decode (xmb 13) 22 = .ok (.iinc 1 1, 3) := by decide +kernel
theorem d13_25 : decode (xmb 13) 25 = .ok (.goto (-23), 3) := by decide +kernel
theorem d13_28 : decode (xmb 13) 28 = .ok (.iconst 0, 1) := by decide +kernel
theorem d13_29 : decode (xmb 13) 29 = .ok (.ireturn, 1) := by decide +kernel
theorem d14_0 : decode (xmb 14) 0 = .ok (.aload_n 0, 1) := by decide +kernel
theorem d14_1 : decode (xmb 14) 1 = .ok (.iload_n 1, 1) := by decide +kernel
theorem d14_2 : decode (xmb 14) 2 = .ok (.iload_n 2, 1) := by decide +kernel
theorem d14_3 : decode (xmb 14) 3 = .ok (.invokevirtual 132, 3) := by decide +kernel
theorem d14_6 : decode (xmb 14) 6 = .ok (.istore 4, 2) := by decide +kernel
theorem d14_8 : decode (xmb 14) 8 = .ok (.iconst 0, 1) := by decide +kernel
theorem d14_9 : decode (xmb 14) 9 = .ok (.istore 5, 2) := by decide +kernel
theorem d14_11 : decode (xmb 14) 11 = .ok (.iconst 3, 1) := by decide +kernel
theorem d14_12 : decode (xmb 14) 12 = .ok (.istore 6, 2) := by decide +kernel
theorem d14_14 : decode (xmb 14) 14 = .ok (.iload 6, 2) := by decide +kernel
theorem d14_16 : decode (xmb 14) 16 = .ok (.ifCond .lt 61, 3) := by decide +kernel
theorem d14_19 : decode (xmb 14) 19 = .ok (.aload_n 0, 1) := by decide +kernel
theorem d14_20 : decode (xmb 14) 20 = .ok (.getfield 33, 3) := by decide +kernel
theorem d14_23 : decode (xmb 14) 23 = .ok (.iconst 0, 1) := by decide +kernel
theorem d14_24 : decode (xmb 14) 24 = .ok (.iaload, 1) := by decide +kernel
theorem d14_25 : decode (xmb 14) 25 = .ok (.iload 6, 2) := by decide +kernel
theorem d14_27 : decode (xmb 14) 27 = .ok (.invokestatic 88, 3) := by decide +kernel
theorem d14_30 : decode (xmb 14) 30 = .ok (.ifCond .eq 41, 3) := by decide +kernel
theorem d14_33 : decode (xmb 14) 33 = .ok (.iload 5, 2) := by decide +kernel
theorem d14_35 : decode (xmb 14) 35 = .ok (.iload_n 3, 1) := by decide +kernel
theorem d14_36 : decode (xmb 14) 36 = .ok (.iload 6, 2) := by decide +kernel
theorem d14_38 : decode (xmb 14) 38 = .ok (.invokestatic 88, 3) := by decide +kernel
theorem d14_41 : decode (xmb 14) 41 = .ok (.ifCond .eq 15, 3) := by decide +kernel
theorem d14_44 : decode (xmb 14) 44 = .ok (.iload 4, 2) := by decide +kernel
theorem d14_46 : decode (xmb 14) 46 = .ok (.getstatic 121, 3) := by decide +kernel
theorem d14_49 : decode (xmb 14) 49 = .ok (.iload 6, 2) := by decide +kernel
theorem d14_51 : decode (xmb 14) 51 = .ok (.iaload, 1) := by decide +kernel
theorem d14_52 : decode (xmb 14) 52 = .ok (.idiv, 1) := by decide +kernel
theorem d14_53 : decode (xmb 14) 53 = .ok (.goto 4, 3) := by decide +kernel
theorem d14_56 : decode (xmb 14) 56 = .ok (.iconst 0, 1) := by decide +kernel
theorem d14_57 : decode (xmb 14) 57 = .ok (.iadd, 1) := by decide +kernel
theorem d14_58 : decode (xmb 14) 58 = .ok (.istore 5, 2) := by decide +kernel
theorem d14_60 : decode (xmb 14) 60 = .ok (.iload 4, 2) := by decide +kernel
theorem d14_62 : decode (xmb 14) 62 = .ok (.getstatic 121, 3) := by decide +kernel
theorem d14_65 : decode (xmb 14) 65 = .ok (.iload 6, 2) := by decide +kernel
theorem d14_67 : decode (xmb 14) 67 = .ok (.iaload, 1) := by decide +kernel
theorem d14_68 : decode (xmb 14) 68 = .ok (.irem, 1) := by decide +kernel
theorem d14_69 : decode (xmb 14) 69 = .ok (.istore 4, 2) := by decide +kernel
theorem d14_71 : decode (xmb 14) 71 = .ok (.iinc 6 (-1), 3) := by decide +kernel
theorem d14_74 : decode (xmb 14) 74 = .ok (.goto (-60), 3) := by decide +kernel
theorem d14_77 : decode (xmb 14) 77 = .ok (.iload 5, 2) := by decide +kernel
theorem d14_79 : decode (xmb 14) 79 = .ok (.ireturn, 1) := by decide +kernel
theorem d15_0 : decode (xmb 15) 0 = .ok (.iconst 0, 1) := by decide +kernel
theorem d15_1 : decode (xmb 15) 1 = .ok (.istore_n 2, 1) := by decide +kernel
theorem d15_2 : decode (xmb 15) 2 = .ok (.iconst 0, 1) := by decide +kernel
theorem d15_3 : decode (xmb 15) 3 = .ok (.istore_n 3, 1) := by decide +kernel
theorem d15_4 : decode (xmb 15) 4 = .ok (.iload_n 3, 1) := by decide +kernel
theorem d15_5 : decode (xmb 15) 5 = .ok (.aload_n 0, 1) := by decide +kernel
theorem d15_6 : decode (xmb 15) 6 = .ok (.getfield 39, 3) := by decide +kernel
theorem d15_9 : decode (xmb 15) 9 = .ok (.if_icmp .ge 20, 3) := by decide +kernel
theorem d15_12 : decode (xmb 15) 12 = .ok (.iload_n 2, 1) := by decide +kernel
theorem d15_13 : decode (xmb 15) 13 = .ok (.aload_n 0, 1) := by decide +kernel
theorem d15_14 : decode (xmb 15) 14 = .ok (.iload_n 3, 1) := by decide +kernel
theorem d15_15 : decode (xmb 15) 15 = .ok (.iload_n 1, 1) := by decide +kernel
theorem d15_16 : decode (xmb 15) 16 = .ok (.bipush 15, 2) := by decide +kernel
theorem d15_18 : decode (xmb 15) 18 = .ok (.invokevirtual 135, 3) := by decide +kernel
theorem d15_21 : decode (xmb 15) 21 = .ok (.iadd, 1) := by decide +kernel
theorem d15_22 : decode (xmb 15) 22 = .ok (.istore_n 2, 1) := by decide +kernel
theorem d15_23 : decode (xmb 15) 23 = .ok (.iinc 3 1, 3) := by decide +kernel
theorem d15_26 : decode (xmb 15) 26 = .ok (.goto (-22), 3) := by decide +kernel
theorem d15_29 : decode (xmb 15) 29 = .ok (.iload_n 2, 1) := by decide +kernel
theorem d15_30 : decode (xmb 15) 30 = .ok (.ireturn, 1) := by decide +kernel
theorem d16_0 : decode (xmb 16) 0 = .ok (.iconst 0, 1) := by decide +kernel
theorem d16_1 : decode (xmb 16) 1 = .ok (.istore_n 2, 1) := by decide +kernel
theorem d16_2 : decode (xmb 16) 2 = .ok (.iconst 0, 1) := by decide +kernel
theorem d16_3 : decode (xmb 16) 3 = .ok (.istore_n 3, 1) := by decide +kernel
theorem d16_4 : decode (xmb 16) 4 = .ok (.iload_n 3, 1) := by decide +kernel
theorem d16_5 : decode (xmb 16) 5 = .ok (.aload_n 0, 1) := by decide +kernel
theorem d16_6 : decode (xmb 16) 6 = .ok (.getfield 39, 3) := by decide +kernel
theorem d16_9 : decode (xmb 16) 9 = .ok (.if_icmp .ge 28, 3) := by decide +kernel
theorem d16_12 : decode (xmb 16) 12 = .ok (.iload_n 2, 1) := by decide +kernel
theorem d16_13 : decode (xmb 16) 13 = .ok (.aload_n 0, 1) := by decide +kernel
theorem d16_14 : decode (xmb 16) 14 = .ok (.iload_n 3, 1) := by decide +kernel
theorem d16_15 : decode (xmb 16) 15 = .ok (.iload_n 1, 1) := by decide +kernel
theorem d16_16 : decode (xmb 16) 16 = .ok (.invokevirtual 132, 3) := by decide +kernel
theorem d16_19 : decode (xmb 16) 19 = .ok (.aload_n 0, 1) := by decide +kernel
theorem d16_20 : decode (xmb 16) 20 = .ok (.iload_n 3, 1) := by decide +kernel
theorem d16_21 : decode (xmb 16) 21 = .ok (.iload_n 1, 1) := by decide +kernel
theorem d16_22 : decode (xmb 16) 22 = .ok (.invokevirtual 128, 3) := by decide +kernel
theorem d16_25 : decode (xmb 16) 25 = .ok (.isub, 1) := by decide +kernel
theorem d16_26 : decode (xmb 16) 26 = .ok (.invokestatic 138, 3) := by decide +kernel
theorem d16_29 : decode (xmb 16) 29 = .ok (.iadd, 1) := by decide +kernel
theorem d16_30 : decode (xmb 16) 30 = .ok (.istore_n 2, 1) := by decide +kernel
theorem d16_31 : decode (xmb 16) 31 = .ok (.iinc 3 1, 3) := by decide +kernel
theorem d16_34 : decode (xmb 16) 34 = .ok (.goto (-30), 3) := by decide +kernel
theorem d16_37 : decode (xmb 16) 37 = .ok (.iload_n 2, 1) := by decide +kernel
theorem d16_38 : decode (xmb 16) 38 = .ok (.ireturn, 1) := by decide +kernel
theorem d17_0 : decode (xmb 17) 0 = .ok (.iconst 0, 1) := by decide +kernel
theorem d17_1 : decode (xmb 17) 1 = .ok (.istore_n 2, 1) := by decide +kernel
theorem d17_2 : decode (xmb 17) 2 = .ok (.iconst 0, 1) := by decide +kernel
theorem d17_3 : decode (xmb 17) 3 = .ok (.istore_n 3, 1) := by decide +kernel
theorem d17_4 : decode (xmb 17) 4 = .ok (.iload_n 3, 1) := by decide +kernel
theorem d17_5 : decode (xmb 17) 5 = .ok (.aload_n 0, 1) := by decide +kernel
theorem d17_6 : decode (xmb 17) 6 = .ok (.getfield 43, 3) := by decide +kernel
theorem d17_9 : decode (xmb 17) 9 = .ok (.if_icmp .ge 25, 3) := by decide +kernel
theorem d17_12 : decode (xmb 17) 12 = .ok (.iload_n 2, 1) := by decide +kernel
theorem d17_13 : decode (xmb 17) 13 = .ok (.aload_n 0, 1) := by decide +kernel
theorem d17_14 : decode (xmb 17) 14 = .ok (.getfield 24, 3) := by decide +kernel
theorem d17_17 : decode (xmb 17) 17 = .ok (.iload_n 3, 1) := by decide +kernel
theorem d17_18 : decode (xmb 17) 18 = .ok (.iaload, 1) := by decide +kernel
theorem d17_19 : decode (xmb 17) 19 = .ok (.iload_n 1, 1) := by decide +kernel
theorem d17_20 : decode (xmb 17) 20 = .ok (.invokestatic 88, 3) := by decide +kernel
theorem d17_23 : decode (xmb 17) 23 = .ok (.invokestatic 143, 3) := by decide +kernel
theorem d17_26 : decode (xmb 17) 26 = .ok (.iadd, 1) := by decide +kernel
theorem d17_27 : decode (xmb 17) 27 = .ok (.istore_n 2, 1) := by decide +kernel
theorem d17_28 : decode (xmb 17) 28 = .ok (.iinc 3 1, 3) := by decide +kernel
theorem d17_31 : decode (xmb 17) 31 = .ok (.goto (-27), 3) := by decide +kernel
theorem d17_34 : decode (xmb 17) 34 = .ok (.iload_n 2, 1) := by decide +kernel
theorem d17_35 : decode (xmb 17) 35 = .ok (.ireturn, 1) := by decide +kernel
theorem d18_0 : decode (xmb 18) 0 = .ok (.iconst 0, 1) := by decide +kernel
theorem d18_1 : decode (xmb 18) 1 = .ok (.istore_n 1, 1) := by decide +kernel
theorem d18_2 : decode (xmb 18) 2 = .ok (.iconst 0, 1) := by decide +kernel
theorem d18_3 : decode (xmb 18) 3 = .ok (.istore_n 2, 1) := by decide +kernel
theorem d18_4 : decode (xmb 18) 4 = .ok (.iload_n 2, 1) := by decide +kernel
theorem d18_5 : decode (xmb 18) 5 = .ok (.aload_n 0, 1) := by decide +kernel
theorem d18_6 : decode (xmb 18) 6 = .ok (.getfield 39, 3) := by decide +kernel
theorem d18_9 : decode (xmb 18) 9 = .ok (.if_icmp .ge 28, 3) := by decide +kernel
theorem d18_12 : decode (xmb 18) 12 = .ok (.iload_n 1, 1) := by decide +kernel
theorem d18_13 : decode (xmb 18) 13 = .ok (.aload_n 0, 1) := by decide +kernel
theorem d18_14 : decode (xmb 18) 14 = .ok (.iload_n 2, 1) := by decide +kernel
theorem d18_15 : decode (xmb 18) 15 = .ok (.invokevirtual 147, 3) := by decide +kernel
theorem d18_18 : decode (xmb 18) 18 = .ok (.ifCond .ne 7, 3) := by decide +kernel
theorem d18_21 : decode (xmb 18) 21 = .ok (.iconst 1, 1) := by decide +kernel
theorem d18_22 : decode (xmb 18) 22 = .ok (.goto 4, 3) := by decide +kernel
theorem d18_25 : decode (xmb 18) 25 = .ok (.iconst 0, 1) := by decide +kernel
theorem d18_26 : decode (xmb 18) 26 = .ok (.invokestatic 143, 3) := by decide +kernel
theorem d18_29 : decode (xmb 18) 29 = .ok (.iadd, 1) := by decide +kernel
theorem d18_30 : decode (xmb 18) 30 = .ok (.istore_n 1, 1) := by decide +kernel
theorem d18_31 : decode (xmb 18) 31 = .ok (.iinc 2 1, 3) := by decide +kernel
theorem d18_34 : decode (xmb 18) 34 = .ok (.goto (-30), 3) := by decide +kernel
theorem d18_37 : decode (xmb 18) 37 = .ok (.iload_n 1, 1) := by decide +kernel
theorem d18_38 : decode (xmb 18) 38 = .ok (.ireturn, 1) := by decide +kernel
theorem d19_0 : decode (xmb 19) 0 = .ok (.iconst 0, 1) := by decide +kernel
theorem d19_1 : decode (xmb 19) 1 = .ok (.istore_n 1, 1) := by decide +kernel
theorem d19_2 : decode (xmb 19) 2 = .ok (.iconst 0, 1) := by decide +kernel
theorem d19_3 : decode (xmb 19) 3 = .ok (.istore_n 2, 1) := by decide +kernel
theorem d19_4 : decode (xmb 19) 4 = .ok (.iload_n 2, 1) := by decide +kernel
theorem d19_5 : decode (xmb 19) 5 = .ok (.aload_n 0, 1) := by decide +kernel
theorem d19_6 : decode (xmb 19) 6 = .ok (.getfield 43, 3) := by decide +kernel
theorem d19_9 : decode (xmb 19) 9 = .ok (.if_icmp .ge 18, 3) := by decide +kernel
theorem d19_12 : decode (xmb 19) 12 = .ok (.iload_n 1, 1) := by decide +kernel
theorem d19_13 : decode (xmb 19) 13 = .ok (.aload_n 0, 1) := by decide +kernel
theorem d19_14 : decode (xmb 19) 14 = .ok (.getfield 15, 3) := by decide +kernel
theorem d19_17 : decode (xmb 19) 17 = .ok (.iload_n 2, 1) := by decide +kernel
theorem d19_18 : decode (xmb 19) 18 = .ok (.iaload, 1) := by decide +kernel
theorem d19_19 : decode (xmb 19) 19 = .ok (.iadd, 1) := by decide +kernel
theorem d19_20 : decode (xmb 19) 20 = .ok (.istore_n 1, 1) := by decide +kernel
theorem d19_21 : decode (xmb 19) 21 = .ok (.iinc 2 1, 3) := by decide +kernel
theorem d19_24 : decode (xmb 19) 24 = .ok (.goto (-20), 3) := by decide +kernel
theorem d19_27 : decode (xmb 19) 27 = .ok (.iload_n 1, 1) := by decide +kernel
theorem d19_28 : decode (xmb 19) 28 = .ok (.ireturn, 1) := by decide +kernel
theorem d20_0 : decode (xmb 20) 0 = .ok (.iconst 0, 1) := by decide +kernel
theorem d20_1 : decode (xmb 20) 1 = .ok (.istore_n 2, 1) := by decide +kernel
theorem d20_2 : decode (xmb 20) 2 = .ok (.iconst 0, 1) := by decide +kernel
theorem d20_3 : decode (xmb 20) 3 = .ok (.istore_n 3, 1) := by decide +kernel
theorem d20_4 : decode (xmb 20) 4 = .ok (.iload_n 3, 1) := by decide +kernel
theorem d20_5 : decode (xmb 20) 5 = .ok (.aload_n 0, 1) := by decide +kernel
theorem d20_6 : decode (xmb 20) 6 = .ok (.getfield 43, 3) := by decide +kernel
theorem d20_9 : decode (xmb 20) 9 = .ok (.if_icmp .ge 25, 3) := by decide +kernel
theorem d20_12 : decode (xmb 20) 12 = .ok (.iload_n 2, 1) := by decide +kernel
theorem d20_13 : decode (xmb 20) 13 = .ok (.iload_n 3, 1) := by decide +kernel
theorem d20_14 : decode (xmb 20) 14 = .ok (.aload_n 0, 1) := by decide +kernel
theorem d20_15 : decode (xmb 20) 15 = .ok (.getfield 27, 3) := by decide +kernel
theorem d20_18 : decode (xmb 20) 18 = .ok (.iload_n 3, 1) := by decide +kernel
theorem d20_19 : decode (xmb 20) 19 = .ok (.iaload, 1) := by decide +kernel
theorem d20_20 : decode (xmb 20) 20 = .ok (.iload_n 1, 1) := by decide +kernel
theorem d20_21 : decode (xmb 20) 21 = .ok (.invokestatic 88, 3) := by decide +kernel
theorem d20_24 : decode (xmb 20) 24 = .ok (.invokestatic 108, 3) := by decide +kernel
theorem d20_27 : decode (xmb 20) 27 = .ok (.istore_n 2, 1) := by decide +kernel
theorem d20_28 : decode (xmb 20) 28 = .ok (.iinc 3 1, 3) := by decide +kernel
theorem d20_31 : decode (xmb 20) 31 = .ok (.goto (-27), 3) := by decide +kernel
theorem d20_34 : decode (xmb 20) 34 = .ok (.iload_n 2, 1) := by decide +kernel
theorem d20_35 : decode (xmb 20) 35 = .ok (.ireturn, 1) := by decide +kernel
theorem d21_0 : decode (xmb 21) 0 = .ok (.aload_n 0, 1) := by decide +kernel
theorem d21_1 : decode (xmb 21) 1 = .ok (.getfield 27, 3) := by decide +kernel
theorem d21_4 : decode (xmb 21) 4 = .ok (.iload_n 1, 1) := by decide +kernel
theorem d21_5 : decode (xmb 21) 5 = .ok (.iaload, 1) := by decide +kernel
theorem d21_6 : decode (xmb 21) 6 = .ok (.istore_n 2, 1) := by decide +kernel
theorem d21_7 : decode (xmb 21) 7 = .ok (.iconst 0, 1) := by decide +kernel
theorem d21_8 : decode (xmb 21) 8 = .ok (.istore_n 3, 1) := by decide +kernel
theorem d21_9 : decode (xmb 21) 9 = .ok (.iload_n 3, 1) := by decide +kernel
theorem d21_10 : decode (xmb 21) 10 = .ok (.aload_n 0, 1) := by decide +kernel
theorem d21_11 : decode (xmb 21) 11 = .ok (.getfield 43, 3) := by decide +kernel
theorem d21_14 : decode (xmb 21) 14 = .ok (.if_icmp .ge 46, 3) := by decide +kernel
theorem d21_17 : decode (xmb 21) 17 = .ok (.iconst 0, 1) := by decide +kernel
theorem d21_18 : decode (xmb 21) 18 = .ok (.istore 4, 2) := by decide +kernel
theorem d21_20 : decode (xmb 21) 20 = .ok (.iload 4, 2) := by decide +kernel
theorem d21_22 : decode (xmb 21) 22 = .ok (.aload_n 0, 1) := by decide +kernel
theorem d21_23 : decode (xmb 21) 23 = .ok (.getfield 43, 3) := by decide +kernel
theorem d21_26 : decode (xmb 21) 26 = .ok (.if_icmp .ge 28, 3) := by decide +kernel
theorem d21_29 : decode (xmb 21) 29 = .ok (.iload_n 2, 1) := by decide +kernel
theorem d21_30 : decode (xmb 21) 30 = .ok (.iload 4, 2) := by decide +kernel
theorem d21_32 : decode (xmb 21) 32 = .ok (.invokestatic 88, 3) := by decide +kernel
theorem d21_35 : decode (xmb 21) 35 = .ok (.ifCond .eq 13, 3) := by decide +kernel
theorem d21_38 : decode (xmb 21) 38 = .ok (.iload_n 2, 1) := by decide +kernel
theorem d21_39 : decode (xmb 21) 39 = .ok (.aload_n 0, 1) := by decide +kernel
theorem d21_40 : decode (xmb 21) 40 = .ok (.getfield 27, 3) := by decide +kernel
theorem d21_43 : decode (xmb 21) 43 = .ok (.iload 4, 2) := by decide +kernel
theorem d21_45 : decode (xmb 21) 45 = .ok (.iaload, 1) := by decide +kernel
theorem d21_46 : decode (xmb 21) 46 = .ok (.ior, 1) := by decide +kernel
theorem d21_47 : decode (xmb 21) 47 = .ok (.istore_n 2, 1) := by decide +kernel
theorem d21_48 : decode (xmb 21) 48 = .ok (.iinc 4 1, 3) := by decide +kernel
theorem d21_51 : decode (xmb 21) 51 = .ok (.goto (-31), 3) := by decide +kernel
theorem d21_54 : decode (xmb 21) 54 = .ok (.iinc 3 1, 3) := by decide +kernel
theorem d21_57 : decode (xmb 21) 57 = .ok (.goto (-48), 3) := by decide +kernel
theorem d21_60 : decode (xmb 21) 60 = .ok (.iload_n 2, 1) := by decide +kernel
theorem d21_61 : decode (xmb 21) 61 = .ok (.ireturn, 1) := by decide +kernel
theorem d23_0 : decode (xmb 23) 0 = .ok (.aload_n 0, 1) := by decide +kernel
theorem d23_1 : decode (xmb 23) 1 = .ok (.getfield 15, 3) := by decide +kernel
theorem d23_4 : decode (xmb 23) 4 = .ok (.bipush 120, 2) := by decide +kernel
theorem d23_6 : decode (xmb 23) 6 = .ok (.if_icmp .ge 23, 3) := by decide +kernel
theorem d23_9 : decode (xmb 23) 9 = .ok (.aload_n 0, 1) := by decide +kernel
theorem d23_10 : decode (xmb 23) 10 = .ok (.getfield 9, 3) := by decide +kernel
theorem d23_13 : decode (xmb 23) 13 = .ok (.aload_n 0, 1) := by decide +kernel
theorem d23_14 : decode (xmb 23) 14 = .ok (.getfield 15, 3) := by decide +kernel
theorem d23_17 : decode (xmb 23) 17 = .ok (.iload_n 1, 1) := by decide +kernel
theorem d23_18 : decode (xmb 23) 18 = .ok (.castore, 1) := by decide +kernel
theorem d23_19 : decode (xmb 23) 19 = .ok (.aload_n 0, 1) := by decide +kernel
theorem d23_20 : decode (xmb 23) 20 = .ok (.dup, 1) := by decide +kernel
theorem d23_21 : decode (xmb 23) 21 = .ok (.getfield 15, 3) := by decide +kernel
theorem d23_24 : decode (xmb 23) 24 = .ok (.iconst 1, 1) := by decide +kernel
theorem d23_25 : decode (xmb 23) 25 = .ok (.iadd, 1) := by decide +kernel
theorem d23_26 : decode (xmb 23) 26 = .ok (.putfield 15, 3) := by decide +kernel
theorem d23_29 : decode (xmb 23) 29 = .ok (.aload_n 0, 1) := by decide +kernel
theorem d23_30 : decode (xmb 23) 30 = .ok (.getfield 15, 3) := by decide +kernel
theorem d23_33 : decode (xmb 23) 33 = .ok (.ireturn, 1) := by decide +kernel
theorem d24_0 : decode (xmb 24) 0 = .ok (.aload_n 1, 1) := by decide +kernel
theorem d24_1 : decode (xmb 24) 1 = .ok (.invokevirtual 19, 3) := by decide +kernel
theorem d24_4 : decode (xmb 24) 4 = .ok (.aload_n 0, 1) := by decide +kernel
theorem d24_5 : decode (xmb 24) 5 = .ok (.iconst 0, 1) := by decide +kernel
theorem d24_6 : decode (xmb 24) 6 = .ok (.putfield 24, 3) := by decide +kernel
theorem d24_9 : decode (xmb 24) 9 = .ok (.aload_n 0, 1) := by decide +kernel
theorem d24_10 : decode (xmb 24) 10 = .ok (.iconst 0, 1) := by decide +kernel
theorem d24_11 : decode (xmb 24) 11 = .ok (.putfield 27, 3) := by decide +kernel
theorem d24_14 : decode (xmb 24) 14 = .ok (.aload_n 0, 1) := by decide +kernel
theorem d24_15 : decode (xmb 24) 15 = .ok (.iconst 0, 1) := by decide +kernel
theorem d24_16 : decode (xmb 24) 16 = .ok (.putfield 30, 3) := by decide +kernel
theorem d24_19 : decode (xmb 24) 19 = .ok (.aload_n 0, 1) := by decide +kernel
theorem d24_20 : decode (xmb 24) 20 = .ok (.bipush 67, 2) := by decide +kernel
theorem d24_22 : decode (xmb 24) 22 = .ok (.invokevirtual 34, 3) := by decide +kernel
theorem d24_25 : decode (xmb 24) 25 = .ok (.iconst 0, 1) := by decide +kernel
theorem d24_26 : decode (xmb 24) 26 = .ok (.istore_n 2, 1) := by decide +kernel
theorem d24_27 : decode (xmb 24) 27 = .ok (.iload_n 2, 1) := by decide +kernel
theorem d24_28 : decode (xmb 24) 28 = .ok (.bipush 120, 2) := by decide +kernel
theorem d24_30 : decode (xmb 24) 30 = .ok (.if_icmp .ge 72, 3) := by decide +kernel
theorem d24_33 : decode (xmb 24) 33 = .ok (.aload_n 0, 1) := by decide +kernel
theorem d24_34 : decode (xmb 24) 34 = .ok (.getfield 30, 3) := by decide +kernel
theorem d24_37 : decode (xmb 24) 37 = .ok (.ifCond .ne 65, 3) := by decide +kernel
theorem d24_40 : decode (xmb 24) 40 = .ok (.aload_n 0, 1) := by decide +kernel
theorem d24_41 : decode (xmb 24) 41 = .ok (.getfield 27, 3) := by decide +kernel
theorem d24_44 : decode (xmb 24) 44 = .ok (.aload_n 0, 1) := by decide +kernel
theorem d24_45 : decode (xmb 24) 45 = .ok (.getfield 15, 3) := by decide +kernel
theorem d24_48 : decode (xmb 24) 48 = .ok (.if_icmp .ge 54, 3) := by decide +kernel
theorem d24_51 : decode (xmb 24) 51 = .ok (.aload_n 0, 1) := by decide +kernel
theorem d24_52 : decode (xmb 24) 52 = .ok (.aload_n 1, 1) := by decide +kernel
theorem d24_53 : decode (xmb 24) 53 = .ok (.invokevirtual 38, 3) := by decide +kernel
theorem d24_56 : decode (xmb 24) 56 = .ok (.aload_n 0, 1) := by decide +kernel
theorem d24_57 : decode (xmb 24) 57 = .ok (.getfield 30, 3) := by decide +kernel
theorem d24_60 : decode (xmb 24) 60 = .ok (.ifCond .ne 36, 3) := by decide +kernel
theorem d24_63 : decode (xmb 24) 63 = .ok (.aload_n 1, 1) := by decide +kernel
theorem d24_64 : decode (xmb 24) 64 = .ok (.aload_n 0, 1) := by decide +kernel
theorem d24_65 : decode (xmb 24) 65 = .ok (.getfield 42, 3) := by decide +kernel
theorem d24_68 : decode (xmb 24) 68 = .ok (.aload_n 0, 1) := by decide +kernel
theorem d24_69 : decode (xmb 24) 69 = .ok (.getfield 45, 3) := by decide +kernel
theorem d24_72 : decode (xmb 24) 72 = .ok (.aload_n 0, 1) := by decide +kernel
theorem d24_73 : decode (xmb 24) 73 = .ok (.getfield 48, 3) := by decide +kernel
theorem d24_76 : decode (xmb 24) 76 = .ok (.aload_n 0, 1) := by decide +kernel
theorem d24_77 : decode (xmb 24) 77 = .ok (.getfield 51, 3) := by decide +kernel
theorem d24_80 : decode (xmb 24) 80 = .ok (.invokevirtual 54, 3) := by decide +kernel
theorem d24_83 : decode (xmb 24) 83 = .ok (.ifCond .ne 13, 3) := by decide +kernel
theorem d24_86 : decode (xmb 24) 86 = .ok (.aload_n 0, 1) := by decide +kernel
theorem d24_87 : decode (xmb 24) 87 = .ok (.dup, 1) := by decide +kernel
theorem d24_88 : decode (xmb 24) 88 = .ok (.getfield 24, 3) := by decide +kernel
theorem d24_91 : decode (xmb 24) 91 = .ok (.iconst 1, 1) := by decide +kernel
theorem d24_92 : decode (xmb 24) 92 = .ok (.iadd, 1) := by decide +kernel
theorem d24_93 : decode (xmb 24) 93 = .ok (.putfield 24, 3) := by decide +kernel
theorem d24_96 : decode (xmb 24) 96 = .ok (.iinc 2 1, 3) := by decide +kernel
theorem d24_99 : decode (xmb 24) 99 = .ok (.goto (-72), 3) := by decide +kernel
theorem d24_102 : decode (xmb 24) 102 = .ok (.aload_n 0, 1) := by decide +kernel
theorem d24_103 : decode (xmb 24) 103 = .ok (.getfield 30, 3) := by decide +kernel
theorem d24_106 : decode (xmb 24) 106 = .ok (.ifCond .eq 10, 3) := by decide +kernel
theorem d24_109 : decode (xmb 24) 109 = .ok (.aload_n 0, 1) := by decide +kernel
theorem d24_110 : decode (xmb 24) 110 = .ok (.getfield 27, 3) := by decide +kernel
theorem d24_113 : decode (xmb 24) 113 = .ok (.goto 4, 3) := by decide +kernel
theorem d24_116 : decode (xmb 24) 116 = .ok (.iconst (-1), 1) := by decide +kernel
theorem d24_117 : decode (xmb 24) 117 = .ok (.ireturn, 1) := by decide +kernel
theorem d25_0 : decode (xmb 25) 0 = .ok (.aload_n 0, 1) := by decide +kernel
theorem d25_1 : decode (xmb 25) 1 = .ok (.getstatic 58, 3) := by decide +kernel
theorem d25_4 : decode (xmb 25) 4 = .ok (.invokevirtual 61, 3) := by decide +kernel
theorem d25_7 : decode (xmb 25) 7 = .ok (.tableswitch 154 0 5 #[37, 51, 76, 96, 113, 134], 37) := by decide +kernel
theorem d25_44 : decode (xmb 25) 44 = .ok (.aload_n 0, 1) := by decide +kernel
theorem d25_45 : decode (xmb 25) 45 = .ok (.iconst 0, 1) := by decide +kernel
theorem d25_46 : decode (xmb 25) 46 = .ok (.aload_n 0, 1) := by decide +kernel
theorem d25_47 : decode (xmb 25) 47 = .ok (.invokevirtual 65, 3) := by decide +kernel
theorem d25_50 : decode (xmb 25) 50 = .ok (.iconst 0, 1) := by decide +kernel
theorem d25_51 : decode (xmb 25) 51 = .ok (.iconst 0, 1) := by decide +kernel
theorem d25_52 : decode (xmb 25) 52 = .ok (.invokevirtual 69, 3) := by decide +kernel
theorem d25_55 : decode (xmb 25) 55 = .ok (.goto 120, 3) := by decide +kernel
theorem d25_58 : decode (xmb 25) 58 = .ok (.aload_n 0, 1) := by decide +kernel
theorem d25_59 : decode (xmb 25) 59 = .ok (.iconst 1, 1) := by decide +kernel
theorem d25_60 : decode (xmb 25) 60 = .ok (.aload_n 0, 1) := by decide +kernel
theorem d25_61 : decode (xmb 25) 61 = .ok (.iconst 1, 1) := by decide +kernel
theorem d25_62 : decode (xmb 25) 62 = .ok (.bipush 90, 2) := by decide +kernel
theorem d25_64 : decode (xmb 25) 64 = .ok (.invokevirtual 73, 3) := by decide +kernel
theorem d25_67 : decode (xmb 25) 67 = .ok (.aload_n 0, 1) := by decide +kernel
theorem d25_68 : decode (xmb 25) 68 = .ok (.invokevirtual 77, 3) := by decide +kernel
theorem d25_71 : decode (xmb 25) 71 = .ok (.aload_n 0, 1) := by decide +kernel
theorem d25_72 : decode (xmb 25) 72 = .ok (.iconst 0, 1) := by decide +kernel
theorem d25_73 : decode (xmb 25) 73 = .ok (.iconst 1, 1) := by decide +kernel
theorem d25_74 : decode (xmb 25) 74 = .ok (.invokevirtual 80, 3) := by decide +kernel
theorem d25_77 : decode (xmb 25) 77 = .ok (.invokevirtual 69, 3) := by decide +kernel
theorem d25_80 : decode (xmb 25) 80 = .ok (.goto 95, 3) := by decide +kernel
theorem d25_83 : decode (xmb 25) 83 = .ok (.aload_n 0, 1) := by decide +kernel
theorem d25_84 : decode (xmb 25) 84 = .ok (.iconst 2, 1) := by decide +kernel
theorem d25_85 : decode (xmb 25) 85 = .ok (.aload_n 0, 1) := by decide +kernel
theorem d25_86 : decode (xmb 25) 86 = .ok (.invokevirtual 83, 3) := by decide +kernel
theorem d25_89 : decode (xmb 25) 89 = .ok (.aload_n 0, 1) := by decide +kernel
theorem d25_90 : decode (xmb 25) 90 = .ok (.iconst 0, 1) := by decide +kernel
theorem d25_91 : decode (xmb 25) 91 = .ok (.bipush 11, 2) := by decide +kernel
theorem d25_93 : decode (xmb 25) 93 = .ok (.invokevirtual 73, 3) := by decide +kernel
theorem d25_96 : decode (xmb 25) 96 = .ok (.iconst 1, 1) := by decide +kernel
theorem d25_97 : decode (xmb 25) 97 = .ok (.invokevirtual 69, 3) := by decide +kernel
theorem d25_100 : decode (xmb 25) 100 = .ok (.goto 75, 3) := by decide +kernel
theorem d25_103 : decode (xmb 25) 103 = .ok (.aload_n 0, 1) := by decide +kernel
theorem d25_104 : decode (xmb 25) 104 = .ok (.iconst 3, 1) := by decide +kernel
theorem d25_105 : decode (xmb 25) 105 = .ok (.aload_n 0, 1) := by decide +kernel
theorem d25_106 : decode (xmb 25) 106 = .ok (.invokevirtual 83, 3) := by decide +kernel
theorem d25_109 : decode (xmb 25) 109 = .ok (.aload_n 0, 1) := by decide +kernel
theorem d25_110 : decode (xmb 25) 110 = .ok (.invokevirtual 83, 3) := by decide +kernel
theorem d25_113 : decode (xmb 25) 113 = .ok (.iconst 1, 1) := by decide +kernel
theorem d25_114 : decode (xmb 25) 114 = .ok (.invokevirtual 69, 3) := by decide +kernel
theorem d25_117 : decode (xmb 25) 117 = .ok (.goto 58, 3) := by decide +kernel
theorem d25_120 : decode (xmb 25) 120 = .ok (.aload_n 0, 1) := by decide +kernel
theorem d25_121 : decode (xmb 25) 121 = .ok (.iconst 4, 1) := by decide +kernel
theorem d25_122 : decode (xmb 25) 122 = .ok (.aload_n 0, 1) := by decide +kernel
theorem d25_123 : decode (xmb 25) 123 = .ok (.iconst 0, 1) := by decide +kernel
theorem d25_124 : decode (xmb 25) 124 = .ok (.iconst 3, 1) := by decide +kernel
theorem d25_125 : decode (xmb 25) 125 = .ok (.invokevirtual 80, 3) := by decide +kernel
theorem d25_128 : decode (xmb 25) 128 = .ok (.aload_n 0, 1) := by decide +kernel
theorem d25_129 : decode (xmb 25) 129 = .ok (.iconst 0, 1) := by decide +kernel
theorem d25_130 : decode (xmb 25) 130 = .ok (.iconst 3, 1) := by decide +kernel
theorem d25_131 : decode (xmb 25) 131 = .ok (.invokevirtual 80, 3) := by decide +kernel
theorem d25_134 : decode (xmb 25) 134 = .ok (.iconst 0, 1) := by decide +kernel
theorem d25_135 : decode (xmb 25) 135 = .ok (.invokevirtual 69, 3) := by decide +kernel
theorem d25_138 : decode (xmb 25) 138 = .ok (.goto 37, 3) := by decide +kernel
theorem d25_141 : decode (xmb 25) 141 = .ok (.aload_n 0, 1) := by decide +kernel
theorem d25_142 : decode (xmb 25) 142 = .ok (.iconst 5, 1) := by decide +kernel
theorem d25_143 : decode (xmb 25) 143 = .ok (.aload_n 1, 1) := by decide +kernel
theorem d25_144 : decode (xmb 25) 144 = .ok (.getfield 86, 3) := by decide +kernel
theorem d25_147 : decode (xmb 25) 147 = .ok (.aload_n 0, 1) := by decide +kernel
theorem d25_148 : decode (xmb 25) 148 = .ok (.iconst 1, 1) := by decide +kernel
theorem d25_149 : decode (xmb 25) 149 = .ok (.bipush 24, 2) := by decide +kernel
theorem d25_151 : decode (xmb 25) 151 = .ok (.invokevirtual 73, 3) := by decide +kernel
theorem d25_154 : decode (xmb 25) 154 = .ok (.iconst 0, 1) := by decide +kernel
theorem d25_155 : decode (xmb 25) 155 = .ok (.invokevirtual 69, 3) := by decide +kernel
theorem d25_158 : decode (xmb 25) 158 = .ok (.goto 17, 3) := by decide +kernel
theorem d25_161 : decode (xmb 25) 161 = .ok (.aload_n 0, 1) := by decide +kernel
theorem d25_162 : decode (xmb 25) 162 = .ok (.bipush 6, 2) := by decide +kernel
theorem d25_164 : decode (xmb 25) 164 = .ok (.iconst 4, 1) := by decide +kernel
theorem d25_165 : decode (xmb 25) 165 = .ok (.aload_n 0, 1) := by decide +kernel
theorem d25_166 : decode (xmb 25) 166 = .ok (.iconst 0, 1) := by decide +kernel
theorem d25_167 : decode (xmb 25) 167 = .ok (.iconst 3, 1) := by decide +kernel
theorem d25_168 : decode (xmb 25) 168 = .ok (.invokevirtual 80, 3) := by decide +kernel
theorem d25_171 : decode (xmb 25) 171 = .ok (.iconst 0, 1) := by decide +kernel
theorem d25_172 : decode (xmb 25) 172 = .ok (.invokevirtual 69, 3) := by decide +kernel
theorem d25_175 : decode (xmb 25) 175 = .ok (.return_, 1) := by decide +kernel
theorem d26_0 : decode (xmb 26) 0 = .ok (.aload_n 0, 1) := by decide +kernel
theorem d26_1 : decode (xmb 26) 1 = .ok (.iload_n 1, 1) := by decide +kernel
theorem d26_2 : decode (xmb 26) 2 = .ok (.putfield 42, 3) := by decide +kernel
theorem d26_5 : decode (xmb 26) 5 = .ok (.aload_n 0, 1) := by decide +kernel
theorem d26_6 : decode (xmb 26) 6 = .ok (.iload_n 2, 1) := by decide +kernel
theorem d26_7 : decode (xmb 26) 7 = .ok (.putfield 45, 3) := by decide +kernel
theorem d26_10 : decode (xmb 26) 10 = .ok (.aload_n 0, 1) := by decide +kernel
theorem d26_11 : decode (xmb 26) 11 = .ok (.iload_n 3, 1) := by decide +kernel
theorem d26_12 : decode (xmb 26) 12 = .ok (.putfield 48, 3) := by decide +kernel
theorem d26_15 : decode (xmb 26) 15 = .ok (.aload_n 0, 1) := by decide +kernel
theorem d26_16 : decode (xmb 26) 16 = .ok (.iload 4, 2) := by decide +kernel
theorem d26_18 : decode (xmb 26) 18 = .ok (.putfield 51, 3) := by decide +kernel
theorem d26_21 : decode (xmb 26) 21 = .ok (.return_, 1) := by decide +kernel
theorem d27_0 : decode (xmb 27) 0 = .ok (.aload_n 0, 1) := by decide +kernel
theorem d27_1 : decode (xmb 27) 1 = .ok (.iconst 0, 1) := by decide +kernel
theorem d27_2 : decode (xmb 27) 2 = .ok (.bipush 13, 2) := by decide +kernel
theorem d27_4 : decode (xmb 27) 4 = .ok (.invokevirtual 73, 3) := by decide +kernel
theorem d27_7 : decode (xmb 27) 7 = .ok (.ireturn, 1) := by decide +kernel
theorem d28_0 : decode (xmb 28) 0 = .ok (.aload_n 0, 1) := by decide +kernel
theorem d28_1 : decode (xmb 28) 1 = .ok (.iconst 0, 1) := by decide +kernel
theorem d28_2 : decode (xmb 28) 2 = .ok (.iconst 4, 1) := by decide +kernel
theorem d28_3 : decode (xmb 28) 3 = .ok (.invokevirtual 80, 3) := by decide +kernel
theorem d28_6 : decode (xmb 28) 6 = .ok (.istore_n 1, 1) := by decide +kernel
theorem d28_7 : decode (xmb 28) 7 = .ok (.iload_n 1, 1) := by decide +kernel
theorem d28_8 : decode (xmb 28) 8 = .ok (.invokestatic 89, 3) := by decide +kernel
theorem d28_11 : decode (xmb 28) 11 = .ok (.ifCond .eq 7, 3) := by decide +kernel
theorem d28_14 : decode (xmb 28) 14 = .ok (.iload_n 1, 1) := by decide +kernel
theorem d28_15 : decode (xmb 28) 15 = .ok (.goto 4, 3) := by decide +kernel
theorem d28_18 : decode (xmb 28) 18 = .ok (.iconst (-1), 1) := by decide +kernel
theorem d28_19 : decode (xmb 28) 19 = .ok (.ireturn, 1) := by decide +kernel
theorem d29_0 : decode (xmb 29) 0 = .ok (.aload_n 0, 1) := by decide +kernel
theorem d29_1 : decode (xmb 29) 1 = .ok (.iconst 0, 1) := by decide +kernel
theorem d29_2 : decode (xmb 29) 2 = .ok (.bipush 99, 2) := by decide +kernel
theorem d29_4 : decode (xmb 29) 4 = .ok (.invokevirtual 73, 3) := by decide +kernel
theorem d29_7 : decode (xmb 29) 7 = .ok (.istore_n 1, 1) := by decide +kernel
theorem d29_8 : decode (xmb 29) 8 = .ok (.iconst 0, 1) := by decide +kernel
theorem d29_9 : decode (xmb 29) 9 = .ok (.istore_n 2, 1) := by decide +kernel
theorem d29_10 : decode (xmb 29) 10 = .ok (.iconst 1, 1) := by decide +kernel
theorem d29_11 : decode (xmb 29) 11 = .ok (.istore_n 3, 1) := by decide +kernel
theorem d29_12 : decode (xmb 29) 12 = .ok (.aload_n 0, 1) := by decide +kernel
theorem d29_13 : decode (xmb 29) 13 = .ok (.bipush 43, 2) := by decide +kernel
theorem d29_15 : decode (xmb 29) 15 = .ok (.invokevirtual 93, 3) := by decide +kernel
theorem d29_18 : decode (xmb 29) 18 = .ok (.ifCond .eq 37, 3) := by decide +kernel
theorem d29_21 : decode (xmb 29) 21 = .ok (.aload_n 0, 1) := by decide +kernel
theorem d29_22 : decode (xmb 29) 22 = .ok (.dup, 1) := by decide +kernel
theorem d29_23 : decode (xmb 29) 23 = .ok (.getfield 27, 3) := by decide +kernel
theorem d29_26 : decode (xmb 29) 26 = .ok (.iconst 1, 1) := by decide +kernel
theorem d29_27 : decode (xmb 29) 27 = .ok (.iadd, 1) := by decide +kernel
theorem d29_28 : decode (xmb 29) 28 = .ok (.putfield 27, 3) := by decide +kernel
theorem d29_31 : decode (xmb 29) 31 = .ok (.aload_n 0, 1) := by decide +kernel
theorem d29_32 : decode (xmb 29) 32 = .ok (.iconst 1, 1) := by decide +kernel
theorem d29_33 : decode (xmb 29) 33 = .ok (.bipush 7, 2) := by decide +kernel
theorem d29_35 : decode (xmb 29) 35 = .ok (.invokevirtual 80, 3) := by decide +kernel
theorem d29_38 : decode (xmb 29) 38 = .ok (.istore_n 2, 1) := by decide +kernel
theorem d29_39 : decode (xmb 29) 39 = .ok (.aload_n 0, 1) := by decide +kernel
theorem d29_40 : decode (xmb 29) 40 = .ok (.bipush 47, 2) := by decide +kernel
theorem d29_42 : decode (xmb 29) 42 = .ok (.invokevirtual 34, 3) := by decide +kernel
theorem d29_45 : decode (xmb 29) 45 = .ok (.aload_n 0, 1) := by decide +kernel
theorem d29_46 : decode (xmb 29) 46 = .ok (.iload_n 2, 1) := by decide +kernel
theorem d29_47 : decode (xmb 29) 47 = .ok (.iconst 1, 1) := by decide +kernel
theorem d29_48 : decode (xmb 29) 48 = .ok (.iadd, 1) := by decide +kernel
theorem d29_49 : decode (xmb 29) 49 = .ok (.bipush 8, 2) := by decide +kernel
theorem d29_51 : decode (xmb 29) 51 = .ok (.invokevirtual 80, 3) := by decide +kernel
theorem d29_54 : decode (xmb 29) 54 = .ok (.istore_n 3, 1) := by decide +kernel
theorem d29_55 : decode (xmb 29) 55 = .ok (.aload_n 0, 1) := by decide +kernel
theorem d29_56 : decode (xmb 29) 56 = .ok (.getstatic 97, 3) := by decide +kernel
theorem d29_59 : decode (xmb 29) 59 = .ok (.invokevirtual 61, 3) := by decide +kernel
theorem d29_62 : decode (xmb 29) 62 = .ok (.istore 4, 2) := by decide +kernel
theorem d29_64 : decode (xmb 29) 64 = .ok (.aload_n 0, 1) := by decide +kernel
theorem d29_65 : decode (xmb 29) 65 = .ok (.getfield 30, 3) := by decide +kernel
theorem d29_68 : decode (xmb 29) 68 = .ok (.ifCond .ne 13, 3) := by decide +kernel
theorem d29_71 : decode (xmb 29) 71 = .ok (.iload 4, 2) := by decide +kernel
theorem d29_73 : decode (xmb 29) 73 = .ok (.ifCond .lt 8, 3) := by decide +kernel
theorem d29_76 : decode (xmb 29) 76 = .ok (.iload_n 3, 1) := by decide +kernel
theorem d29_77 : decode (xmb 29) 77 = .ok (.iconst 1, 1) := by decide +kernel
theorem d29_78 : decode (xmb 29) 78 = .ok (.if_icmp .ge 5, 3) := by decide +kernel
theorem d29_81 : decode (xmb 29) 81 = .ok (.iconst 0, 1) := by decide +kernel
theorem d29_82 : decode (xmb 29) 82 = .ok (.ireturn, 1) := by decide +kernel
theorem d29_83 : decode (xmb 29) 83 = .ok (.getstatic 100, 3) := by decide +kernel
theorem d29_86 : decode (xmb 29) 86 = .ok (.iload 4, 2) := by decide +kernel
theorem d29_88 : decode (xmb 29) 88 = .ok (.iaload, 1) := by decide +kernel
theorem d29_89 : decode (xmb 29) 89 = .ok (.iload_n 1, 1) := by decide +kernel
theorem d29_90 : decode (xmb 29) 90 = .ok (.imul, 1) := by decide +kernel
theorem d29_91 : decode (xmb 29) 91 = .ok (.getstatic 100, 3) := by decide +kernel
theorem d29_94 : decode (xmb 29) 94 = .ok (.iload 4, 2) := by decide +kernel
theorem d29_96 : decode (xmb 29) 96 = .ok (.iaload, 1) := by decide +kernel
theorem d29_97 : decode (xmb 29) 97 = .ok (.iload_n 2, 1) := by decide +kernel
theorem d29_98 : decode (xmb 29) 98 = .ok (.imul, 1) := by decide +kernel
theorem d29_99 : decode (xmb 29) 99 = .ok (.iload_n 3, 1) := by decide +kernel
theorem d29_100 : decode (xmb 29) 100 = .ok (.idiv, 1) := by decide +kernel
theorem d29_101 : decode (xmb 29) 101 = .ok (.iadd, 1) := by decide +kernel
theorem d29_102 : decode (xmb 29) 102 = .ok (.ireturn, 1) := by decide +kernel
theorem d30_0 : decode (xmb 30) 0 = .ok (.aload_n 0, 1) := by decide +kernel
theorem d30_1 : decode (xmb 30) 1 = .ok (.iload_n 1, 1) := by decide +kernel
theorem d30_2 : decode (xmb 30) 2 = .ok (.bipush 10, 2) := by decide +kernel
theorem d30_4 : decode (xmb 30) 4 = .ok (.idiv, 1) := by decide +kernel
theorem d30_5 : decode (xmb 30) 5 = .ok (.iload_n 2, 1) := by decide +kernel
theorem d30_6 : decode (xmb 30) 6 = .ok (.bipush 10, 2) := by decide +kernel
theorem d30_8 : decode (xmb 30) 8 = .ok (.idiv, 1) := by decide +kernel
theorem d30_9 : decode (xmb 30) 9 = .ok (.invokevirtual 80, 3) := by decide +kernel
theorem d30_12 : decode (xmb 30) 12 = .ok (.istore_n 3, 1) := by decide +kernel
theorem d30_13 : decode (xmb 30) 13 = .ok (.iload_n 3, 1) := by decide +kernel
theorem d30_14 : decode (xmb 30) 14 = .ok (.iload_n 1, 1) := by decide +kernel
theorem d30_15 : decode (xmb 30) 15 = .ok (.bipush 10, 2) := by decide +kernel
theorem d30_17 : decode (xmb 30) 17 = .ok (.idiv, 1) := by decide +kernel
theorem d30_18 : decode (xmb 30) 18 = .ok (.if_icmp .ne 10, 3) := by decide +kernel
theorem d30_21 : decode (xmb 30) 21 = .ok (.iload_n 1, 1) := by decide +kernel
theorem d30_22 : decode (xmb 30) 22 = .ok (.bipush 10, 2) := by decide +kernel
theorem d30_24 : decode (xmb 30) 24 = .ok (.irem, 1) := by decide +kernel
theorem d30_25 : decode (xmb 30) 25 = .ok (.goto 4, 3) := by decide +kernel
theorem d30_28 : decode (xmb 30) 28 = .ok (.iconst 0, 1) := by decide +kernel
theorem d30_29 : decode (xmb 30) 29 = .ok (.istore 4, 2) := by decide +kernel
theorem d30_31 : decode (xmb 30) 31 = .ok (.iload_n 3, 1) := by decide +kernel
theorem d30_32 : decode (xmb 30) 32 = .ok (.iload_n 2, 1) := by decide +kernel
theorem d30_33 : decode (xmb 30) 33 = .ok (.bipush 10, 2) := by decide +kernel
theorem d30_35 : decode (xmb 30) 35 = .ok (.idiv, 1) := by decide +kernel
theorem d30_36 : decode (xmb 30) 36 = .ok (.if_icmp .ne 10, 3) := by decide +kernel
theorem d30_39 : decode (xmb 30) 39 = .ok (.iload_n 2, 1) := by decide +kernel
theorem d30_40 : decode (xmb 30) 40 = .ok (.bipush 10, 2) := by decide +kernel
theorem d30_42 : decode (xmb 30) 42 = .ok (.irem, 1) := by decide +kernel
theorem d30_43 : decode (xmb 30) 43 = .ok (.goto 5, 3) := by decide +kernel
theorem d30_46 : decode (xmb 30) 46 = .ok (.bipush 9, 2) := by decide +kernel
theorem d30_48 : decode (xmb 30) 48 = .ok (.istore 5, 2) := by decide +kernel
theorem d30_50 : decode (xmb 30) 50 = .ok (.bipush 10, 2) := by decide +kernel
theorem d30_52 : decode (xmb 30) 52 = .ok (.iload_n 3, 1) := by decide +kernel
theorem d30_53 : decode (xmb 30) 53 = .ok (.imul, 1) := by decide +kernel
theorem d30_54 : decode (xmb 30) 54 = .ok (.aload_n 0, 1) := by decide +kernel
theorem d30_55 : decode (xmb 30) 55 = .ok (.iload 4, 2) := by decide +kernel
theorem d30_57 : decode (xmb 30) 57 = .ok (.iload 5, 2) := by decide +kernel
theorem d30_59 : decode (xmb 30) 59 = .ok (.invokevirtual 80, 3) := by decide +kernel
theorem d30_62 : decode (xmb 30) 62 = .ok (.iadd, 1) := by decide +kernel
theorem d30_63 : decode (xmb 30) 63 = .ok (.ireturn, 1) := by decide +kernel
theorem d31_0 : decode (xmb 31) 0 = .ok (.iload_n 1, 1) := by decide +kernel
theorem d31_1 : decode (xmb 31) 1 = .ok (.istore_n 3, 1) := by decide +kernel
theorem d31_2 : decode (xmb 31) 2 = .ok (.iload_n 3, 1) := by decide +kernel
theorem d31_3 : decode (xmb 31) 3 = .ok (.iload_n 2, 1) := by decide +kernel
theorem d31_4 : decode (xmb 31) 4 = .ok (.if_icmp .gt 33, 3) := by decide +kernel
theorem d31_7 : decode (xmb 31) 7 = .ok (.aload_n 0, 1) := by decide +kernel
theorem d31_8 : decode (xmb 31) 8 = .ok (.bipush 48, 2) := by decide +kernel
theorem d31_10 : decode (xmb 31) 10 = .ok (.iload_n 3, 1) := by decide +kernel
theorem d31_11 : decode (xmb 31) 11 = .ok (.iadd, 1) := by decide +kernel
theorem d31_12 : decode (xmb 31) 12 = .ok (.i2c, 1) := by decide +kernel
theorem d31_13 : decode (xmb 31) 13 = .ok (.invokevirtual 93, 3) := by decide +kernel
theorem d31_16 : decode (xmb 31) 16 = .ok (.ifCond .eq 15, 3) := by decide +kernel
theorem d31_19 : decode (xmb 31) 19 = .ok (.aload_n 0, 1) := by decide +kernel
theorem d31_20 : decode (xmb 31) 20 = .ok (.dup, 1) := by decide +kernel
theorem d31_21 : decode (xmb 31) 21 = .ok (.getfield 27, 3) := by decide +kernel
theorem d31_24 : decode (xmb 31) 24 = .ok (.iconst 1, 1) := by decide +kernel
theorem d31_25 : decode (xmb 31) 25 = .ok (.iadd, 1) := by decide +kernel
theorem d31_26 : decode (xmb 31) 26 = .ok (.putfield 27, 3) := by decide +kernel
theorem d31_29 : decode (xmb 31) 29 = .ok (.iload_n 3, 1) := by decide +kernel
theorem d31_30 : decode (xmb 31) 30 = .ok (.ireturn, 1) := by decide +kernel
theorem d31_31 : decode (xmb 31) 31 = .ok (.iinc 3 1, 3) := by decide +kernel
theorem d31_34 : decode (xmb 31) 34 = .ok (.goto (-32), 3) := by decide +kernel
theorem d31_37 : decode (xmb 31) 37 = .ok (.aload_n 0, 1) := by decide +kernel
theorem d31_38 : decode (xmb 31) 38 = .ok (.iconst 1, 1) := by decide +kernel
theorem d31_39 : decode (xmb 31) 39 = .ok (.putfield 30, 3) := by decide +kernel
theorem d31_42 : decode (xmb 31) 42 = .ok (.iconst 0, 1) := by decide +kernel
theorem d31_43 : decode (xmb 31) 43 = .ok (.ireturn, 1) := by decide +kernel
theorem d32_0 : decode (xmb 32) 0 = .ok (.iconst 0, 1) := by decide +kernel
theorem d32_1 : decode (xmb 32) 1 = .ok (.istore_n 2, 1) := by decide +kernel
theorem d32_2 : decode (xmb 32) 2 = .ok (.iload_n 2, 1) := by decide +kernel
theorem d32_3 : decode (xmb 32) 3 = .ok (.aload_n 1, 1) := by decide +kernel
theorem d32_4 : decode (xmb 32) 4 = .ok (.arraylength, 1) := by decide +kernel
theorem d32_5 : decode (xmb 32) 5 = .ok (.if_icmp .ge 31, 3) := by decide +kernel
theorem d32_8 : decode (xmb 32) 8 = .ok (.aload_n 0, 1) := by decide +kernel
theorem d32_9 : decode (xmb 32) 9 = .ok (.aload_n 1, 1) := by decide +kernel
theorem d32_10 : decode (xmb 32) 10 = .ok (.iload_n 2, 1) := by decide +kernel
theorem d32_11 : decode (xmb 32) 11 = .ok (.caload, 1) := by decide +kernel
theorem d32_12 : decode (xmb 32) 12 = .ok (.invokevirtual 93, 3) := by decide +kernel
theorem d32_15 : decode (xmb 32) 15 = .ok (.ifCond .eq 15, 3) := by decide +kernel
theorem d32_18 : decode (xmb 32) 18 = .ok (.aload_n 0, 1) := by decide +kernel
theorem d32_19 : decode (xmb 32) 19 = .ok (.dup, 1) := by decide +kernel
theorem d32_20 : decode (xmb 32) 20 = .ok (.getfield 27, 3) := by decide +kernel
theorem d32_23 : decode (xmb 32) 23 = .ok (.iconst 1, 1) := by decide +kernel
theorem d32_24 : decode (xmb 32) 24 = .ok (.iadd, 1) := by decide +kernel
theorem d32_25 : decode (xmb 32) 25 = .ok (.putfield 27, 3) := by decide +kernel
theorem d32_28 : decode (xmb 32) 28 = .ok (.iload_n 2, 1) := by decide +kernel
theorem d32_29 : decode (xmb 32) 29 = .ok (.ireturn, 1) := by decide +kernel
theorem d32_30 : decode (xmb 32) 30 = .ok (.iinc 2 1, 3) := by decide +kernel
theorem d32_33 : decode (xmb 32) 33 = .ok (.goto (-31), 3) := by decide +kernel
theorem d32_36 : decode (xmb 32) 36 = .ok (.aload_n 0, 1) := by decide +kernel
theorem d32_37 : decode (xmb 32) 37 = .ok (.iconst 1, 1) := by decide +kernel
theorem d32_38 : decode (xmb 32) 38 = .ok (.putfield 30, 3) := by decide +kernel
theorem d32_41 : decode (xmb 32) 41 = .ok (.iconst (-1), 1) := by decide +kernel
theorem d32_42 : decode (xmb 32) 42 = .ok (.ireturn, 1) := by decide +kernel
theorem d33_0 : decode (xmb 33) 0 = .ok (.aload_n 0, 1) := by decide +kernel
theorem d33_1 : decode (xmb 33) 1 = .ok (.iload_n 1, 1) := by decide +kernel
theorem d33_2 : decode (xmb 33) 2 = .ok (.invokevirtual 93, 3) := by decide +kernel
theorem d33_5 : decode (xmb 33) 5 = .ok (.ifCond .eq 16, 3) := by decide +kernel
theorem d33_8 : decode (xmb 33) 8 = .ok (.aload_n 0, 1) := by decide +kernel
theorem d33_9 : decode (xmb 33) 9 = .ok (.dup, 1) := by decide +kernel
theorem d33_10 : decode (xmb 33) 10 = .ok (.getfield 27, 3) := by decide +kernel
theorem d33_13 : decode (xmb 33) 13 = .ok (.iconst 1, 1) := by decide +kernel
theorem d33_14 : decode (xmb 33) 14 = .ok (.iadd, 1) := by decide +kernel
theorem d33_15 : decode (xmb 33) 15 = .ok (.putfield 27, 3) := by decide +kernel
theorem d33_18 : decode (xmb 33) 18 = .ok (.goto 8, 3) := by decide +kernel
theorem d33_21 : decode (xmb 33) 21 = .ok (.aload_n 0, 1) := by decide +kernel
theorem d33_22 : decode (xmb 33) 22 = .ok (.iconst 1, 1) := by decide +kernel
theorem d33_23 : decode (xmb 33) 23 = .ok (.putfield 30, 3) := by decide +kernel
theorem d33_26 : decode (xmb 33) 26 = .ok (.return_, 1) := by decide +kernel
theorem d34_0 : decode (xmb 34) 0 = .ok (.aload_n 0, 1) := by decide +kernel
theorem d34_1 : decode (xmb 34) 1 = .ok (.getfield 30, 3) := by decide +kernel
theorem d34_4 : decode (xmb 34) 4 = .ok (.ifCond .ne 31, 3) := by decide +kernel
theorem d34_7 : decode (xmb 34) 7 = .ok (.aload_n 0, 1) := by decide +kernel
theorem d34_8 : decode (xmb 34) 8 = .ok (.getfield 27, 3) := by decide +kernel
theorem d34_11 : decode (xmb 34) 11 = .ok (.aload_n 0, 1) := by decide +kernel
theorem d34_12 : decode (xmb 34) 12 = .ok (.getfield 15, 3) := by decide +kernel
theorem d34_15 : decode (xmb 34) 15 = .ok (.if_icmp .ge 20, 3) := by decide +kernel
theorem d34_18 : decode (xmb 34) 18 = .ok (.aload_n 0, 1) := by decide +kernel
theorem d34_19 : decode (xmb 34) 19 = .ok (.getfield 9, 3) := by decide +kernel
theorem d34_22 : decode (xmb 34) 22 = .ok (.aload_n 0, 1) := by decide +kernel
theorem d34_23 : decode (xmb 34) 23 = .ok (.getfield 27, 3) := by decide +kernel
theorem d34_26 : decode (xmb 34) 26 = .ok (.caload, 1) := by decide +kernel
theorem d34_27 : decode (xmb 34) 27 = .ok (.iload_n 1, 1) := by decide +kernel
theorem d34_28 : decode (xmb 34) 28 = .ok (.if_icmp .ne 7, 3) := by decide +kernel
theorem d34_31 : decode (xmb 34) 31 = .ok (.iconst 1, 1) := by decide +kernel
theorem d34_32 : decode (xmb 34) 32 = .ok (.goto 4, 3) := by decide +kernel
theorem d34_35 : decode (xmb 34) 35 = .ok (.iconst 0, 1) := by decide +kernel
theorem d34_36 : decode (xmb 34) 36 = .ok (.ireturn, 1) := by decide +kernel
theorem d36_0 : decode (xmb 36) 0 = .ok (.aload_n 0, 1) := by decide +kernel
theorem d36_1 : decode (xmb 36) 1 = .ok (.getfield 11, 3) := by decide +kernel
theorem d36_4 : decode (xmb 36) 4 = .ok (.aload_n 0, 1) := by decide +kernel
theorem d36_5 : decode (xmb 36) 5 = .ok (.getfield 18, 3) := by decide +kernel
theorem d36_8 : decode (xmb 36) 8 = .ok (.aaload, 1) := by decide +kernel
theorem d36_9 : decode (xmb 36) 9 = .ok (.aload_n 1, 1) := by decide +kernel
theorem d36_10 : decode (xmb 36) 10 = .ok (.invokevirtual 22, 3) := by decide +kernel
theorem d36_13 : decode (xmb 36) 13 = .ok (.aload_n 0, 1) := by decide +kernel
theorem d36_14 : decode (xmb 36) 14 = .ok (.aload_n 0, 1) := by decide +kernel
theorem d36_15 : decode (xmb 36) 15 = .ok (.getfield 18, 3) := by decide +kernel
theorem d36_18 : decode (xmb 36) 18 = .ok (.iconst 1, 1) := by decide +kernel
theorem d36_19 : decode (xmb 36) 19 = .ok (.iadd, 1) := by decide +kernel
theorem d36_20 : decode (xmb 36) 20 = .ok (.bipush 14, 2) := by decide +kernel
theorem d36_22 : decode (xmb 36) 22 = .ok (.if_icmp .ge 12, 3) := by decide +kernel
theorem d36_25 : decode (xmb 36) 25 = .ok (.aload_n 0, 1) := by decide +kernel
theorem d36_26 : decode (xmb 36) 26 = .ok (.getfield 18, 3) := by decide +kernel
theorem d36_29 : decode (xmb 36) 29 = .ok (.iconst 1, 1) := by decide +kernel
theorem d36_30 : decode (xmb 36) 30 = .ok (.iadd, 1) := by decide +kernel
theorem d36_31 : decode (xmb 36) 31 = .ok (.goto 4, 3) := by decide +kernel
theorem d36_34 : decode (xmb 36) 34 = .ok (.iconst 0, 1) := by decide +kernel
theorem d36_35 : decode (xmb 36) 35 = .ok (.putfield 18, 3) := by decide +kernel
theorem d36_38 : decode (xmb 36) 38 = .ok (.aload_n 0, 1) := by decide +kernel
theorem d36_39 : decode (xmb 36) 39 = .ok (.aload_n 0, 1) := by decide +kernel
theorem d36_40 : decode (xmb 36) 40 = .ok (.getfield 26, 3) := by decide +kernel
theorem d36_43 : decode (xmb 36) 43 = .ok (.iconst 1, 1) := by decide +kernel
theorem d36_44 : decode (xmb 36) 44 = .ok (.iadd, 1) := by decide +kernel
theorem d36_45 : decode (xmb 36) 45 = .ok (.bipush 14, 2) := by decide +kernel
theorem d36_47 : decode (xmb 36) 47 = .ok (.invokestatic 29, 3) := by decide +kernel
theorem d36_50 : decode (xmb 36) 50 = .ok (.putfield 26, 3) := by decide +kernel
theorem d36_53 : decode (xmb 36) 53 = .ok (.return_, 1) := by decide +kernel
theorem d37_0 : decode (xmb 37) 0 = .ok (.aload_n 0, 1) := by decide +kernel
theorem d37_1 : decode (xmb 37) 1 = .ok (.aload_n 0, 1) := by decide +kernel
theorem d37_2 : decode (xmb 37) 2 = .ok (.getfield 18, 3) := by decide +kernel
theorem d37_5 : decode (xmb 37) 5 = .ok (.ifCond .le 12, 3) := by decide +kernel
theorem d37_8 : decode (xmb 37) 8 = .ok (.aload_n 0, 1) := by decide +kernel
theorem d37_9 : decode (xmb 37) 9 = .ok (.getfield 18, 3) := by decide +kernel
theorem d37_12 : decode (xmb 37) 12 = .ok (.iconst 1, 1) := by decide +kernel
theorem d37_13 : decode (xmb 37) 13 = .ok (.isub, 1) := by decide +kernel
theorem d37_14 : decode (xmb 37) 14 = .ok (.goto 5, 3) := by decide +kernel
theorem d37_17 : decode (xmb 37) 17 = .ok (.bipush 13, 2) := by decide +kernel
theorem d37_19 : decode (xmb 37) 19 = .ok (.putfield 18, 3) := by decide +kernel
theorem d37_22 : decode (xmb 37) 22 = .ok (.aload_n 1, 1) := by decide +kernel
theorem d37_23 : decode (xmb 37) 23 = .ok (.aload_n 0, 1) := by decide +kernel
theorem d37_24 : decode (xmb 37) 24 = .ok (.getfield 11, 3) := by decide +kernel
theorem d37_27 : decode (xmb 37) 27 = .ok (.aload_n 0, 1) := by decide +kernel
theorem d37_28 : decode (xmb 37) 28 = .ok (.getfield 18, 3) := by decide +kernel
theorem d37_31 : decode (xmb 37) 31 = .ok (.aaload, 1) := by decide +kernel
theorem d37_32 : decode (xmb 37) 32 = .ok (.invokevirtual 22, 3) := by decide +kernel
theorem d37_35 : decode (xmb 37) 35 = .ok (.aload_n 0, 1) := by decide +kernel
theorem d37_36 : decode (xmb 37) 36 = .ok (.dup, 1) := by decide +kernel
theorem d37_37 : decode (xmb 37) 37 = .ok (.getfield 26, 3) := by decide +kernel
theorem d37_40 : decode (xmb 37) 40 = .ok (.iconst 1, 1) := by decide +kernel
theorem d37_41 : decode (xmb 37) 41 = .ok (.isub, 1) := by decide +kernel
theorem d37_42 : decode (xmb 37) 42 = .ok (.putfield 26, 3) := by decide +kernel
theorem d37_45 : decode (xmb 37) 45 = .ok (.aload_n 0, 1) := by decide +kernel
theorem d37_46 : decode (xmb 37) 46 = .ok (.getfield 26, 3) := by decide +kernel
theorem d37_49 : decode (xmb 37) 49 = .ok (.ireturn, 1) := by decide +kernel
theorem d38_0 : decode (xmb 38) 0 = .ok (.aload_n 0, 1) := by decide +kernel
theorem d38_1 : decode (xmb 38) 1 = .ok (.iconst 0, 1) := by decide +kernel
theorem d38_2 : decode (xmb 38) 2 = .ok (.putfield 26, 3) := by decide +kernel
theorem d38_5 : decode (xmb 38) 5 = .ok (.return_, 1) := by decide +kernel
theorem d40_0 : decode (xmb 40) 0 = .ok (.aload_n 0, 1) := by decide +kernel
theorem d40_1 : decode (xmb 40) 1 = .ok (.invokevirtual 37, 3) := by decide +kernel
theorem d40_4 : decode (xmb 40) 4 = .ok (.iconst 0, 1) := by decide +kernel
theorem d40_5 : decode (xmb 40) 5 = .ok (.istore_n 1, 1) := by decide +kernel
theorem d40_6 : decode (xmb 40) 6 = .ok (.iconst 0, 1) := by decide +kernel
theorem d40_7 : decode (xmb 40) 7 = .ok (.istore_n 2, 1) := by decide +kernel
theorem d40_8 : decode (xmb 40) 8 = .ok (.iload_n 2, 1) := by decide +kernel
theorem d40_9 : decode (xmb 40) 9 = .ok (.aload_n 0, 1) := by decide +kernel
theorem d40_10 : decode (xmb 40) 10 = .ok (.getfield 12, 3) := by decide +kernel
theorem d40_13 : decode (xmb 40) 13 = .ok (.getfield 40, 3) := by decide +kernel
theorem d40_16 : decode (xmb 40) 16 = .ok (.if_icmp .ge 20, 3) := by decide +kernel
theorem d40_19 : decode (xmb 40) 19 = .ok (.iload_n 1, 1) := by decide +kernel
theorem d40_20 : decode (xmb 40) 20 = .ok (.aload_n 0, 1) := by decide +kernel
theorem d40_21 : decode (xmb 40) 21 = .ok (.getfield 25, 3) := by decide +kernel
theorem d40_24 : decode (xmb 40) 24 = .ok (.iload_n 2, 1) := by decide +kernel
theorem d40_25 : decode (xmb 40) 25 = .ok (.iaload, 1) := by decide +kernel
theorem d40_26 : decode (xmb 40) 26 = .ok (.invokestatic 44, 3) := by decide +kernel
theorem d40_29 : decode (xmb 40) 29 = .ok (.istore_n 1, 1) := by decide +kernel
theorem d40_30 : decode (xmb 40) 30 = .ok (.iinc 2 1, 3) := by decide +kernel
theorem d40_33 : decode (xmb 40) 33 = .ok (.goto (-25), 3) := by decide +kernel
theorem d40_36 : decode (xmb 40) 36 = .ok (.iload_n 1, 1) := by decide +kernel
theorem d40_37 : decode (xmb 40) 37 = .ok (.ireturn, 1) := by decide +kernel
theorem d41_0 : decode (xmb 41) 0 = .ok (.iconst 0, 1) := by decide +kernel
theorem d41_1 : decode (xmb 41) 1 = .ok (.istore_n 2, 1) := by decide +kernel
theorem d41_2 : decode (xmb 41) 2 = .ok (.iload_n 2, 1) := by decide +kernel
theorem d41_3 : decode (xmb 41) 3 = .ok (.aload_n 0, 1) := by decide +kernel
theorem d41_4 : decode (xmb 41) 4 = .ok (.getfield 50, 3) := by decide +kernel
theorem d41_7 : decode (xmb 41) 7 = .ok (.if_icmp .ge 42, 3) := by decide +kernel
theorem d41_10 : decode (xmb 41) 10 = .ok (.aload_n 0, 1) := by decide +kernel
theorem d41_11 : decode (xmb 41) 11 = .ok (.getfield 12, 3) := by decide +kernel
theorem d41_14 : decode (xmb 41) 14 = .ok (.getfield 53, 3) := by decide +kernel
theorem d41_17 : decode (xmb 41) 17 = .ok (.aload_n 0, 1) := by decide +kernel
theorem d41_18 : decode (xmb 41) 18 = .ok (.getfield 31, 3) := by decide +kernel
theorem d41_21 : decode (xmb 41) 21 = .ok (.iload_n 2, 1) := by decide +kernel
theorem d41_22 : decode (xmb 41) 22 = .ok (.iaload, 1) := by decide +kernel
theorem d41_23 : decode (xmb 41) 23 = .ok (.iaload, 1) := by decide +kernel
theorem d41_24 : decode (xmb 41) 24 = .ok (.iload_n 1, 1) := by decide +kernel
theorem d41_25 : decode (xmb 41) 25 = .ok (.invokestatic 56, 3) := by decide +kernel
theorem d41_28 : decode (xmb 41) 28 = .ok (.ifCond .eq 15, 3) := by decide +kernel
theorem d41_31 : decode (xmb 41) 31 = .ok (.aload_n 0, 1) := by decide +kernel
theorem d41_32 : decode (xmb 41) 32 = .ok (.getfield 18, 3) := by decide +kernel
theorem d41_35 : decode (xmb 41) 35 = .ok (.aload_n 0, 1) := by decide +kernel
theorem d41_36 : decode (xmb 41) 36 = .ok (.getfield 31, 3) := by decide +kernel
theorem d41_39 : decode (xmb 41) 39 = .ok (.iload_n 2, 1) := by decide +kernel
theorem d41_40 : decode (xmb 41) 40 = .ok (.iaload, 1) := by decide +kernel
theorem d41_41 : decode (xmb 41) 41 = .ok (.iaload, 1) := by decide +kernel
theorem d41_42 : decode (xmb 41) 42 = .ok (.ireturn, 1) := by decide +kernel
theorem d41_43 : decode (xmb 41) 43 = .ok (.iinc 2 1, 3) := by decide +kernel
theorem d41_46 : decode (xmb 41) 46 = .ok (.goto (-44), 3) := by decide +kernel
theorem d41_49 : decode (xmb 41) 49 = .ok (.iconst (-1), 1) := by decide +kernel
theorem d41_50 : decode (xmb 41) 50 = .ok (.ireturn, 1) := by decide +kernel
theorem d42_0 : decode (xmb 42) 0 = .ok (.iconst 0, 1) := by decide +kernel
theorem d42_1 : decode (xmb 42) 1 = .ok (.istore_n 3, 1) := by decide +kernel
theorem d42_2 : decode (xmb 42) 2 = .ok (.iconst 0, 1) := by decide +kernel
theorem d42_3 : decode (xmb 42) 3 = .ok (.istore 4, 2) := by decide +kernel
theorem d42_5 : decode (xmb 42) 5 = .ok (.iload 4, 2) := by decide +kernel
theorem d42_7 : decode (xmb 42) 7 = .ok (.aload_n 0, 1) := by decide +kernel
theorem d42_8 : decode (xmb 42) 8 = .ok (.getfield 50, 3) := by decide +kernel
theorem d42_11 : decode (xmb 42) 11 = .ok (.if_icmp .ge 28, 3) := by decide +kernel
theorem d42_14 : decode (xmb 42) 14 = .ok (.iload_n 3, 1) := by decide +kernel
theorem d42_15 : decode (xmb 42) 15 = .ok (.aload_n 0, 1) := by decide +kernel
theorem d42_16 : decode (xmb 42) 16 = .ok (.iload_n 1, 1) := by decide +kernel
theorem d42_17 : decode (xmb 42) 17 = .ok (.iload_n 2, 1) := by decide +kernel
theorem d42_18 : decode (xmb 42) 18 = .ok (.aload_n 0, 1) := by decide +kernel
theorem d42_19 : decode (xmb 42) 19 = .ok (.getfield 31, 3) := by decide +kernel
theorem d42_22 : decode (xmb 42) 22 = .ok (.iload 4, 2) := by decide +kernel
theorem d42_24 : decode (xmb 42) 24 = .ok (.iaload, 1) := by decide +kernel
theorem d42_25 : decode (xmb 42) 25 = .ok (.invokevirtual 60, 3) := by decide +kernel
theorem d42_28 : decode (xmb 42) 28 = .ok (.invokestatic 64, 3) := by decide +kernel
theorem d42_31 : decode (xmb 42) 31 = .ok (.iadd, 1) := by decide +kernel
theorem d42_32 : decode (xmb 42) 32 = .ok (.istore_n 3, 1) := by decide +kernel
theorem d42_33 : decode (xmb 42) 33 = .ok (.iinc 4 1, 3) := by decide +kernel
theorem d42_36 : decode (xmb 42) 36 = .ok (.goto (-31), 3) := by decide +kernel
theorem d42_39 : decode (xmb 42) 39 = .ok (.iload_n 3, 1) := by decide +kernel
theorem d42_40 : decode (xmb 42) 40 = .ok (.ireturn, 1) := by decide +kernel
theorem d43_0 : decode (xmb 43) 0 = .ok (.aload_n 0, 1) := by decide +kernel
theorem d43_1 : decode (xmb 43) 1 = .ok (.getfield 18, 3) := by decide +kernel
theorem d43_4 : decode (xmb 43) 4 = .ok (.iload_n 3, 1) := by decide +kernel
theorem d43_5 : decode (xmb 43) 5 = .ok (.iaload, 1) := by decide +kernel
theorem d43_6 : decode (xmb 43) 6 = .ok (.iload_n 1, 1) := by decide +kernel
theorem d43_7 : decode (xmb 43) 7 = .ok (.if_icmp .gt 17, 3) := by decide +kernel
theorem d43_10 : decode (xmb 43) 10 = .ok (.iload_n 1, 1) := by decide +kernel
theorem d43_11 : decode (xmb 43) 11 = .ok (.aload_n 0, 1) := by decide +kernel
theorem d43_12 : decode (xmb 43) 12 = .ok (.getfield 22, 3) := by decide +kernel
theorem d43_15 : decode (xmb 43) 15 = .ok (.iload_n 3, 1) := by decide +kernel
theorem d43_16 : decode (xmb 43) 16 = .ok (.iaload, 1) := by decide +kernel
theorem d43_17 : decode (xmb 43) 17 = .ok (.if_icmp .ge 7, 3) := by decide +kernel
theorem d43_20 : decode (xmb 43) 20 = .ok (.iconst 1, 1) := by decide +kernel
theorem d43_21 : decode (xmb 43) 21 = .ok (.goto 4, 3) := by decide +kernel
theorem d43_24 : decode (xmb 43) 24 = .ok (.iconst 0, 1) := by decide +kernel
theorem d43_25 : decode (xmb 43) 25 = .ok (.istore 4, 2) := by decide +kernel
theorem d43_27 : decode (xmb 43) 27 = .ok (.iload_n 2, 1) := by decide +kernel
theorem d43_28 : decode (xmb 43) 28 = .ok (.ifCond .ne 27, 3) := by decide +kernel
theorem d43_31 : decode (xmb 43) 31 = .ok (.iload 4, 2) := by decide +kernel
theorem d43_33 : decode (xmb 43) 33 = .ok (.ifCond .eq 20, 3) := by decide +kernel
theorem d43_36 : decode (xmb 43) 36 = .ok (.aload_n 0, 1) := by decide +kernel
theorem d43_37 : decode (xmb 43) 37 = .ok (.getfield 12, 3) := by decide +kernel
theorem d43_40 : decode (xmb 43) 40 = .ok (.getfield 68, 3) := by decide +kernel
theorem d43_43 : decode (xmb 43) 43 = .ok (.iload_n 3, 1) := by decide +kernel
theorem d43_44 : decode (xmb 43) 44 = .ok (.iaload, 1) := by decide +kernel
theorem d43_45 : decode (xmb 43) 45 = .ok (.iconst 1, 1) := by decide +kernel
theorem d43_46 : decode (xmb 43) 46 = .ok (.if_icmp .ne 7, 3) := by decide +kernel
theorem d43_49 : decode (xmb 43) 49 = .ok (.iconst 1, 1) := by decide +kernel
theorem d43_50 : decode (xmb 43) 50 = .ok (.goto 4, 3) := by decide +kernel
theorem d43_53 : decode (xmb 43) 53 = .ok (.iconst 0, 1) := by decide +kernel
theorem d43_54 : decode (xmb 43) 54 = .ok (.ireturn, 1) := by decide +kernel
theorem d43_55 : decode (xmb 43) 55 = .ok (.iload_n 2, 1) := by decide +kernel
theorem d43_56 : decode (xmb 43) 56 = .ok (.iconst 4, 1) := by decide +kernel
theorem d43_57 : decode (xmb 43) 57 = .ok (.if_icmp .gt 29, 3) := by decide +kernel
theorem d43_60 : decode (xmb 43) 60 = .ok (.iload 4, 2) := by decide +kernel
theorem d43_62 : decode (xmb 43) 62 = .ok (.ifCond .eq 22, 3) := by decide +kernel
theorem d43_65 : decode (xmb 43) 65 = .ok (.aload_n 0, 1) := by decide +kernel
theorem d43_66 : decode (xmb 43) 66 = .ok (.getfield 12, 3) := by decide +kernel
theorem d43_69 : decode (xmb 43) 69 = .ok (.getfield 71, 3) := by decide +kernel
theorem d43_72 : decode (xmb 43) 72 = .ok (.iload_n 3, 1) := by decide +kernel
theorem d43_73 : decode (xmb 43) 73 = .ok (.iaload, 1) := by decide +kernel
theorem d43_74 : decode (xmb 43) 74 = .ok (.iload_n 2, 1) := by decide +kernel
theorem d43_75 : decode (xmb 43) 75 = .ok (.iconst 1, 1) := by decide +kernel
theorem d43_76 : decode (xmb 43) 76 = .ok (.isub, 1) := by decide +kernel
theorem d43_77 : decode (xmb 43) 77 = .ok (.if_icmp .ne 7, 3) := by decide +kernel
theorem d43_80 : decode (xmb 43) 80 = .ok (.iconst 1, 1) := by decide +kernel
theorem d43_81 : decode (xmb 43) 81 = .ok (.goto 4, 3) := by decide +kernel
theorem d43_84 : decode (xmb 43) 84 = .ok (.iconst 0, 1) := by decide +kernel
theorem d43_85 : decode (xmb 43) 85 = .ok (.ireturn, 1) := by decide +kernel
theorem d43_86 : decode (xmb 43) 86 = .ok (.iload_n 2, 1) := by decide +kernel
theorem d43_87 : decode (xmb 43) 87 = .ok (.bipush 8, 2) := by decide +kernel
theorem d43_89 : decode (xmb 43) 89 = .ok (.if_icmp .gt 45, 3) := by decide +kernel
theorem d43_92 : decode (xmb 43) 92 = .ok (.aload_n 0, 1) := by decide +kernel
theorem d43_93 : decode (xmb 43) 93 = .ok (.getfield 12, 3) := by decide +kernel
theorem d43_96 : decode (xmb 43) 96 = .ok (.getfield 71, 3) := by decide +kernel
theorem d43_99 : decode (xmb 43) 99 = .ok (.iload_n 3, 1) := by decide +kernel
theorem d43_100 : decode (xmb 43) 100 = .ok (.iaload, 1) := by decide +kernel
theorem d43_101 : decode (xmb 43) 101 = .ok (.iload_n 2, 1) := by decide +kernel
theorem d43_102 : decode (xmb 43) 102 = .ok (.iconst 1, 1) := by decide +kernel
theorem d43_103 : decode (xmb 43) 103 = .ok (.isub, 1) := by decide +kernel
theorem d43_104 : decode (xmb 43) 104 = .ok (.iconst 4, 1) := by decide +kernel
theorem d43_105 : decode (xmb 43) 105 = .ok (.isub, 1) := by decide +kernel
theorem d43_106 : decode (xmb 43) 106 = .ok (.if_icmp .ne 26, 3) := by decide +kernel
theorem d43_109 : decode (xmb 43) 109 = .ok (.aload_n 0, 1) := by decide +kernel
theorem d43_110 : decode (xmb 43) 110 = .ok (.getfield 22, 3) := by decide +kernel
theorem d43_113 : decode (xmb 43) 113 = .ok (.iload_n 3, 1) := by decide +kernel
theorem d43_114 : decode (xmb 43) 114 = .ok (.iaload, 1) := by decide +kernel
theorem d43_115 : decode (xmb 43) 115 = .ok (.iload_n 1, 1) := by decide +kernel
theorem d43_116 : decode (xmb 43) 116 = .ok (.if_icmp .gt 16, 3) := by decide +kernel
theorem d43_119 : decode (xmb 43) 119 = .ok (.iload_n 1, 1) := by decide +kernel
theorem d43_120 : decode (xmb 43) 120 = .ok (.aload_n 0, 1) := by decide +kernel
theorem d43_121 : decode (xmb 43) 121 = .ok (.iload_n 3, 1) := by decide +kernel
theorem d43_122 : decode (xmb 43) 122 = .ok (.invokevirtual 74, 3) := by decide +kernel
theorem d43_125 : decode (xmb 43) 125 = .ok (.if_icmp .ge 7, 3) := by decide +kernel
theorem d43_128 : decode (xmb 43) 128 = .ok (.iconst 1, 1) := by decide +kernel
theorem d43_129 : decode (xmb 43) 129 = .ok (.goto 4, 3) := by decide +kernel
theorem d43_132 : decode (xmb 43) 132 = .ok (.iconst 0, 1) := by decide +kernel
theorem d43_133 : decode (xmb 43) 133 = .ok (.ireturn, 1) := by decide +kernel
theorem d43_134 : decode (xmb 43) 134 = .ok (.aload_n 0, 1) := by decide +kernel
theorem d43_135 : decode (xmb 43) 135 = .ok (.getfield 22, 3) := by decide +kernel
theorem d43_138 : decode (xmb 43) 138 = .ok (.iload_n 3, 1) := by decide +kernel
theorem d43_139 : decode (xmb 43) 139 = .ok (.iaload, 1) := by decide +kernel
theorem d43_140 : decode (xmb 43) 140 = .ok (.iload_n 1, 1) := by decide +kernel
theorem d43_141 : decode (xmb 43) 141 = .ok (.if_icmp .gt 7, 3) := by decide +kernel
theorem d43_144 : decode (xmb 43) 144 = .ok (.iconst 1, 1) := by decide +kernel
theorem d43_145 : decode (xmb 43) 145 = .ok (.goto 4, 3) := by decide +kernel
theorem d43_148 : decode (xmb 43) 148 = .ok (.iconst 0, 1) := by decide +kernel
theorem d43_149 : decode (xmb 43) 149 = .ok (.ireturn, 1) := by decide +kernel
theorem d44_0 : decode (xmb 44) 0 = .ok (.aload_n 0, 1) := by decide +kernel
theorem d44_1 : decode (xmb 44) 1 = .ok (.getfield 22, 3) := by decide +kernel
theorem d44_4 : decode (xmb 44) 4 = .ok (.iload_n 1, 1) := by decide +kernel
theorem d44_5 : decode (xmb 44) 5 = .ok (.iaload, 1) := by decide +kernel
theorem d44_6 : decode (xmb 44) 6 = .ok (.aload_n 0, 1) := by decide +kernel
theorem d44_7 : decode (xmb 44) 7 = .ok (.getfield 12, 3) := by decide +kernel
theorem d44_10 : decode (xmb 44) 10 = .ok (.getfield 78, 3) := by decide +kernel
theorem d44_13 : decode (xmb 44) 13 = .ok (.iconst 2, 1) := by decide +kernel
theorem d44_14 : decode (xmb 44) 14 = .ok (.iaload, 1) := by decide +kernel
theorem d44_15 : decode (xmb 44) 15 = .ok (.iadd, 1) := by decide +kernel
theorem d44_16 : decode (xmb 44) 16 = .ok (.ireturn, 1) := by decide +kernel
theorem d45_0 : decode (xmb 45) 0 = .ok (.aload_n 0, 1) := by decide +kernel
theorem d45_1 : decode (xmb 45) 1 = .ok (.invokevirtual 81, 3) := by decide +kernel
theorem d45_4 : decode (xmb 45) 4 = .ok (.aload_n 0, 1) := by decide +kernel
theorem d45_5 : decode (xmb 45) 5 = .ok (.iconst 0, 1) := by decide +kernel
theorem d45_6 : decode (xmb 45) 6 = .ok (.putfield 50, 3) := by decide +kernel
theorem d45_9 : decode (xmb 45) 9 = .ok (.aload_n 0, 1) := by decide +kernel
theorem d45_10 : decode (xmb 45) 10 = .ok (.iconst 0, 1) := by decide +kernel
theorem d45_11 : decode (xmb 45) 11 = .ok (.putfield 84, 3) := by decide +kernel
theorem d45_14 : decode (xmb 45) 14 = .ok (.iconst 0, 1) := by decide +kernel
theorem d45_15 : decode (xmb 45) 15 = .ok (.istore_n 1, 1) := by decide +kernel
theorem d45_16 : decode (xmb 45) 16 = .ok (.iload_n 1, 1) := by decide +kernel
theorem d45_17 : decode (xmb 45) 17 = .ok (.aload_n 0, 1) := by decide +kernel
theorem d45_18 : decode (xmb 45) 18 = .ok (.getfield 12, 3) := by decide +kernel
theorem d45_21 : decode (xmb 45) 21 = .ok (.getfield 40, 3) := by decide +kernel
theorem d45_24 : decode (xmb 45) 24 = .ok (.if_icmp .ge 23, 3) := by decide +kernel
theorem d45_27 : decode (xmb 45) 27 = .ok (.aload_n 0, 1) := by decide +kernel
theorem d45_28 : decode (xmb 45) 28 = .ok (.getfield 18, 3) := by decide +kernel
theorem d45_31 : decode (xmb 45) 31 = .ok (.iload_n 1, 1) := by decide +kernel
theorem d45_32 : decode (xmb 45) 32 = .ok (.iconst (-1), 1) := by decide +kernel
theorem d45_33 : decode (xmb 45) 33 = .ok (.iastore, 1) := by decide +kernel
theorem d45_34 : decode (xmb 45) 34 = .ok (.aload_n 0, 1) := by decide +kernel
theorem d45_35 : decode (xmb 45) 35 = .ok (.getfield 22, 3) := by decide +kernel
theorem d45_38 : decode (xmb 45) 38 = .ok (.iload_n 1, 1) := by decide +kernel
theorem d45_39 : decode (xmb 45) 39 = .ok (.iconst (-1), 1) := by decide +kernel
theorem d45_40 : decode (xmb 45) 40 = .ok (.iastore, 1) := by decide +kernel
theorem d45_41 : decode (xmb 45) 41 = .ok (.iinc 1 1, 3) := by decide +kernel
theorem d45_44 : decode (xmb 45) 44 = .ok (.goto (-28), 3) := by decide +kernel
theorem d45_47 : decode (xmb 45) 47 = .ok (.iconst 0, 1) := by decide +kernel
theorem d45_48 : decode (xmb 45) 48 = .ok (.istore_n 1, 1) := by decide +kernel
theorem d45_49 : decode (xmb 45) 49 = .ok (.iconst 0, 1) := by decide +kernel
theorem d45_50 : decode (xmb 45) 50 = .ok (.istore_n 2, 1) := by decide +kernel
theorem d45_51 : decode (xmb 45) 51 = .ok (.iload_n 2, 1) := by decide +kernel
theorem d45_52 : decode (xmb 45) 52 = .ok (.bipush 28, 2) := by decide +kernel
theorem d45_54 : decode (xmb 45) 54 = .ok (.if_icmp .gt 30, 3) := by decide +kernel
theorem d45_57 : decode (xmb 45) 57 = .ok (.iload_n 1, 1) := by decide +kernel
theorem d45_58 : decode (xmb 45) 58 = .ok (.iconst (-1), 1) := by decide +kernel
theorem d45_59 : decode (xmb 45) 59 = .ok (.if_icmp .eq 25, 3) := by decide +kernel
theorem d45_62 : decode (xmb 45) 62 = .ok (.aload_n 0, 1) := by decide +kernel
theorem d45_63 : decode (xmb 45) 63 = .ok (.iload_n 1, 1) := by decide +kernel
theorem d45_64 : decode (xmb 45) 64 = .ok (.invokevirtual 87, 3) := by decide +kernel
theorem d45_67 : decode (xmb 45) 67 = .ok (.aload_n 0, 1) := by decide +kernel
theorem d45_68 : decode (xmb 45) 68 = .ok (.iload_n 1, 1) := by decide +kernel
theorem d45_69 : decode (xmb 45) 69 = .ok (.invokevirtual 91, 3) := by decide +kernel
theorem d45_72 : decode (xmb 45) 72 = .ok (.aload_n 0, 1) := by decide +kernel
theorem d45_73 : decode (xmb 45) 73 = .ok (.iload_n 1, 1) := by decide +kernel
theorem d45_74 : decode (xmb 45) 74 = .ok (.invokevirtual 94, 3) := by decide +kernel
theorem d45_77 : decode (xmb 45) 77 = .ok (.istore_n 1, 1) := by decide +kernel
theorem d45_78 : decode (xmb 45) 78 = .ok (.iinc 2 1, 3) := by decide +kernel
theorem d45_81 : decode (xmb 45) 81 = .ok (.goto (-30), 3) := by decide +kernel
theorem d45_84 : decode (xmb 45) 84 = .ok (.aload_n 0, 1) := by decide +kernel
theorem d45_85 : decode (xmb 45) 85 = .ok (.aload_n 0, 1) := by decide +kernel
theorem d45_86 : decode (xmb 45) 86 = .ok (.getfield 12, 3) := by decide +kernel
theorem d45_89 : decode (xmb 45) 89 = .ok (.getfield 40, 3) := by decide +kernel
theorem d45_92 : decode (xmb 45) 92 = .ok (.aload_n 0, 1) := by decide +kernel
theorem d45_93 : decode (xmb 45) 93 = .ok (.getfield 50, 3) := by decide +kernel
theorem d45_96 : decode (xmb 45) 96 = .ok (.isub, 1) := by decide +kernel
theorem d45_97 : decode (xmb 45) 97 = .ok (.putfield 97, 3) := by decide +kernel
theorem d45_100 : decode (xmb 45) 100 = .ok (.return_, 1) := by decide +kernel
theorem d46_0 : decode (xmb 46) 0 = .ok (.aload_n 0, 1) := by decide +kernel
theorem d46_1 : decode (xmb 46) 1 = .ok (.getfield 12, 3) := by decide +kernel
theorem d46_4 : decode (xmb 46) 4 = .ok (.getfield 78, 3) := by decide +kernel
theorem d46_7 : decode (xmb 46) 7 = .ok (.iconst 4, 1) := by decide +kernel
theorem d46_8 : decode (xmb 46) 8 = .ok (.iaload, 1) := by decide +kernel
theorem d46_9 : decode (xmb 46) 9 = .ok (.istore_n 1, 1) := by decide +kernel
theorem d46_10 : decode (xmb 46) 10 = .ok (.iload_n 1, 1) := by decide +kernel
theorem d46_11 : decode (xmb 46) 11 = .ok (.iconst 2, 1) := by decide +kernel
theorem d46_12 : decode (xmb 46) 12 = .ok (.if_icmp .ne 7, 3) := by decide +kernel
theorem d46_15 : decode (xmb 46) 15 = .ok (.aload_n 0, 1) := by decide +kernel
theorem d46_16 : decode (xmb 46) 16 = .ok (.invokevirtual 37, 3) := by decide +kernel
theorem d46_19 : decode (xmb 46) 19 = .ok (.iconst 0, 1) := by decide +kernel
theorem d46_20 : decode (xmb 46) 20 = .ok (.istore_n 2, 1) := by decide +kernel
theorem d46_21 : decode (xmb 46) 21 = .ok (.iload_n 2, 1) := by decide +kernel
theorem d46_22 : decode (xmb 46) 22 = .ok (.aload_n 0, 1) := by decide +kernel
theorem d46_23 : decode (xmb 46) 23 = .ok (.getfield 12, 3) := by decide +kernel
theorem d46_26 : decode (xmb 46) 26 = .ok (.getfield 40, 3) := by decide +kernel
theorem d46_29 : decode (xmb 46) 29 = .ok (.if_icmp .ge 21, 3) := by decide +kernel
theorem d46_32 : decode (xmb 46) 32 = .ok (.aload_n 0, 1) := by decide +kernel
theorem d46_33 : decode (xmb 46) 33 = .ok (.getfield 28, 3) := by decide +kernel
theorem d46_36 : decode (xmb 46) 36 = .ok (.iload_n 2, 1) := by decide +kernel
theorem d46_37 : decode (xmb 46) 37 = .ok (.aload_n 0, 1) := by decide +kernel
theorem d46_38 : decode (xmb 46) 38 = .ok (.iload_n 1, 1) := by decide +kernel
theorem d46_39 : decode (xmb 46) 39 = .ok (.iload_n 2, 1) := by decide +kernel
theorem d46_40 : decode (xmb 46) 40 = .ok (.invokevirtual 100, 3) := by decide +kernel
theorem d46_43 : decode (xmb 46) 43 = .ok (.iastore, 1) := by decide +kernel
theorem d46_44 : decode (xmb 46) 44 = .ok (.iinc 2 1, 3) := by decide +kernel
theorem d46_47 : decode (xmb 46) 47 = .ok (.goto (-26), 3) := by decide +kernel
theorem d46_50 : decode (xmb 46) 50 = .ok (.return_, 1) := by decide +kernel
theorem d47_0 : decode (xmb 47) 0 = .ok (.iload_n 1, 1) := by decide +kernel
theorem d47_1 : decode (xmb 47) 1 = .ok (.tableswitch 56 1 3 #[27, 37, 44], 27) := by decide +kernel
theorem d47_28 : decode (xmb 47) 28 = .ok (.aload_n 0, 1) := by decide +kernel
theorem d47_29 : decode (xmb 47) 29 = .ok (.getfield 12, 3) := by decide +kernel
theorem d47_32 : decode (xmb 47) 32 = .ok (.getfield 103, 3) := by decide +kernel
theorem d47_35 : decode (xmb 47) 35 = .ok (.iload_n 2, 1) := by decide +kernel
theorem d47_36 : decode (xmb 47) 36 = .ok (.iaload, 1) := by decide +kernel
theorem d47_37 : decode (xmb 47) 37 = .ok (.ireturn, 1) := by decide +kernel
theorem d47_38 : decode (xmb 47) 38 = .ok (.aload_n 0, 1) := by decide +kernel
theorem d47_39 : decode (xmb 47) 39 = .ok (.getfield 25, 3) := by decide +kernel
theorem d47_42 : decode (xmb 47) 42 = .ok (.iload_n 2, 1) := by decide +kernel
theorem d47_43 : decode (xmb 47) 43 = .ok (.iaload, 1) := by decide +kernel
theorem d47_44 : decode (xmb 47) 44 = .ok (.ireturn, 1) := by decide +kernel
theorem d47_45 : decode (xmb 47) 45 = .ok (.aload_n 0, 1) := by decide +kernel
theorem d47_46 : decode (xmb 47) 46 = .ok (.getfield 12, 3) := by decide +kernel
theorem d47_49 : decode (xmb 47) 49 = .ok (.iload_n 2, 1) := by decide +kernel
theorem d47_50 : decode (xmb 47) 50 = .ok (.invokevirtual 106, 3) := by decide +kernel
theorem d47_53 : decode (xmb 47) 53 = .ok (.invokestatic 109, 3) := by decide +kernel
theorem d47_56 : decode (xmb 47) 56 = .ok (.ireturn, 1) := by decide +kernel
theorem d47_57 : decode (xmb 47) 57 = .ok (.iconst 0, 1) := by decide +kernel
theorem d47_58 : decode (xmb 47) 58 = .ok (.ireturn, 1) := by decide +kernel
theorem d48_0 : decode (xmb 48) 0 = .ok (.aload_n 0, 1) := by decide +kernel
theorem d48_1 : decode (xmb 48) 1 = .ok (.getfield 12, 3) := by decide +kernel
theorem d48_4 : decode (xmb 48) 4 = .ok (.getfield 103, 3) := by decide +kernel
theorem d48_7 : decode (xmb 48) 7 = .ok (.iconst 0, 1) := by decide +kernel
theorem d48_8 : decode (xmb 48) 8 = .ok (.aload_n 0, 1) := by decide +kernel
theorem d48_9 : decode (xmb 48) 9 = .ok (.getfield 25, 3) := by decide +kernel
theorem d48_12 : decode (xmb 48) 12 = .ok (.iconst 0, 1) := by decide +kernel
theorem d48_13 : decode (xmb 48) 13 = .ok (.bipush 14, 2) := by decide +kernel
theorem d48_15 : decode (xmb 48) 15 = .ok (.invokestatic 114, 3) := by decide +kernel
theorem d48_18 : decode (xmb 48) 18 = .ok (.iconst 1, 1) := by decide +kernel
theorem d48_19 : decode (xmb 48) 19 = .ok (.istore_n 1, 1) := by decide +kernel
theorem d48_20 : decode (xmb 48) 20 = .ok (.iload_n 1, 1) := by decide +kernel
theorem d48_21 : decode (xmb 48) 21 = .ok (.aload_n 0, 1) := by decide +kernel
theorem d48_22 : decode (xmb 48) 22 = .ok (.getfield 12, 3) := by decide +kernel
theorem d48_25 : decode (xmb 48) 25 = .ok (.getfield 40, 3) := by decide +kernel
theorem d48_28 : decode (xmb 48) 28 = .ok (.if_icmp .ge 33, 3) := by decide +kernel
theorem d48_31 : decode (xmb 48) 31 = .ok (.iconst 0, 1) := by decide +kernel
theorem d48_32 : decode (xmb 48) 32 = .ok (.istore_n 2, 1) := by decide +kernel
theorem d48_33 : decode (xmb 48) 33 = .ok (.iload_n 2, 1) := by decide +kernel
theorem d48_34 : decode (xmb 48) 34 = .ok (.aload_n 0, 1) := by decide +kernel
theorem d48_35 : decode (xmb 48) 35 = .ok (.getfield 12, 3) := by decide +kernel
theorem d48_38 : decode (xmb 48) 38 = .ok (.getfield 40, 3) := by decide +kernel
theorem d48_41 : decode (xmb 48) 41 = .ok (.if_icmp .ge 14, 3) := by decide +kernel
theorem d48_44 : decode (xmb 48) 44 = .ok (.aload_n 0, 1) := by decide +kernel
theorem d48_45 : decode (xmb 48) 45 = .ok (.iload_n 2, 1) := by decide +kernel
theorem d48_46 : decode (xmb 48) 46 = .ok (.invokevirtual 120, 3) := by decide +kernel
theorem d48_49 : decode (xmb 48) 49 = .ok (.iinc 2 1, 3) := by decide +kernel
theorem d48_52 : decode (xmb 48) 52 = .ok (.goto (-19), 3) := by decide +kernel
theorem d48_55 : decode (xmb 48) 55 = .ok (.iinc 1 1, 3) := by decide +kernel
theorem d48_58 : decode (xmb 48) 58 = .ok (.goto (-38), 3) := by decide +kernel
theorem d48_61 : decode (xmb 48) 61 = .ok (.return_, 1) := by decide +kernel
theorem d49_0 : decode (xmb 49) 0 = .ok (.iconst 0, 1) := by decide +kernel
theorem d49_1 : decode (xmb 49) 1 = .ok (.istore_n 2, 1) := by decide +kernel
theorem d49_2 : decode (xmb 49) 2 = .ok (.iload_n 2, 1) := by decide +kernel
theorem d49_3 : decode (xmb 49) 3 = .ok (.aload_n 0, 1) := by decide +kernel
theorem d49_4 : decode (xmb 49) 4 = .ok (.getfield 12, 3) := by decide +kernel
theorem d49_7 : decode (xmb 49) 7 = .ok (.getfield 40, 3) := by decide +kernel
theorem d49_10 : decode (xmb 49) 10 = .ok (.if_icmp .ge 56, 3) := by decide +kernel
theorem d49_13 : decode (xmb 49) 13 = .ok (.aload_n 0, 1) := by decide +kernel
theorem d49_14 : decode (xmb 49) 14 = .ok (.getfield 12, 3) := by decide +kernel
theorem d49_17 : decode (xmb 49) 17 = .ok (.getfield 123, 3) := by decide +kernel
theorem d49_20 : decode (xmb 49) 20 = .ok (.iload_n 1, 1) := by decide +kernel
theorem d49_21 : decode (xmb 49) 21 = .ok (.iaload, 1) := by decide +kernel
theorem d49_22 : decode (xmb 49) 22 = .ok (.iload_n 2, 1) := by decide +kernel
theorem d49_23 : decode (xmb 49) 23 = .ok (.invokestatic 56, 3) := by decide +kernel
theorem d49_26 : decode (xmb 49) 26 = .ok (.ifCond .eq 34, 3) := by decide +kernel
theorem d49_29 : decode (xmb 49) 29 = .ok (.aload_n 0, 1) := by decide +kernel
theorem d49_30 : decode (xmb 49) 30 = .ok (.getfield 25, 3) := by decide +kernel
theorem d49_33 : decode (xmb 49) 33 = .ok (.iload_n 2, 1) := by decide +kernel
theorem d49_34 : decode (xmb 49) 34 = .ok (.aload_n 0, 1) := by decide +kernel
theorem d49_35 : decode (xmb 49) 35 = .ok (.getfield 25, 3) := by decide +kernel
theorem d49_38 : decode (xmb 49) 38 = .ok (.iload_n 2, 1) := by decide +kernel
theorem d49_39 : decode (xmb 49) 39 = .ok (.iaload, 1) := by decide +kernel
theorem d49_40 : decode (xmb 49) 40 = .ok (.aload_n 0, 1) := by decide +kernel
theorem d49_41 : decode (xmb 49) 41 = .ok (.getfield 12, 3) := by decide +kernel
theorem d49_44 : decode (xmb 49) 44 = .ok (.getfield 103, 3) := by decide +kernel
theorem d49_47 : decode (xmb 49) 47 = .ok (.iload_n 2, 1) := by decide +kernel
theorem d49_48 : decode (xmb 49) 48 = .ok (.iaload, 1) := by decide +kernel
theorem d49_49 : decode (xmb 49) 49 = .ok (.aload_n 0, 1) := by decide +kernel
theorem d49_50 : decode (xmb 49) 50 = .ok (.getfield 25, 3) := by decide +kernel
theorem d49_53 : decode (xmb 49) 53 = .ok (.iload_n 1, 1) := by decide +kernel
theorem d49_54 : decode (xmb 49) 54 = .ok (.iaload, 1) := by decide +kernel
theorem d49_55 : decode (xmb 49) 55 = .ok (.iadd, 1) := by decide +kernel
theorem d49_56 : decode (xmb 49) 56 = .ok (.invokestatic 44, 3) := by decide +kernel
theorem d49_59 : decode (xmb 49) 59 = .ok (.iastore, 1) := by decide +kernel
theorem d49_60 : decode (xmb 49) 60 = .ok (.iinc 2 1, 3) := by decide +kernel
theorem d49_63 : decode (xmb 49) 63 = .ok (.goto (-61), 3) := by decide +kernel
theorem d49_66 : decode (xmb 49) 66 = .ok (.return_, 1) := by decide +kernel
theorem d50_0 : decode (xmb 50) 0 = .ok (.aload_n 0, 1) := by decide +kernel
theorem d50_1 : decode (xmb 50) 1 = .ok (.iconst 0, 1) := by decide +kernel
theorem d50_2 : decode (xmb 50) 2 = .ok (.putfield 126, 3) := by decide +kernel
theorem d50_5 : decode (xmb 50) 5 = .ok (.aload_n 0, 1) := by decide +kernel
theorem d50_6 : decode (xmb 50) 6 = .ok (.aload_n 0, 1) := by decide +kernel
theorem d50_7 : decode (xmb 50) 7 = .ok (.getfield 12, 3) := by decide +kernel
theorem d50_10 : decode (xmb 50) 10 = .ok (.getfield 78, 3) := by decide +kernel
theorem d50_13 : decode (xmb 50) 13 = .ok (.iconst 3, 1) := by decide +kernel
theorem d50_14 : decode (xmb 50) 14 = .ok (.iaload, 1) := by decide +kernel
theorem d50_15 : decode (xmb 50) 15 = .ok (.putfield 129, 3) := by decide +kernel
theorem d50_18 : decode (xmb 50) 18 = .ok (.aload_n 0, 1) := by decide +kernel
theorem d50_19 : decode (xmb 50) 19 = .ok (.getfield 12, 3) := by decide +kernel
theorem d50_22 : decode (xmb 50) 22 = .ok (.getfield 132, 3) := by decide +kernel
theorem d50_25 : decode (xmb 50) 25 = .ok (.iconst 0, 1) := by decide +kernel
theorem d50_26 : decode (xmb 50) 26 = .ok (.aload_n 0, 1) := by decide +kernel
theorem d50_27 : decode (xmb 50) 27 = .ok (.getfield 34, 3) := by decide +kernel
theorem d50_30 : decode (xmb 50) 30 = .ok (.iconst 0, 1) := by decide +kernel
theorem d50_31 : decode (xmb 50) 31 = .ok (.iconst 4, 1) := by decide +kernel
theorem d50_32 : decode (xmb 50) 32 = .ok (.invokestatic 114, 3) := by decide +kernel
theorem d50_35 : decode (xmb 50) 35 = .ok (.iconst 0, 1) := by decide +kernel
theorem d50_36 : decode (xmb 50) 36 = .ok (.istore_n 2, 1) := by decide +kernel
theorem d50_37 : decode (xmb 50) 37 = .ok (.iload_n 2, 1) := by decide +kernel
theorem d50_38 : decode (xmb 50) 38 = .ok (.aload_n 0, 1) := by decide +kernel
theorem d50_39 : decode (xmb 50) 39 = .ok (.getfield 50, 3) := by decide +kernel
theorem d50_42 : decode (xmb 50) 42 = .ok (.if_icmp .ge 74, 3) := by decide +kernel
theorem d50_45 : decode (xmb 50) 45 = .ok (.aload_n 0, 1) := by decide +kernel
theorem d50_46 : decode (xmb 50) 46 = .ok (.getfield 31, 3) := by decide +kernel
theorem d50_49 : decode (xmb 50) 49 = .ok (.iload_n 2, 1) := by decide +kernel
theorem d50_50 : decode (xmb 50) 50 = .ok (.iaload, 1) := by decide +kernel
theorem d50_51 : decode (xmb 50) 51 = .ok (.istore_n 3, 1) := by decide +kernel
theorem d50_52 : decode (xmb 50) 52 = .ok (.aload_n 0, 1) := by decide +kernel
theorem d50_53 : decode (xmb 50) 53 = .ok (.getfield 22, 3) := by decide +kernel
theorem d50_56 : decode (xmb 50) 56 = .ok (.iload_n 3, 1) := by decide +kernel
theorem d50_57 : decode (xmb 50) 57 = .ok (.iaload, 1) := by decide +kernel
theorem d50_58 : decode (xmb 50) 58 = .ok (.iload_n 1, 1) := by decide +kernel
theorem d50_59 : decode (xmb 50) 59 = .ok (.if_icmp .gt 19, 3) := by decide +kernel
theorem d50_62 : decode (xmb 50) 62 = .ok (.aload_n 0, 1) := by decide +kernel
theorem d50_63 : decode (xmb 50) 63 = .ok (.aload_n 0, 1) := by decide +kernel
theorem d50_64 : decode (xmb 50) 64 = .ok (.getfield 126, 3) := by decide +kernel
theorem d50_67 : decode (xmb 50) 67 = .ok (.iload_n 3, 1) := by decide +kernel
theorem d50_68 : decode (xmb 50) 68 = .ok (.iconst 1, 1) := by decide +kernel
theorem d50_69 : decode (xmb 50) 69 = .ok (.invokestatic 135, 3) := by decide +kernel
theorem d50_72 : decode (xmb 50) 72 = .ok (.putfield 126, 3) := by decide +kernel
theorem d50_75 : decode (xmb 50) 75 = .ok (.goto 21, 3) := by decide +kernel
theorem d50_78 : decode (xmb 50) 78 = .ok (.aload_n 0, 1) := by decide +kernel
theorem d50_79 : decode (xmb 50) 79 = .ok (.dup, 1) := by decide +kernel
theorem d50_80 : decode (xmb 50) 80 = .ok (.getfield 129, 3) := by decide +kernel
theorem d50_83 : decode (xmb 50) 83 = .ok (.aload_n 0, 1) := by decide +kernel
theorem d50_84 : decode (xmb 50) 84 = .ok (.getfield 12, 3) := by decide +kernel
theorem d50_87 : decode (xmb 50) 87 = .ok (.getfield 68, 3) := by decide +kernel
theorem d50_90 : decode (xmb 50) 90 = .ok (.iload_n 3, 1) := by decide +kernel
theorem d50_91 : decode (xmb 50) 91 = .ok (.iaload, 1) := by decide +kernel
theorem d50_92 : decode (xmb 50) 92 = .ok (.isub, 1) := by decide +kernel
theorem d50_93 : decode (xmb 50) 93 = .ok (.putfield 129, 3) := by decide +kernel
theorem d50_96 : decode (xmb 50) 96 = .ok (.iload_n 1, 1) := by decide +kernel
theorem d50_97 : decode (xmb 50) 97 = .ok (.aload_n 0, 1) := by decide +kernel
theorem d50_98 : decode (xmb 50) 98 = .ok (.iload_n 3, 1) := by decide +kernel
theorem d50_99 : decode (xmb 50) 99 = .ok (.invokevirtual 74, 3) := by decide +kernel
theorem d50_102 : decode (xmb 50) 102 = .ok (.if_icmp .ge 8, 3) := by decide +kernel
theorem d50_105 : decode (xmb 50) 105 = .ok (.aload_n 0, 1) := by decide +kernel
theorem d50_106 : decode (xmb 50) 106 = .ok (.iload_n 3, 1) := by decide +kernel
theorem d50_107 : decode (xmb 50) 107 = .ok (.invokevirtual 139, 3) := by decide +kernel
theorem d50_110 : decode (xmb 50) 110 = .ok (.iinc 2 1, 3) := by decide +kernel
theorem d50_113 : decode (xmb 50) 113 = .ok (.goto (-76), 3) := by decide +kernel
theorem d50_116 : decode (xmb 50) 116 = .ok (.return_, 1) := by decide +kernel
theorem d51_0 : decode (xmb 51) 0 = .ok (.aload_n 0, 1) := by decide +kernel
theorem d51_1 : decode (xmb 51) 1 = .ok (.getfield 12, 3) := by decide +kernel
theorem d51_4 : decode (xmb 51) 4 = .ok (.getfield 71, 3) := by decide +kernel
theorem d51_7 : decode (xmb 51) 7 = .ok (.iload_n 1, 1) := by decide +kernel
theorem d51_8 : decode (xmb 51) 8 = .ok (.iaload, 1) := by decide +kernel
theorem d51_9 : decode (xmb 51) 9 = .ok (.istore_n 2, 1) := by decide +kernel
theorem d51_10 : decode (xmb 51) 10 = .ok (.iload_n 2, 1) := by decide +kernel
theorem d51_11 : decode (xmb 51) 11 = .ok (.invokestatic 142, 3) := by decide +kernel
theorem d51_14 : decode (xmb 51) 14 = .ok (.ifCond .eq 13, 3) := by decide +kernel
theorem d51_17 : decode (xmb 51) 17 = .ok (.aload_n 0, 1) := by decide +kernel
theorem d51_18 : decode (xmb 51) 18 = .ok (.getfield 34, 3) := by decide +kernel
theorem d51_21 : decode (xmb 51) 21 = .ok (.iload_n 2, 1) := by decide +kernel
theorem d51_22 : decode (xmb 51) 22 = .ok (.dup2, 1) := by decide +kernel
theorem d51_23 : decode (xmb 51) 23 = .ok (.iaload, 1) := by decide +kernel
theorem d51_24 : decode (xmb 51) 24 = .ok (.iconst 1, 1) := by decide +kernel
theorem d51_25 : decode (xmb 51) 25 = .ok (.isub, 1) := by decide +kernel
theorem d51_26 : decode (xmb 51) 26 = .ok (.iastore, 1) := by decide +kernel
theorem d51_27 : decode (xmb 51) 27 = .ok (.return_, 1) := by decide +kernel
theorem d52_0 : decode (xmb 52) 0 = .ok (.iconst 0, 1) := by decide +kernel
theorem d52_1 : decode (xmb 52) 1 = .ok (.istore_n 2, 1) := by decide +kernel
theorem d52_2 : decode (xmb 52) 2 = .ok (.iload_n 2, 1) := by decide +kernel
theorem d52_3 : decode (xmb 52) 3 = .ok (.aload_n 0, 1) := by decide +kernel
theorem d52_4 : decode (xmb 52) 4 = .ok (.getfield 12, 3) := by decide +kernel
theorem d52_7 : decode (xmb 52) 7 = .ok (.getfield 40, 3) := by decide +kernel
theorem d52_10 : decode (xmb 52) 10 = .ok (.if_icmp .ge 104, 3) := by decide +kernel
theorem d52_13 : decode (xmb 52) 13 = .ok (.aload_n 0, 1) := by decide +kernel
theorem d52_14 : decode (xmb 52) 14 = .ok (.invokevirtual 146, 3) := by decide +kernel
theorem d52_17 : decode (xmb 52) 17 = .ok (.istore_n 3, 1) := by decide +kernel
theorem d52_18 : decode (xmb 52) 18 = .ok (.iload_n 3, 1) := by decide +kernel
theorem d52_19 : decode (xmb 52) 19 = .ok (.iconst (-1), 1) := by decide +kernel
theorem d52_20 : decode (xmb 52) 20 = .ok (.if_icmp .ne 4, 3) := by decide +kernel
theorem d52_23 : decode (xmb 52) 23 = .ok (.return_, 1) := by decide +kernel
theorem d52_24 : decode (xmb 52) 24 = .ok (.aload_n 0, 1) := by decide +kernel
theorem d52_25 : decode (xmb 52) 25 = .ok (.getfield 18, 3) := by decide +kernel
theorem d52_28 : decode (xmb 52) 28 = .ok (.iload_n 3, 1) := by decide +kernel
theorem d52_29 : decode (xmb 52) 29 = .ok (.iload_n 1, 1) := by decide +kernel
theorem d52_30 : decode (xmb 52) 30 = .ok (.iastore, 1) := by decide +kernel
theorem d52_31 : decode (xmb 52) 31 = .ok (.aload_n 0, 1) := by decide +kernel
theorem d52_32 : decode (xmb 52) 32 = .ok (.getfield 22, 3) := by decide +kernel
theorem d52_35 : decode (xmb 52) 35 = .ok (.iload_n 3, 1) := by decide +kernel
theorem d52_36 : decode (xmb 52) 36 = .ok (.iload_n 1, 1) := by decide +kernel
theorem d52_37 : decode (xmb 52) 37 = .ok (.aload_n 0, 1) := by decide +kernel
theorem d52_38 : decode (xmb 52) 38 = .ok (.getfield 12, 3) := by decide +kernel
theorem d52_41 : decode (xmb 52) 41 = .ok (.getfield 103, 3) := by decide +kernel
theorem d52_44 : decode (xmb 52) 44 = .ok (.iload_n 3, 1) := by decide +kernel
theorem d52_45 : decode (xmb 52) 45 = .ok (.iaload, 1) := by decide +kernel
theorem d52_46 : decode (xmb 52) 46 = .ok (.iadd, 1) := by decide +kernel
theorem d52_47 : decode (xmb 52) 47 = .ok (.iastore, 1) := by decide +kernel
theorem d52_48 : decode (xmb 52) 48 = .ok (.aload_n 0, 1) := by decide +kernel
theorem d52_49 : decode (xmb 52) 49 = .ok (.getfield 31, 3) := by decide +kernel
theorem d52_52 : decode (xmb 52) 52 = .ok (.aload_n 0, 1) := by decide +kernel
theorem d52_53 : decode (xmb 52) 53 = .ok (.getfield 50, 3) := by decide +kernel
theorem d52_56 : decode (xmb 52) 56 = .ok (.iload_n 3, 1) := by decide +kernel
theorem d52_57 : decode (xmb 52) 57 = .ok (.iastore, 1) := by decide +kernel
theorem d52_58 : decode (xmb 52) 58 = .ok (.aload_n 0, 1) := by decide +kernel
theorem d52_59 : decode (xmb 52) 59 = .ok (.dup, 1) := by decide +kernel
theorem d52_60 : decode (xmb 52) 60 = .ok (.getfield 50, 3) := by decide +kernel
theorem d52_63 : decode (xmb 52) 63 = .ok (.iconst 1, 1) := by decide +kernel
theorem d52_64 : decode (xmb 52) 64 = .ok (.iadd, 1) := by decide +kernel
theorem d52_65 : decode (xmb 52) 65 = .ok (.putfield 50, 3) := by decide +kernel
theorem d52_68 : decode (xmb 52) 68 = .ok (.aload_n 0, 1) := by decide +kernel
theorem d52_69 : decode (xmb 52) 69 = .ok (.aload_n 0, 1) := by decide +kernel
theorem d52_70 : decode (xmb 52) 70 = .ok (.getfield 84, 3) := by decide +kernel
theorem d52_73 : decode (xmb 52) 73 = .ok (.aload_n 0, 1) := by decide +kernel
theorem d52_74 : decode (xmb 52) 74 = .ok (.getfield 22, 3) := by decide +kernel
theorem d52_77 : decode (xmb 52) 77 = .ok (.iload_n 3, 1) := by decide +kernel
theorem d52_78 : decode (xmb 52) 78 = .ok (.iaload, 1) := by decide +kernel
theorem d52_79 : decode (xmb 52) 79 = .ok (.invokestatic 44, 3) := by decide +kernel
theorem d52_82 : decode (xmb 52) 82 = .ok (.putfield 84, 3) := by decide +kernel
theorem d52_85 : decode (xmb 52) 85 = .ok (.aload_n 0, 1) := by decide +kernel
theorem d52_86 : decode (xmb 52) 86 = .ok (.dup, 1) := by decide +kernel
theorem d52_87 : decode (xmb 52) 87 = .ok (.getfield 129, 3) := by decide +kernel
theorem d52_90 : decode (xmb 52) 90 = .ok (.aload_n 0, 1) := by decide +kernel
theorem d52_91 : decode (xmb 52) 91 = .ok (.getfield 12, 3) := by decide +kernel
theorem d52_94 : decode (xmb 52) 94 = .ok (.getfield 68, 3) := by decide +kernel
theorem d52_97 : decode (xmb 52) 97 = .ok (.iload_n 3, 1) := by decide +kernel
theorem d52_98 : decode (xmb 52) 98 = .ok (.iaload, 1) := by decide +kernel
theorem d52_99 : decode (xmb 52) 99 = .ok (.isub, 1) := by decide +kernel
theorem d52_100 : decode (xmb 52) 100 = .ok (.putfield 129, 3) := by decide +kernel
theorem d52_103 : decode (xmb 52) 103 = .ok (.aload_n 0, 1) := by decide +kernel
theorem d52_104 : decode (xmb 52) 104 = .ok (.iload_n 3, 1) := by decide +kernel
theorem d52_105 : decode (xmb 52) 105 = .ok (.invokevirtual 139, 3) := by decide +kernel
theorem d52_108 : decode (xmb 52) 108 = .ok (.iinc 2 1, 3) := by decide +kernel
theorem d52_111 : decode (xmb 52) 111 = .ok (.goto (-109), 3) := by decide +kernel
theorem d52_114 : decode (xmb 52) 114 = .ok (.return_, 1) := by decide +kernel
theorem d53_0 : decode (xmb 53) 0 = .ok (.iconst (-1), 1) := by decide +kernel
theorem d53_1 : decode (xmb 53) 1 = .ok (.istore_n 1, 1) := by decide +kernel
theorem d53_2 : decode (xmb 53) 2 = .ok (.iconst 0, 1) := by decide +kernel
theorem d53_3 : decode (xmb 53) 3 = .ok (.istore_n 2, 1) := by decide +kernel
theorem d53_4 : decode (xmb 53) 4 = .ok (.iload_n 2, 1) := by decide +kernel
theorem d53_5 : decode (xmb 53) 5 = .ok (.aload_n 0, 1) := by decide +kernel
theorem d53_6 : decode (xmb 53) 6 = .ok (.getfield 12, 3) := by decide +kernel
theorem d53_9 : decode (xmb 53) 9 = .ok (.getfield 40, 3) := by decide +kernel
theorem d53_12 : decode (xmb 53) 12 = .ok (.if_icmp .ge 39, 3) := by decide +kernel
theorem d53_15 : decode (xmb 53) 15 = .ok (.aload_n 0, 1) := by decide +kernel
theorem d53_16 : decode (xmb 53) 16 = .ok (.iload_n 2, 1) := by decide +kernel
theorem d53_17 : decode (xmb 53) 17 = .ok (.invokevirtual 150, 3) := by decide +kernel
theorem d53_20 : decode (xmb 53) 20 = .ok (.ifCond .eq 25, 3) := by decide +kernel
theorem d53_23 : decode (xmb 53) 23 = .ok (.iload_n 1, 1) := by decide +kernel
theorem d53_24 : decode (xmb 53) 24 = .ok (.iconst (-1), 1) := by decide +kernel
theorem d53_25 : decode (xmb 53) 25 = .ok (.if_icmp .eq 18, 3) := by decide +kernel
theorem d53_28 : decode (xmb 53) 28 = .ok (.aload_n 0, 1) := by decide +kernel
theorem d53_29 : decode (xmb 53) 29 = .ok (.getfield 28, 3) := by decide +kernel
theorem d53_32 : decode (xmb 53) 32 = .ok (.iload_n 2, 1) := by decide +kernel
theorem d53_33 : decode (xmb 53) 33 = .ok (.iaload, 1) := by decide +kernel
theorem d53_34 : decode (xmb 53) 34 = .ok (.aload_n 0, 1) := by decide +kernel
theorem d53_35 : decode (xmb 53) 35 = .ok (.getfield 28, 3) := by decide +kernel
theorem d53_38 : decode (xmb 53) 38 = .ok (.iload_n 1, 1) := by decide +kernel
theorem d53_39 : decode (xmb 53) 39 = .ok (.iaload, 1) := by decide +kernel
theorem d53_40 : decode (xmb 53) 40 = .ok (.if_icmp .le 5, 3) := by decide +kernel
theorem d53_43 : decode (xmb 53) 43 = .ok (.iload_n 2, 1) := by decide +kernel
theorem d53_44 : decode (xmb 53) 44 = .ok (.istore_n 1, 1) := by decide +kernel
theorem d53_45 : decode (xmb 53) 45 = .ok (.iinc 2 1, 3) := by decide +kernel
theorem d53_48 : decode (xmb 53) 48 = .ok (.goto (-44), 3) := by decide +kernel
theorem d53_51 : decode (xmb 53) 51 = .ok (.iload_n 1, 1) := by decide +kernel
theorem d53_52 : decode (xmb 53) 52 = .ok (.ireturn, 1) := by decide +kernel
theorem d54_0 : decode (xmb 54) 0 = .ok (.aload_n 0, 1) := by decide +kernel
theorem d54_1 : decode (xmb 54) 1 = .ok (.getfield 12, 3) := by decide +kernel
theorem d54_4 : decode (xmb 54) 4 = .ok (.getfield 71, 3) := by decide +kernel
theorem d54_7 : decode (xmb 54) 7 = .ok (.iload_n 1, 1) := by decide +kernel
theorem d54_8 : decode (xmb 54) 8 = .ok (.iaload, 1) := by decide +kernel
theorem d54_9 : decode (xmb 54) 9 = .ok (.istore_n 2, 1) := by decide +kernel
theorem d54_10 : decode (xmb 54) 10 = .ok (.aload_n 0, 1) := by decide +kernel
theorem d54_11 : decode (xmb 54) 11 = .ok (.getfield 18, 3) := by decide +kernel
theorem d54_14 : decode (xmb 54) 14 = .ok (.iload_n 1, 1) := by decide +kernel
theorem d54_15 : decode (xmb 54) 15 = .ok (.iaload, 1) := by decide +kernel
theorem d54_16 : decode (xmb 54) 16 = .ok (.iconst (-1), 1) := by decide +kernel
theorem d54_17 : decode (xmb 54) 17 = .ok (.if_icmp .ne 58, 3) := by decide +kernel
theorem d54_20 : decode (xmb 54) 20 = .ok (.aload_n 0, 1) := by decide +kernel
theorem d54_21 : decode (xmb 54) 21 = .ok (.getfield 12, 3) := by decide +kernel
theorem d54_24 : decode (xmb 54) 24 = .ok (.getfield 123, 3) := by decide +kernel
theorem d54_27 : decode (xmb 54) 27 = .ok (.iload_n 1, 1) := by decide +kernel
theorem d54_28 : decode (xmb 54) 28 = .ok (.iaload, 1) := by decide +kernel
theorem d54_29 : decode (xmb 54) 29 = .ok (.aload_n 0, 1) := by decide +kernel
theorem d54_30 : decode (xmb 54) 30 = .ok (.getfield 126, 3) := by decide +kernel
theorem d54_33 : decode (xmb 54) 33 = .ok (.iconst (-1), 1) := by decide +kernel
theorem d54_34 : decode (xmb 54) 34 = .ok (.ixor, 1) := by decide +kernel
theorem d54_35 : decode (xmb 54) 35 = .ok (.iand, 1) := by decide +kernel
theorem d54_36 : decode (xmb 54) 36 = .ok (.ifCond .ne 39, 3) := by decide +kernel
theorem d54_39 : decode (xmb 54) 39 = .ok (.aload_n 0, 1) := by decide +kernel
theorem d54_40 : decode (xmb 54) 40 = .ok (.getfield 129, 3) := by decide +kernel
theorem d54_43 : decode (xmb 54) 43 = .ok (.aload_n 0, 1) := by decide +kernel
theorem d54_44 : decode (xmb 54) 44 = .ok (.getfield 12, 3) := by decide +kernel
theorem d54_47 : decode (xmb 54) 47 = .ok (.getfield 68, 3) := by decide +kernel
theorem d54_50 : decode (xmb 54) 50 = .ok (.iload_n 1, 1) := by decide +kernel
theorem d54_51 : decode (xmb 54) 51 = .ok (.iaload, 1) := by decide +kernel
theorem d54_52 : decode (xmb 54) 52 = .ok (.if_icmp .lt 23, 3) := by decide +kernel
theorem d54_55 : decode (xmb 54) 55 = .ok (.iload_n 2, 1) := by decide +kernel
theorem d54_56 : decode (xmb 54) 56 = .ok (.invokestatic 142, 3) := by decide +kernel
theorem d54_59 : decode (xmb 54) 59 = .ok (.ifCond .eq 12, 3) := by decide +kernel
theorem d54_62 : decode (xmb 54) 62 = .ok (.aload_n 0, 1) := by decide +kernel
theorem d54_63 : decode (xmb 54) 63 = .ok (.getfield 34, 3) := by decide +kernel
theorem d54_66 : decode (xmb 54) 66 = .ok (.iload_n 2, 1) := by decide +kernel
theorem d54_67 : decode (xmb 54) 67 = .ok (.iaload, 1) := by decide +kernel
theorem d54_68 : decode (xmb 54) 68 = .ok (.ifCond .le 7, 3) := by decide +kernel
theorem d54_71 : decode (xmb 54) 71 = .ok (.iconst 1, 1) := by decide +kernel
theorem d54_72 : decode (xmb 54) 72 = .ok (.goto 4, 3) := by decide +kernel
theorem d54_75 : decode (xmb 54) 75 = .ok (.iconst 0, 1) := by decide +kernel
theorem d54_76 : decode (xmb 54) 76 = .ok (.ireturn, 1) := by decide +kernel
theorem d55_0 : decode (xmb 55) 0 = .ok (.iconst (-1), 1) := by decide +kernel
theorem d55_1 : decode (xmb 55) 1 = .ok (.istore_n 2, 1) := by decide +kernel
theorem d55_2 : decode (xmb 55) 2 = .ok (.iconst 0, 1) := by decide +kernel
theorem d55_3 : decode (xmb 55) 3 = .ok (.istore_n 3, 1) := by decide +kernel
theorem d55_4 : decode (xmb 55) 4 = .ok (.iload_n 3, 1) := by decide +kernel
theorem d55_5 : decode (xmb 55) 5 = .ok (.aload_n 0, 1) := by decide +kernel
theorem d55_6 : decode (xmb 55) 6 = .ok (.getfield 50, 3) := by decide +kernel
theorem d55_9 : decode (xmb 55) 9 = .ok (.if_icmp .ge 42, 3) := by decide +kernel
theorem d55_12 : decode (xmb 55) 12 = .ok (.aload_n 0, 1) := by decide +kernel
theorem d55_13 : decode (xmb 55) 13 = .ok (.getfield 31, 3) := by decide +kernel
theorem d55_16 : decode (xmb 55) 16 = .ok (.iload_n 3, 1) := by decide +kernel
theorem d55_17 : decode (xmb 55) 17 = .ok (.iaload, 1) := by decide +kernel
theorem d55_18 : decode (xmb 55) 18 = .ok (.istore 4, 2) := by decide +kernel
theorem d55_20 : decode (xmb 55) 20 = .ok (.iload_n 2, 1) := by decide +kernel
theorem d55_21 : decode (xmb 55) 21 = .ok (.aload_n 0, 1) := by decide +kernel
theorem d55_22 : decode (xmb 55) 22 = .ok (.getfield 22, 3) := by decide +kernel
theorem d55_25 : decode (xmb 55) 25 = .ok (.iload 4, 2) := by decide +kernel
theorem d55_27 : decode (xmb 55) 27 = .ok (.iaload, 1) := by decide +kernel
theorem d55_28 : decode (xmb 55) 28 = .ok (.iload_n 1, 1) := by decide +kernel
theorem d55_29 : decode (xmb 55) 29 = .ok (.invokestatic 153, 3) := by decide +kernel
theorem d55_32 : decode (xmb 55) 32 = .ok (.istore_n 2, 1) := by decide +kernel
theorem d55_33 : decode (xmb 55) 33 = .ok (.iload_n 2, 1) := by decide +kernel
theorem d55_34 : decode (xmb 55) 34 = .ok (.aload_n 0, 1) := by decide +kernel
theorem d55_35 : decode (xmb 55) 35 = .ok (.iload 4, 2) := by decide +kernel
theorem d55_37 : decode (xmb 55) 37 = .ok (.invokevirtual 74, 3) := by decide +kernel
theorem d55_40 : decode (xmb 55) 40 = .ok (.iload_n 1, 1) := by decide +kernel
theorem d55_41 : decode (xmb 55) 41 = .ok (.invokestatic 153, 3) := by decide +kernel
theorem d55_44 : decode (xmb 55) 44 = .ok (.istore_n 2, 1) := by decide +kernel
theorem d55_45 : decode (xmb 55) 45 = .ok (.iinc 3 1, 3) := by decide +kernel
theorem d55_48 : decode (xmb 55) 48 = .ok (.goto (-44), 3) := by decide +kernel
theorem d55_51 : decode (xmb 55) 51 = .ok (.iload_n 2, 1) := by decide +kernel
theorem d55_52 : decode (xmb 55) 52 = .ok (.ireturn, 1) := by decide +kernel
theorem d56_0 : decode (xmb 56) 0 = .ok (.iload_n 1, 1) := by decide +kernel
theorem d56_1 : decode (xmb 56) 1 = .ok (.iload_n 2, 1) := by decide +kernel
theorem d56_2 : decode (xmb 56) 2 = .ok (.if_icmp .le 17, 3) := by decide +kernel
theorem d56_5 : decode (xmb 56) 5 = .ok (.iload_n 0, 1) := by decide +kernel
theorem d56_6 : decode (xmb 56) 6 = .ok (.iconst (-1), 1) := by decide +kernel
theorem d56_7 : decode (xmb 56) 7 = .ok (.if_icmp .eq 8, 3) := by decide +kernel
theorem d56_10 : decode (xmb 56) 10 = .ok (.iload_n 1, 1) := by decide +kernel
theorem d56_11 : decode (xmb 56) 11 = .ok (.iload_n 0, 1) := by decide +kernel
theorem d56_12 : decode (xmb 56) 12 = .ok (.if_icmp .ge 7, 3) := by decide +kernel
theorem d56_15 : decode (xmb 56) 15 = .ok (.iload_n 1, 1) := by decide +kernel
theorem d56_16 : decode (xmb 56) 16 = .ok (.goto 4, 3) := by decide +kernel
theorem d56_19 : decode (xmb 56) 19 = .ok (.iload_n 0, 1) := by decide +kernel
theorem d56_20 : decode (xmb 56) 20 = .ok (.ireturn, 1) := by decide +kernel
theorem d58_0 : decode (xmb 58) 0 = .ok (.iload_n 1, 1) := by decide +kernel
theorem d58_1 : decode (xmb 58) 1 = .ok (.iconst 0, 1) := by decide +kernel
theorem d58_2 : decode (xmb 58) 2 = .ok (.sipush 255, 3) := by decide +kernel
theorem d58_5 : decode (xmb 58) 5 = .ok (.invokestatic 54, 3) := by decide +kernel
theorem d58_8 : decode (xmb 58) 8 = .ok (.invokestatic 58, 3) := by decide +kernel
theorem d58_11 : decode (xmb 58) 11 = .ok (.aload_n 0, 1) := by decide +kernel
theorem d58_12 : decode (xmb 58) 12 = .ok (.getfield 10, 3) := by decide +kernel
theorem d58_15 : decode (xmb 58) 15 = .ok (.getfield 62, 3) := by decide +kernel
theorem d58_18 : decode (xmb 58) 18 = .ok (.bipush 120, 2) := by decide +kernel
theorem d58_20 : decode (xmb 58) 20 = .ok (.if_icmp .ge 7, 3) := by decide +kernel
theorem d58_23 : decode (xmb 58) 23 = .ok (.iconst 1, 1) := by decide +kernel
theorem d58_24 : decode (xmb 58) 24 = .ok (.goto 4, 3) := by decide +kernel
theorem d58_27 : decode (xmb 58) 27 = .ok (.iconst 0, 1) := by decide +kernel
theorem d58_28 : decode (xmb 58) 28 = .ok (.invokestatic 66, 3) := by decide +kernel
theorem d58_31 : decode (xmb 58) 31 = .ok (.aload_n 0, 1) := by decide +kernel
theorem d58_32 : decode (xmb 58) 32 = .ok (.getfield 10, 3) := by decide +kernel
theorem d58_35 : decode (xmb 58) 35 = .ok (.iload_n 1, 1) := by decide +kernel
theorem d58_36 : decode (xmb 58) 36 = .ok (.i2c, 1) := by decide +kernel
theorem d58_37 : decode (xmb 58) 37 = .ok (.invokevirtual 69, 3) := by decide +kernel
theorem d58_40 : decode (xmb 58) 40 = .ok (.ireturn, 1) := by decide +kernel
theorem d59_0 : decode (xmb 59) 0 = .ok (.aload_n 0, 1) := by decide +kernel
theorem d59_1 : decode (xmb 59) 1 = .ok (.getfield 10, 3) := by decide +kernel
theorem d59_4 : decode (xmb 59) 4 = .ok (.getfield 62, 3) := by decide +kernel
theorem d59_7 : decode (xmb 59) 7 = .ok (.istore_n 1, 1) := by decide +kernel
theorem d59_8 : decode (xmb 59) 8 = .ok (.aload_n 0, 1) := by decide +kernel
theorem d59_9 : decode (xmb 59) 9 = .ok (.getfield 10, 3) := by decide +kernel
theorem d59_12 : decode (xmb 59) 12 = .ok (.iconst 0, 1) := by decide +kernel
theorem d59_13 : decode (xmb 59) 13 = .ok (.putfield 62, 3) := by decide +kernel
theorem d59_16 : decode (xmb 59) 16 = .ok (.iload_n 1, 1) := by decide +kernel
theorem d59_17 : decode (xmb 59) 17 = .ok (.ireturn, 1) := by decide +kernel
theorem d60_0 : decode (xmb 60) 0 = .ok (.aload_n 0, 1) := by decide +kernel
theorem d60_1 : decode (xmb 60) 1 = .ok (.getfield 10, 3) := by decide +kernel
theorem d60_4 : decode (xmb 60) 4 = .ok (.aload_n 0, 1) := by decide +kernel
theorem d60_5 : decode (xmb 60) 5 = .ok (.getfield 33, 3) := by decide +kernel
theorem d60_8 : decode (xmb 60) 8 = .ok (.invokevirtual 73, 3) := by decide +kernel
theorem d60_11 : decode (xmb 60) 11 = .ok (.ireturn, 1) := by decide +kernel
theorem d61_0 : decode (xmb 61) 0 = .ok (.aload_n 0, 1) := by decide +kernel
theorem d61_1 : decode (xmb 61) 1 = .ok (.getfield 10, 3) := by decide +kernel
theorem d61_4 : decode (xmb 61) 4 = .ok (.aload_n 0, 1) := by decide +kernel
theorem d61_5 : decode (xmb 61) 5 = .ok (.getfield 33, 3) := by decide +kernel
theorem d61_8 : decode (xmb 61) 8 = .ok (.invokevirtual 73, 3) := by decide +kernel
theorem d61_11 : decode (xmb 61) 11 = .ok (.iconst (-1), 1) := by decide +kernel
theorem d61_12 : decode (xmb 61) 12 = .ok (.if_icmp .ne 7, 3) := by decide +kernel
theorem d61_15 : decode (xmb 61) 15 = .ok (.iconst 1, 1) := by decide +kernel
theorem d61_16 : decode (xmb 61) 16 = .ok (.goto 4, 3) := by decide +kernel
theorem d61_19 : decode (xmb 61) 19 = .ok (.iconst 0, 1) := by decide +kernel
theorem d61_20 : decode (xmb 61) 20 = .ok (.invokestatic 66, 3) := by decide +kernel
theorem d61_23 : decode (xmb 61) 23 = .ok (.aload_n 0, 1) := by decide +kernel
theorem d61_24 : decode (xmb 61) 24 = .ok (.getfield 27, 3) := by decide +kernel
theorem d61_27 : decode (xmb 61) 27 = .ok (.aload_n 0, 1) := by decide +kernel
theorem d61_28 : decode (xmb 61) 28 = .ok (.getfield 33, 3) := by decide +kernel
theorem d61_31 : decode (xmb 61) 31 = .ok (.invokevirtual 77, 3) := by decide +kernel
theorem d61_34 : decode (xmb 61) 34 = .ok (.aload_n 0, 1) := by decide +kernel
theorem d61_35 : decode (xmb 61) 35 = .ok (.getfield 39, 3) := by decide +kernel
theorem d61_38 : decode (xmb 61) 38 = .ok (.invokevirtual 81, 3) := by decide +kernel
theorem d61_41 : decode (xmb 61) 41 = .ok (.iconst 0, 1) := by decide +kernel
theorem d61_42 : decode (xmb 61) 42 = .ok (.istore_n 1, 1) := by decide +kernel
theorem d61_43 : decode (xmb 61) 43 = .ok (.iload_n 1, 1) := by decide +kernel
theorem d61_44 : decode (xmb 61) 44 = .ok (.iconst 2, 1) := by decide +kernel
theorem d61_45 : decode (xmb 61) 45 = .ok (.if_icmp .ge 16, 3) := by decide +kernel
theorem d61_48 : decode (xmb 61) 48 = .ok (.aload_n 0, 1) := by decide +kernel
theorem d61_49 : decode (xmb 61) 49 = .ok (.getfield 50, 3) := by decide +kernel
theorem d61_52 : decode (xmb 61) 52 = .ok (.iload_n 1, 1) := by decide +kernel
theorem d61_53 : decode (xmb 61) 53 = .ok (.iconst 0, 1) := by decide +kernel
theorem d61_54 : decode (xmb 61) 54 = .ok (.bastore, 1) := by decide +kernel
theorem d61_55 : decode (xmb 61) 55 = .ok (.iinc 1 1, 3) := by decide +kernel
theorem d61_58 : decode (xmb 61) 58 = .ok (.goto (-15), 3) := by decide +kernel
theorem d61_61 : decode (xmb 61) 61 = .ok (.aload_n 0, 1) := by decide +kernel
theorem d61_62 : decode (xmb 61) 62 = .ok (.getfield 10, 3) := by decide +kernel
theorem d61_65 : decode (xmb 61) 65 = .ok (.getfield 84, 3) := by decide +kernel
theorem d61_68 : decode (xmb 61) 68 = .ok (.ireturn, 1) := by decide +kernel
theorem d62_0 : decode (xmb 62) 0 = .ok (.iload_n 1, 1) := by decide +kernel
theorem d62_1 : decode (xmb 62) 1 = .ok (.iconst 0, 1) := by decide +kernel
theorem d62_2 : decode (xmb 62) 2 = .ok (.bipush 9, 2) := by decide +kernel
theorem d62_4 : decode (xmb 62) 4 = .ok (.invokestatic 54, 3) := by decide +kernel
theorem d62_7 : decode (xmb 62) 7 = .ok (.invokestatic 58, 3) := by decide +kernel
theorem d62_10 : decode (xmb 62) 10 = .ok (.iload_n 1, 1) := by decide +kernel
theorem d62_11 : decode (xmb 62) 11 = .ok (.tableswitch 142 0 8 #[49, 57, 65, 73, 81, 96, 111, 126, 134], 49) := by decide +kernel
theorem d62_60 : decode (xmb 62) 60 = .ok (.aload_n 0, 1) := by decide +kernel
theorem d62_61 : decode (xmb 62) 61 = .ok (.getfield 27, 3) := by decide +kernel
theorem d62_64 : decode (xmb 62) 64 = .ok (.getfield 87, 3) := by decide +kernel
theorem d62_67 : decode (xmb 62) 67 = .ok (.ireturn, 1) := by decide +kernel
theorem d62_68 : decode (xmb 62) 68 = .ok (.aload_n 0, 1) := by decide +kernel
theorem d62_69 : decode (xmb 62) 69 = .ok (.getfield 27, 3) := by decide +kernel
theorem d62_72 : decode (xmb 62) 72 = .ok (.getfield 90, 3) := by decide +kernel
theorem d62_75 : decode (xmb 62) 75 = .ok (.ireturn, 1) := by decide +kernel
theorem d62_76 : decode (xmb 62) 76 = .ok (.aload_n 0, 1) := by decide +kernel
theorem d62_77 : decode (xmb 62) 77 = .ok (.getfield 27, 3) := by decide +kernel
theorem d62_80 : decode (xmb 62) 80 = .ok (.getfield 93, 3) := by decide +kernel
theorem d62_83 : decode (xmb 62) 83 = .ok (.ireturn, 1) := by decide +kernel
theorem d62_84 : decode (xmb 62) 84 = .ok (.aload_n 0, 1) := by decide +kernel
theorem d62_85 : decode (xmb 62) 85 = .ok (.getfield 27, 3) := by decide +kernel
theorem d62_88 : decode (xmb 62) 88 = .ok (.getfield 96, 3) := by decide +kernel
theorem d62_91 : decode (xmb 62) 91 = .ok (.ireturn, 1) := by decide +kernel
theorem d62_92 : decode (xmb 62) 92 = .ok (.aload_n 0, 1) := by decide +kernel
theorem d62_93 : decode (xmb 62) 93 = .ok (.getfield 27, 3) := by decide +kernel
theorem d62_96 : decode (xmb 62) 96 = .ok (.aload_n 0, 1) := by decide +kernel
theorem d62_97 : decode (xmb 62) 97 = .ok (.getfield 27, 3) := by decide +kernel
theorem d62_100 : decode (xmb 62) 100 = .ok (.getfield 96, 3) := by decide +kernel
theorem d62_103 : decode (xmb 62) 103 = .ok (.invokevirtual 99, 3) := by decide +kernel
theorem d62_106 : decode (xmb 62) 106 = .ok (.ireturn, 1) := by decide +kernel
theorem d62_107 : decode (xmb 62) 107 = .ok (.aload_n 0, 1) := by decide +kernel
theorem d62_108 : decode (xmb 62) 108 = .ok (.getfield 19, 3) := by decide +kernel
theorem d62_111 : decode (xmb 62) 111 = .ok (.invokevirtual 103, 3) := by decide +kernel
theorem d62_114 : decode (xmb 62) 114 = .ok (.aload_n 0, 1) := by decide +kernel
theorem d62_115 : decode (xmb 62) 115 = .ok (.getfield 19, 3) := by decide +kernel
theorem d62_118 : decode (xmb 62) 118 = .ok (.getfield 106, 3) := by decide +kernel
theorem d62_121 : decode (xmb 62) 121 = .ok (.ireturn, 1) := by decide +kernel
theorem d62_122 : decode (xmb 62) 122 = .ok (.aload_n 0, 1) := by decide +kernel
theorem d62_123 : decode (xmb 62) 123 = .ok (.getfield 19, 3) := by decide +kernel
theorem d62_126 : decode (xmb 62) 126 = .ok (.invokevirtual 103, 3) := by decide +kernel
theorem d62_129 : decode (xmb 62) 129 = .ok (.aload_n 0, 1) := by decide +kernel
theorem d62_130 : decode (xmb 62) 130 = .ok (.getfield 19, 3) := by decide +kernel
theorem d62_133 : decode (xmb 62) 133 = .ok (.getfield 109, 3) := by decide +kernel
theorem d62_136 : decode (xmb 62) 136 = .ok (.ireturn, 1) := by decide +kernel
theorem d62_137 : decode (xmb 62) 137 = .ok (.aload_n 0, 1) := by decide +kernel
theorem d62_138 : decode (xmb 62) 138 = .ok (.getfield 19, 3) := by decide +kernel
theorem d62_141 : decode (xmb 62) 141 = .ok (.invokevirtual 112, 3) := by decide +kernel
theorem d62_144 : decode (xmb 62) 144 = .ok (.ireturn, 1) := by decide +kernel
theorem d62_145 : decode (xmb 62) 145 = .ok (.aload_n 0, 1) := by decide +kernel
theorem d62_146 : decode (xmb 62) 146 = .ok (.getfield 27, 3) := by decide +kernel
theorem d62_149 : decode (xmb 62) 149 = .ok (.invokevirtual 116, 3) := by decide +kernel
theorem d62_152 : decode (xmb 62) 152 = .ok (.ireturn, 1) := by decide +kernel
theorem d62_153 : decode (xmb 62) 153 = .ok (.aload_n 0, 1) := by decide +kernel
theorem d62_154 : decode (xmb 62) 154 = .ok (.getfield 27, 3) := by decide +kernel
theorem d62_157 : decode (xmb 62) 157 = .ok (.invokevirtual 119, 3) := by decide +kernel
theorem d62_160 : decode (xmb 62) 160 = .ok (.ireturn, 1) := by decide +kernel
theorem d63_0 : decode (xmb 63) 0 = .ok (.aload_n 0, 1) := by decide +kernel
theorem d63_1 : decode (xmb 63) 1 = .ok (.getfield 27, 3) := by decide +kernel
theorem d63_4 : decode (xmb 63) 4 = .ok (.iload_n 1, 1) := by decide +kernel
theorem d63_5 : decode (xmb 63) 5 = .ok (.invokevirtual 122, 3) := by decide +kernel
theorem d63_8 : decode (xmb 63) 8 = .ok (.invokestatic 126, 3) := by decide +kernel
theorem d63_11 : decode (xmb 63) 11 = .ok (.iload_n 2, 1) := by decide +kernel
theorem d63_12 : decode (xmb 63) 12 = .ok (.iconst 0, 1) := by decide +kernel
theorem d63_13 : decode (xmb 63) 13 = .ok (.bipush 6, 2) := by decide +kernel
theorem d63_15 : decode (xmb 63) 15 = .ok (.invokestatic 54, 3) := by decide +kernel
theorem d63_18 : decode (xmb 63) 18 = .ok (.invokestatic 58, 3) := by decide +kernel
theorem d63_21 : decode (xmb 63) 21 = .ok (.aload_n 0, 1) := by decide +kernel
theorem d63_22 : decode (xmb 63) 22 = .ok (.getfield 27, 3) := by decide +kernel
theorem d63_25 : decode (xmb 63) 25 = .ok (.getfield 96, 3) := by decide +kernel
theorem d63_28 : decode (xmb 63) 28 = .ok (.istore_n 3, 1) := by decide +kernel
theorem d63_29 : decode (xmb 63) 29 = .ok (.iload_n 2, 1) := by decide +kernel
theorem d63_30 : decode (xmb 63) 30 = .ok (.tableswitch 109 0 5 #[38, 48, 58, 68, 80, 100], 38) := by decide +kernel
theorem d63_68 : decode (xmb 63) 68 = .ok (.aload_n 0, 1) := by decide +kernel
theorem d63_69 : decode (xmb 63) 69 = .ok (.getfield 27, 3) := by decide +kernel
theorem d63_72 : decode (xmb 63) 72 = .ok (.getfield 129, 3) := by decide +kernel
theorem d63_75 : decode (xmb 63) 75 = .ok (.iload_n 1, 1) := by decide +kernel
theorem d63_76 : decode (xmb 63) 76 = .ok (.iaload, 1) := by decide +kernel
theorem d63_77 : decode (xmb 63) 77 = .ok (.ireturn, 1) := by decide +kernel
theorem d63_78 : decode (xmb 63) 78 = .ok (.aload_n 0, 1) := by decide +kernel
theorem d63_79 : decode (xmb 63) 79 = .ok (.getfield 27, 3) := by decide +kernel
theorem d63_82 : decode (xmb 63) 82 = .ok (.iload_n 1, 1) := by decide +kernel
theorem d63_83 : decode (xmb 63) 83 = .ok (.iload_n 3, 1) := by decide +kernel
theorem d63_84 : decode (xmb 63) 84 = .ok (.invokevirtual 133, 3) := by decide +kernel
theorem d63_87 : decode (xmb 63) 87 = .ok (.ireturn, 1) := by decide +kernel
theorem d63_88 : decode (xmb 63) 88 = .ok (.aload_n 0, 1) := by decide +kernel
theorem d63_89 : decode (xmb 63) 89 = .ok (.getfield 27, 3) := by decide +kernel
theorem d63_92 : decode (xmb 63) 92 = .ok (.iload_n 1, 1) := by decide +kernel
theorem d63_93 : decode (xmb 63) 93 = .ok (.iload_n 3, 1) := by decide +kernel
theorem d63_94 : decode (xmb 63) 94 = .ok (.invokevirtual 137, 3) := by decide +kernel
theorem d63_97 : decode (xmb 63) 97 = .ok (.ireturn, 1) := by decide +kernel
theorem d63_98 : decode (xmb 63) 98 = .ok (.aload_n 0, 1) := by decide +kernel
theorem d63_99 : decode (xmb 63) 99 = .ok (.getfield 27, 3) := by decide +kernel
theorem d63_102 : decode (xmb 63) 102 = .ok (.iload_n 1, 1) := by decide +kernel
theorem d63_103 : decode (xmb 63) 103 = .ok (.iload_n 3, 1) := by decide +kernel
theorem d63_104 : decode (xmb 63) 104 = .ok (.bipush 15, 2) := by decide +kernel
theorem d63_106 : decode (xmb 63) 106 = .ok (.invokevirtual 140, 3) := by decide +kernel
theorem d63_109 : decode (xmb 63) 109 = .ok (.ireturn, 1) := by decide +kernel
theorem d63_110 : decode (xmb 63) 110 = .ok (.aload_n 0, 1) := by decide +kernel
theorem d63_111 : decode (xmb 63) 111 = .ok (.getfield 27, 3) := by decide +kernel
theorem d63_114 : decode (xmb 63) 114 = .ok (.iload_n 1, 1) := by decide +kernel
theorem d63_115 : decode (xmb 63) 115 = .ok (.iload_n 3, 1) := by decide +kernel
theorem d63_116 : decode (xmb 63) 116 = .ok (.invokevirtual 137, 3) := by decide +kernel
theorem d63_119 : decode (xmb 63) 119 = .ok (.aload_n 0, 1) := by decide +kernel
theorem d63_120 : decode (xmb 63) 120 = .ok (.getfield 27, 3) := by decide +kernel
theorem d63_123 : decode (xmb 63) 123 = .ok (.iload_n 1, 1) := by decide +kernel
theorem d63_124 : decode (xmb 63) 124 = .ok (.iload_n 3, 1) := by decide +kernel
theorem d63_125 : decode (xmb 63) 125 = .ok (.invokevirtual 133, 3) := by decide +kernel
theorem d63_128 : decode (xmb 63) 128 = .ok (.isub, 1) := by decide +kernel
theorem d63_129 : decode (xmb 63) 129 = .ok (.ireturn, 1) := by decide +kernel
theorem d63_130 : decode (xmb 63) 130 = .ok (.aload_n 0, 1) := by decide +kernel
theorem d63_131 : decode (xmb 63) 131 = .ok (.getfield 27, 3) := by decide +kernel
theorem d63_134 : decode (xmb 63) 134 = .ok (.iload_n 1, 1) := by decide +kernel
theorem d63_135 : decode (xmb 63) 135 = .ok (.invokevirtual 144, 3) := by decide +kernel
theorem d63_138 : decode (xmb 63) 138 = .ok (.ireturn, 1) := by decide +kernel
theorem d63_139 : decode (xmb 63) 139 = .ok (.aload_n 0, 1) := by decide +kernel
theorem d63_140 : decode (xmb 63) 140 = .ok (.getfield 19, 3) := by decide +kernel
theorem d63_143 : decode (xmb 63) 143 = .ok (.invokevirtual 103, 3) := by decide +kernel
theorem d63_146 : decode (xmb 63) 146 = .ok (.aload_n 0, 1) := by decide +kernel
theorem d63_147 : decode (xmb 63) 147 = .ok (.getfield 19, 3) := by decide +kernel
theorem d63_150 : decode (xmb 63) 150 = .ok (.iload_n 1, 1) := by decide +kernel
theorem d63_151 : decode (xmb 63) 151 = .ok (.invokevirtual 147, 3) := by decide +kernel
theorem d63_154 : decode (xmb 63) 154 = .ok (.ireturn, 1) := by decide +kernel
theorem d64_0 : decode (xmb 64) 0 = .ok (.aload_n 0, 1) := by decide +kernel
theorem d64_1 : decode (xmb 64) 1 = .ok (.getfield 27, 3) := by decide +kernel
theorem d64_4 : decode (xmb 64) 4 = .ok (.iload_n 1, 1) := by decide +kernel
theorem d64_5 : decode (xmb 64) 5 = .ok (.invokevirtual 122, 3) := by decide +kernel
theorem d64_8 : decode (xmb 64) 8 = .ok (.invokestatic 126, 3) := by decide +kernel
theorem d64_11 : decode (xmb 64) 11 = .ok (.iload_n 2, 1) := by decide +kernel
theorem d64_12 : decode (xmb 64) 12 = .ok (.iconst 0, 1) := by decide +kernel
theorem d64_13 : decode (xmb 64) 13 = .ok (.iconst 3, 1) := by decide +kernel
theorem d64_14 : decode (xmb 64) 14 = .ok (.invokestatic 54, 3) := by decide +kernel
theorem d64_17 : decode (xmb 64) 17 = .ok (.invokestatic 58, 3) := by decide +kernel
theorem d64_20 : decode (xmb 64) 20 = .ok (.aload_n 0, 1) := by decide +kernel
theorem d64_21 : decode (xmb 64) 21 = .ok (.getfield 27, 3) := by decide +kernel
theorem d64_24 : decode (xmb 64) 24 = .ok (.iload_n 1, 1) := by decide +kernel
theorem d64_25 : decode (xmb 64) 25 = .ok (.aload_n 0, 1) := by decide +kernel
theorem d64_26 : decode (xmb 64) 26 = .ok (.getfield 27, 3) := by decide +kernel
theorem d64_29 : decode (xmb 64) 29 = .ok (.getfield 96, 3) := by decide +kernel
theorem d64_32 : decode (xmb 64) 32 = .ok (.iconst 1, 1) := by decide +kernel
theorem d64_33 : decode (xmb 64) 33 = .ok (.iload_n 2, 1) := by decide +kernel
theorem d64_34 : decode (xmb 64) 34 = .ok (.ishl, 1) := by decide +kernel
theorem d64_35 : decode (xmb 64) 35 = .ok (.invokevirtual 140, 3) := by decide +kernel
theorem d64_38 : decode (xmb 64) 38 = .ok (.ireturn, 1) := by decide +kernel
theorem d65_0 : decode (xmb 65) 0 = .ok (.aload_n 0, 1) := by decide +kernel
theorem d65_1 : decode (xmb 65) 1 = .ok (.getfield 27, 3) := by decide +kernel
theorem d65_4 : decode (xmb 65) 4 = .ok (.iload_n 1, 1) := by decide +kernel
theorem d65_5 : decode (xmb 65) 5 = .ok (.invokevirtual 150, 3) := by decide +kernel
theorem d65_8 : decode (xmb 65) 8 = .ok (.invokestatic 126, 3) := by decide +kernel
theorem d65_11 : decode (xmb 65) 11 = .ok (.iload_n 2, 1) := by decide +kernel
theorem d65_12 : decode (xmb 65) 12 = .ok (.iconst 0, 1) := by decide +kernel
theorem d65_13 : decode (xmb 65) 13 = .ok (.bipush 9, 2) := by decide +kernel
theorem d65_15 : decode (xmb 65) 15 = .ok (.invokestatic 54, 3) := by decide +kernel
theorem d65_18 : decode (xmb 65) 18 = .ok (.invokestatic 58, 3) := by decide +kernel
theorem d65_21 : decode (xmb 65) 21 = .ok (.iload_n 2, 1) := by decide +kernel
theorem d65_22 : decode (xmb 65) 22 = .ok (.tableswitch 160 0 8 #[50, 60, 70, 80, 90, 100, 109, 126, 143], 50) := by decide +kernel
theorem d65_72 : decode (xmb 65) 72 = .ok (.aload_n 0, 1) := by decide +kernel
theorem d65_73 : decode (xmb 65) 73 = .ok (.getfield 27, 3) := by decide +kernel
theorem d65_76 : decode (xmb 65) 76 = .ok (.getfield 153, 3) := by decide +kernel
theorem d65_79 : decode (xmb 65) 79 = .ok (.iload_n 1, 1) := by decide +kernel
theorem d65_80 : decode (xmb 65) 80 = .ok (.iaload, 1) := by decide +kernel
theorem d65_81 : decode (xmb 65) 81 = .ok (.ireturn, 1) := by decide +kernel
theorem d65_82 : decode (xmb 65) 82 = .ok (.aload_n 0, 1) := by decide +kernel
theorem d65_83 : decode (xmb 65) 83 = .ok (.getfield 27, 3) := by decide +kernel
theorem d65_86 : decode (xmb 65) 86 = .ok (.getfield 156, 3) := by decide +kernel
theorem d65_89 : decode (xmb 65) 89 = .ok (.iload_n 1, 1) := by decide +kernel
theorem d65_90 : decode (xmb 65) 90 = .ok (.iaload, 1) := by decide +kernel
theorem d65_91 : decode (xmb 65) 91 = .ok (.ireturn, 1) := by decide +kernel
theorem d65_92 : decode (xmb 65) 92 = .ok (.aload_n 0, 1) := by decide +kernel
theorem d65_93 : decode (xmb 65) 93 = .ok (.getfield 27, 3) := by decide +kernel
theorem d65_96 : decode (xmb 65) 96 = .ok (.getfield 159, 3) := by decide +kernel
theorem d65_99 : decode (xmb 65) 99 = .ok (.iload_n 1, 1) := by decide +kernel
theorem d65_100 : decode (xmb 65) 100 = .ok (.iaload, 1) := by decide +kernel
theorem d65_101 : decode (xmb 65) 101 = .ok (.ireturn, 1) := by decide +kernel
theorem d65_102 : decode (xmb 65) 102 = .ok (.aload_n 0, 1) := by decide +kernel
theorem d65_103 : decode (xmb 65) 103 = .ok (.getfield 27, 3) := by decide +kernel
theorem d65_106 : decode (xmb 65) 106 = .ok (.getfield 162, 3) := by decide +kernel
theorem d65_109 : decode (xmb 65) 109 = .ok (.iload_n 1, 1) := by decide +kernel
theorem d65_110 : decode (xmb 65) 110 = .ok (.iaload, 1) := by decide +kernel
theorem d65_111 : decode (xmb 65) 111 = .ok (.ireturn, 1) := by decide +kernel
theorem d65_112 : decode (xmb 65) 112 = .ok (.aload_n 0, 1) := by decide +kernel
theorem d65_113 : decode (xmb 65) 113 = .ok (.getfield 27, 3) := by decide +kernel
theorem d65_116 : decode (xmb 65) 116 = .ok (.getfield 165, 3) := by decide +kernel
theorem d65_119 : decode (xmb 65) 119 = .ok (.iload_n 1, 1) := by decide +kernel
theorem d65_120 : decode (xmb 65) 120 = .ok (.iaload, 1) := by decide +kernel
theorem d65_121 : decode (xmb 65) 121 = .ok (.ireturn, 1) := by decide +kernel
theorem d65_122 : decode (xmb 65) 122 = .ok (.aload_n 0, 1) := by decide +kernel
theorem d65_123 : decode (xmb 65) 123 = .ok (.getfield 27, 3) := by decide +kernel
theorem d65_126 : decode (xmb 65) 126 = .ok (.iload_n 1, 1) := by decide +kernel
theorem d65_127 : decode (xmb 65) 127 = .ok (.invokevirtual 168, 3) := by decide +kernel
theorem d65_130 : decode (xmb 65) 130 = .ok (.ireturn, 1) := by decide +kernel
theorem d65_131 : decode (xmb 65) 131 = .ok (.aload_n 0, 1) := by decide +kernel
theorem d65_132 : decode (xmb 65) 132 = .ok (.getfield 19, 3) := by decide +kernel
theorem d65_135 : decode (xmb 65) 135 = .ok (.invokevirtual 171, 3) := by decide +kernel
theorem d65_138 : decode (xmb 65) 138 = .ok (.aload_n 0, 1) := by decide +kernel
theorem d65_139 : decode (xmb 65) 139 = .ok (.getfield 19, 3) := by decide +kernel
theorem d65_142 : decode (xmb 65) 142 = .ok (.getfield 174, 3) := by decide +kernel
theorem d65_145 : decode (xmb 65) 145 = .ok (.iload_n 1, 1) := by decide +kernel
theorem d65_146 : decode (xmb 65) 146 = .ok (.iaload, 1) := by decide +kernel
theorem d65_147 : decode (xmb 65) 147 = .ok (.ireturn, 1) := by decide +kernel
theorem d65_148 : decode (xmb 65) 148 = .ok (.aload_n 0, 1) := by decide +kernel
theorem d65_149 : decode (xmb 65) 149 = .ok (.getfield 19, 3) := by decide +kernel
theorem d65_152 : decode (xmb 65) 152 = .ok (.invokevirtual 103, 3) := by decide +kernel
theorem d65_155 : decode (xmb 65) 155 = .ok (.aload_n 0, 1) := by decide +kernel
theorem d65_156 : decode (xmb 65) 156 = .ok (.getfield 19, 3) := by decide +kernel
theorem d65_159 : decode (xmb 65) 159 = .ok (.getfield 177, 3) := by decide +kernel
theorem d65_162 : decode (xmb 65) 162 = .ok (.iload_n 1, 1) := by decide +kernel
theorem d65_163 : decode (xmb 65) 163 = .ok (.iaload, 1) := by decide +kernel
theorem d65_164 : decode (xmb 65) 164 = .ok (.ireturn, 1) := by decide +kernel
theorem d65_165 : decode (xmb 65) 165 = .ok (.aload_n 0, 1) := by decide +kernel
theorem d65_166 : decode (xmb 65) 166 = .ok (.getfield 19, 3) := by decide +kernel
theorem d65_169 : decode (xmb 65) 169 = .ok (.invokevirtual 103, 3) := by decide +kernel
theorem d65_172 : decode (xmb 65) 172 = .ok (.aload_n 0, 1) := by decide +kernel
theorem d65_173 : decode (xmb 65) 173 = .ok (.getfield 19, 3) := by decide +kernel
theorem d65_176 : decode (xmb 65) 176 = .ok (.getfield 180, 3) := by decide +kernel
theorem d65_179 : decode (xmb 65) 179 = .ok (.iload_n 1, 1) := by decide +kernel
theorem d65_180 : decode (xmb 65) 180 = .ok (.iaload, 1) := by decide +kernel
theorem d65_181 : decode (xmb 65) 181 = .ok (.ireturn, 1) := by decide +kernel
theorem d65_182 : decode (xmb 65) 182 = .ok (.aload_n 0, 1) := by decide +kernel
theorem d65_183 : decode (xmb 65) 183 = .ok (.getfield 27, 3) := by decide +kernel
theorem d65_186 : decode (xmb 65) 186 = .ok (.iload_n 1, 1) := by decide +kernel
theorem d65_187 : decode (xmb 65) 187 = .ok (.invokevirtual 183, 3) := by decide +kernel
theorem d65_190 : decode (xmb 65) 190 = .ok (.invokestatic 186, 3) := by decide +kernel
theorem d65_193 : decode (xmb 65) 193 = .ok (.ireturn, 1) := by decide +kernel
theorem d66_0 : decode (xmb 66) 0 = .ok (.aload_n 0, 1) := by decide +kernel
theorem d66_1 : decode (xmb 66) 1 = .ok (.getfield 19, 3) := by decide +kernel
theorem d66_4 : decode (xmb 66) 4 = .ok (.invokevirtual 103, 3) := by decide +kernel
theorem d66_7 : decode (xmb 66) 7 = .ok (.iload_n 1, 1) := by decide +kernel
theorem d66_8 : decode (xmb 66) 8 = .ok (.iconst 0, 1) := by decide +kernel
theorem d66_9 : decode (xmb 66) 9 = .ok (.aload_n 0, 1) := by decide +kernel
theorem d66_10 : decode (xmb 66) 10 = .ok (.getfield 19, 3) := by decide +kernel
theorem d66_13 : decode (xmb 66) 13 = .ok (.getfield 191, 3) := by decide +kernel
theorem d66_16 : decode (xmb 66) 16 = .ok (.iconst 1, 1) := by decide +kernel
theorem d66_17 : decode (xmb 66) 17 = .ok (.isub, 1) := by decide +kernel
theorem d66_18 : decode (xmb 66) 18 = .ok (.invokestatic 54, 3) := by decide +kernel
theorem d66_21 : decode (xmb 66) 21 = .ok (.invokestatic 126, 3) := by decide +kernel
theorem d66_24 : decode (xmb 66) 24 = .ok (.aload_n 0, 1) := by decide +kernel
theorem d66_25 : decode (xmb 66) 25 = .ok (.getfield 19, 3) := by decide +kernel
theorem d66_28 : decode (xmb 66) 28 = .ok (.getfield 194, 3) := by decide +kernel
theorem d66_31 : decode (xmb 66) 31 = .ok (.iload_n 1, 1) := by decide +kernel
theorem d66_32 : decode (xmb 66) 32 = .ok (.iaload, 1) := by decide +kernel
theorem d66_33 : decode (xmb 66) 33 = .ok (.ireturn, 1) := by decide +kernel
theorem d67_0 : decode (xmb 67) 0 = .ok (.iload_n 1, 1) := by decide +kernel
theorem d67_1 : decode (xmb 67) 1 = .ok (.invokestatic 197, 3) := by decide +kernel
theorem d67_4 : decode (xmb 67) 4 = .ok (.invokestatic 126, 3) := by decide +kernel
theorem d67_7 : decode (xmb 67) 7 = .ok (.aload_n 0, 1) := by decide +kernel
theorem d67_8 : decode (xmb 67) 8 = .ok (.getfield 27, 3) := by decide +kernel
theorem d67_11 : decode (xmb 67) 11 = .ok (.getfield 200, 3) := by decide +kernel
theorem d67_14 : decode (xmb 67) 14 = .ok (.iload_n 1, 1) := by decide +kernel
theorem d67_15 : decode (xmb 67) 15 = .ok (.iaload, 1) := by decide +kernel
theorem d67_16 : decode (xmb 67) 16 = .ok (.ireturn, 1) := by decide +kernel
theorem d68_0 : decode (xmb 68) 0 = .ok (.iload_n 1, 1) := by decide +kernel
theorem d68_1 : decode (xmb 68) 1 = .ok (.invokestatic 203, 3) := by decide +kernel
theorem d68_4 : decode (xmb 68) 4 = .ok (.invokestatic 58, 3) := by decide +kernel
theorem d68_7 : decode (xmb 68) 7 = .ok (.aload_n 0, 1) := by decide +kernel
theorem d68_8 : decode (xmb 68) 8 = .ok (.getfield 27, 3) := by decide +kernel
theorem d68_11 : decode (xmb 68) 11 = .ok (.getfield 206, 3) := by decide +kernel
theorem d68_14 : decode (xmb 68) 14 = .ok (.iload_n 1, 1) := by decide +kernel
theorem d68_15 : decode (xmb 68) 15 = .ok (.iaload, 1) := by decide +kernel
theorem d68_16 : decode (xmb 68) 16 = .ok (.ireturn, 1) := by decide +kernel
theorem d69_0 : decode (xmb 69) 0 = .ok (.iload_n 1, 1) := by decide +kernel
theorem d69_1 : decode (xmb 69) 1 = .ok (.iconst 0, 1) := by decide +kernel
theorem d69_2 : decode (xmb 69) 2 = .ok (.sipush 1500, 3) := by decide +kernel
theorem d69_5 : decode (xmb 69) 5 = .ok (.invokestatic 54, 3) := by decide +kernel
theorem d69_8 : decode (xmb 69) 8 = .ok (.ifCond .eq 17, 3) := by decide +kernel
theorem d69_11 : decode (xmb 69) 11 = .ok (.iload_n 2, 1) := by decide +kernel
theorem d69_12 : decode (xmb 69) 12 = .ok (.iconst 0, 1) := by decide +kernel
theorem d69_13 : decode (xmb 69) 13 = .ok (.bipush 9, 2) := by decide +kernel
theorem d69_15 : decode (xmb 69) 15 = .ok (.invokestatic 54, 3) := by decide +kernel
theorem d69_18 : decode (xmb 69) 18 = .ok (.ifCond .eq 7, 3) := by decide +kernel
theorem d69_21 : decode (xmb 69) 21 = .ok (.iconst 1, 1) := by decide +kernel
theorem d69_22 : decode (xmb 69) 22 = .ok (.goto 4, 3) := by decide +kernel
theorem d69_25 : decode (xmb 69) 25 = .ok (.iconst 0, 1) := by decide +kernel
theorem d69_26 : decode (xmb 69) 26 = .ok (.invokestatic 58, 3) := by decide +kernel
theorem d69_29 : decode (xmb 69) 29 = .ok (.aload_n 0, 1) := by decide +kernel
theorem d69_30 : decode (xmb 69) 30 = .ok (.getfield 19, 3) := by decide +kernel
theorem d69_33 : decode (xmb 69) 33 = .ok (.invokevirtual 103, 3) := by decide +kernel
theorem d69_36 : decode (xmb 69) 36 = .ok (.aload_n 0, 1) := by decide +kernel
theorem d69_37 : decode (xmb 69) 37 = .ok (.getfield 19, 3) := by decide +kernel
theorem d69_40 : decode (xmb 69) 40 = .ok (.iload_n 1, 1) := by decide +kernel
theorem d69_41 : decode (xmb 69) 41 = .ok (.iload_n 2, 1) := by decide +kernel
theorem d69_42 : decode (xmb 69) 42 = .ok (.invokevirtual 209, 3) := by decide +kernel
theorem d69_45 : decode (xmb 69) 45 = .ok (.ireturn, 1) := by decide +kernel
theorem d70_0 : decode (xmb 70) 0 = .ok (.aload_n 0, 1) := by decide +kernel
theorem d70_1 : decode (xmb 70) 1 = .ok (.iconst 0, 1) := by decide +kernel
theorem d70_2 : decode (xmb 70) 2 = .ok (.iload_n 1, 1) := by decide +kernel
theorem d70_3 : decode (xmb 70) 3 = .ok (.iconst 0, 1) := by decide +kernel
theorem d70_4 : decode (xmb 70) 4 = .ok (.iconst 0, 1) := by decide +kernel
theorem d70_5 : decode (xmb 70) 5 = .ok (.invokevirtual 212, 3) := by decide +kernel
theorem d70_8 : decode (xmb 70) 8 = .ok (.ireturn, 1) := by decide +kernel
theorem d71_0 : decode (xmb 71) 0 = .ok (.aload_n 0, 1) := by decide +kernel
theorem d71_1 : decode (xmb 71) 1 = .ok (.bipush 7, 2) := by decide +kernel
theorem d71_3 : decode (xmb 71) 3 = .ok (.iload_n 1, 1) := by decide +kernel
theorem d71_4 : decode (xmb 71) 4 = .ok (.iload_n 2, 1) := by decide +kernel
theorem d71_5 : decode (xmb 71) 5 = .ok (.iconst 0, 1) := by decide +kernel
theorem d71_6 : decode (xmb 71) 6 = .ok (.invokevirtual 212, 3) := by decide +kernel
theorem d71_9 : decode (xmb 71) 9 = .ok (.ireturn, 1) := by decide +kernel
theorem d72_0 : decode (xmb 72) 0 = .ok (.aload_n 0, 1) := by decide +kernel
theorem d72_1 : decode (xmb 72) 1 = .ok (.getfield 27, 3) := by decide +kernel
theorem d72_4 : decode (xmb 72) 4 = .ok (.aload_n 0, 1) := by decide +kernel
theorem d72_5 : decode (xmb 72) 5 = .ok (.iconst 5, 1) := by decide +kernel
theorem d72_6 : decode (xmb 72) 6 = .ok (.iload_n 1, 1) := by decide +kernel
theorem d72_7 : decode (xmb 72) 7 = .ok (.iload_n 2, 1) := by decide +kernel
theorem d72_8 : decode (xmb 72) 8 = .ok (.iconst 0, 1) := by decide +kernel
theorem d72_9 : decode (xmb 72) 9 = .ok (.invokevirtual 212, 3) := by decide +kernel
theorem d72_12 : decode (xmb 72) 12 = .ok (.invokevirtual 99, 3) := by decide +kernel
theorem d72_15 : decode (xmb 72) 15 = .ok (.ireturn, 1) := by decide +kernel
theorem d73_0 : decode (xmb 73) 0 = .ok (.aload_n 0, 1) := by decide +kernel
theorem d73_1 : decode (xmb 73) 1 = .ok (.iconst 1, 1) := by decide +kernel
theorem d73_2 : decode (xmb 73) 2 = .ok (.iload_n 1, 1) := by decide +kernel
theorem d73_3 : decode (xmb 73) 3 = .ok (.iload_n 2, 1) := by decide +kernel
theorem d73_4 : decode (xmb 73) 4 = .ok (.iload_n 3, 1) := by decide +kernel
theorem d73_5 : decode (xmb 73) 5 = .ok (.invokestatic 216, 3) := by decide +kernel
theorem d73_8 : decode (xmb 73) 8 = .ok (.invokevirtual 212, 3) := by decide +kernel
theorem d73_11 : decode (xmb 73) 11 = .ok (.ireturn, 1) := by decide +kernel
theorem d74_0 : decode (xmb 74) 0 = .ok (.aload_n 0, 1) := by decide +kernel
theorem d74_1 : decode (xmb 74) 1 = .ok (.bipush 8, 2) := by decide +kernel
theorem d74_3 : decode (xmb 74) 3 = .ok (.iload_n 1, 1) := by decide +kernel
theorem d74_4 : decode (xmb 74) 4 = .ok (.iload_n 2, 1) := by decide +kernel
theorem d74_5 : decode (xmb 74) 5 = .ok (.iconst 0, 1) := by decide +kernel
theorem d74_6 : decode (xmb 74) 6 = .ok (.invokevirtual 212, 3) := by decide +kernel
theorem d74_9 : decode (xmb 74) 9 = .ok (.ireturn, 1) := by decide +kernel
theorem d75_0 : decode (xmb 75) 0 = .ok (.aload_n 0, 1) := by decide +kernel
theorem d75_1 : decode (xmb 75) 1 = .ok (.iconst 2, 1) := by decide +kernel
theorem d75_2 : decode (xmb 75) 2 = .ok (.iload_n 1, 1) := by decide +kernel
theorem d75_3 : decode (xmb 75) 3 = .ok (.iload_n 2, 1) := by decide +kernel
theorem d75_4 : decode (xmb 75) 4 = .ok (.iload_n 3, 1) := by decide +kernel
theorem d75_5 : decode (xmb 75) 5 = .ok (.invokestatic 216, 3) := by decide +kernel
theorem d75_8 : decode (xmb 75) 8 = .ok (.invokevirtual 212, 3) := by decide +kernel
theorem d75_11 : decode (xmb 75) 11 = .ok (.ireturn, 1) := by decide +kernel
theorem d76_0 : decode (xmb 76) 0 = .ok (.aload_n 0, 1) := by decide +kernel
theorem d76_1 : decode (xmb 76) 1 = .ok (.iconst 3, 1) := by decide +kernel
theorem d76_2 : decode (xmb 76) 2 = .ok (.iload_n 1, 1) := by decide +kernel
theorem d76_3 : decode (xmb 76) 3 = .ok (.iload_n 2, 1) := by decide +kernel
theorem d76_4 : decode (xmb 76) 4 = .ok (.iload_n 3, 1) := by decide +kernel
theorem d76_5 : decode (xmb 76) 5 = .ok (.invokestatic 216, 3) := by decide +kernel
theorem d76_8 : decode (xmb 76) 8 = .ok (.invokevirtual 212, 3) := by decide +kernel
theorem d76_11 : decode (xmb 76) 11 = .ok (.ireturn, 1) := by decide +kernel
theorem d77_0 : decode (xmb 77) 0 = .ok (.aload_n 0, 1) := by decide +kernel
theorem d77_1 : decode (xmb 77) 1 = .ok (.iconst 4, 1) := by decide +kernel
theorem d77_2 : decode (xmb 77) 2 = .ok (.iload_n 1, 1) := by decide +kernel
theorem d77_3 : decode (xmb 77) 3 = .ok (.iload_n 2, 1) := by decide +kernel
theorem d77_4 : decode (xmb 77) 4 = .ok (.iconst 0, 1) := by decide +kernel
theorem d77_5 : decode (xmb 77) 5 = .ok (.invokevirtual 212, 3) := by decide +kernel
theorem d77_8 : decode (xmb 77) 8 = .ok (.ireturn, 1) := by decide +kernel
theorem d78_0 : decode (xmb 78) 0 = .ok (.aload_n 0, 1) := by decide +kernel
theorem d78_1 : decode (xmb 78) 1 = .ok (.bipush 6, 2) := by decide +kernel
theorem d78_3 : decode (xmb 78) 3 = .ok (.iload_n 1, 1) := by decide +kernel
theorem d78_4 : decode (xmb 78) 4 = .ok (.iload_n 2, 1) := by decide +kernel
theorem d78_5 : decode (xmb 78) 5 = .ok (.iconst 0, 1) := by decide +kernel
theorem d78_6 : decode (xmb 78) 6 = .ok (.invokevirtual 212, 3) := by decide +kernel
theorem d78_9 : decode (xmb 78) 9 = .ok (.ireturn, 1) := by decide +kernel
theorem d79_0 : decode (xmb 79) 0 = .ok (.aload_n 0, 1) := by decide +kernel
theorem d79_1 : decode (xmb 79) 1 = .ok (.getfield 39, 3) := by decide +kernel
theorem d79_4 : decode (xmb 79) 4 = .ok (.getfield 220, 3) := by decide +kernel
theorem d79_7 : decode (xmb 79) 7 = .ok (.ifCond .le 7, 3) := by decide +kernel
theorem d79_10 : decode (xmb 79) 10 = .ok (.iconst 1, 1) := by decide +kernel
theorem d79_11 : decode (xmb 79) 11 = .ok (.goto 4, 3) := by decide +kernel
theorem d79_14 : decode (xmb 79) 14 = .ok (.iconst 0, 1) := by decide +kernel
theorem d79_15 : decode (xmb 79) 15 = .ok (.invokestatic 66, 3) := by decide +kernel
theorem d79_18 : decode (xmb 79) 18 = .ok (.aload_n 0, 1) := by decide +kernel
theorem d79_19 : decode (xmb 79) 19 = .ok (.getfield 39, 3) := by decide +kernel
theorem d79_22 : decode (xmb 79) 22 = .ok (.aload_n 0, 1) := by decide +kernel
theorem d79_23 : decode (xmb 79) 23 = .ok (.getfield 27, 3) := by decide +kernel
theorem d79_26 : decode (xmb 79) 26 = .ok (.invokevirtual 223, 3) := by decide +kernel
theorem d79_29 : decode (xmb 79) 29 = .ok (.ireturn, 1) := by decide +kernel
theorem d80_0 : decode (xmb 80) 0 = .ok (.iload_n 1, 1) := by decide +kernel
theorem d80_1 : decode (xmb 80) 1 = .ok (.invokestatic 197, 3) := by decide +kernel
theorem d80_4 : decode (xmb 80) 4 = .ok (.invokestatic 126, 3) := by decide +kernel
theorem d80_7 : decode (xmb 80) 7 = .ok (.iload_n 2, 1) := by decide +kernel
theorem d80_8 : decode (xmb 80) 8 = .ok (.iconst 0, 1) := by decide +kernel
theorem d80_9 : decode (xmb 80) 9 = .ok (.iconst 1, 1) := by decide +kernel
theorem d80_10 : decode (xmb 80) 10 = .ok (.invokestatic 54, 3) := by decide +kernel
theorem d80_13 : decode (xmb 80) 13 = .ok (.invokestatic 58, 3) := by decide +kernel
theorem d80_16 : decode (xmb 80) 16 = .ok (.aload_n 0, 1) := by decide +kernel
theorem d80_17 : decode (xmb 80) 17 = .ok (.getfield 33, 3) := by decide +kernel
theorem d80_20 : decode (xmb 80) 20 = .ok (.aload_n 0, 1) := by decide +kernel
theorem d80_21 : decode (xmb 80) 21 = .ok (.getfield 27, 3) := by decide +kernel
theorem d80_24 : decode (xmb 80) 24 = .ok (.invokevirtual 77, 3) := by decide +kernel
theorem d80_27 : decode (xmb 80) 27 = .ok (.aload_n 0, 1) := by decide +kernel
theorem d80_28 : decode (xmb 80) 28 = .ok (.getfield 33, 3) := by decide +kernel
theorem d80_31 : decode (xmb 80) 31 = .ok (.getfield 200, 3) := by decide +kernel
theorem d80_34 : decode (xmb 80) 34 = .ok (.iload_n 1, 1) := by decide +kernel
theorem d80_35 : decode (xmb 80) 35 = .ok (.dup2, 1) := by decide +kernel
theorem d80_36 : decode (xmb 80) 36 = .ok (.iaload, 1) := by decide +kernel
theorem d80_37 : decode (xmb 80) 37 = .ok (.iconst 1, 1) := by decide +kernel
theorem d80_38 : decode (xmb 80) 38 = .ok (.iadd, 1) := by decide +kernel
theorem d80_39 : decode (xmb 80) 39 = .ok (.iastore, 1) := by decide +kernel
theorem d80_40 : decode (xmb 80) 40 = .ok (.aload_n 0, 1) := by decide +kernel
theorem d80_41 : decode (xmb 80) 41 = .ok (.getfield 30, 3) := by decide +kernel
theorem d80_44 : decode (xmb 80) 44 = .ok (.invokevirtual 103, 3) := by decide +kernel
theorem d80_47 : decode (xmb 80) 47 = .ok (.iload_n 2, 1) := by decide +kernel
theorem d80_48 : decode (xmb 80) 48 = .ok (.ifCond .ne 13, 3) := by decide +kernel
theorem d80_51 : decode (xmb 80) 51 = .ok (.aload_n 0, 1) := by decide +kernel
theorem d80_52 : decode (xmb 80) 52 = .ok (.getfield 30, 3) := by decide +kernel
theorem d80_55 : decode (xmb 80) 55 = .ok (.getfield 106, 3) := by decide +kernel
theorem d80_58 : decode (xmb 80) 58 = .ok (.goto 10, 3) := by decide +kernel
theorem d80_61 : decode (xmb 80) 61 = .ok (.aload_n 0, 1) := by decide +kernel
theorem d80_62 : decode (xmb 80) 62 = .ok (.getfield 30, 3) := by decide +kernel
theorem d80_65 : decode (xmb 80) 65 = .ok (.getfield 109, 3) := by decide +kernel
theorem d80_68 : decode (xmb 80) 68 = .ok (.ireturn, 1) := by decide +kernel
theorem d81_0 : decode (xmb 81) 0 = .ok (.iload_n 1, 1) := by decide +kernel
theorem d81_1 : decode (xmb 81) 1 = .ok (.iconst 1, 1) := by decide +kernel
theorem d81_2 : decode (xmb 81) 2 = .ok (.bipush 24, 2) := by decide +kernel
theorem d81_4 : decode (xmb 81) 4 = .ok (.invokestatic 54, 3) := by decide +kernel
theorem d81_7 : decode (xmb 81) 7 = .ok (.ifCond .eq 16, 3) := by decide +kernel
theorem d81_10 : decode (xmb 81) 10 = .ok (.iload_n 2, 1) := by decide +kernel
theorem d81_11 : decode (xmb 81) 11 = .ok (.iconst 0, 1) := by decide +kernel
theorem d81_12 : decode (xmb 81) 12 = .ok (.iconst 1, 1) := by decide +kernel
theorem d81_13 : decode (xmb 81) 13 = .ok (.invokestatic 54, 3) := by decide +kernel
theorem d81_16 : decode (xmb 81) 16 = .ok (.ifCond .eq 7, 3) := by decide +kernel
theorem d81_19 : decode (xmb 81) 19 = .ok (.iconst 1, 1) := by decide +kernel
theorem d81_20 : decode (xmb 81) 20 = .ok (.goto 4, 3) := by decide +kernel
theorem d81_23 : decode (xmb 81) 23 = .ok (.iconst 0, 1) := by decide +kernel
theorem d81_24 : decode (xmb 81) 24 = .ok (.invokestatic 58, 3) := by decide +kernel
theorem d81_27 : decode (xmb 81) 27 = .ok (.iload_n 2, 1) := by decide +kernel
theorem d81_28 : decode (xmb 81) 28 = .ok (.ifCond .ne 14, 3) := by decide +kernel
theorem d81_31 : decode (xmb 81) 31 = .ok (.aload_n 0, 1) := by decide +kernel
theorem d81_32 : decode (xmb 81) 32 = .ok (.getfield 27, 3) := by decide +kernel
theorem d81_35 : decode (xmb 81) 35 = .ok (.iload_n 1, 1) := by decide +kernel
theorem d81_36 : decode (xmb 81) 36 = .ok (.invokevirtual 99, 3) := by decide +kernel
theorem d81_39 : decode (xmb 81) 39 = .ok (.goto 11, 3) := by decide +kernel
theorem d81_42 : decode (xmb 81) 42 = .ok (.aload_n 0, 1) := by decide +kernel
theorem d81_43 : decode (xmb 81) 43 = .ok (.getfield 27, 3) := by decide +kernel
theorem d81_46 : decode (xmb 81) 46 = .ok (.iload_n 1, 1) := by decide +kernel
theorem d81_47 : decode (xmb 81) 47 = .ok (.invokevirtual 226, 3) := by decide +kernel
theorem d81_50 : decode (xmb 81) 50 = .ok (.ireturn, 1) := by decide +kernel
theorem d82_0 : decode (xmb 82) 0 = .ok (.aload_n 0, 1) := by decide +kernel
theorem d82_1 : decode (xmb 82) 1 = .ok (.getfield 27, 3) := by decide +kernel
theorem d82_4 : decode (xmb 82) 4 = .ok (.iload_n 1, 1) := by decide +kernel
theorem d82_5 : decode (xmb 82) 5 = .ok (.invokevirtual 150, 3) := by decide +kernel
theorem d82_8 : decode (xmb 82) 8 = .ok (.invokestatic 126, 3) := by decide +kernel
theorem d82_11 : decode (xmb 82) 11 = .ok (.aload_n 0, 1) := by decide +kernel
theorem d82_12 : decode (xmb 82) 12 = .ok (.getfield 19, 3) := by decide +kernel
theorem d82_15 : decode (xmb 82) 15 = .ok (.invokevirtual 103, 3) := by decide +kernel
theorem d82_18 : decode (xmb 82) 18 = .ok (.aload_n 0, 1) := by decide +kernel
theorem d82_19 : decode (xmb 82) 19 = .ok (.getfield 19, 3) := by decide +kernel
theorem d82_22 : decode (xmb 82) 22 = .ok (.getfield 177, 3) := by decide +kernel
theorem d82_25 : decode (xmb 82) 25 = .ok (.iload_n 1, 1) := by decide +kernel
theorem d82_26 : decode (xmb 82) 26 = .ok (.iaload, 1) := by decide +kernel
theorem d82_27 : decode (xmb 82) 27 = .ok (.iconst (-1), 1) := by decide +kernel
theorem d82_28 : decode (xmb 82) 28 = .ok (.if_icmp .ne 5, 3) := by decide +kernel
theorem d82_31 : decode (xmb 82) 31 = .ok (.iconst (-1), 1) := by decide +kernel
theorem d82_32 : decode (xmb 82) 32 = .ok (.ireturn, 1) := by decide +kernel
theorem d82_33 : decode (xmb 82) 33 = .ok (.aload_n 0, 1) := by decide +kernel
theorem d82_34 : decode (xmb 82) 34 = .ok (.getfield 33, 3) := by decide +kernel
theorem d82_37 : decode (xmb 82) 37 = .ok (.aload_n 0, 1) := by decide +kernel
theorem d82_38 : decode (xmb 82) 38 = .ok (.getfield 27, 3) := by decide +kernel
theorem d82_41 : decode (xmb 82) 41 = .ok (.invokevirtual 77, 3) := by decide +kernel
theorem d82_44 : decode (xmb 82) 44 = .ok (.iconst 1, 1) := by decide +kernel
theorem d82_45 : decode (xmb 82) 45 = .ok (.istore_n 2, 1) := by decide +kernel
theorem d82_46 : decode (xmb 82) 46 = .ok (.iload_n 2, 1) := by decide +kernel
theorem d82_47 : decode (xmb 82) 47 = .ok (.bipush 60, 2) := by decide +kernel
theorem d82_49 : decode (xmb 82) 49 = .ok (.if_icmp .gt 50, 3) := by decide +kernel
theorem d82_52 : decode (xmb 82) 52 = .ok (.aload_n 0, 1) := by decide +kernel
theorem d82_53 : decode (xmb 82) 53 = .ok (.getfield 33, 3) := by decide +kernel
theorem d82_56 : decode (xmb 82) 56 = .ok (.getfield 153, 3) := by decide +kernel
theorem d82_59 : decode (xmb 82) 59 = .ok (.iload_n 1, 1) := by decide +kernel
theorem d82_60 : decode (xmb 82) 60 = .ok (.dup2, 1) := by decide +kernel
theorem d82_61 : decode (xmb 82) 61 = .ok (.iaload, 1) := by decide +kernel
theorem d82_62 : decode (xmb 82) 62 = .ok (.iconst 1, 1) := by decide +kernel
theorem d82_63 : decode (xmb 82) 63 = .ok (.iadd, 1) := by decide +kernel
theorem d82_64 : decode (xmb 82) 64 = .ok (.iastore, 1) := by decide +kernel
theorem d82_65 : decode (xmb 82) 65 = .ok (.aload_n 0, 1) := by decide +kernel
theorem d82_66 : decode (xmb 82) 66 = .ok (.getfield 30, 3) := by decide +kernel
theorem d82_69 : decode (xmb 82) 69 = .ok (.invokevirtual 103, 3) := by decide +kernel
theorem d82_72 : decode (xmb 82) 72 = .ok (.aload_n 0, 1) := by decide +kernel
theorem d82_73 : decode (xmb 82) 73 = .ok (.getfield 30, 3) := by decide +kernel
theorem d82_76 : decode (xmb 82) 76 = .ok (.getfield 106, 3) := by decide +kernel
theorem d82_79 : decode (xmb 82) 79 = .ok (.aload_n 0, 1) := by decide +kernel
theorem d82_80 : decode (xmb 82) 80 = .ok (.getfield 19, 3) := by decide +kernel
theorem d82_83 : decode (xmb 82) 83 = .ok (.getfield 106, 3) := by decide +kernel
theorem d82_86 : decode (xmb 82) 86 = .ok (.if_icmp .le 7, 3) := by decide +kernel
theorem d82_89 : decode (xmb 82) 89 = .ok (.iload_n 2, 1) := by decide +kernel
theorem d82_90 : decode (xmb 82) 90 = .ok (.iconst 1, 1) := by decide +kernel
theorem d82_91 : decode (xmb 82) 91 = .ok (.isub, 1) := by decide +kernel
theorem d82_92 : decode (xmb 82) 92 = .ok (.ireturn, 1) := by decide +kernel
theorem d82_93 : decode (xmb 82) 93 = .ok (.iinc 2 1, 3) := by decide +kernel
theorem d82_96 : decode (xmb 82) 96 = .ok (.goto (-50), 3) := by decide +kernel
theorem d82_99 : decode (xmb 82) 99 = .ok (.bipush 60, 2) := by decide +kernel
theorem d82_101 : decode (xmb 82) 101 = .ok (.ireturn, 1) := by decide +kernel
theorem d83_0 : decode (xmb 83) 0 = .ok (.aload_n 0, 1) := by decide +kernel
theorem d83_1 : decode (xmb 83) 1 = .ok (.getfield 33, 3) := by decide +kernel
theorem d83_4 : decode (xmb 83) 4 = .ok (.aload_n 0, 1) := by decide +kernel
theorem d83_5 : decode (xmb 83) 5 = .ok (.getfield 27, 3) := by decide +kernel
theorem d83_8 : decode (xmb 83) 8 = .ok (.invokevirtual 77, 3) := by decide +kernel
theorem d83_11 : decode (xmb 83) 11 = .ok (.iconst (-1), 1) := by decide +kernel
theorem d83_12 : decode (xmb 83) 12 = .ok (.istore_n 1, 1) := by decide +kernel
theorem d83_13 : decode (xmb 83) 13 = .ok (.iconst 0, 1) := by decide +kernel
theorem d83_14 : decode (xmb 83) 14 = .ok (.istore_n 2, 1) := by decide +kernel
theorem d83_15 : decode (xmb 83) 15 = .ok (.iconst 0, 1) := by decide +kernel
theorem d83_16 : decode (xmb 83) 16 = .ok (.istore_n 3, 1) := by decide +kernel
theorem d83_17 : decode (xmb 83) 17 = .ok (.iconst 0, 1) := by decide +kernel
theorem d83_18 : decode (xmb 83) 18 = .ok (.istore 4, 2) := by decide +kernel
theorem d83_20 : decode (xmb 83) 20 = .ok (.iload 4, 2) := by decide +kernel
theorem d83_22 : decode (xmb 83) 22 = .ok (.iconst 4, 1) := by decide +kernel
theorem d83_23 : decode (xmb 83) 23 = .ok (.if_icmp .ge 89, 3) := by decide +kernel
theorem d83_26 : decode (xmb 83) 26 = .ok (.aload_n 0, 1) := by decide +kernel
theorem d83_27 : decode (xmb 83) 27 = .ok (.getfield 33, 3) := by decide +kernel
theorem d83_30 : decode (xmb 83) 30 = .ok (.getfield 206, 3) := by decide +kernel
theorem d83_33 : decode (xmb 83) 33 = .ok (.iconst 4, 1) := by decide +kernel
theorem d83_34 : decode (xmb 83) 34 = .ok (.iload 4, 2) := by decide +kernel
theorem d83_36 : decode (xmb 83) 36 = .ok (.iastore, 1) := by decide +kernel
theorem d83_37 : decode (xmb 83) 37 = .ok (.aload_n 0, 1) := by decide +kernel
theorem d83_38 : decode (xmb 83) 38 = .ok (.getfield 30, 3) := by decide +kernel
theorem d83_41 : decode (xmb 83) 41 = .ok (.invokevirtual 103, 3) := by decide +kernel
theorem d83_44 : decode (xmb 83) 44 = .ok (.aload_n 0, 1) := by decide +kernel
theorem d83_45 : decode (xmb 83) 45 = .ok (.getfield 30, 3) := by decide +kernel
theorem d83_48 : decode (xmb 83) 48 = .ok (.getfield 109, 3) := by decide +kernel
theorem d83_51 : decode (xmb 83) 51 = .ok (.istore 5, 2) := by decide +kernel
theorem d83_53 : decode (xmb 83) 53 = .ok (.aload_n 0, 1) := by decide +kernel
theorem d83_54 : decode (xmb 83) 54 = .ok (.getfield 30, 3) := by decide +kernel
theorem d83_57 : decode (xmb 83) 57 = .ok (.getfield 106, 3) := by decide +kernel
theorem d83_60 : decode (xmb 83) 60 = .ok (.istore 6, 2) := by decide +kernel
theorem d83_62 : decode (xmb 83) 62 = .ok (.iload 5, 2) := by decide +kernel
theorem d83_64 : decode (xmb 83) 64 = .ok (.iload_n 2, 1) := by decide +kernel
theorem d83_65 : decode (xmb 83) 65 = .ok (.if_icmp .lt 15, 3) := by decide +kernel
theorem d83_68 : decode (xmb 83) 68 = .ok (.iload 5, 2) := by decide +kernel
theorem d83_70 : decode (xmb 83) 70 = .ok (.iload_n 2, 1) := by decide +kernel
theorem d83_71 : decode (xmb 83) 71 = .ok (.if_icmp .ne 13, 3) := by decide +kernel
theorem d83_74 : decode (xmb 83) 74 = .ok (.iload 6, 2) := by decide +kernel
theorem d83_76 : decode (xmb 83) 76 = .ok (.iload_n 3, 1) := by decide +kernel
theorem d83_77 : decode (xmb 83) 77 = .ok (.if_icmp .ge 7, 3) := by decide +kernel
theorem d83_80 : decode (xmb 83) 80 = .ok (.iconst 1, 1) := by decide +kernel
theorem d83_81 : decode (xmb 83) 81 = .ok (.goto 4, 3) := by decide +kernel
theorem d83_84 : decode (xmb 83) 84 = .ok (.iconst 0, 1) := by decide +kernel
theorem d83_85 : decode (xmb 83) 85 = .ok (.istore 7, 2) := by decide +kernel
theorem d83_87 : decode (xmb 83) 87 = .ok (.iload_n 1, 1) := by decide +kernel
theorem d83_88 : decode (xmb 83) 88 = .ok (.iconst (-1), 1) := by decide +kernel
theorem d83_89 : decode (xmb 83) 89 = .ok (.if_icmp .eq 8, 3) := by decide +kernel
theorem d83_92 : decode (xmb 83) 92 = .ok (.iload 7, 2) := by decide +kernel
theorem d83_94 : decode (xmb 83) 94 = .ok (.ifCond .eq 12, 3) := by decide +kernel
theorem d83_97 : decode (xmb 83) 97 = .ok (.iload 4, 2) := by decide +kernel
theorem d83_99 : decode (xmb 83) 99 = .ok (.istore_n 1, 1) := by decide +kernel
theorem d83_100 : decode (xmb 83) 100 = .ok (.iload 5, 2) := by decide +kernel
theorem d83_102 : decode (xmb 83) 102 = .ok (.istore_n 2, 1) := by decide +kernel
theorem d83_103 : decode (xmb 83) 103 = .ok (.iload 6, 2) := by decide +kernel
theorem d83_105 : decode (xmb 83) 105 = .ok (.istore_n 3, 1) := by decide +kernel
theorem d83_106 : decode (xmb 83) 106 = .ok (.iinc 4 1, 3) := by decide +kernel
theorem d83_109 : decode (xmb 83) 109 = .ok (.goto (-89), 3) := by decide +kernel
theorem d83_112 : decode (xmb 83) 112 = .ok (.iload_n 1, 1) := by decide +kernel
theorem d83_113 : decode (xmb 83) 113 = .ok (.ireturn, 1) := by decide +kernel
theorem d84_0 : decode (xmb 84) 0 = .ok (.iload_n 1, 1) := by decide +kernel
theorem d84_1 : decode (xmb 84) 1 = .ok (.iconst 1, 1) := by decide +kernel
theorem d84_2 : decode (xmb 84) 2 = .ok (.bipush 24, 2) := by decide +kernel
theorem d84_4 : decode (xmb 84) 4 = .ok (.invokestatic 54, 3) := by decide +kernel
theorem d84_7 : decode (xmb 84) 7 = .ok (.ifCond .eq 17, 3) := by decide +kernel
theorem d84_10 : decode (xmb 84) 10 = .ok (.iload_n 2, 1) := by decide +kernel
theorem d84_11 : decode (xmb 84) 11 = .ok (.iload_n 1, 1) := by decide +kernel
theorem d84_12 : decode (xmb 84) 12 = .ok (.bipush 24, 2) := by decide +kernel
theorem d84_14 : decode (xmb 84) 14 = .ok (.invokestatic 54, 3) := by decide +kernel
theorem d84_17 : decode (xmb 84) 17 = .ok (.ifCond .eq 7, 3) := by decide +kernel
theorem d84_20 : decode (xmb 84) 20 = .ok (.iconst 1, 1) := by decide +kernel
theorem d84_21 : decode (xmb 84) 21 = .ok (.goto 4, 3) := by decide +kernel
theorem d84_24 : decode (xmb 84) 24 = .ok (.iconst 0, 1) := by decide +kernel
theorem d84_25 : decode (xmb 84) 25 = .ok (.invokestatic 58, 3) := by decide +kernel
theorem d84_28 : decode (xmb 84) 28 = .ok (.iload_n 1, 1) := by decide +kernel
theorem d84_29 : decode (xmb 84) 29 = .ok (.istore_n 3, 1) := by decide +kernel
theorem d84_30 : decode (xmb 84) 30 = .ok (.aload_n 0, 1) := by decide +kernel
theorem d84_31 : decode (xmb 84) 31 = .ok (.getfield 27, 3) := by decide +kernel
theorem d84_34 : decode (xmb 84) 34 = .ok (.iload_n 1, 1) := by decide +kernel
theorem d84_35 : decode (xmb 84) 35 = .ok (.invokevirtual 226, 3) := by decide +kernel
theorem d84_38 : decode (xmb 84) 38 = .ok (.istore 4, 2) := by decide +kernel
theorem d84_40 : decode (xmb 84) 40 = .ok (.iload_n 1, 1) := by decide +kernel
theorem d84_41 : decode (xmb 84) 41 = .ok (.iconst 1, 1) := by decide +kernel
theorem d84_42 : decode (xmb 84) 42 = .ok (.iadd, 1) := by decide +kernel
theorem d84_43 : decode (xmb 84) 43 = .ok (.istore 5, 2) := by decide +kernel
theorem d84_45 : decode (xmb 84) 45 = .ok (.iload 5, 2) := by decide +kernel
theorem d84_47 : decode (xmb 84) 47 = .ok (.iload_n 2, 1) := by decide +kernel
theorem d84_48 : decode (xmb 84) 48 = .ok (.if_icmp .gt 34, 3) := by decide +kernel
theorem d84_51 : decode (xmb 84) 51 = .ok (.aload_n 0, 1) := by decide +kernel
theorem d84_52 : decode (xmb 84) 52 = .ok (.getfield 27, 3) := by decide +kernel
theorem d84_55 : decode (xmb 84) 55 = .ok (.iload 5, 2) := by decide +kernel
theorem d84_57 : decode (xmb 84) 57 = .ok (.invokevirtual 226, 3) := by decide +kernel
theorem d84_60 : decode (xmb 84) 60 = .ok (.istore 6, 2) := by decide +kernel
theorem d84_62 : decode (xmb 84) 62 = .ok (.iload 6, 2) := by decide +kernel
theorem d84_64 : decode (xmb 84) 64 = .ok (.iload 4, 2) := by decide +kernel
theorem d84_66 : decode (xmb 84) 66 = .ok (.if_icmp .ge 10, 3) := by decide +kernel
theorem d84_69 : decode (xmb 84) 69 = .ok (.iload 5, 2) := by decide +kernel
theorem d84_71 : decode (xmb 84) 71 = .ok (.istore_n 3, 1) := by decide +kernel
theorem d84_72 : decode (xmb 84) 72 = .ok (.iload 6, 2) := by decide +kernel
theorem d84_74 : decode (xmb 84) 74 = .ok (.istore 4, 2) := by decide +kernel
theorem d84_76 : decode (xmb 84) 76 = .ok (.iinc 5 1, 3) := by decide +kernel
theorem d84_79 : decode (xmb 84) 79 = .ok (.goto (-34), 3) := by decide +kernel
theorem d84_82 : decode (xmb 84) 82 = .ok (.iload_n 3, 1) := by decide +kernel
theorem d84_83 : decode (xmb 84) 83 = .ok (.ireturn, 1) := by decide +kernel
theorem d85_0 : decode (xmb 85) 0 = .ok (.iload_n 1, 1) := by decide +kernel
theorem d85_1 : decode (xmb 85) 1 = .ok (.iconst 1, 1) := by decide +kernel
theorem d85_2 : decode (xmb 85) 2 = .ok (.iconst 3, 1) := by decide +kernel
theorem d85_3 : decode (xmb 85) 3 = .ok (.invokestatic 54, 3) := by decide +kernel
theorem d85_6 : decode (xmb 85) 6 = .ok (.invokestatic 58, 3) := by decide +kernel
theorem d85_9 : decode (xmb 85) 9 = .ok (.lconst 1, 1) := by decide +kernel
theorem d85_10 : decode (xmb 85) 10 = .ok (.lstore 4, 2) := by decide +kernel
theorem d85_12 : decode (xmb 85) 12 = .ok (.iconst 0, 1) := by decide +kernel
theorem d85_13 : decode (xmb 85) 13 = .ok (.istore 6, 2) := by decide +kernel
theorem d85_15 : decode (xmb 85) 15 = .ok (.iload 6, 2) := by decide +kernel
theorem d85_17 : decode (xmb 85) 17 = .ok (.iload_n 1, 1) := by decide +kernel
theorem d85_18 : decode (xmb 85) 18 = .ok (.if_icmp .ge 17, 3) := by decide +kernel
theorem d85_21 : decode (xmb 85) 21 = .ok (.lload 4, 2) := by decide +kernel
theorem d85_23 : decode (xmb 85) 23 = .ok (.ldc2_w 229, 3) := by decide +kernel
theorem d85_26 : decode (xmb 85) 26 = .ok (.lmul, 1) := by decide +kernel
theorem d85_27 : decode (xmb 85) 27 = .ok (.lstore 4, 2) := by decide +kernel
theorem d85_29 : decode (xmb 85) 29 = .ok (.iinc 6 1, 3) := by decide +kernel
theorem d85_32 : decode (xmb 85) 32 = .ok (.goto (-17), 3) := by decide +kernel
theorem d85_35 : decode (xmb 85) 35 = .ok (.lload_n 2, 1) := by decide +kernel
theorem d85_36 : decode (xmb 85) 36 = .ok (.lconst 0, 1) := by decide +kernel
theorem d85_37 : decode (xmb 85) 37 = .ok (.lcmp, 1) := by decide +kernel
theorem d85_38 : decode (xmb 85) 38 = .ok (.ifCond .lt 14, 3) := by decide +kernel
theorem d85_41 : decode (xmb 85) 41 = .ok (.lload_n 2, 1) := by decide +kernel
theorem d85_42 : decode (xmb 85) 42 = .ok (.lload 4, 2) := by decide +kernel
theorem d85_44 : decode (xmb 85) 44 = .ok (.lcmp, 1) := by decide +kernel
theorem d85_45 : decode (xmb 85) 45 = .ok (.ifCond .ge 7, 3) := by decide +kernel
theorem d85_48 : decode (xmb 85) 48 = .ok (.iconst 1, 1) := by decide +kernel
theorem d85_49 : decode (xmb 85) 49 = .ok (.goto 4, 3) := by decide +kernel
theorem d85_52 : decode (xmb 85) 52 = .ok (.iconst 0, 1) := by decide +kernel
theorem d85_53 : decode (xmb 85) 53 = .ok (.invokestatic 58, 3) := by decide +kernel
theorem d85_56 : decode (xmb 85) 56 = .ok (.aload_n 0, 1) := by decide +kernel
theorem d85_57 : decode (xmb 85) 57 = .ok (.getfield 33, 3) := by decide +kernel
theorem d85_60 : decode (xmb 85) 60 = .ok (.aload_n 0, 1) := by decide +kernel
theorem d85_61 : decode (xmb 85) 61 = .ok (.getfield 27, 3) := by decide +kernel
theorem d85_64 : decode (xmb 85) 64 = .ok (.invokevirtual 77, 3) := by decide +kernel
theorem d85_67 : decode (xmb 85) 67 = .ok (.lload_n 2, 1) := by decide +kernel
theorem d85_68 : decode (xmb 85) 68 = .ok (.lstore 6, 2) := by decide +kernel
theorem d85_70 : decode (xmb 85) 70 = .ok (.iconst 0, 1) := by decide +kernel
theorem d85_71 : decode (xmb 85) 71 = .ok (.istore 8, 2) := by decide +kernel
theorem d85_73 : decode (xmb 85) 73 = .ok (.iload 8, 2) := by decide +kernel
theorem d85_75 : decode (xmb 85) 75 = .ok (.iload_n 1, 1) := by decide +kernel
theorem d85_76 : decode (xmb 85) 76 = .ok (.if_icmp .ge 65, 3) := by decide +kernel
theorem d85_79 : decode (xmb 85) 79 = .ok (.lload 4, 2) := by decide +kernel
theorem d85_81 : decode (xmb 85) 81 = .ok (.ldc2_w 229, 3) := by decide +kernel
theorem d85_84 : decode (xmb 85) 84 = .ok (.ldiv, 1) := by decide +kernel
theorem d85_85 : decode (xmb 85) 85 = .ok (.lstore 4, 2) := by decide +kernel
theorem d85_87 : decode (xmb 85) 87 = .ok (.lload 4, 2) := by decide +kernel
theorem d85_89 : decode (xmb 85) 89 = .ok (.lconst 1, 1) := by decide +kernel
theorem d85_90 : decode (xmb 85) 90 = .ok (.lcmp, 1) := by decide +kernel
theorem d85_91 : decode (xmb 85) 91 = .ok (.ifCond .ge 7, 3) := by decide +kernel
theorem d85_94 : decode (xmb 85) 94 = .ok (.lconst 0, 1) := by decide +kernel
theorem d85_95 : decode (xmb 85) 95 = .ok (.goto 8, 3) := by decide +kernel
theorem d85_98 : decode (xmb 85) 98 = .ok (.lload 6, 2) := by decide +kernel
theorem d85_100 : decode (xmb 85) 100 = .ok (.lload 4, 2) := by decide +kernel
theorem d85_102 : decode (xmb 85) 102 = .ok (.ldiv, 1) := by decide +kernel
theorem d85_103 : decode (xmb 85) 103 = .ok (.lstore 9, 2) := by decide +kernel
theorem d85_105 : decode (xmb 85) 105 = .ok (.lload 6, 2) := by decide +kernel
theorem d85_107 : decode (xmb 85) 107 = .ok (.lload 9, 2) := by decide +kernel
theorem d85_109 : decode (xmb 85) 109 = .ok (.lload 4, 2) := by decide +kernel
theorem d85_111 : decode (xmb 85) 111 = .ok (.lmul, 1) := by decide +kernel
theorem d85_112 : decode (xmb 85) 112 = .ok (.lsub, 1) := by decide +kernel
theorem d85_113 : decode (xmb 85) 113 = .ok (.lstore 6, 2) := by decide +kernel
theorem d85_115 : decode (xmb 85) 115 = .ok (.aload_n 0, 1) := by decide +kernel
theorem d85_116 : decode (xmb 85) 116 = .ok (.getfield 30, 3) := by decide +kernel
theorem d85_119 : decode (xmb 85) 119 = .ok (.invokevirtual 103, 3) := by decide +kernel
theorem d85_122 : decode (xmb 85) 122 = .ok (.aload_n 0, 1) := by decide +kernel
theorem d85_123 : decode (xmb 85) 123 = .ok (.lload 9, 2) := by decide +kernel
theorem d85_125 : decode (xmb 85) 125 = .ok (.l2i, 1) := by decide +kernel
theorem d85_126 : decode (xmb 85) 126 = .ok (.invokevirtual 231, 3) := by decide +kernel
theorem d85_129 : decode (xmb 85) 129 = .ok (.ifCond .ne 6, 3) := by decide +kernel
theorem d85_132 : decode (xmb 85) 132 = .ok (.iload 8, 2) := by decide +kernel
theorem d85_134 : decode (xmb 85) 134 = .ok (.ireturn, 1) := by decide +kernel
theorem d85_135 : decode (xmb 85) 135 = .ok (.iinc 8 1, 3) := by decide +kernel
theorem d85_138 : decode (xmb 85) 138 = .ok (.goto (-65), 3) := by decide +kernel
theorem d85_141 : decode (xmb 85) 141 = .ok (.iconst (-1), 1) := by decide +kernel
theorem d85_142 : decode (xmb 85) 142 = .ok (.ireturn, 1) := by decide +kernel
theorem d86_0 : decode (xmb 86) 0 = .ok (.iload_n 3, 1) := by decide +kernel
theorem d86_1 : decode (xmb 86) 1 = .ok (.iconst 1, 1) := by decide +kernel
theorem d86_2 : decode (xmb 86) 2 = .ok (.bipush 60, 2) := by decide +kernel
theorem d86_4 : decode (xmb 86) 4 = .ok (.invokestatic 54, 3) := by decide +kernel
theorem d86_7 : decode (xmb 86) 7 = .ok (.invokestatic 58, 3) := by decide +kernel
theorem d86_10 : decode (xmb 86) 10 = .ok (.aload_n 0, 1) := by decide +kernel
theorem d86_11 : decode (xmb 86) 11 = .ok (.getfield 33, 3) := by decide +kernel
theorem d86_14 : decode (xmb 86) 14 = .ok (.aload_n 0, 1) := by decide +kernel
theorem d86_15 : decode (xmb 86) 15 = .ok (.getfield 27, 3) := by decide +kernel
theorem d86_18 : decode (xmb 86) 18 = .ok (.invokevirtual 77, 3) := by decide +kernel
theorem d86_21 : decode (xmb 86) 21 = .ok (.lload_n 1, 1) := by decide +kernel
theorem d86_22 : decode (xmb 86) 22 = .ok (.lstore 4, 2) := by decide +kernel
theorem d86_24 : decode (xmb 86) 24 = .ok (.iconst 0, 1) := by decide +kernel
theorem d86_25 : decode (xmb 86) 25 = .ok (.istore 6, 2) := by decide +kernel
theorem d86_27 : decode (xmb 86) 27 = .ok (.iload 6, 2) := by decide +kernel
theorem d86_29 : decode (xmb 86) 29 = .ok (.iload_n 3, 1) := by decide +kernel
theorem d86_30 : decode (xmb 86) 30 = .ok (.if_icmp .ge 43, 3) := by decide +kernel
theorem d86_33 : decode (xmb 86) 33 = .ok (.lload 4, 2) := by decide +kernel
theorem d86_35 : decode (xmb 86) 35 = .ok (.ldc2_w 234, 3) := by decide +kernel
theorem d86_38 : decode (xmb 86) 38 = .ok (.lmul, 1) := by decide +kernel
theorem d86_39 : decode (xmb 86) 39 = .ok (.ldc2_w 236, 3) := by decide +kernel
theorem d86_42 : decode (xmb 86) 42 = .ok (.ladd, 1) := by decide +kernel
theorem d86_43 : decode (xmb 86) 43 = .ok (.lstore 4, 2) := by decide +kernel
theorem d86_45 : decode (xmb 86) 45 = .ok (.lload 4, 2) := by decide +kernel
theorem d86_47 : decode (xmb 86) 47 = .ok (.bipush 33, 2) := by decide +kernel
theorem d86_49 : decode (xmb 86) 49 = .ok (.lushr, 1) := by decide +kernel
theorem d86_50 : decode (xmb 86) 50 = .ok (.l2i, 1) := by decide +kernel
theorem d86_51 : decode (xmb 86) 51 = .ok (.istore 7, 2) := by decide +kernel
theorem d86_53 : decode (xmb 86) 53 = .ok (.aload_n 0, 1) := by decide +kernel
theorem d86_54 : decode (xmb 86) 54 = .ok (.iload 7, 2) := by decide +kernel
theorem d86_56 : decode (xmb 86) 56 = .ok (.bipush 8, 2) := by decide +kernel
theorem d86_58 : decode (xmb 86) 58 = .ok (.irem, 1) := by decide +kernel
theorem d86_59 : decode (xmb 86) 59 = .ok (.iload 7, 2) := by decide +kernel
theorem d86_61 : decode (xmb 86) 61 = .ok (.bipush 8, 2) := by decide +kernel
theorem d86_63 : decode (xmb 86) 63 = .ok (.idiv, 1) := by decide +kernel
theorem d86_64 : decode (xmb 86) 64 = .ok (.invokevirtual 238, 3) := by decide +kernel
theorem d86_67 : decode (xmb 86) 67 = .ok (.iinc 6 1, 3) := by decide +kernel
theorem d86_70 : decode (xmb 86) 70 = .ok (.goto (-43), 3) := by decide +kernel
theorem d86_73 : decode (xmb 86) 73 = .ok (.aload_n 0, 1) := by decide +kernel
theorem d86_74 : decode (xmb 86) 74 = .ok (.getfield 30, 3) := by decide +kernel
theorem d86_77 : decode (xmb 86) 77 = .ok (.invokevirtual 103, 3) := by decide +kernel
theorem d86_80 : decode (xmb 86) 80 = .ok (.aload_n 0, 1) := by decide +kernel
theorem d86_81 : decode (xmb 86) 81 = .ok (.getfield 33, 3) := by decide +kernel
theorem d86_84 : decode (xmb 86) 84 = .ok (.aload_n 0, 1) := by decide +kernel
theorem d86_85 : decode (xmb 86) 85 = .ok (.getfield 33, 3) := by decide +kernel
theorem d86_88 : decode (xmb 86) 88 = .ok (.getfield 96, 3) := by decide +kernel
theorem d86_91 : decode (xmb 86) 91 = .ok (.invokevirtual 99, 3) := by decide +kernel
theorem d86_94 : decode (xmb 86) 94 = .ok (.bipush 10, 2) := by decide +kernel
theorem d86_96 : decode (xmb 86) 96 = .ok (.irem, 1) := by decide +kernel
theorem d86_97 : decode (xmb 86) 97 = .ok (.istore 6, 2) := by decide +kernel
theorem d86_99 : decode (xmb 86) 99 = .ok (.sipush 1000, 3) := by decide +kernel
theorem d86_102 : decode (xmb 86) 102 = .ok (.aload_n 0, 1) := by decide +kernel
theorem d86_103 : decode (xmb 86) 103 = .ok (.getfield 30, 3) := by decide +kernel
theorem d86_106 : decode (xmb 86) 106 = .ok (.getfield 106, 3) := by decide +kernel
theorem d86_109 : decode (xmb 86) 109 = .ok (.imul, 1) := by decide +kernel
theorem d86_110 : decode (xmb 86) 110 = .ok (.bipush 10, 2) := by decide +kernel
theorem d86_112 : decode (xmb 86) 112 = .ok (.aload_n 0, 1) := by decide +kernel
theorem d86_113 : decode (xmb 86) 113 = .ok (.getfield 30, 3) := by decide +kernel
theorem d86_116 : decode (xmb 86) 116 = .ok (.getfield 109, 3) := by decide +kernel
theorem d86_119 : decode (xmb 86) 119 = .ok (.imul, 1) := by decide +kernel
theorem d86_120 : decode (xmb 86) 120 = .ok (.iadd, 1) := by decide +kernel
theorem d86_121 : decode (xmb 86) 121 = .ok (.iload 6, 2) := by decide +kernel
theorem d86_123 : decode (xmb 86) 123 = .ok (.iadd, 1) := by decide +kernel
theorem d86_124 : decode (xmb 86) 124 = .ok (.ireturn, 1) := by decide +kernel
theorem d87_0 : decode (xmb 87) 0 = .ok (.iload_n 1, 1) := by decide +kernel
theorem d87_1 : decode (xmb 87) 1 = .ok (.invokestatic 242, 3) := by decide +kernel
theorem d87_4 : decode (xmb 87) 4 = .ok (.invokestatic 126, 3) := by decide +kernel
theorem d87_7 : decode (xmb 87) 7 = .ok (.aload_n 0, 1) := by decide +kernel
theorem d87_8 : decode (xmb 87) 8 = .ok (.getfield 46, 3) := by decide +kernel
theorem d87_11 : decode (xmb 87) 11 = .ok (.iload_n 1, 1) := by decide +kernel
theorem d87_12 : decode (xmb 87) 12 = .ok (.aaload, 1) := by decide +kernel
theorem d87_13 : decode (xmb 87) 13 = .ok (.aload_n 0, 1) := by decide +kernel
theorem d87_14 : decode (xmb 87) 14 = .ok (.getfield 27, 3) := by decide +kernel
theorem d87_17 : decode (xmb 87) 17 = .ok (.invokevirtual 77, 3) := by decide +kernel
theorem d87_20 : decode (xmb 87) 20 = .ok (.aload_n 0, 1) := by decide +kernel
theorem d87_21 : decode (xmb 87) 21 = .ok (.getfield 50, 3) := by decide +kernel
theorem d87_24 : decode (xmb 87) 24 = .ok (.iload_n 1, 1) := by decide +kernel
theorem d87_25 : decode (xmb 87) 25 = .ok (.iconst 1, 1) := by decide +kernel
theorem d87_26 : decode (xmb 87) 26 = .ok (.bastore, 1) := by decide +kernel
theorem d87_27 : decode (xmb 87) 27 = .ok (.aload_n 0, 1) := by decide +kernel
theorem d87_28 : decode (xmb 87) 28 = .ok (.getfield 27, 3) := by decide +kernel
theorem d87_31 : decode (xmb 87) 31 = .ok (.getfield 90, 3) := by decide +kernel
theorem d87_34 : decode (xmb 87) 34 = .ok (.ireturn, 1) := by decide +kernel
theorem d88_0 : decode (xmb 88) 0 = .ok (.iload_n 1, 1) := by decide +kernel
theorem d88_1 : decode (xmb 88) 1 = .ok (.invokestatic 242, 3) := by decide +kernel
theorem d88_4 : decode (xmb 88) 4 = .ok (.invokestatic 126, 3) := by decide +kernel
theorem d88_7 : decode (xmb 88) 7 = .ok (.aload_n 0, 1) := by decide +kernel
theorem d88_8 : decode (xmb 88) 8 = .ok (.getfield 50, 3) := by decide +kernel
theorem d88_11 : decode (xmb 88) 11 = .ok (.iload_n 1, 1) := by decide +kernel
theorem d88_12 : decode (xmb 88) 12 = .ok (.baload, 1) := by decide +kernel
theorem d88_13 : decode (xmb 88) 13 = .ok (.invokestatic 66, 3) := by decide +kernel
theorem d88_16 : decode (xmb 88) 16 = .ok (.aload_n 0, 1) := by decide +kernel
theorem d88_17 : decode (xmb 88) 17 = .ok (.getfield 27, 3) := by decide +kernel
theorem d88_20 : decode (xmb 88) 20 = .ok (.aload_n 0, 1) := by decide +kernel
theorem d88_21 : decode (xmb 88) 21 = .ok (.getfield 46, 3) := by decide +kernel
theorem d88_24 : decode (xmb 88) 24 = .ok (.iload_n 1, 1) := by decide +kernel
theorem d88_25 : decode (xmb 88) 25 = .ok (.aaload, 1) := by decide +kernel
theorem d88_26 : decode (xmb 88) 26 = .ok (.invokevirtual 77, 3) := by decide +kernel
theorem d88_29 : decode (xmb 88) 29 = .ok (.aload_n 0, 1) := by decide +kernel
theorem d88_30 : decode (xmb 88) 30 = .ok (.getfield 39, 3) := by decide +kernel
theorem d88_33 : decode (xmb 88) 33 = .ok (.invokevirtual 81, 3) := by decide +kernel
theorem d88_36 : decode (xmb 88) 36 = .ok (.aload_n 0, 1) := by decide +kernel
theorem d88_37 : decode (xmb 88) 37 = .ok (.getfield 27, 3) := by decide +kernel
theorem d88_40 : decode (xmb 88) 40 = .ok (.getfield 90, 3) := by decide +kernel
theorem d88_43 : decode (xmb 88) 43 = .ok (.ireturn, 1) := by decide +kernel
theorem d89_0 : decode (xmb 89) 0 = .ok (.aload_n 0, 1) := by decide +kernel
theorem d89_1 : decode (xmb 89) 1 = .ok (.getfield 27, 3) := by decide +kernel
theorem d89_4 : decode (xmb 89) 4 = .ok (.iload_n 1, 1) := by decide +kernel
theorem d89_5 : decode (xmb 89) 5 = .ok (.iload_n 2, 1) := by decide +kernel
theorem d89_6 : decode (xmb 89) 6 = .ok (.iload_n 3, 1) := by decide +kernel
theorem d89_7 : decode (xmb 89) 7 = .ok (.iload 4, 2) := by decide +kernel
theorem d89_9 : decode (xmb 89) 9 = .ok (.invokevirtual 245, 3) := by decide +kernel
theorem d89_12 : decode (xmb 89) 12 = .ok (.invokestatic 248, 3) := by decide +kernel
theorem d89_15 : decode (xmb 89) 15 = .ok (.aload_n 0, 1) := by decide +kernel
theorem d89_16 : decode (xmb 89) 16 = .ok (.getfield 39, 3) := by decide +kernel
theorem d89_19 : decode (xmb 89) 19 = .ok (.aload_n 0, 1) := by decide +kernel
theorem d89_20 : decode (xmb 89) 20 = .ok (.getfield 27, 3) := by decide +kernel
theorem d89_23 : decode (xmb 89) 23 = .ok (.invokevirtual 252, 3) := by decide +kernel
theorem d89_26 : decode (xmb 89) 26 = .ok (.aload_n 0, 1) := by decide +kernel
theorem d89_27 : decode (xmb 89) 27 = .ok (.getfield 27, 3) := by decide +kernel
theorem d89_30 : decode (xmb 89) 30 = .ok (.iload_n 1, 1) := by decide +kernel
theorem d89_31 : decode (xmb 89) 31 = .ok (.iload_n 2, 1) := by decide +kernel
theorem d89_32 : decode (xmb 89) 32 = .ok (.iload_n 3, 1) := by decide +kernel
theorem d89_33 : decode (xmb 89) 33 = .ok (.iload 4, 2) := by decide +kernel
theorem d89_35 : decode (xmb 89) 35 = .ok (.invokevirtual 255, 3) := by decide +kernel
theorem d89_38 : decode (xmb 89) 38 = .ok (.ireturn, 1) := by decide +kernel
theorem d90_0 : decode (xmb 90) 0 = .ok (.iload_n 0, 1) := by decide +kernel
theorem d90_1 : decode (xmb 90) 1 = .ok (.iconst 1, 1) := by decide +kernel
theorem d90_2 : decode (xmb 90) 2 = .ok (.if_icmp .eq 7, 3) := by decide +kernel
theorem d90_5 : decode (xmb 90) 5 = .ok (.iconst 1, 1) := by decide +kernel
theorem d90_6 : decode (xmb 90) 6 = .ok (.goto 4, 3) := by decide +kernel
theorem d90_9 : decode (xmb 90) 9 = .ok (.iconst 0, 1) := by decide +kernel
theorem d90_10 : decode (xmb 90) 10 = .ok (.invokestatic 126, 3) := by decide +kernel
theorem d90_13 : decode (xmb 90) 13 = .ok (.iload_n 0, 1) := by decide +kernel
theorem d90_14 : decode (xmb 90) 14 = .ok (.iconst 2, 1) := by decide +kernel
theorem d90_15 : decode (xmb 90) 15 = .ok (.if_icmp .eq 7, 3) := by decide +kernel
theorem d90_18 : decode (xmb 90) 18 = .ok (.iconst 1, 1) := by decide +kernel
theorem d90_19 : decode (xmb 90) 19 = .ok (.goto 4, 3) := by decide +kernel
theorem d90_22 : decode (xmb 90) 22 = .ok (.iconst 0, 1) := by decide +kernel
theorem d90_23 : decode (xmb 90) 23 = .ok (.invokestatic 58, 3) := by decide +kernel
theorem d90_26 : decode (xmb 90) 26 = .ok (.iload_n 0, 1) := by decide +kernel
theorem d90_27 : decode (xmb 90) 27 = .ok (.iconst 3, 1) := by decide +kernel
theorem d90_28 : decode (xmb 90) 28 = .ok (.if_icmp .eq 7, 3) := by decide +kernel
theorem d90_31 : decode (xmb 90) 31 = .ok (.iconst 1, 1) := by decide +kernel
theorem d90_32 : decode (xmb 90) 32 = .ok (.goto 4, 3) := by decide +kernel
theorem d90_35 : decode (xmb 90) 35 = .ok (.iconst 0, 1) := by decide +kernel
theorem d90_36 : decode (xmb 90) 36 = .ok (.invokestatic 66, 3) := by decide +kernel
theorem d90_39 : decode (xmb 90) 39 = .ok (.return_, 1) := by decide +kernel
theorem d91_0 : decode (xmb 91) 0 = .ok (.iload_n 0, 1) := by decide +kernel
theorem d91_1 : decode (xmb 91) 1 = .ok (.ifCond .ne 14, 3) := by decide +kernel
theorem d91_4 : decode (xmb 91) 4 = .ok (.new 258, 3) := by decide +kernel
theorem d91_15 : decode (xmb 91) 15 = .ok (.return_, 1) := by decide +kernel
theorem d92_0 : decode (xmb 92) 0 = .ok (.iload_n 0, 1) := by decide +kernel
theorem d92_1 : decode (xmb 92) 1 = .ok (.ifCond .ne 14, 3) := by decide +kernel
theorem d92_4 : decode (xmb 92) 4 = .ok (.new 265, 3) := by decide +kernel
theorem d92_15 : decode (xmb 92) 15 = .ok (.return_, 1) := by decide +kernel
theorem d93_0 : decode (xmb 93) 0 = .ok (.iload_n 0, 1) := by decide +kernel
theorem d93_1 : decode (xmb 93) 1 = .ok (.ifCond .ne 14, 3) := by decide +kernel
theorem d93_4 : decode (xmb 93) 4 = .ok (.new 270, 3) := by decide +kernel
theorem d93_15 : decode (xmb 93) 15 = .ok (.return_, 1) := by decide +kernel
theorem d94_0 : decode (xmb 94) 0 = .ok (.iload_n 1, 1) := by decide +kernel
theorem d94_1 : decode (xmb 94) 1 = .ok (.iload_n 0, 1) := by decide +kernel
theorem d94_2 : decode (xmb 94) 2 = .ok (.if_icmp .gt 12, 3) := by decide +kernel
theorem d94_5 : decode (xmb 94) 5 = .ok (.iload_n 0, 1) := by decide +kernel
theorem d94_6 : decode (xmb 94) 6 = .ok (.iload_n 2, 1) := by decide +kernel
theorem d94_7 : decode (xmb 94) 7 = .ok (.if_icmp .gt 7, 3) := by decide +kernel
theorem d94_10 : decode (xmb 94) 10 = .ok (.iconst 1, 1) := by decide +kernel
theorem d94_11 : decode (xmb 94) 11 = .ok (.goto 4, 3) := by decide +kernel
theorem d94_14 : decode (xmb 94) 14 = .ok (.iconst 0, 1) := by decide +kernel
theorem d94_15 : decode (xmb 94) 15 = .ok (.ireturn, 1) := by decide +kernel
theorem d95_0 : decode (xmb 95) 0 = .ok (.iload_n 0, 1) := by decide +kernel
theorem d95_1 : decode (xmb 95) 1 = .ok (.iconst 0, 1) := by decide +kernel
theorem d95_2 : decode (xmb 95) 2 = .ok (.iconst 3, 1) := by decide +kernel
theorem d95_3 : decode (xmb 95) 3 = .ok (.invokestatic 54, 3) := by decide +kernel
theorem d95_6 : decode (xmb 95) 6 = .ok (.ireturn, 1) := by decide +kernel
theorem d96_0 : decode (xmb 96) 0 = .ok (.iload_n 0, 1) := by decide +kernel
theorem d96_1 : decode (xmb 96) 1 = .ok (.iconst 0, 1) := by decide +kernel
theorem d96_2 : decode (xmb 96) 2 = .ok (.iconst 4, 1) := by decide +kernel
theorem d96_3 : decode (xmb 96) 3 = .ok (.invokestatic 54, 3) := by decide +kernel
theorem d96_6 : decode (xmb 96) 6 = .ok (.ireturn, 1) := by decide +kernel
theorem d97_0 : decode (xmb 97) 0 = .ok (.iload_n 0, 1) := by decide +kernel
theorem d97_1 : decode (xmb 97) 1 = .ok (.iconst 0, 1) := by decide +kernel
theorem d97_2 : decode (xmb 97) 2 = .ok (.iconst 1, 1) := by decide +kernel
theorem d97_3 : decode (xmb 97) 3 = .ok (.invokestatic 54, 3) := by decide +kernel
theorem d97_6 : decode (xmb 97) 6 = .ok (.ireturn, 1) := by decide +kernel
theorem d98_0 : decode (xmb 98) 0 = .ok (.iload_n 0, 1) := by decide +kernel
theorem d98_1 : decode (xmb 98) 1 = .ok (.ifCond .eq 7, 3) := by decide +kernel
theorem d98_4 : decode (xmb 98) 4 = .ok (.iconst 1, 1) := by decide +kernel
theorem d98_5 : decode (xmb 98) 5 = .ok (.goto 4, 3) := by decide +kernel
theorem d98_8 : decode (xmb 98) 8 = .ok (.iconst 0, 1) := by decide +kernel
theorem d98_9 : decode (xmb 98) 9 = .ok (.ireturn, 1) := by decide +kernel
theorem d99_0 : decode (xmb 99) 0 = .ok (.iload_n 0, 1) := by decide +kernel
theorem d99_1 : decode (xmb 99) 1 = .ok (.iload_n 1, 1) := by decide +kernel
theorem d99_2 : decode (xmb 99) 2 = .ok (.ishr, 1) := by decide +kernel
theorem d99_3 : decode (xmb 99) 3 = .ok (.iconst 1, 1) := by decide +kernel
theorem d99_4 : decode (xmb 99) 4 = .ok (.iand, 1) := by decide +kernel
theorem d99_5 : decode (xmb 99) 5 = .ok (.iconst 1, 1) := by decide +kernel
theorem d99_6 : decode (xmb 99) 6 = .ok (.if_icmp .ne 7, 3) := by decide +kernel
theorem d99_9 : decode (xmb 99) 9 = .ok (.iconst 1, 1) := by decide +kernel
theorem d99_10 : decode (xmb 99) 10 = .ok (.goto 4, 3) := by decide +kernel
theorem d99_13 : decode (xmb 99) 13 = .ok (.iconst 0, 1) := by decide +kernel
theorem d99_14 : decode (xmb 99) 14 = .ok (.ireturn, 1) := by decide +kernel
theorem d100_0 : decode (xmb 100) 0 = .ok (.iload_n 2, 1) := by decide +kernel
theorem d100_1 : decode (xmb 100) 1 = .ok (.ifCond .eq 11, 3) := by decide +kernel
theorem d100_4 : decode (xmb 100) 4 = .ok (.iload_n 0, 1) := by decide +kernel
theorem d100_5 : decode (xmb 100) 5 = .ok (.iconst 1, 1) := by decide +kernel
theorem d100_6 : decode (xmb 100) 6 = .ok (.iload_n 1, 1) := by decide +kernel
theorem d100_7 : decode (xmb 100) 7 = .ok (.ishl, 1) := by decide +kernel
theorem d100_8 : decode (xmb 100) 8 = .ok (.ior, 1) := by decide +kernel
theorem d100_9 : decode (xmb 100) 9 = .ok (.goto 10, 3) := by decide +kernel
theorem d100_12 : decode (xmb 100) 12 = .ok (.iload_n 0, 1) := by decide +kernel
theorem d100_13 : decode (xmb 100) 13 = .ok (.iconst 1, 1) := by decide +kernel
theorem d100_14 : decode (xmb 100) 14 = .ok (.iload_n 1, 1) := by decide +kernel
theorem d100_15 : decode (xmb 100) 15 = .ok (.ishl, 1) := by decide +kernel
theorem d100_16 : decode (xmb 100) 16 = .ok (.iconst (-1), 1) := by decide +kernel
theorem d100_17 : decode (xmb 100) 17 = .ok (.ixor, 1) := by decide +kernel
theorem d100_18 : decode (xmb 100) 18 = .ok (.iand, 1) := by decide +kernel
theorem d100_19 : decode (xmb 100) 19 = .ok (.ireturn, 1) := by decide +kernel
theorem d101_0 : decode (xmb 101) 0 = .ok (.iload_n 1, 1) := by decide +kernel
theorem d101_1 : decode (xmb 101) 1 = .ok (.sipush 1000, 3) := by decide +kernel
theorem d101_4 : decode (xmb 101) 4 = .ok (.idiv, 1) := by decide +kernel
theorem d101_5 : decode (xmb 101) 5 = .ok (.bipush 100, 2) := by decide +kernel
theorem d101_7 : decode (xmb 101) 7 = .ok (.irem, 1) := by decide +kernel
theorem d101_8 : decode (xmb 101) 8 = .ok (.istore_n 2, 1) := by decide +kernel
theorem d101_9 : decode (xmb 101) 9 = .ok (.iload_n 1, 1) := by decide +kernel
theorem d101_10 : decode (xmb 101) 10 = .ok (.bipush 10, 2) := by decide +kernel
theorem d101_12 : decode (xmb 101) 12 = .ok (.idiv, 1) := by decide +kernel
theorem d101_13 : decode (xmb 101) 13 = .ok (.bipush 100, 2) := by decide +kernel
theorem d101_15 : decode (xmb 101) 15 = .ok (.irem, 1) := by decide +kernel
theorem d101_16 : decode (xmb 101) 16 = .ok (.istore_n 3, 1) := by decide +kernel
theorem d101_17 : decode (xmb 101) 17 = .ok (.iload_n 1, 1) := by decide +kernel
theorem d101_18 : decode (xmb 101) 18 = .ok (.bipush 10, 2) := by decide +kernel
theorem d101_20 : decode (xmb 101) 20 = .ok (.irem, 1) := by decide +kernel
theorem d101_21 : decode (xmb 101) 21 = .ok (.istore 4, 2) := by decide +kernel
theorem d101_23 : decode (xmb 101) 23 = .ok (.iload_n 1, 1) := by decide +kernel
theorem d101_24 : decode (xmb 101) 24 = .ok (.ldc_w 275, 3) := by decide +kernel
theorem d101_27 : decode (xmb 101) 27 = .ok (.idiv, 1) := by decide +kernel
theorem d101_28 : decode (xmb 101) 28 = .ok (.tableswitch 300 1 9 #[52, 77, 103, 130, 164, 201, 221, 246, 274], 52) := by decide +kernel
theorem d101_80 : decode (xmb 101) 80 = .ok (.iload 4, 2) := by decide +kernel
theorem d101_82 : decode (xmb 101) 82 = .ok (.ifCond .ne 21, 3) := by decide +kernel
theorem d101_85 : decode (xmb 101) 85 = .ok (.aload_n 0, 1) := by decide +kernel
theorem d101_86 : decode (xmb 101) 86 = .ok (.getfield 33, 3) := by decide +kernel
theorem d101_89 : decode (xmb 101) 89 = .ok (.iconst 5, 1) := by decide +kernel
theorem d101_90 : decode (xmb 101) 90 = .ok (.iload_n 2, 1) := by decide +kernel
theorem d101_91 : decode (xmb 101) 91 = .ok (.iload_n 3, 1) := by decide +kernel
theorem d101_92 : decode (xmb 101) 92 = .ok (.iconst 0, 1) := by decide +kernel
theorem d101_93 : decode (xmb 101) 93 = .ok (.invokevirtual 276, 3) := by decide +kernel
theorem d101_96 : decode (xmb 101) 96 = .ok (.ifCond .eq 7, 3) := by decide +kernel
theorem d101_99 : decode (xmb 101) 99 = .ok (.iconst 1, 1) := by decide +kernel
theorem d101_100 : decode (xmb 101) 100 = .ok (.goto 4, 3) := by decide +kernel
theorem d101_103 : decode (xmb 101) 103 = .ok (.iconst 0, 1) := by decide +kernel
theorem d101_104 : decode (xmb 101) 104 = .ok (.ireturn, 1) := by decide +kernel
theorem d101_105 : decode (xmb 101) 105 = .ok (.iload 4, 2) := by decide +kernel
theorem d101_107 : decode (xmb 101) 107 = .ok (.ifCond .ne 22, 3) := by decide +kernel
theorem d101_110 : decode (xmb 101) 110 = .ok (.aload_n 0, 1) := by decide +kernel
theorem d101_111 : decode (xmb 101) 111 = .ok (.getfield 33, 3) := by decide +kernel
theorem d101_114 : decode (xmb 101) 114 = .ok (.bipush 8, 2) := by decide +kernel
theorem d101_116 : decode (xmb 101) 116 = .ok (.iload_n 2, 1) := by decide +kernel
theorem d101_117 : decode (xmb 101) 117 = .ok (.iload_n 3, 1) := by decide +kernel
theorem d101_118 : decode (xmb 101) 118 = .ok (.iconst 0, 1) := by decide +kernel
theorem d101_119 : decode (xmb 101) 119 = .ok (.invokevirtual 276, 3) := by decide +kernel
theorem d101_122 : decode (xmb 101) 122 = .ok (.ifCond .eq 7, 3) := by decide +kernel
theorem d101_125 : decode (xmb 101) 125 = .ok (.iconst 1, 1) := by decide +kernel
theorem d101_126 : decode (xmb 101) 126 = .ok (.goto 4, 3) := by decide +kernel
theorem d101_129 : decode (xmb 101) 129 = .ok (.iconst 0, 1) := by decide +kernel
theorem d101_130 : decode (xmb 101) 130 = .ok (.ireturn, 1) := by decide +kernel
theorem d101_131 : decode (xmb 101) 131 = .ok (.iload 4, 2) := by decide +kernel
theorem d101_133 : decode (xmb 101) 133 = .ok (.iconst 1, 1) := by decide +kernel
theorem d101_134 : decode (xmb 101) 134 = .ok (.if_icmp .gt 22, 3) := by decide +kernel
theorem d101_137 : decode (xmb 101) 137 = .ok (.aload_n 0, 1) := by decide +kernel
theorem d101_138 : decode (xmb 101) 138 = .ok (.getfield 33, 3) := by decide +kernel
theorem d101_141 : decode (xmb 101) 141 = .ok (.iconst 3, 1) := by decide +kernel
theorem d101_142 : decode (xmb 101) 142 = .ok (.iload_n 2, 1) := by decide +kernel
theorem d101_143 : decode (xmb 101) 143 = .ok (.iload_n 3, 1) := by decide +kernel
theorem d101_144 : decode (xmb 101) 144 = .ok (.iload 4, 2) := by decide +kernel
theorem d101_146 : decode (xmb 101) 146 = .ok (.invokevirtual 276, 3) := by decide +kernel
theorem d101_149 : decode (xmb 101) 149 = .ok (.ifCond .eq 7, 3) := by decide +kernel
theorem d101_152 : decode (xmb 101) 152 = .ok (.iconst 1, 1) := by decide +kernel
theorem d101_153 : decode (xmb 101) 153 = .ok (.goto 4, 3) := by decide +kernel
theorem d101_156 : decode (xmb 101) 156 = .ok (.iconst 0, 1) := by decide +kernel
theorem d101_157 : decode (xmb 101) 157 = .ok (.ireturn, 1) := by decide +kernel
theorem d101_158 : decode (xmb 101) 158 = .ok (.iload_n 1, 1) := by decide +kernel
theorem d101_159 : decode (xmb 101) 159 = .ok (.sipush 1000, 3) := by decide +kernel
theorem d101_162 : decode (xmb 101) 162 = .ok (.irem, 1) := by decide +kernel
theorem d101_163 : decode (xmb 101) 163 = .ok (.ifCond .ne 27, 3) := by decide +kernel
theorem d101_166 : decode (xmb 101) 166 = .ok (.aload_n 0, 1) := by decide +kernel
theorem d101_167 : decode (xmb 101) 167 = .ok (.getfield 33, 3) := by decide +kernel
theorem d101_170 : decode (xmb 101) 170 = .ok (.iconst 4, 1) := by decide +kernel
theorem d101_171 : decode (xmb 101) 171 = .ok (.iload_n 2, 1) := by decide +kernel
theorem d101_172 : decode (xmb 101) 172 = .ok (.bipush 10, 2) := by decide +kernel
theorem d101_174 : decode (xmb 101) 174 = .ok (.idiv, 1) := by decide +kernel
theorem d101_175 : decode (xmb 101) 175 = .ok (.iload_n 2, 1) := by decide +kernel
theorem d101_176 : decode (xmb 101) 176 = .ok (.bipush 10, 2) := by decide +kernel
theorem d101_178 : decode (xmb 101) 178 = .ok (.irem, 1) := by decide +kernel
theorem d101_179 : decode (xmb 101) 179 = .ok (.iconst 0, 1) := by decide +kernel
theorem d101_180 : decode (xmb 101) 180 = .ok (.invokevirtual 276, 3) := by decide +kernel
theorem d101_183 : decode (xmb 101) 183 = .ok (.ifCond .eq 7, 3) := by decide +kernel
theorem d101_186 : decode (xmb 101) 186 = .ok (.iconst 1, 1) := by decide +kernel
theorem d101_187 : decode (xmb 101) 187 = .ok (.goto 4, 3) := by decide +kernel
theorem d101_190 : decode (xmb 101) 190 = .ok (.iconst 0, 1) := by decide +kernel
theorem d101_191 : decode (xmb 101) 191 = .ok (.ireturn, 1) := by decide +kernel
theorem d101_192 : decode (xmb 101) 192 = .ok (.iload_n 1, 1) := by decide +kernel
theorem d101_193 : decode (xmb 101) 193 = .ok (.bipush 100, 2) := by decide +kernel
theorem d101_195 : decode (xmb 101) 195 = .ok (.idiv, 1) := by decide +kernel
theorem d101_196 : decode (xmb 101) 196 = .ok (.bipush 100, 2) := by decide +kernel
theorem d101_198 : decode (xmb 101) 198 = .ok (.irem, 1) := by decide +kernel
theorem d101_199 : decode (xmb 101) 199 = .ok (.ifCond .ne 28, 3) := by decide +kernel
theorem d101_202 : decode (xmb 101) 202 = .ok (.aload_n 0, 1) := by decide +kernel
theorem d101_203 : decode (xmb 101) 203 = .ok (.getfield 33, 3) := by decide +kernel
theorem d101_206 : decode (xmb 101) 206 = .ok (.bipush 6, 2) := by decide +kernel
theorem d101_208 : decode (xmb 101) 208 = .ok (.iload_n 2, 1) := by decide +kernel
theorem d101_209 : decode (xmb 101) 209 = .ok (.bipush 10, 2) := by decide +kernel
theorem d101_211 : decode (xmb 101) 211 = .ok (.idiv, 1) := by decide +kernel
theorem d101_212 : decode (xmb 101) 212 = .ok (.iload_n 1, 1) := by decide +kernel
theorem d101_213 : decode (xmb 101) 213 = .ok (.bipush 100, 2) := by decide +kernel
theorem d101_215 : decode (xmb 101) 215 = .ok (.irem, 1) := by decide +kernel
theorem d101_216 : decode (xmb 101) 216 = .ok (.iconst 0, 1) := by decide +kernel
theorem d101_217 : decode (xmb 101) 217 = .ok (.invokevirtual 276, 3) := by decide +kernel
theorem d101_220 : decode (xmb 101) 220 = .ok (.ifCond .eq 7, 3) := by decide +kernel
theorem d101_223 : decode (xmb 101) 223 = .ok (.iconst 1, 1) := by decide +kernel
theorem d101_224 : decode (xmb 101) 224 = .ok (.goto 4, 3) := by decide +kernel
theorem d101_227 : decode (xmb 101) 227 = .ok (.iconst 0, 1) := by decide +kernel
theorem d101_228 : decode (xmb 101) 228 = .ok (.ireturn, 1) := by decide +kernel
theorem d101_229 : decode (xmb 101) 229 = .ok (.iload 4, 2) := by decide +kernel
theorem d101_231 : decode (xmb 101) 231 = .ok (.ifCond .ne 16, 3) := by decide +kernel
theorem d101_234 : decode (xmb 101) 234 = .ok (.aload_n 0, 1) := by decide +kernel
theorem d101_235 : decode (xmb 101) 235 = .ok (.iload_n 2, 1) := by decide +kernel
theorem d101_236 : decode (xmb 101) 236 = .ok (.iload_n 3, 1) := by decide +kernel
theorem d101_237 : decode (xmb 101) 237 = .ok (.invokevirtual 280, 3) := by decide +kernel
theorem d101_240 : decode (xmb 101) 240 = .ok (.ifCond .eq 7, 3) := by decide +kernel
theorem d101_243 : decode (xmb 101) 243 = .ok (.iconst 1, 1) := by decide +kernel
theorem d101_244 : decode (xmb 101) 244 = .ok (.goto 4, 3) := by decide +kernel
theorem d101_247 : decode (xmb 101) 247 = .ok (.iconst 0, 1) := by decide +kernel
theorem d101_248 : decode (xmb 101) 248 = .ok (.ireturn, 1) := by decide +kernel
theorem d101_249 : decode (xmb 101) 249 = .ok (.iload_n 2, 1) := by decide +kernel
theorem d101_250 : decode (xmb 101) 250 = .ok (.ifCond .ne 22, 3) := by decide +kernel
theorem d101_253 : decode (xmb 101) 253 = .ok (.aload_n 0, 1) := by decide +kernel
theorem d101_254 : decode (xmb 101) 254 = .ok (.getfield 30, 3) := by decide +kernel
theorem d101_257 : decode (xmb 101) 257 = .ok (.getfield 106, 3) := by decide +kernel
theorem d101_260 : decode (xmb 101) 260 = .ok (.iload_n 1, 1) := by decide +kernel
theorem d101_261 : decode (xmb 101) 261 = .ok (.sipush 1000, 3) := by decide +kernel
theorem d101_264 : decode (xmb 101) 264 = .ok (.irem, 1) := by decide +kernel
theorem d101_265 : decode (xmb 101) 265 = .ok (.if_icmp .gt 7, 3) := by decide +kernel
theorem d101_268 : decode (xmb 101) 268 = .ok (.iconst 1, 1) := by decide +kernel
theorem d101_269 : decode (xmb 101) 269 = .ok (.goto 4, 3) := by decide +kernel
theorem d101_272 : decode (xmb 101) 272 = .ok (.iconst 0, 1) := by decide +kernel
theorem d101_273 : decode (xmb 101) 273 = .ok (.ireturn, 1) := by decide +kernel
theorem d101_274 : decode (xmb 101) 274 = .ok (.iload_n 1, 1) := by decide +kernel
theorem d101_275 : decode (xmb 101) 275 = .ok (.bipush 100, 2) := by decide +kernel
theorem d101_277 : decode (xmb 101) 277 = .ok (.idiv, 1) := by decide +kernel
theorem d101_278 : decode (xmb 101) 278 = .ok (.bipush 10, 2) := by decide +kernel
theorem d101_280 : decode (xmb 101) 280 = .ok (.irem, 1) := by decide +kernel
theorem d101_281 : decode (xmb 101) 281 = .ok (.ifCond .ne 19, 3) := by decide +kernel
theorem d101_284 : decode (xmb 101) 284 = .ok (.aload_n 0, 1) := by decide +kernel
theorem d101_285 : decode (xmb 101) 285 = .ok (.iload_n 2, 1) := by decide +kernel
theorem d101_286 : decode (xmb 101) 286 = .ok (.iload_n 1, 1) := by decide +kernel
theorem d101_287 : decode (xmb 101) 287 = .ok (.bipush 100, 2) := by decide +kernel
theorem d101_289 : decode (xmb 101) 289 = .ok (.irem, 1) := by decide +kernel
theorem d101_290 : decode (xmb 101) 290 = .ok (.invokevirtual 284, 3) := by decide +kernel
theorem d101_293 : decode (xmb 101) 293 = .ok (.ifCond .eq 7, 3) := by decide +kernel
theorem d101_296 : decode (xmb 101) 296 = .ok (.iconst 1, 1) := by decide +kernel
theorem d101_297 : decode (xmb 101) 297 = .ok (.goto 4, 3) := by decide +kernel
theorem d101_300 : decode (xmb 101) 300 = .ok (.iconst 0, 1) := by decide +kernel
theorem d101_301 : decode (xmb 101) 301 = .ok (.ireturn, 1) := by decide +kernel
theorem d101_302 : decode (xmb 101) 302 = .ok (.iload_n 2, 1) := by decide +kernel
theorem d101_303 : decode (xmb 101) 303 = .ok (.ifCond .ne 23, 3) := by decide +kernel
theorem d101_306 : decode (xmb 101) 306 = .ok (.iload_n 3, 1) := by decide +kernel
theorem d101_307 : decode (xmb 101) 307 = .ok (.ifCond .ne 19, 3) := by decide +kernel
theorem d101_310 : decode (xmb 101) 310 = .ok (.aload_n 0, 1) := by decide +kernel
theorem d101_311 : decode (xmb 101) 311 = .ok (.getfield 30, 3) := by decide +kernel
theorem d101_314 : decode (xmb 101) 314 = .ok (.getfield 109, 3) := by decide +kernel
theorem d101_317 : decode (xmb 101) 317 = .ok (.iload 4, 2) := by decide +kernel
theorem d101_319 : decode (xmb 101) 319 = .ok (.if_icmp .gt 7, 3) := by decide +kernel
theorem d101_322 : decode (xmb 101) 322 = .ok (.iconst 1, 1) := by decide +kernel
theorem d101_323 : decode (xmb 101) 323 = .ok (.goto 4, 3) := by decide +kernel
theorem d101_326 : decode (xmb 101) 326 = .ok (.iconst 0, 1) := by decide +kernel
theorem d101_327 : decode (xmb 101) 327 = .ok (.ireturn, 1) := by decide +kernel
theorem d101_328 : decode (xmb 101) 328 = .ok (.iconst 0, 1) := by decide +kernel
theorem d101_329 : decode (xmb 101) 329 = .ok (.ireturn, 1) := by decide +kernel
theorem d102_0 : decode (xmb 102) 0 = .ok (.aload_n 0, 1) := by decide +kernel
theorem d102_1 : decode (xmb 102) 1 = .ok (.getfield 33, 3) := by decide +kernel
theorem d102_4 : decode (xmb 102) 4 = .ok (.iload_n 1, 1) := by decide +kernel
theorem d102_5 : decode (xmb 102) 5 = .ok (.invokevirtual 150, 3) := by decide +kernel
theorem d102_8 : decode (xmb 102) 8 = .ok (.ifCond .eq 33, 3) := by decide +kernel
theorem d102_11 : decode (xmb 102) 11 = .ok (.aload_n 0, 1) := by decide +kernel
theorem d102_12 : decode (xmb 102) 12 = .ok (.getfield 30, 3) := by decide +kernel
theorem d102_15 : decode (xmb 102) 15 = .ok (.getfield 177, 3) := by decide +kernel
theorem d102_18 : decode (xmb 102) 18 = .ok (.iload_n 1, 1) := by decide +kernel
theorem d102_19 : decode (xmb 102) 19 = .ok (.iaload, 1) := by decide +kernel
theorem d102_20 : decode (xmb 102) 20 = .ok (.iconst (-1), 1) := by decide +kernel
theorem d102_21 : decode (xmb 102) 21 = .ok (.if_icmp .eq 20, 3) := by decide +kernel
theorem d102_24 : decode (xmb 102) 24 = .ok (.aload_n 0, 1) := by decide +kernel
theorem d102_25 : decode (xmb 102) 25 = .ok (.getfield 30, 3) := by decide +kernel
theorem d102_28 : decode (xmb 102) 28 = .ok (.getfield 177, 3) := by decide +kernel
theorem d102_31 : decode (xmb 102) 31 = .ok (.iload_n 1, 1) := by decide +kernel
theorem d102_32 : decode (xmb 102) 32 = .ok (.iaload, 1) := by decide +kernel
theorem d102_33 : decode (xmb 102) 33 = .ok (.iload_n 2, 1) := by decide +kernel
theorem d102_34 : decode (xmb 102) 34 = .ok (.if_icmp .gt 7, 3) := by decide +kernel
theorem d102_37 : decode (xmb 102) 37 = .ok (.iconst 1, 1) := by decide +kernel
theorem d102_38 : decode (xmb 102) 38 = .ok (.goto 4, 3) := by decide +kernel
theorem d102_41 : decode (xmb 102) 41 = .ok (.iconst 0, 1) := by decide +kernel
theorem d102_42 : decode (xmb 102) 42 = .ok (.ireturn, 1) := by decide +kernel
theorem d103_0 : decode (xmb 103) 0 = .ok (.aload_n 0, 1) := by decide +kernel
theorem d103_1 : decode (xmb 103) 1 = .ok (.getfield 33, 3) := by decide +kernel
theorem d103_4 : decode (xmb 103) 4 = .ok (.iload_n 1, 1) := by decide +kernel
theorem d103_5 : decode (xmb 103) 5 = .ok (.invokevirtual 122, 3) := by decide +kernel
theorem d103_8 : decode (xmb 103) 8 = .ok (.ifCond .eq 28, 3) := by decide +kernel
theorem d103_11 : decode (xmb 103) 11 = .ok (.aload_n 0, 1) := by decide +kernel
theorem d103_12 : decode (xmb 103) 12 = .ok (.getfield 33, 3) := by decide +kernel
theorem d103_15 : decode (xmb 103) 15 = .ok (.iload_n 1, 1) := by decide +kernel
theorem d103_16 : decode (xmb 103) 16 = .ok (.aload_n 0, 1) := by decide +kernel
theorem d103_17 : decode (xmb 103) 17 = .ok (.getfield 33, 3) := by decide +kernel
theorem d103_20 : decode (xmb 103) 20 = .ok (.getfield 96, 3) := by decide +kernel
theorem d103_23 : decode (xmb 103) 23 = .ok (.bipush 15, 2) := by decide +kernel
theorem d103_25 : decode (xmb 103) 25 = .ok (.invokevirtual 140, 3) := by decide +kernel
theorem d103_28 : decode (xmb 103) 28 = .ok (.iload_n 2, 1) := by decide +kernel
theorem d103_29 : decode (xmb 103) 29 = .ok (.if_icmp .gt 7, 3) := by decide +kernel
theorem d103_32 : decode (xmb 103) 32 = .ok (.iconst 1, 1) := by decide +kernel
theorem d103_33 : decode (xmb 103) 33 = .ok (.goto 4, 3) := by decide +kernel
theorem d103_36 : decode (xmb 103) 36 = .ok (.iconst 0, 1) := by decide +kernel
theorem d103_37 : decode (xmb 103) 37 = .ok (.ireturn, 1) := by decide +kernel
theorem d104_0 : decode (xmb 104) 0 = .ok (.iload_n 1, 1) := by decide +kernel
theorem d104_1 : decode (xmb 104) 1 = .ok (.tableswitch 238 0 6 #[43, 64, 64, 97, 138, 138, 179], 43) := by decide +kernel
theorem d104_44 : decode (xmb 104) 44 = .ok (.aload_n 0, 1) := by decide +kernel
theorem d104_45 : decode (xmb 104) 45 = .ok (.getfield 33, 3) := by decide +kernel
theorem d104_48 : decode (xmb 104) 48 = .ok (.iconst 0, 1) := by decide +kernel
theorem d104_49 : decode (xmb 104) 49 = .ok (.iconst 1, 1) := by decide +kernel
theorem d104_50 : decode (xmb 104) 50 = .ok (.iload_n 2, 1) := by decide +kernel
theorem d104_51 : decode (xmb 104) 51 = .ok (.sipush 5000, 3) := by decide +kernel
theorem d104_54 : decode (xmb 104) 54 = .ok (.irem, 1) := by decide +kernel
theorem d104_55 : decode (xmb 104) 55 = .ok (.iadd, 1) := by decide +kernel
theorem d104_56 : decode (xmb 104) 56 = .ok (.iconst 0, 1) := by decide +kernel
theorem d104_57 : decode (xmb 104) 57 = .ok (.iconst 0, 1) := by decide +kernel
theorem d104_58 : decode (xmb 104) 58 = .ok (.invokevirtual 276, 3) := by decide +kernel
theorem d104_61 : decode (xmb 104) 61 = .ok (.pop, 1) := by decide +kernel
theorem d104_62 : decode (xmb 104) 62 = .ok (.goto 198, 3) := by decide +kernel
theorem d104_65 : decode (xmb 104) 65 = .ok (.aload_n 0, 1) := by decide +kernel
theorem d104_66 : decode (xmb 104) 66 = .ok (.getfield 33, 3) := by decide +kernel
theorem d104_69 : decode (xmb 104) 69 = .ok (.iconst 1, 1) := by decide +kernel
theorem d104_70 : decode (xmb 104) 70 = .ok (.iconst 1, 1) := by decide +kernel
theorem d104_71 : decode (xmb 104) 71 = .ok (.iload_n 2, 1) := by decide +kernel
theorem d104_72 : decode (xmb 104) 72 = .ok (.bipush 40, 2) := by decide +kernel
theorem d104_74 : decode (xmb 104) 74 = .ok (.irem, 1) := by decide +kernel
theorem d104_75 : decode (xmb 104) 75 = .ok (.iadd, 1) := by decide +kernel
theorem d104_76 : decode (xmb 104) 76 = .ok (.iload_n 2, 1) := by decide +kernel
theorem d104_77 : decode (xmb 104) 77 = .ok (.bipush 64, 2) := by decide +kernel
theorem d104_79 : decode (xmb 104) 79 = .ok (.idiv, 1) := by decide +kernel
theorem d104_80 : decode (xmb 104) 80 = .ok (.iconst 5, 1) := by decide +kernel
theorem d104_81 : decode (xmb 104) 81 = .ok (.irem, 1) := by decide +kernel
theorem d104_82 : decode (xmb 104) 82 = .ok (.iconst 1, 1) := by decide +kernel
theorem d104_83 : decode (xmb 104) 83 = .ok (.isub, 1) := by decide +kernel
theorem d104_84 : decode (xmb 104) 84 = .ok (.iload_n 2, 1) := by decide +kernel
theorem d104_85 : decode (xmb 104) 85 = .ok (.sipush 512, 3) := by decide +kernel
theorem d104_88 : decode (xmb 104) 88 = .ok (.idiv, 1) := by decide +kernel
theorem d104_89 : decode (xmb 104) 89 = .ok (.iconst 2, 1) := by decide +kernel
theorem d104_90 : decode (xmb 104) 90 = .ok (.irem, 1) := by decide +kernel
theorem d104_91 : decode (xmb 104) 91 = .ok (.invokevirtual 276, 3) := by decide +kernel
theorem d104_94 : decode (xmb 104) 94 = .ok (.pop, 1) := by decide +kernel
theorem d104_95 : decode (xmb 104) 95 = .ok (.goto 165, 3) := by decide +kernel
theorem d104_98 : decode (xmb 104) 98 = .ok (.aload_n 0, 1) := by decide +kernel
theorem d104_99 : decode (xmb 104) 99 = .ok (.getfield 33, 3) := by decide +kernel
theorem d104_102 : decode (xmb 104) 102 = .ok (.iconst 2, 1) := by decide +kernel
theorem d104_103 : decode (xmb 104) 103 = .ok (.iload_n 2, 1) := by decide +kernel
theorem d104_104 : decode (xmb 104) 104 = .ok (.bipush 14, 2) := by decide +kernel
theorem d104_106 : decode (xmb 104) 106 = .ok (.irem, 1) := by decide +kernel
theorem d104_107 : decode (xmb 104) 107 = .ok (.iload_n 2, 1) := by decide +kernel
theorem d104_108 : decode (xmb 104) 108 = .ok (.bipush 16, 2) := by decide +kernel
theorem d104_110 : decode (xmb 104) 110 = .ok (.idiv, 1) := by decide +kernel
theorem d104_111 : decode (xmb 104) 111 = .ok (.bipush 12, 2) := by decide +kernel
theorem d104_113 : decode (xmb 104) 113 = .ok (.irem, 1) := by decide +kernel
theorem d104_114 : decode (xmb 104) 114 = .ok (.iload_n 2, 1) := by decide +kernel
theorem d104_115 : decode (xmb 104) 115 = .ok (.sipush 256, 3) := by decide +kernel
theorem d104_118 : decode (xmb 104) 118 = .ok (.idiv, 1) := by decide +kernel
theorem d104_119 : decode (xmb 104) 119 = .ok (.iconst 4, 1) := by decide +kernel
theorem d104_120 : decode (xmb 104) 120 = .ok (.irem, 1) := by decide +kernel
theorem d104_121 : decode (xmb 104) 121 = .ok (.ifCond .eq 7, 3) := by decide +kernel
theorem d104_124 : decode (xmb 104) 124 = .ok (.iconst 1, 1) := by decide +kernel
theorem d104_125 : decode (xmb 104) 125 = .ok (.goto 4, 3) := by decide +kernel
theorem d104_128 : decode (xmb 104) 128 = .ok (.iconst 0, 1) := by decide +kernel
theorem d104_129 : decode (xmb 104) 129 = .ok (.invokestatic 216, 3) := by decide +kernel
theorem d104_132 : decode (xmb 104) 132 = .ok (.invokevirtual 276, 3) := by decide +kernel
theorem d104_135 : decode (xmb 104) 135 = .ok (.pop, 1) := by decide +kernel
theorem d104_136 : decode (xmb 104) 136 = .ok (.goto 124, 3) := by decide +kernel
theorem d104_139 : decode (xmb 104) 139 = .ok (.aload_n 0, 1) := by decide +kernel
theorem d104_140 : decode (xmb 104) 140 = .ok (.getfield 33, 3) := by decide +kernel
theorem d104_143 : decode (xmb 104) 143 = .ok (.iconst 3, 1) := by decide +kernel
theorem d104_144 : decode (xmb 104) 144 = .ok (.iload_n 2, 1) := by decide +kernel
theorem d104_145 : decode (xmb 104) 145 = .ok (.bipush 14, 2) := by decide +kernel
theorem d104_147 : decode (xmb 104) 147 = .ok (.irem, 1) := by decide +kernel
theorem d104_148 : decode (xmb 104) 148 = .ok (.iload_n 2, 1) := by decide +kernel
theorem d104_149 : decode (xmb 104) 149 = .ok (.bipush 16, 2) := by decide +kernel
theorem d104_151 : decode (xmb 104) 151 = .ok (.idiv, 1) := by decide +kernel
theorem d104_152 : decode (xmb 104) 152 = .ok (.bipush 14, 2) := by decide +kernel
theorem d104_154 : decode (xmb 104) 154 = .ok (.irem, 1) := by decide +kernel
theorem d104_155 : decode (xmb 104) 155 = .ok (.iload_n 2, 1) := by decide +kernel
theorem d104_156 : decode (xmb 104) 156 = .ok (.sipush 256, 3) := by decide +kernel
theorem d104_159 : decode (xmb 104) 159 = .ok (.idiv, 1) := by decide +kernel
theorem d104_160 : decode (xmb 104) 160 = .ok (.iconst 4, 1) := by decide +kernel
theorem d104_161 : decode (xmb 104) 161 = .ok (.irem, 1) := by decide +kernel
theorem d104_162 : decode (xmb 104) 162 = .ok (.ifCond .eq 7, 3) := by decide +kernel
theorem d104_165 : decode (xmb 104) 165 = .ok (.iconst 1, 1) := by decide +kernel
theorem d104_166 : decode (xmb 104) 166 = .ok (.goto 4, 3) := by decide +kernel
theorem d104_169 : decode (xmb 104) 169 = .ok (.iconst 0, 1) := by decide +kernel
theorem d104_170 : decode (xmb 104) 170 = .ok (.invokestatic 216, 3) := by decide +kernel
theorem d104_173 : decode (xmb 104) 173 = .ok (.invokevirtual 276, 3) := by decide +kernel
theorem d104_176 : decode (xmb 104) 176 = .ok (.pop, 1) := by decide +kernel
theorem d104_177 : decode (xmb 104) 177 = .ok (.goto 83, 3) := by decide +kernel
theorem d104_180 : decode (xmb 104) 180 = .ok (.iload_n 2, 1) := by decide +kernel
theorem d104_181 : decode (xmb 104) 181 = .ok (.bipush 64, 2) := by decide +kernel
theorem d104_183 : decode (xmb 104) 183 = .ok (.idiv, 1) := by decide +kernel
theorem d104_184 : decode (xmb 104) 184 = .ok (.iconst 2, 1) := by decide +kernel
theorem d104_185 : decode (xmb 104) 185 = .ok (.irem, 1) := by decide +kernel
theorem d104_186 : decode (xmb 104) 186 = .ok (.ifCond .ne 24, 3) := by decide +kernel
theorem d104_189 : decode (xmb 104) 189 = .ok (.aload_n 0, 1) := by decide +kernel
theorem d104_190 : decode (xmb 104) 190 = .ok (.getfield 33, 3) := by decide +kernel
theorem d104_193 : decode (xmb 104) 193 = .ok (.iconst 4, 1) := by decide +kernel
theorem d104_194 : decode (xmb 104) 194 = .ok (.iload_n 2, 1) := by decide +kernel
theorem d104_195 : decode (xmb 104) 195 = .ok (.iconst 4, 1) := by decide +kernel
theorem d104_196 : decode (xmb 104) 196 = .ok (.irem, 1) := by decide +kernel
theorem d104_197 : decode (xmb 104) 197 = .ok (.iload_n 2, 1) := by decide +kernel
theorem d104_198 : decode (xmb 104) 198 = .ok (.iconst 4, 1) := by decide +kernel
theorem d104_199 : decode (xmb 104) 199 = .ok (.idiv, 1) := by decide +kernel
theorem d104_200 : decode (xmb 104) 200 = .ok (.iconst 4, 1) := by decide +kernel
theorem d104_201 : decode (xmb 104) 201 = .ok (.irem, 1) := by decide +kernel
theorem d104_202 : decode (xmb 104) 202 = .ok (.iconst 0, 1) := by decide +kernel
theorem d104_203 : decode (xmb 104) 203 = .ok (.invokevirtual 276, 3) := by decide +kernel
theorem d104_206 : decode (xmb 104) 206 = .ok (.pop, 1) := by decide +kernel
theorem d104_207 : decode (xmb 104) 207 = .ok (.goto 53, 3) := by decide +kernel
theorem d104_210 : decode (xmb 104) 210 = .ok (.aload_n 0, 1) := by decide +kernel
theorem d104_211 : decode (xmb 104) 211 = .ok (.getfield 33, 3) := by decide +kernel
theorem d104_214 : decode (xmb 104) 214 = .ok (.iconst 5, 1) := by decide +kernel
theorem d104_215 : decode (xmb 104) 215 = .ok (.iconst 1, 1) := by decide +kernel
theorem d104_216 : decode (xmb 104) 216 = .ok (.iload_n 2, 1) := by decide +kernel
theorem d104_217 : decode (xmb 104) 217 = .ok (.bipush 24, 2) := by decide +kernel
theorem d104_219 : decode (xmb 104) 219 = .ok (.irem, 1) := by decide +kernel
theorem d104_220 : decode (xmb 104) 220 = .ok (.iadd, 1) := by decide +kernel
theorem d104_221 : decode (xmb 104) 221 = .ok (.iconst 1, 1) := by decide +kernel
theorem d104_222 : decode (xmb 104) 222 = .ok (.iload_n 2, 1) := by decide +kernel
theorem d104_223 : decode (xmb 104) 223 = .ok (.sipush 128, 3) := by decide +kernel
theorem d104_226 : decode (xmb 104) 226 = .ok (.idiv, 1) := by decide +kernel
theorem d104_227 : decode (xmb 104) 227 = .ok (.bipush 24, 2) := by decide +kernel
theorem d104_229 : decode (xmb 104) 229 = .ok (.irem, 1) := by decide +kernel
theorem d104_230 : decode (xmb 104) 230 = .ok (.iadd, 1) := by decide +kernel
theorem d104_231 : decode (xmb 104) 231 = .ok (.iconst 0, 1) := by decide +kernel
theorem d104_232 : decode (xmb 104) 232 = .ok (.invokevirtual 276, 3) := by decide +kernel
theorem d104_235 : decode (xmb 104) 235 = .ok (.pop, 1) := by decide +kernel
theorem d104_236 : decode (xmb 104) 236 = .ok (.goto 24, 3) := by decide +kernel
theorem d104_239 : decode (xmb 104) 239 = .ok (.aload_n 0, 1) := by decide +kernel
theorem d104_240 : decode (xmb 104) 240 = .ok (.getfield 33, 3) := by decide +kernel
theorem d104_243 : decode (xmb 104) 243 = .ok (.bipush 6, 2) := by decide +kernel
theorem d104_245 : decode (xmb 104) 245 = .ok (.iload_n 2, 1) := by decide +kernel
theorem d104_246 : decode (xmb 104) 246 = .ok (.iconst 5, 1) := by decide +kernel
theorem d104_247 : decode (xmb 104) 247 = .ok (.irem, 1) := by decide +kernel
theorem d104_248 : decode (xmb 104) 248 = .ok (.iload_n 2, 1) := by decide +kernel
theorem d104_249 : decode (xmb 104) 249 = .ok (.bipush 8, 2) := by decide +kernel
theorem d104_251 : decode (xmb 104) 251 = .ok (.idiv, 1) := by decide +kernel
theorem d104_252 : decode (xmb 104) 252 = .ok (.bipush 16, 2) := by decide +kernel
theorem d104_254 : decode (xmb 104) 254 = .ok (.irem, 1) := by decide +kernel
theorem d104_255 : decode (xmb 104) 255 = .ok (.iconst 0, 1) := by decide +kernel
theorem d104_256 : decode (xmb 104) 256 = .ok (.invokevirtual 276, 3) := by decide +kernel
theorem d104_259 : decode (xmb 104) 259 = .ok (.pop, 1) := by decide +kernel
theorem d104_260 : decode (xmb 104) 260 = .ok (.return_, 1) := by decide +kernel
theorem d106_0 : decode (xmb 106) 0 = .ok (.aload_n 0, 1) := by decide +kernel
theorem d106_1 : decode (xmb 106) 1 = .ok (.getfield 48, 3) := by decide +kernel
theorem d106_4 : decode (xmb 106) 4 = .ok (.ireturn, 1) := by decide +kernel
theorem d107_0 : decode (xmb 107) 0 = .ok (.aload_n 0, 1) := by decide +kernel
theorem d107_1 : decode (xmb 107) 1 = .ok (.iload_n 1, 1) := by decide +kernel
theorem d107_2 : decode (xmb 107) 2 = .ok (.putfield 48, 3) := by decide +kernel
theorem d107_5 : decode (xmb 107) 5 = .ok (.iload_n 1, 1) := by decide +kernel
theorem d107_6 : decode (xmb 107) 6 = .ok (.ifCond .eq 7, 3) := by decide +kernel
theorem d107_9 : decode (xmb 107) 9 = .ok (.iconst 1, 1) := by decide +kernel
theorem d107_10 : decode (xmb 107) 10 = .ok (.goto 4, 3) := by decide +kernel
theorem d107_13 : decode (xmb 107) 13 = .ok (.iconst 0, 1) := by decide +kernel
theorem d107_14 : decode (xmb 107) 14 = .ok (.ireturn, 1) := by decide +kernel
theorem d108_0 : decode (xmb 108) 0 = .ok (.lload_n 0, 1) := by decide +kernel
theorem d108_1 : decode (xmb 108) 1 = .ok (.lload_n 2, 1) := by decide +kernel
theorem d108_2 : decode (xmb 108) 2 = .ok (.lcmp, 1) := by decide +kernel
theorem d108_3 : decode (xmb 108) 3 = .ok (.ifCond .lt 14, 3) := by decide +kernel
theorem d108_6 : decode (xmb 108) 6 = .ok (.lload_n 0, 1) := by decide +kernel
theorem d108_7 : decode (xmb 108) 7 = .ok (.lload 4, 2) := by decide +kernel
theorem d108_9 : decode (xmb 108) 9 = .ok (.lcmp, 1) := by decide +kernel
theorem d108_10 : decode (xmb 108) 10 = .ok (.ifCond .gt 7, 3) := by decide +kernel
theorem d108_13 : decode (xmb 108) 13 = .ok (.iconst 1, 1) := by decide +kernel
theorem d108_14 : decode (xmb 108) 14 = .ok (.goto 4, 3) := by decide +kernel
theorem d108_17 : decode (xmb 108) 17 = .ok (.iconst 0, 1) := by decide +kernel
theorem d108_18 : decode (xmb 108) 18 = .ok (.ireturn, 1) := by decide +kernel
theorem d109_0 : decode (xmb 109) 0 = .ok (.lconst 1, 1) := by decide +kernel
theorem d109_1 : decode (xmb 109) 1 = .ok (.lstore_n 1, 1) := by decide +kernel
theorem d109_2 : decode (xmb 109) 2 = .ok (.iconst 0, 1) := by decide +kernel
theorem d109_3 : decode (xmb 109) 3 = .ok (.istore_n 3, 1) := by decide +kernel
theorem d109_4 : decode (xmb 109) 4 = .ok (.iload_n 3, 1) := by decide +kernel
theorem d109_5 : decode (xmb 109) 5 = .ok (.iload_n 0, 1) := by decide +kernel
theorem d109_6 : decode (xmb 109) 6 = .ok (.if_icmp .ge 15, 3) := by decide +kernel
theorem d109_9 : decode (xmb 109) 9 = .ok (.lload_n 1, 1) := by decide +kernel
theorem d109_10 : decode (xmb 109) 10 = .ok (.ldc2_w 52, 3) := by decide +kernel
theorem d109_13 : decode (xmb 109) 13 = .ok (.lmul, 1) := by decide +kernel
theorem d109_14 : decode (xmb 109) 14 = .ok (.lstore_n 1, 1) := by decide +kernel
theorem d109_15 : decode (xmb 109) 15 = .ok (.iinc 3 1, 3) := by decide +kernel
theorem d109_18 : decode (xmb 109) 18 = .ok (.goto (-14), 3) := by decide +kernel
theorem d109_21 : decode (xmb 109) 21 = .ok (.lload_n 1, 1) := by decide +kernel
theorem d109_22 : decode (xmb 109) 22 = .ok (.lreturn, 1) := by decide +kernel
theorem d110_0 : decode (xmb 110) 0 = .ok (.iload_n 0, 1) := by decide +kernel
theorem d110_1 : decode (xmb 110) 1 = .ok (.iload_n 1, 1) := by decide +kernel
theorem d110_2 : decode (xmb 110) 2 = .ok (.ishr, 1) := by decide +kernel
theorem d110_3 : decode (xmb 110) 3 = .ok (.iconst 1, 1) := by decide +kernel
theorem d110_4 : decode (xmb 110) 4 = .ok (.iand, 1) := by decide +kernel
theorem d110_5 : decode (xmb 110) 5 = .ok (.iconst 1, 1) := by decide +kernel
theorem d110_6 : decode (xmb 110) 6 = .ok (.if_icmp .ne 7, 3) := by decide +kernel
theorem d110_9 : decode (xmb 110) 9 = .ok (.iconst 1, 1) := by decide +kernel
theorem d110_10 : decode (xmb 110) 10 = .ok (.goto 4, 3) := by decide +kernel
theorem d110_13 : decode (xmb 110) 13 = .ok (.iconst 0, 1) := by decide +kernel
theorem d110_14 : decode (xmb 110) 14 = .ok (.ireturn, 1) := by decide +kernel
theorem d111_0 : decode (xmb 111) 0 = .ok (.iconst 0, 1) := by decide +kernel
theorem d111_1 : decode (xmb 111) 1 = .ok (.istore_n 2, 1) := by decide +kernel
theorem d111_2 : decode (xmb 111) 2 = .ok (.iconst 0, 1) := by decide +kernel
theorem d111_3 : decode (xmb 111) 3 = .ok (.istore_n 3, 1) := by decide +kernel
theorem d111_4 : decode (xmb 111) 4 = .ok (.iload_n 3, 1) := by decide +kernel
theorem d111_5 : decode (xmb 111) 5 = .ok (.iload_n 1, 1) := by decide +kernel
theorem d111_6 : decode (xmb 111) 6 = .ok (.if_icmp .ge 25, 3) := by decide +kernel
theorem d111_9 : decode (xmb 111) 9 = .ok (.iload_n 2, 1) := by decide +kernel
theorem d111_10 : decode (xmb 111) 10 = .ok (.iload_n 0, 1) := by decide +kernel
theorem d111_11 : decode (xmb 111) 11 = .ok (.iload_n 3, 1) := by decide +kernel
theorem d111_12 : decode (xmb 111) 12 = .ok (.invokestatic 54, 3) := by decide +kernel
theorem d111_15 : decode (xmb 111) 15 = .ok (.ifCond .eq 7, 3) := by decide +kernel
theorem d111_18 : decode (xmb 111) 18 = .ok (.iconst 1, 1) := by decide +kernel
theorem d111_19 : decode (xmb 111) 19 = .ok (.goto 4, 3) := by decide +kernel
theorem d111_22 : decode (xmb 111) 22 = .ok (.iconst 0, 1) := by decide +kernel
theorem d111_23 : decode (xmb 111) 23 = .ok (.iadd, 1) := by decide +kernel
theorem d111_24 : decode (xmb 111) 24 = .ok (.istore_n 2, 1) := by decide +kernel
theorem d111_25 : decode (xmb 111) 25 = .ok (.iinc 3 1, 3) := by decide +kernel
theorem d111_28 : decode (xmb 111) 28 = .ok (.goto (-24), 3) := by decide +kernel
theorem d111_31 : decode (xmb 111) 31 = .ok (.iload_n 2, 1) := by decide +kernel
theorem d111_32 : decode (xmb 111) 32 = .ok (.ireturn, 1) := by decide +kernel
theorem d112_0 : decode (xmb 112) 0 = .ok (.iconst 0, 1) := by decide +kernel
theorem d112_1 : decode (xmb 112) 1 = .ok (.istore_n 1, 1) := by decide +kernel
theorem d112_2 : decode (xmb 112) 2 = .ok (.iload_n 1, 1) := by decide +kernel
theorem d112_3 : decode (xmb 112) 3 = .ok (.bipush 95, 2) := by decide +kernel
theorem d112_5 : decode (xmb 112) 5 = .ok (.if_icmp .ge 13, 3) := by decide +kernel
theorem d112_8 : decode (xmb 112) 8 = .ok (.aload_n 0, 1) := by decide +kernel
theorem d112_9 : decode (xmb 112) 9 = .ok (.iload_n 1, 1) := by decide +kernel
theorem d112_10 : decode (xmb 112) 10 = .ok (.iconst 0, 1) := by decide +kernel
theorem d112_11 : decode (xmb 112) 11 = .ok (.iastore, 1) := by decide +kernel
theorem d112_12 : decode (xmb 112) 12 = .ok (.iinc 1 1, 3) := by decide +kernel
theorem d112_15 : decode (xmb 112) 15 = .ok (.goto (-13), 3) := by decide +kernel
theorem d112_18 : decode (xmb 112) 18 = .ok (.aload_n 0, 1) := by decide +kernel
theorem d112_19 : decode (xmb 112) 19 = .ok (.bipush 13, 2) := by decide +kernel
theorem d112_21 : decode (xmb 112) 21 = .ok (.iconst 4, 1) := by decide +kernel
theorem d112_22 : decode (xmb 112) 22 = .ok (.iastore, 1) := by decide +kernel
theorem d112_23 : decode (xmb 112) 23 = .ok (.aload_n 0, 1) := by decide +kernel
theorem d112_24 : decode (xmb 112) 24 = .ok (.bipush 14, 2) := by decide +kernel
theorem d112_26 : decode (xmb 112) 26 = .ok (.iconst 4, 1) := by decide +kernel
theorem d112_27 : decode (xmb 112) 27 = .ok (.iastore, 1) := by decide +kernel
theorem d112_28 : decode (xmb 112) 28 = .ok (.iconst 0, 1) := by decide +kernel
theorem d112_29 : decode (xmb 112) 29 = .ok (.istore_n 1, 1) := by decide +kernel
theorem d112_30 : decode (xmb 112) 30 = .ok (.iload_n 1, 1) := by decide +kernel
theorem d112_31 : decode (xmb 112) 31 = .ok (.iconst 4, 1) := by decide +kernel
theorem d112_32 : decode (xmb 112) 32 = .ok (.if_icmp .ge 16, 3) := by decide +kernel
theorem d112_35 : decode (xmb 112) 35 = .ok (.aload_n 0, 1) := by decide +kernel
theorem d112_36 : decode (xmb 112) 36 = .ok (.bipush 86, 2) := by decide +kernel
theorem d112_38 : decode (xmb 112) 38 = .ok (.iload_n 1, 1) := by decide +kernel
theorem d112_39 : decode (xmb 112) 39 = .ok (.iadd, 1) := by decide +kernel
theorem d112_40 : decode (xmb 112) 40 = .ok (.iconst 1, 1) := by decide +kernel
theorem d112_41 : decode (xmb 112) 41 = .ok (.iastore, 1) := by decide +kernel
theorem d112_42 : decode (xmb 112) 42 = .ok (.iinc 1 1, 3) := by decide +kernel
theorem d112_45 : decode (xmb 112) 45 = .ok (.goto (-15), 3) := by decide +kernel
theorem d112_48 : decode (xmb 112) 48 = .ok (.aload_n 0, 1) := by decide +kernel
theorem d112_49 : decode (xmb 112) 49 = .ok (.bipush 90, 2) := by decide +kernel
theorem d112_51 : decode (xmb 112) 51 = .ok (.bipush 15, 2) := by decide +kernel
theorem d112_53 : decode (xmb 112) 53 = .ok (.iastore, 1) := by decide +kernel
theorem d112_54 : decode (xmb 112) 54 = .ok (.aload_n 0, 1) := by decide +kernel
theorem d112_55 : decode (xmb 112) 55 = .ok (.bipush 91, 2) := by decide +kernel
theorem d112_57 : decode (xmb 112) 57 = .ok (.iconst 1, 1) := by decide +kernel
theorem d112_58 : decode (xmb 112) 58 = .ok (.iastore, 1) := by decide +kernel
theorem d112_59 : decode (xmb 112) 59 = .ok (.aload_n 0, 1) := by decide +kernel
theorem d112_60 : decode (xmb 112) 60 = .ok (.bipush 92, 2) := by decide +kernel
theorem d112_62 : decode (xmb 112) 62 = .ok (.iconst 2, 1) := by decide +kernel
theorem d112_63 : decode (xmb 112) 63 = .ok (.iastore, 1) := by decide +kernel
theorem d112_64 : decode (xmb 112) 64 = .ok (.aload_n 0, 1) := by decide +kernel
theorem d112_65 : decode (xmb 112) 65 = .ok (.bipush 93, 2) := by decide +kernel
theorem d112_67 : decode (xmb 112) 67 = .ok (.iconst 1, 1) := by decide +kernel
theorem d112_68 : decode (xmb 112) 68 = .ok (.iastore, 1) := by decide +kernel
theorem d112_69 : decode (xmb 112) 69 = .ok (.return_, 1) := by decide +kernel
theorem d113_0 : decode (xmb 113) 0 = .ok (.iconst 0, 1) := by decide +kernel
theorem d113_1 : decode (xmb 113) 1 = .ok (.istore_n 2, 1) := by decide +kernel
theorem d113_2 : decode (xmb 113) 2 = .ok (.iload_n 2, 1) := by decide +kernel
theorem d113_3 : decode (xmb 113) 3 = .ok (.bipush 95, 2) := by decide +kernel
theorem d113_5 : decode (xmb 113) 5 = .ok (.if_icmp .ge 15, 3) := by decide +kernel
theorem d113_8 : decode (xmb 113) 8 = .ok (.aload_n 1, 1) := by decide +kernel
theorem d113_9 : decode (xmb 113) 9 = .ok (.iload_n 2, 1) := by decide +kernel
theorem d113_10 : decode (xmb 113) 10 = .ok (.aload_n 0, 1) := by decide +kernel
theorem d113_11 : decode (xmb 113) 11 = .ok (.iload_n 2, 1) := by decide +kernel
theorem d113_12 : decode (xmb 113) 12 = .ok (.iaload, 1) := by decide +kernel
theorem d113_13 : decode (xmb 113) 13 = .ok (.iastore, 1) := by decide +kernel
theorem d113_14 : decode (xmb 113) 14 = .ok (.iinc 2 1, 3) := by decide +kernel
theorem d113_17 : decode (xmb 113) 17 = .ok (.goto (-15), 3) := by decide +kernel
theorem d113_20 : decode (xmb 113) 20 = .ok (.return_, 1) := by decide +kernel
theorem d114_0 : decode (xmb 114) 0 = .ok (.iload_n 1, 1) := by decide +kernel
theorem d114_1 : decode (xmb 114) 1 = .ok (.i2l, 1) := by decide +kernel
theorem d114_2 : decode (xmb 114) 2 = .ok (.lconst 0, 1) := by decide +kernel
theorem d114_3 : decode (xmb 114) 3 = .ok (.aload_n 0, 1) := by decide +kernel
theorem d114_4 : decode (xmb 114) 4 = .ok (.iconst 0, 1) := by decide +kernel
theorem d114_5 : decode (xmb 114) 5 = .ok (.iaload, 1) := by decide +kernel
theorem d114_6 : decode (xmb 114) 6 = .ok (.iconst 1, 1) := by decide +kernel
theorem d114_7 : decode (xmb 114) 7 = .ok (.isub, 1) := by decide +kernel
theorem d114_8 : decode (xmb 114) 8 = .ok (.i2l, 1) := by decide +kernel
theorem d114_9 : decode (xmb 114) 9 = .ok (.invokestatic 58, 3) := by decide +kernel
theorem d114_12 : decode (xmb 114) 12 = .ok (.ireturn, 1) := by decide +kernel
theorem d115_0 : decode (xmb 115) 0 = .ok (.iload_n 1, 1) := by decide +kernel
theorem d115_1 : decode (xmb 115) 1 = .ok (.i2l, 1) := by decide +kernel
theorem d115_2 : decode (xmb 115) 2 = .ok (.lconst 0, 1) := by decide +kernel
theorem d115_3 : decode (xmb 115) 3 = .ok (.aload_n 0, 1) := by decide +kernel
theorem d115_4 : decode (xmb 115) 4 = .ok (.bipush 15, 2) := by decide +kernel
theorem d115_6 : decode (xmb 115) 6 = .ok (.iaload, 1) := by decide +kernel
theorem d115_7 : decode (xmb 115) 7 = .ok (.iconst 1, 1) := by decide +kernel
theorem d115_8 : decode (xmb 115) 8 = .ok (.isub, 1) := by decide +kernel
theorem d115_9 : decode (xmb 115) 9 = .ok (.i2l, 1) := by decide +kernel
theorem d115_10 : decode (xmb 115) 10 = .ok (.invokestatic 58, 3) := by decide +kernel
theorem d115_13 : decode (xmb 115) 13 = .ok (.ireturn, 1) := by decide +kernel
theorem d116_0 : decode (xmb 116) 0 = .ok (.iload_n 0, 1) := by decide +kernel
theorem d116_1 : decode (xmb 116) 1 = .ok (.i2l, 1) := by decide +kernel
theorem d116_2 : decode (xmb 116) 2 = .ok (.lconst 0, 1) := by decide +kernel
theorem d116_3 : decode (xmb 116) 3 = .ok (.ldc2_w 62, 3) := by decide +kernel
theorem d116_6 : decode (xmb 116) 6 = .ok (.invokestatic 58, 3) := by decide +kernel
theorem d116_9 : decode (xmb 116) 9 = .ok (.ireturn, 1) := by decide +kernel
theorem d117_0 : decode (xmb 117) 0 = .ok (.iload_n 0, 1) := by decide +kernel
theorem d117_1 : decode (xmb 117) 1 = .ok (.i2l, 1) := by decide +kernel
theorem d117_2 : decode (xmb 117) 2 = .ok (.lconst 1, 1) := by decide +kernel
theorem d117_3 : decode (xmb 117) 3 = .ok (.ldc2_w 64, 3) := by decide +kernel
theorem d117_6 : decode (xmb 117) 6 = .ok (.invokestatic 58, 3) := by decide +kernel
theorem d117_9 : decode (xmb 117) 9 = .ok (.ireturn, 1) := by decide +kernel
theorem d118_0 : decode (xmb 118) 0 = .ok (.iload_n 0, 1) := by decide +kernel
theorem d118_1 : decode (xmb 118) 1 = .ok (.i2l, 1) := by decide +kernel
theorem d118_2 : decode (xmb 118) 2 = .ok (.lconst 1, 1) := by decide +kernel
theorem d118_3 : decode (xmb 118) 3 = .ok (.ldc2_w 66, 3) := by decide +kernel
theorem d118_6 : decode (xmb 118) 6 = .ok (.invokestatic 58, 3) := by decide +kernel
theorem d118_9 : decode (xmb 118) 9 = .ok (.ireturn, 1) := by decide +kernel
theorem d119_0 : decode (xmb 119) 0 = .ok (.iload_n 0, 1) := by decide +kernel
theorem d119_1 : decode (xmb 119) 1 = .ok (.i2l, 1) := by decide +kernel
theorem d119_2 : decode (xmb 119) 2 = .ok (.lconst 1, 1) := by decide +kernel
theorem d119_3 : decode (xmb 119) 3 = .ok (.ldc2_w 68, 3) := by decide +kernel
theorem d119_6 : decode (xmb 119) 6 = .ok (.invokestatic 58, 3) := by decide +kernel
theorem d119_9 : decode (xmb 119) 9 = .ok (.ireturn, 1) := by decide +kernel
theorem d120_0 : decode (xmb 120) 0 = .ok (.iload_n 0, 1) := by decide +kernel
theorem d120_1 : decode (xmb 120) 1 = .ok (.i2l, 1) := by decide +kernel
theorem d120_2 : decode (xmb 120) 2 = .ok (.lconst 0, 1) := by decide +kernel
theorem d120_3 : decode (xmb 120) 3 = .ok (.ldc2_w 62, 3) := by decide +kernel
theorem d120_6 : decode (xmb 120) 6 = .ok (.invokestatic 58, 3) := by decide +kernel
theorem d120_9 : decode (xmb 120) 9 = .ok (.ireturn, 1) := by decide +kernel
theorem d121_0 : decode (xmb 121) 0 = .ok (.iload_n 0, 1) := by decide +kernel
theorem d121_1 : decode (xmb 121) 1 = .ok (.tableswitch 71 0 3 #[31, 41, 51, 61], 31) := by decide +kernel
theorem d121_32 : decode (xmb 121) 32 = .ok (.iload_n 1, 1) := by decide +kernel
theorem d121_33 : decode (xmb 121) 33 = .ok (.i2l, 1) := by decide +kernel
theorem d121_34 : decode (xmb 121) 34 = .ok (.lconst 1, 1) := by decide +kernel
theorem d121_35 : decode (xmb 121) 35 = .ok (.ldc2_w 70, 3) := by decide +kernel
theorem d121_38 : decode (xmb 121) 38 = .ok (.invokestatic 58, 3) := by decide +kernel
theorem d121_41 : decode (xmb 121) 41 = .ok (.ireturn, 1) := by decide +kernel
theorem d121_42 : decode (xmb 121) 42 = .ok (.iload_n 1, 1) := by decide +kernel
theorem d121_43 : decode (xmb 121) 43 = .ok (.i2l, 1) := by decide +kernel
theorem d121_44 : decode (xmb 121) 44 = .ok (.lconst 0, 1) := by decide +kernel
theorem d121_45 : decode (xmb 121) 45 = .ok (.ldc2_w 72, 3) := by decide +kernel
theorem d121_48 : decode (xmb 121) 48 = .ok (.invokestatic 58, 3) := by decide +kernel
theorem d121_51 : decode (xmb 121) 51 = .ok (.ireturn, 1) := by decide +kernel
theorem d121_52 : decode (xmb 121) 52 = .ok (.iload_n 1, 1) := by decide +kernel
theorem d121_53 : decode (xmb 121) 53 = .ok (.i2l, 1) := by decide +kernel
theorem d121_54 : decode (xmb 121) 54 = .ok (.lconst 0, 1) := by decide +kernel
theorem d121_55 : decode (xmb 121) 55 = .ok (.ldc2_w 74, 3) := by decide +kernel
theorem d121_58 : decode (xmb 121) 58 = .ok (.invokestatic 58, 3) := by decide +kernel
theorem d121_61 : decode (xmb 121) 61 = .ok (.ireturn, 1) := by decide +kernel
theorem d121_62 : decode (xmb 121) 62 = .ok (.iload_n 1, 1) := by decide +kernel
theorem d121_63 : decode (xmb 121) 63 = .ok (.i2l, 1) := by decide +kernel
theorem d121_64 : decode (xmb 121) 64 = .ok (.lconst 1, 1) := by decide +kernel
theorem d121_65 : decode (xmb 121) 65 = .ok (.ldc2_w 62, 3) := by decide +kernel
theorem d121_68 : decode (xmb 121) 68 = .ok (.invokestatic 58, 3) := by decide +kernel
theorem d121_71 : decode (xmb 121) 71 = .ok (.ireturn, 1) := by decide +kernel
theorem d121_72 : decode (xmb 121) 72 = .ok (.iload_n 0, 1) := by decide +kernel
theorem d121_73 : decode (xmb 121) 73 = .ok (.iconst 4, 1) := by decide +kernel
theorem d121_74 : decode (xmb 121) 74 = .ok (.if_icmp .ne 19, 3) := by decide +kernel
theorem d121_77 : decode (xmb 121) 77 = .ok (.iload_n 1, 1) := by decide +kernel
theorem d121_78 : decode (xmb 121) 78 = .ok (.i2l, 1) := by decide +kernel
theorem d121_79 : decode (xmb 121) 79 = .ok (.lconst 0, 1) := by decide +kernel
theorem d121_80 : decode (xmb 121) 80 = .ok (.ldc2_w 62, 3) := by decide +kernel
theorem d121_83 : decode (xmb 121) 83 = .ok (.invokestatic 58, 3) := by decide +kernel
theorem d121_86 : decode (xmb 121) 86 = .ok (.ifCond .eq 7, 3) := by decide +kernel
theorem d121_89 : decode (xmb 121) 89 = .ok (.iconst 1, 1) := by decide +kernel
theorem d121_90 : decode (xmb 121) 90 = .ok (.goto 4, 3) := by decide +kernel
theorem d121_93 : decode (xmb 121) 93 = .ok (.iconst 0, 1) := by decide +kernel
theorem d121_94 : decode (xmb 121) 94 = .ok (.ireturn, 1) := by decide +kernel
theorem d122_0 : decode (xmb 122) 0 = .ok (.iload_n 0, 1) := by decide +kernel
theorem d122_1 : decode (xmb 122) 1 = .ok (.ifCond .ne 8, 3) := by decide +kernel
theorem d122_4 : decode (xmb 122) 4 = .ok (.bipush 6, 2) := by decide +kernel
theorem d122_6 : decode (xmb 122) 6 = .ok (.goto 27, 3) := by decide +kernel
theorem d122_9 : decode (xmb 122) 9 = .ok (.iload_n 0, 1) := by decide +kernel
theorem d122_10 : decode (xmb 122) 10 = .ok (.iconst 1, 1) := by decide +kernel
theorem d122_11 : decode (xmb 122) 11 = .ok (.if_icmp .ne 8, 3) := by decide +kernel
theorem d122_14 : decode (xmb 122) 14 = .ok (.bipush 48, 2) := by decide +kernel
theorem d122_16 : decode (xmb 122) 16 = .ok (.goto 17, 3) := by decide +kernel
theorem d122_19 : decode (xmb 122) 19 = .ok (.iload_n 0, 1) := by decide +kernel
theorem d122_20 : decode (xmb 122) 20 = .ok (.iconst 2, 1) := by decide +kernel
theorem d122_21 : decode (xmb 122) 21 = .ok (.if_icmp .ne 9, 3) := by decide +kernel
theorem d122_24 : decode (xmb 122) 24 = .ok (.sipush 144, 3) := by decide +kernel
theorem d122_27 : decode (xmb 122) 27 = .ok (.goto 6, 3) := by decide +kernel
theorem d122_30 : decode (xmb 122) 30 = .ok (.sipush 2304, 3) := by decide +kernel
theorem d122_33 : decode (xmb 122) 33 = .ok (.ireturn, 1) := by decide +kernel
theorem d123_0 : decode (xmb 123) 0 = .ok (.aload_n 0, 1) := by decide +kernel
theorem d123_1 : decode (xmb 123) 1 = .ok (.iconst 1, 1) := by decide +kernel
theorem d123_2 : decode (xmb 123) 2 = .ok (.iload_n 1, 1) := by decide +kernel
theorem d123_3 : decode (xmb 123) 3 = .ok (.iadd, 1) := by decide +kernel
theorem d123_4 : decode (xmb 123) 4 = .ok (.iaload, 1) := by decide +kernel
theorem d123_5 : decode (xmb 123) 5 = .ok (.aload_n 0, 1) := by decide +kernel
theorem d123_6 : decode (xmb 123) 6 = .ok (.bipush 14, 2) := by decide +kernel
theorem d123_8 : decode (xmb 123) 8 = .ok (.iaload, 1) := by decide +kernel
theorem d123_9 : decode (xmb 123) 9 = .ok (.imul, 1) := by decide +kernel
theorem d123_10 : decode (xmb 123) 10 = .ok (.aload_n 0, 1) := by decide +kernel
theorem d123_11 : decode (xmb 123) 11 = .ok (.bipush 13, 2) := by decide +kernel
theorem d123_13 : decode (xmb 123) 13 = .ok (.iaload, 1) := by decide +kernel
theorem d123_14 : decode (xmb 123) 14 = .ok (.idiv, 1) := by decide +kernel
theorem d123_15 : decode (xmb 123) 15 = .ok (.istore_n 2, 1) := by decide +kernel
theorem d123_16 : decode (xmb 123) 16 = .ok (.iload_n 2, 1) := by decide +kernel
theorem d123_17 : decode (xmb 123) 17 = .ok (.iconst 1, 1) := by decide +kernel
theorem d123_18 : decode (xmb 123) 18 = .ok (.if_icmp .ge 7, 3) := by decide +kernel
theorem d123_21 : decode (xmb 123) 21 = .ok (.iconst 1, 1) := by decide +kernel
theorem d123_22 : decode (xmb 123) 22 = .ok (.goto 4, 3) := by decide +kernel
theorem d123_25 : decode (xmb 123) 25 = .ok (.iload_n 2, 1) := by decide +kernel
theorem d123_26 : decode (xmb 123) 26 = .ok (.ireturn, 1) := by decide +kernel
theorem d124_0 : decode (xmb 124) 0 = .ok (.iconst 0, 1) := by decide +kernel
theorem d124_1 : decode (xmb 124) 1 = .ok (.istore_n 1, 1) := by decide +kernel
theorem d124_2 : decode (xmb 124) 2 = .ok (.aload_n 0, 1) := by decide +kernel
theorem d124_3 : decode (xmb 124) 3 = .ok (.bipush 90, 2) := by decide +kernel
theorem d124_5 : decode (xmb 124) 5 = .ok (.iaload, 1) := by decide +kernel
theorem d124_6 : decode (xmb 124) 6 = .ok (.iload_n 1, 1) := by decide +kernel
theorem d124_7 : decode (xmb 124) 7 = .ok (.invokestatic 54, 3) := by decide +kernel
theorem d124_10 : decode (xmb 124) 10 = .ok (.ifCond .ne 9, 3) := by decide +kernel
theorem d124_13 : decode (xmb 124) 13 = .ok (.iinc 1 1, 3) := by decide +kernel
theorem d124_16 : decode (xmb 124) 16 = .ok (.goto (-14), 3) := by decide +kernel
theorem d124_19 : decode (xmb 124) 19 = .ok (.iload_n 1, 1) := by decide +kernel
theorem d124_20 : decode (xmb 124) 20 = .ok (.invokestatic 76, 3) := by decide +kernel
theorem d124_23 : decode (xmb 124) 23 = .ok (.ireturn, 1) := by decide +kernel
theorem d125_0 : decode (xmb 125) 0 = .ok (.aload_n 0, 1) := by decide +kernel
theorem d125_1 : decode (xmb 125) 1 = .ok (.invokestatic 80, 3) := by decide +kernel
theorem d125_4 : decode (xmb 125) 4 = .ok (.istore_n 2, 1) := by decide +kernel
theorem d125_5 : decode (xmb 125) 5 = .ok (.aload_n 0, 1) := by decide +kernel
theorem d125_6 : decode (xmb 125) 6 = .ok (.iload_n 1, 1) := by decide +kernel
theorem d125_7 : decode (xmb 125) 7 = .ok (.invokestatic 84, 3) := by decide +kernel
theorem d125_10 : decode (xmb 125) 10 = .ok (.istore_n 3, 1) := by decide +kernel
theorem d125_11 : decode (xmb 125) 11 = .ok (.aload_n 0, 1) := by decide +kernel
theorem d125_12 : decode (xmb 125) 12 = .ok (.bipush 91, 2) := by decide +kernel
theorem d125_14 : decode (xmb 125) 14 = .ok (.iaload, 1) := by decide +kernel
theorem d125_15 : decode (xmb 125) 15 = .ok (.ifCond .ne 7, 3) := by decide +kernel
theorem d125_18 : decode (xmb 125) 18 = .ok (.iconst 0, 1) := by decide +kernel
theorem d125_19 : decode (xmb 125) 19 = .ok (.goto 20, 3) := by decide +kernel
theorem d125_22 : decode (xmb 125) 22 = .ok (.aload_n 0, 1) := by decide +kernel
theorem d125_23 : decode (xmb 125) 23 = .ok (.bipush 91, 2) := by decide +kernel
theorem d125_25 : decode (xmb 125) 25 = .ok (.iaload, 1) := by decide +kernel
theorem d125_26 : decode (xmb 125) 26 = .ok (.iconst 1, 1) := by decide +kernel
theorem d125_27 : decode (xmb 125) 27 = .ok (.if_icmp .ne 9, 3) := by decide +kernel
theorem d125_30 : decode (xmb 125) 30 = .ok (.iload_n 2, 1) := by decide +kernel
theorem d125_31 : decode (xmb 125) 31 = .ok (.iconst 2, 1) := by decide +kernel
theorem d125_32 : decode (xmb 125) 32 = .ok (.idiv, 1) := by decide +kernel
theorem d125_33 : decode (xmb 125) 33 = .ok (.goto 6, 3) := by decide +kernel
theorem d125_36 : decode (xmb 125) 36 = .ok (.iload_n 2, 1) := by decide +kernel
theorem d125_37 : decode (xmb 125) 37 = .ok (.iconst 1, 1) := by decide +kernel
theorem d125_38 : decode (xmb 125) 38 = .ok (.isub, 1) := by decide +kernel
theorem d125_39 : decode (xmb 125) 39 = .ok (.istore 4, 2) := by decide +kernel
theorem d125_41 : decode (xmb 125) 41 = .ok (.iload_n 3, 1) := by decide +kernel
theorem d125_42 : decode (xmb 125) 42 = .ok (.iload 4, 2) := by decide +kernel
theorem d125_44 : decode (xmb 125) 44 = .ok (.iadd, 1) := by decide +kernel
theorem d125_45 : decode (xmb 125) 45 = .ok (.iload_n 2, 1) := by decide +kernel
theorem d125_46 : decode (xmb 125) 46 = .ok (.idiv, 1) := by decide +kernel
theorem d125_47 : decode (xmb 125) 47 = .ok (.istore 5, 2) := by decide +kernel
theorem d125_49 : decode (xmb 125) 49 = .ok (.iload 5, 2) := by decide +kernel
theorem d125_51 : decode (xmb 125) 51 = .ok (.iconst 1, 1) := by decide +kernel
theorem d125_52 : decode (xmb 125) 52 = .ok (.if_icmp .ge 7, 3) := by decide +kernel
theorem d125_55 : decode (xmb 125) 55 = .ok (.iload_n 2, 1) := by decide +kernel
theorem d125_56 : decode (xmb 125) 56 = .ok (.goto 7, 3) := by decide +kernel
theorem d125_59 : decode (xmb 125) 59 = .ok (.iload 5, 2) := by decide +kernel
theorem d125_61 : decode (xmb 125) 61 = .ok (.iload_n 2, 1) := by decide +kernel
theorem d125_62 : decode (xmb 125) 62 = .ok (.imul, 1) := by decide +kernel
theorem d125_63 : decode (xmb 125) 63 = .ok (.ireturn, 1) := by decide +kernel
theorem d126_0 : decode (xmb 126) 0 = .ok (.aload_n 0, 1) := by decide +kernel
theorem d126_1 : decode (xmb 126) 1 = .ok (.iload_n 1, 1) := by decide +kernel
theorem d126_2 : decode (xmb 126) 2 = .ok (.invokestatic 88, 3) := by decide +kernel
theorem d126_5 : decode (xmb 126) 5 = .ok (.istore_n 3, 1) := by decide +kernel
theorem d126_6 : decode (xmb 126) 6 = .ok (.iconst 3, 1) := by decide +kernel
theorem d126_7 : decode (xmb 126) 7 = .ok (.istore 4, 2) := by decide +kernel
theorem d126_9 : decode (xmb 126) 9 = .ok (.iload 4, 2) := by decide +kernel
theorem d126_11 : decode (xmb 126) 11 = .ok (.iload_n 2, 1) := by decide +kernel
theorem d126_12 : decode (xmb 126) 12 = .ok (.if_icmp .le 33, 3) := by decide +kernel
theorem d126_15 : decode (xmb 126) 15 = .ok (.aload_n 0, 1) := by decide +kernel
theorem d126_16 : decode (xmb 126) 16 = .ok (.bipush 90, 2) := by decide +kernel
theorem d126_18 : decode (xmb 126) 18 = .ok (.iaload, 1) := by decide +kernel
theorem d126_19 : decode (xmb 126) 19 = .ok (.iload 4, 2) := by decide +kernel
theorem d126_21 : decode (xmb 126) 21 = .ok (.invokestatic 54, 3) := by decide +kernel
theorem d126_24 : decode (xmb 126) 24 = .ok (.ifCond .eq 13, 3) := by decide +kernel
theorem d126_27 : decode (xmb 126) 27 = .ok (.iload_n 3, 1) := by decide +kernel
theorem d126_28 : decode (xmb 126) 28 = .ok (.iload 4, 2) := by decide +kernel
theorem d126_30 : decode (xmb 126) 30 = .ok (.invokestatic 76, 3) := by decide +kernel
theorem d126_33 : decode (xmb 126) 33 = .ok (.irem, 1) := by decide +kernel
theorem d126_34 : decode (xmb 126) 34 = .ok (.goto 4, 3) := by decide +kernel
theorem d126_37 : decode (xmb 126) 37 = .ok (.iload_n 3, 1) := by decide +kernel
theorem d126_38 : decode (xmb 126) 38 = .ok (.istore_n 3, 1) := by decide +kernel
theorem d126_39 : decode (xmb 126) 39 = .ok (.iinc 4 (-1), 3) := by decide +kernel
theorem d126_42 : decode (xmb 126) 42 = .ok (.goto (-33), 3) := by decide +kernel
theorem d126_45 : decode (xmb 126) 45 = .ok (.aload_n 0, 1) := by decide +kernel
theorem d126_46 : decode (xmb 126) 46 = .ok (.bipush 90, 2) := by decide +kernel
theorem d126_48 : decode (xmb 126) 48 = .ok (.iaload, 1) := by decide +kernel
theorem d126_49 : decode (xmb 126) 49 = .ok (.iload_n 2, 1) := by decide +kernel
theorem d126_50 : decode (xmb 126) 50 = .ok (.invokestatic 54, 3) := by decide +kernel
theorem d126_53 : decode (xmb 126) 53 = .ok (.ifCond .eq 12, 3) := by decide +kernel
theorem d126_56 : decode (xmb 126) 56 = .ok (.iload_n 3, 1) := by decide +kernel
theorem d126_57 : decode (xmb 126) 57 = .ok (.iload_n 2, 1) := by decide +kernel
theorem d126_58 : decode (xmb 126) 58 = .ok (.invokestatic 76, 3) := by decide +kernel
theorem d126_61 : decode (xmb 126) 61 = .ok (.idiv, 1) := by decide +kernel
theorem d126_62 : decode (xmb 126) 62 = .ok (.goto 4, 3) := by decide +kernel
theorem d126_65 : decode (xmb 126) 65 = .ok (.iconst 0, 1) := by decide +kernel
theorem d126_66 : decode (xmb 126) 66 = .ok (.ireturn, 1) := by decide +kernel
theorem d127_0 : decode (xmb 127) 0 = .ok (.iconst 0, 1) := by decide +kernel
theorem d127_1 : decode (xmb 127) 1 = .ok (.istore_n 2, 1) := by decide +kernel
theorem d127_2 : decode (xmb 127) 2 = .ok (.iconst 0, 1) := by decide +kernel
theorem d127_3 : decode (xmb 127) 3 = .ok (.istore_n 3, 1) := by decide +kernel
theorem d127_4 : decode (xmb 127) 4 = .ok (.iload_n 3, 1) := by decide +kernel
theorem d127_5 : decode (xmb 127) 5 = .ok (.iconst 4, 1) := by decide +kernel
theorem d127_6 : decode (xmb 127) 6 = .ok (.if_icmp .ge 18, 3) := by decide +kernel
theorem d127_9 : decode (xmb 127) 9 = .ok (.iload_n 2, 1) := by decide +kernel
theorem d127_10 : decode (xmb 127) 10 = .ok (.aload_n 0, 1) := by decide +kernel
theorem d127_11 : decode (xmb 127) 11 = .ok (.iload_n 1, 1) := by decide +kernel
theorem d127_12 : decode (xmb 127) 12 = .ok (.iload_n 3, 1) := by decide +kernel
theorem d127_13 : decode (xmb 127) 13 = .ok (.invokestatic 91, 3) := by decide +kernel
theorem d127_16 : decode (xmb 127) 16 = .ok (.iadd, 1) := by decide +kernel
theorem d127_17 : decode (xmb 127) 17 = .ok (.istore_n 2, 1) := by decide +kernel
theorem d127_18 : decode (xmb 127) 18 = .ok (.iinc 3 1, 3) := by decide +kernel
theorem d127_21 : decode (xmb 127) 21 = .ok (.goto (-17), 3) := by decide +kernel
theorem d127_24 : decode (xmb 127) 24 = .ok (.iload_n 2, 1) := by decide +kernel
theorem d127_25 : decode (xmb 127) 25 = .ok (.ireturn, 1) := by decide +kernel
theorem d128_0 : decode (xmb 128) 0 = .ok (.iconst 0, 1) := by decide +kernel
theorem d128_1 : decode (xmb 128) 1 = .ok (.istore_n 1, 1) := by decide +kernel
theorem d128_2 : decode (xmb 128) 2 = .ok (.iconst 0, 1) := by decide +kernel
theorem d128_3 : decode (xmb 128) 3 = .ok (.istore_n 2, 1) := by decide +kernel
theorem d128_4 : decode (xmb 128) 4 = .ok (.iload_n 2, 1) := by decide +kernel
theorem d128_5 : decode (xmb 128) 5 = .ok (.aload_n 0, 1) := by decide +kernel
theorem d128_6 : decode (xmb 128) 6 = .ok (.iconst 0, 1) := by decide +kernel
theorem d128_7 : decode (xmb 128) 7 = .ok (.iaload, 1) := by decide +kernel
theorem d128_8 : decode (xmb 128) 8 = .ok (.if_icmp .ge 17, 3) := by decide +kernel
theorem d128_11 : decode (xmb 128) 11 = .ok (.iload_n 1, 1) := by decide +kernel
theorem d128_12 : decode (xmb 128) 12 = .ok (.aload_n 0, 1) := by decide +kernel
theorem d128_13 : decode (xmb 128) 13 = .ok (.iload_n 2, 1) := by decide +kernel
theorem d128_14 : decode (xmb 128) 14 = .ok (.invokestatic 95, 3) := by decide +kernel
theorem d128_17 : decode (xmb 128) 17 = .ok (.iadd, 1) := by decide +kernel
theorem d128_18 : decode (xmb 128) 18 = .ok (.istore_n 1, 1) := by decide +kernel
theorem d128_19 : decode (xmb 128) 19 = .ok (.iinc 2 1, 3) := by decide +kernel
theorem d128_22 : decode (xmb 128) 22 = .ok (.goto (-18), 3) := by decide +kernel
theorem d128_25 : decode (xmb 128) 25 = .ok (.iload_n 1, 1) := by decide +kernel
theorem d128_26 : decode (xmb 128) 26 = .ok (.ireturn, 1) := by decide +kernel
theorem d129_0 : decode (xmb 129) 0 = .ok (.iconst 0, 1) := by decide +kernel
theorem d129_1 : decode (xmb 129) 1 = .ok (.istore_n 1, 1) := by decide +kernel
theorem d129_2 : decode (xmb 129) 2 = .ok (.iconst 0, 1) := by decide +kernel
theorem d129_3 : decode (xmb 129) 3 = .ok (.istore_n 2, 1) := by decide +kernel
theorem d129_4 : decode (xmb 129) 4 = .ok (.iload_n 2, 1) := by decide +kernel
theorem d129_5 : decode (xmb 129) 5 = .ok (.aload_n 0, 1) := by decide +kernel
theorem d129_6 : decode (xmb 129) 6 = .ok (.iconst 0, 1) := by decide +kernel
theorem d129_7 : decode (xmb 129) 7 = .ok (.iaload, 1) := by decide +kernel
theorem d129_8 : decode (xmb 129) 8 = .ok (.if_icmp .ge 34, 3) := by decide +kernel
theorem d129_11 : decode (xmb 129) 11 = .ok (.aload_n 0, 1) := by decide +kernel
theorem d129_12 : decode (xmb 129) 12 = .ok (.iload_n 2, 1) := by decide +kernel
theorem d129_13 : decode (xmb 129) 13 = .ok (.invokestatic 88, 3) := by decide +kernel
theorem d129_16 : decode (xmb 129) 16 = .ok (.aload_n 0, 1) := by decide +kernel
theorem d129_17 : decode (xmb 129) 17 = .ok (.iload_n 2, 1) := by decide +kernel
theorem d129_18 : decode (xmb 129) 18 = .ok (.invokestatic 84, 3) := by decide +kernel
theorem d129_21 : decode (xmb 129) 21 = .ok (.isub, 1) := by decide +kernel
theorem d129_22 : decode (xmb 129) 22 = .ok (.istore_n 3, 1) := by decide +kernel
theorem d129_23 : decode (xmb 129) 23 = .ok (.iload_n 1, 1) := by decide +kernel
theorem d129_24 : decode (xmb 129) 24 = .ok (.iload_n 3, 1) := by decide +kernel
theorem d129_25 : decode (xmb 129) 25 = .ok (.ifCond .ge 8, 3) := by decide +kernel
theorem d129_28 : decode (xmb 129) 28 = .ok (.iload_n 3, 1) := by decide +kernel
theorem d129_29 : decode (xmb 129) 29 = .ok (.ineg, 1) := by decide +kernel
theorem d129_30 : decode (xmb 129) 30 = .ok (.goto 4, 3) := by decide +kernel
theorem d129_33 : decode (xmb 129) 33 = .ok (.iload_n 3, 1) := by decide +kernel
theorem d129_34 : decode (xmb 129) 34 = .ok (.iadd, 1) := by decide +kernel
theorem d129_35 : decode (xmb 129) 35 = .ok (.istore_n 1, 1) := by decide +kernel
theorem d129_36 : decode (xmb 129) 36 = .ok (.iinc 2 1, 3) := by decide +kernel
theorem d129_39 : decode (xmb 129) 39 = .ok (.goto (-35), 3) := by decide +kernel
theorem d129_42 : decode (xmb 129) 42 = .ok (.iload_n 1, 1) := by decide +kernel
theorem d129_43 : decode (xmb 129) 43 = .ok (.ireturn, 1) := by decide +kernel
theorem d130_0 : decode (xmb 130) 0 = .ok (.iconst 0, 1) := by decide +kernel
theorem d130_1 : decode (xmb 130) 1 = .ok (.istore_n 2, 1) := by decide +kernel
theorem d130_2 : decode (xmb 130) 2 = .ok (.iconst 0, 1) := by decide +kernel
theorem d130_3 : decode (xmb 130) 3 = .ok (.istore_n 3, 1) := by decide +kernel
theorem d130_4 : decode (xmb 130) 4 = .ok (.iload_n 3, 1) := by decide +kernel
theorem d130_5 : decode (xmb 130) 5 = .ok (.aload_n 0, 1) := by decide +kernel
theorem d130_6 : decode (xmb 130) 6 = .ok (.bipush 15, 2) := by decide +kernel
theorem d130_8 : decode (xmb 130) 8 = .ok (.iaload, 1) := by decide +kernel
theorem d130_9 : decode (xmb 130) 9 = .ok (.if_icmp .ge 32, 3) := by decide +kernel
theorem d130_12 : decode (xmb 130) 12 = .ok (.iload_n 2, 1) := by decide +kernel
theorem d130_13 : decode (xmb 130) 13 = .ok (.aload_n 0, 1) := by decide +kernel
theorem d130_14 : decode (xmb 130) 14 = .ok (.bipush 72, 2) := by decide +kernel
theorem d130_16 : decode (xmb 130) 16 = .ok (.iload_n 3, 1) := by decide +kernel
theorem d130_17 : decode (xmb 130) 17 = .ok (.iadd, 1) := by decide +kernel
theorem d130_18 : decode (xmb 130) 18 = .ok (.iaload, 1) := by decide +kernel
theorem d130_19 : decode (xmb 130) 19 = .ok (.iload_n 1, 1) := by decide +kernel
theorem d130_20 : decode (xmb 130) 20 = .ok (.invokestatic 54, 3) := by decide +kernel
theorem d130_23 : decode (xmb 130) 23 = .ok (.ifCond .eq 9, 3) := by decide +kernel
theorem d130_26 : decode (xmb 130) 26 = .ok (.iconst 1, 1) := by decide +kernel
theorem d130_27 : decode (xmb 130) 27 = .ok (.iload_n 3, 1) := by decide +kernel
theorem d130_28 : decode (xmb 130) 28 = .ok (.ishl, 1) := by decide +kernel
theorem d130_29 : decode (xmb 130) 29 = .ok (.goto 4, 3) := by decide +kernel
theorem d130_32 : decode (xmb 130) 32 = .ok (.iconst 0, 1) := by decide +kernel
theorem d130_33 : decode (xmb 130) 33 = .ok (.ior, 1) := by decide +kernel
theorem d130_34 : decode (xmb 130) 34 = .ok (.istore_n 2, 1) := by decide +kernel
theorem d130_35 : decode (xmb 130) 35 = .ok (.iinc 3 1, 3) := by decide +kernel
theorem d130_38 : decode (xmb 130) 38 = .ok (.goto (-34), 3) := by decide +kernel
theorem d130_41 : decode (xmb 130) 41 = .ok (.iload_n 2, 1) := by decide +kernel
theorem d130_42 : decode (xmb 130) 42 = .ok (.ireturn, 1) := by decide +kernel
theorem d131_0 : decode (xmb 131) 0 = .ok (.aload_n 0, 1) := by decide +kernel
theorem d131_1 : decode (xmb 131) 1 = .ok (.bipush 72, 2) := by decide +kernel
theorem d131_3 : decode (xmb 131) 3 = .ok (.iload_n 1, 1) := by decide +kernel
theorem d131_4 : decode (xmb 131) 4 = .ok (.iadd, 1) := by decide +kernel
theorem d131_5 : decode (xmb 131) 5 = .ok (.iaload, 1) := by decide +kernel
theorem d131_6 : decode (xmb 131) 6 = .ok (.istore_n 2, 1) := by decide +kernel
theorem d131_7 : decode (xmb 131) 7 = .ok (.iconst 0, 1) := by decide +kernel
theorem d131_8 : decode (xmb 131) 8 = .ok (.istore_n 3, 1) := by decide +kernel
theorem d131_9 : decode (xmb 131) 9 = .ok (.iload_n 3, 1) := by decide +kernel
theorem d131_10 : decode (xmb 131) 10 = .ok (.aload_n 0, 1) := by decide +kernel
theorem d131_11 : decode (xmb 131) 11 = .ok (.bipush 15, 2) := by decide +kernel
theorem d131_13 : decode (xmb 131) 13 = .ok (.iaload, 1) := by decide +kernel
theorem d131_14 : decode (xmb 131) 14 = .ok (.if_icmp .ge 50, 3) := by decide +kernel
theorem d131_17 : decode (xmb 131) 17 = .ok (.iconst 0, 1) := by decide +kernel
theorem d131_18 : decode (xmb 131) 18 = .ok (.istore 4, 2) := by decide +kernel
theorem d131_20 : decode (xmb 131) 20 = .ok (.iload 4, 2) := by decide +kernel
theorem d131_22 : decode (xmb 131) 22 = .ok (.aload_n 0, 1) := by decide +kernel
theorem d131_23 : decode (xmb 131) 23 = .ok (.bipush 15, 2) := by decide +kernel
theorem d131_25 : decode (xmb 131) 25 = .ok (.iaload, 1) := by decide +kernel
theorem d131_26 : decode (xmb 131) 26 = .ok (.if_icmp .ge 32, 3) := by decide +kernel
theorem d131_29 : decode (xmb 131) 29 = .ok (.iload_n 2, 1) := by decide +kernel
theorem d131_30 : decode (xmb 131) 30 = .ok (.iload_n 2, 1) := by decide +kernel
theorem d131_31 : decode (xmb 131) 31 = .ok (.iload 4, 2) := by decide +kernel
theorem d131_33 : decode (xmb 131) 33 = .ok (.invokestatic 54, 3) := by decide +kernel
theorem d131_36 : decode (xmb 131) 36 = .ok (.ifCond .eq 13, 3) := by decide +kernel
theorem d131_39 : decode (xmb 131) 39 = .ok (.aload_n 0, 1) := by decide +kernel
theorem d131_40 : decode (xmb 131) 40 = .ok (.bipush 72, 2) := by decide +kernel
theorem d131_42 : decode (xmb 131) 42 = .ok (.iload 4, 2) := by decide +kernel
theorem d131_44 : decode (xmb 131) 44 = .ok (.iadd, 1) := by decide +kernel
theorem d131_45 : decode (xmb 131) 45 = .ok (.iaload, 1) := by decide +kernel
theorem d131_46 : decode (xmb 131) 46 = .ok (.goto 4, 3) := by decide +kernel
theorem d131_49 : decode (xmb 131) 49 = .ok (.iconst 0, 1) := by decide +kernel
theorem d131_50 : decode (xmb 131) 50 = .ok (.ior, 1) := by decide +kernel
theorem d131_51 : decode (xmb 131) 51 = .ok (.istore_n 2, 1) := by decide +kernel
theorem d131_52 : decode (xmb 131) 52 = .ok (.iinc 4 1, 3) := by decide +kernel
theorem d131_55 : decode (xmb 131) 55 = .ok (.goto (-35), 3) := by decide +kernel
theorem d131_58 : decode (xmb 131) 58 = .ok (.iinc 3 1, 3) := by decide +kernel
theorem d131_61 : decode (xmb 131) 61 = .ok (.goto (-52), 3) := by decide +kernel
theorem d131_64 : decode (xmb 131) 64 = .ok (.iload_n 2, 1) := by decide +kernel
theorem d131_65 : decode (xmb 131) 65 = .ok (.ireturn, 1) := by decide +kernel
theorem d132_0 : decode (xmb 132) 0 = .ok (.iconst 0, 1) := by decide +kernel
theorem d132_1 : decode (xmb 132) 1 = .ok (.istore_n 2, 1) := by decide +kernel
theorem d132_2 : decode (xmb 132) 2 = .ok (.iload_n 2, 1) := by decide +kernel
theorem d132_3 : decode (xmb 132) 3 = .ok (.aload_n 1, 1) := by decide +kernel
theorem d132_4 : decode (xmb 132) 4 = .ok (.bipush 15, 2) := by decide +kernel
theorem d132_6 : decode (xmb 132) 6 = .ok (.iaload, 1) := by decide +kernel
theorem d132_7 : decode (xmb 132) 7 = .ok (.if_icmp .ge 16, 3) := by decide +kernel
theorem d132_10 : decode (xmb 132) 10 = .ok (.aload_n 0, 1) := by decide +kernel
theorem d132_11 : decode (xmb 132) 11 = .ok (.getfield 38, 3) := by decide +kernel
theorem d132_14 : decode (xmb 132) 14 = .ok (.iload_n 2, 1) := by decide +kernel
theorem d132_15 : decode (xmb 132) 15 = .ok (.iconst 0, 1) := by decide +kernel
theorem d132_16 : decode (xmb 132) 16 = .ok (.iastore, 1) := by decide +kernel
theorem d132_17 : decode (xmb 132) 17 = .ok (.iinc 2 1, 3) := by decide +kernel
theorem d132_20 : decode (xmb 132) 20 = .ok (.goto (-18), 3) := by decide +kernel
theorem d132_23 : decode (xmb 132) 23 = .ok (.iconst 0, 1) := by decide +kernel
theorem d132_24 : decode (xmb 132) 24 = .ok (.istore_n 2, 1) := by decide +kernel
theorem d132_25 : decode (xmb 132) 25 = .ok (.iload_n 2, 1) := by decide +kernel
theorem d132_26 : decode (xmb 132) 26 = .ok (.aload_n 1, 1) := by decide +kernel
theorem d132_27 : decode (xmb 132) 27 = .ok (.bipush 15, 2) := by decide +kernel
theorem d132_29 : decode (xmb 132) 29 = .ok (.iaload, 1) := by decide +kernel
theorem d132_30 : decode (xmb 132) 30 = .ok (.if_icmp .ge 101, 3) := by decide +kernel
theorem d132_33 : decode (xmb 132) 33 = .ok (.iconst 0, 1) := by decide +kernel
theorem d132_34 : decode (xmb 132) 34 = .ok (.istore_n 3, 1) := by decide +kernel
theorem d132_35 : decode (xmb 132) 35 = .ok (.iload_n 3, 1) := by decide +kernel
theorem d132_36 : decode (xmb 132) 36 = .ok (.aload_n 1, 1) := by decide +kernel
theorem d132_37 : decode (xmb 132) 37 = .ok (.bipush 15, 2) := by decide +kernel
theorem d132_39 : decode (xmb 132) 39 = .ok (.iaload, 1) := by decide +kernel
theorem d132_40 : decode (xmb 132) 40 = .ok (.if_icmp .ge 85, 3) := by decide +kernel
theorem d132_43 : decode (xmb 132) 43 = .ok (.iconst 0, 1) := by decide +kernel
theorem d132_44 : decode (xmb 132) 44 = .ok (.istore 4, 2) := by decide +kernel
theorem d132_46 : decode (xmb 132) 46 = .ok (.iconst 0, 1) := by decide +kernel
theorem d132_47 : decode (xmb 132) 47 = .ok (.istore 5, 2) := by decide +kernel
theorem d132_49 : decode (xmb 132) 49 = .ok (.iload 5, 2) := by decide +kernel
theorem d132_51 : decode (xmb 132) 51 = .ok (.aload_n 1, 1) := by decide +kernel
