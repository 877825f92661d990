set_option maxRecDepth 100000 in
theorem d139_99 : decode (xmb 139) 99 = .ok (.i2l, 1) := by decide +kernel
set_option maxRecDepth 100000 in
theorem d139_100 : decode (xmb 139) 100 = .ok (.iconst 5, 1) := by decide +kernel
set_option maxRecDepth 100000 in
theorem d139_101 : decode (xmb 139) 101 = .ok (.invokestatic 176, 3) := by decide +kernel
set_option maxRecDepth 100000 in
theorem d139_104 : decode (xmb 139) 104 = .ok (.lcmp, 1) := by decide +kernel
set_option maxRecDepth 100000 in
theorem d139_105 : decode (xmb 139) 105 = .ok (.ifCond .ne 41, 3) := by decide +kernel
set_option maxRecDepth 100000 in
theorem d139_108 : decode (xmb 139) 108 = .ok (.aload_n 0, 1) := by decide +kernel
set_option maxRecDepth 100000 in
theorem d139_109 : decode (xmb 139) 109 = .ok (.iconst 2, 1) := by decide +kernel
set_option maxRecDepth 100000 in
theorem d139_110 : decode (xmb 139) 110 = .ok (.ldc2_w 215, 3) := by decide +kernel
set_option maxRecDepth 100000 in
theorem d139_113 : decode (xmb 139) 113 = .ok (.iload_n 2, 1) := by decide +kernel
set_option maxRecDepth 100000 in
theorem d139_114 : decode (xmb 139) 114 = .ok (.sipush 900, 3) := by decide +kernel
set_option maxRecDepth 100000 in
theorem d139_117 : decode (xmb 139) 117 = .ok (.irem, 1) := by decide +kernel
set_option maxRecDepth 100000 in
theorem d139_118 : decode (xmb 139) 118 = .ok (.i2l, 1) := by decide +kernel
set_option maxRecDepth 100000 in
theorem d139_119 : decode (xmb 139) 119 = .ok (.ladd, 1) := by decide +kernel
set_option maxRecDepth 100000 in
theorem d139_120 : decode (xmb 139) 120 = .ok (.invokestatic 170, 3) := by decide +kernel
set_option maxRecDepth 100000 in
theorem d139_123 : decode (xmb 139) 123 = .ok (.aload_n 1, 1) := by decide +kernel
set_option maxRecDepth 100000 in
theorem d139_124 : decode (xmb 139) 124 = .ok (.iconst 2, 1) := by decide +kernel
set_option maxRecDepth 100000 in
theorem d139_125 : decode (xmb 139) 125 = .ok (.ldc2_w 215, 3) := by decide +kernel
set_option maxRecDepth 100000 in
theorem d139_128 : decode (xmb 139) 128 = .ok (.iload_n 2, 1) := by decide +kernel
set_option maxRecDepth 100000 in
theorem d139_129 : decode (xmb 139) 129 = .ok (.sipush 900, 3) := by decide +kernel
set_option maxRecDepth 100000 in
theorem d139_132 : decode (xmb 139) 132 = .ok (.irem, 1) := by decide +kernel
set_option maxRecDepth 100000 in
theorem d139_133 : decode (xmb 139) 133 = .ok (.i2l, 1) := by decide +kernel
set_option maxRecDepth 100000 in
theorem d139_134 : decode (xmb 139) 134 = .ok (.ladd, 1) := by decide +kernel
set_option maxRecDepth 100000 in
theorem d139_135 : decode (xmb 139) 135 = .ok (.invokestatic 170, 3) := by decide +kernel
set_option maxRecDepth 100000 in
theorem d139_138 : decode (xmb 139) 138 = .ok (.lcmp, 1) := by decide +kernel
set_option maxRecDepth 100000 in
theorem d139_139 : decode (xmb 139) 139 = .ok (.ifCond .ne 7, 3) := by decide +kernel
set_option maxRecDepth 100000 in
theorem d139_142 : decode (xmb 139) 142 = .ok (.iconst 1, 1) := by decide +kernel
set_option maxRecDepth 100000 in
theorem d139_143 : decode (xmb 139) 143 = .ok (.goto 4, 3) := by decide +kernel
set_option maxRecDepth 100000 in
theorem d139_146 : decode (xmb 139) 146 = .ok (.iconst 0, 1) := by decide +kernel
set_option maxRecDepth 100000 in
theorem d139_147 : decode (xmb 139) 147 = .ok (.ireturn, 1) := by decide +kernel
set_option maxRecDepth 100000 in
theorem d141_0 : decode (xmb 141) 0 = .ok (.aload_n 0, 1) := by decide +kernel
set_option maxRecDepth 100000 in
theorem d141_1 : decode (xmb 141) 1 = .ok (.invokevirtual 217, 3) := by decide +kernel
set_option maxRecDepth 100000 in
theorem d141_4 : decode (xmb 141) 4 = .ok (.ifCond .lt 18, 3) := by decide +kernel
set_option maxRecDepth 100000 in
theorem d141_7 : decode (xmb 141) 7 = .ok (.aload_n 0, 1) := by decide +kernel
set_option maxRecDepth 100000 in
theorem d141_8 : decode (xmb 141) 8 = .ok (.bipush 67, 2) := by decide +kernel
set_option maxRecDepth 100000 in
theorem d141_10 : decode (xmb 141) 10 = .ok (.invokestatic 183, 3) := by decide +kernel
set_option maxRecDepth 100000 in
theorem d141_13 : decode (xmb 141) 13 = .ok (.lconst 0, 1) := by decide +kernel
set_option maxRecDepth 100000 in
theorem d141_14 : decode (xmb 141) 14 = .ok (.lcmp, 1) := by decide +kernel
set_option maxRecDepth 100000 in
theorem d141_15 : decode (xmb 141) 15 = .ok (.ifCond .le 7, 3) := by decide +kernel
set_option maxRecDepth 100000 in
theorem d141_18 : decode (xmb 141) 18 = .ok (.iconst 1, 1) := by decide +kernel
set_option maxRecDepth 100000 in
theorem d141_19 : decode (xmb 141) 19 = .ok (.goto 4, 3) := by decide +kernel
set_option maxRecDepth 100000 in
theorem d141_22 : decode (xmb 141) 22 = .ok (.iconst 0, 1) := by decide +kernel
set_option maxRecDepth 100000 in
theorem d141_23 : decode (xmb 141) 23 = .ok (.istore_n 2, 1) := by decide +kernel
set_option maxRecDepth 100000 in
theorem d141_24 : decode (xmb 141) 24 = .ok (.iconst 0, 1) := by decide +kernel
set_option maxRecDepth 100000 in
theorem d141_25 : decode (xmb 141) 25 = .ok (.istore_n 3, 1) := by decide +kernel
set_option maxRecDepth 100000 in
theorem d141_26 : decode (xmb 141) 26 = .ok (.iload_n 3, 1) := by decide +kernel
set_option maxRecDepth 100000 in
theorem d141_27 : decode (xmb 141) 27 = .ok (.iconst 1, 1) := by decide +kernel
set_option maxRecDepth 100000 in
theorem d141_28 : decode (xmb 141) 28 = .ok (.iload_n 1, 1) := by decide +kernel
set_option maxRecDepth 100000 in
theorem d141_29 : decode (xmb 141) 29 = .ok (.iconst 4, 1) := by decide +kernel
set_option maxRecDepth 100000 in
theorem d141_30 : decode (xmb 141) 30 = .ok (.irem, 1) := by decide +kernel
set_option maxRecDepth 100000 in
theorem d141_31 : decode (xmb 141) 31 = .ok (.iadd, 1) := by decide +kernel
set_option maxRecDepth 100000 in
theorem d141_32 : decode (xmb 141) 32 = .ok (.if_icmp .ge 189, 3) := by decide +kernel
set_option maxRecDepth 100000 in
theorem d141_35 : decode (xmb 141) 35 = .ok (.iload_n 2, 1) := by decide +kernel
set_option maxRecDepth 100000 in
theorem d141_36 : decode (xmb 141) 36 = .ok (.ifCond .eq 185, 3) := by decide +kernel
set_option maxRecDepth 100000 in
theorem d141_39 : decode (xmb 141) 39 = .ok (.iload_n 1, 1) := by decide +kernel
set_option maxRecDepth 100000 in
theorem d141_40 : decode (xmb 141) 40 = .ok (.iload_n 3, 1) := by decide +kernel
set_option maxRecDepth 100000 in
theorem d141_41 : decode (xmb 141) 41 = .ok (.ishr, 1) := by decide +kernel
set_option maxRecDepth 100000 in
theorem d141_42 : decode (xmb 141) 42 = .ok (.istore 4, 2) := by decide +kernel
set_option maxRecDepth 100000 in
theorem d141_44 : decode (xmb 141) 44 = .ok (.aload_n 0, 1) := by decide +kernel
set_option maxRecDepth 100000 in
theorem d141_45 : decode (xmb 141) 45 = .ok (.bipush 105, 2) := by decide +kernel
set_option maxRecDepth 100000 in
theorem d141_47 : decode (xmb 141) 47 = .ok (.bipush 48, 2) := by decide +kernel
set_option maxRecDepth 100000 in
theorem d141_49 : decode (xmb 141) 49 = .ok (.iload 4, 2) := by decide +kernel
set_option maxRecDepth 100000 in
theorem d141_51 : decode (xmb 141) 51 = .ok (.iconst 3, 1) := by decide +kernel
set_option maxRecDepth 100000 in
theorem d141_52 : decode (xmb 141) 52 = .ok (.irem, 1) := by decide +kernel
set_option maxRecDepth 100000 in
theorem d141_53 : decode (xmb 141) 53 = .ok (.iadd, 1) := by decide +kernel
set_option maxRecDepth 100000 in
theorem d141_54 : decode (xmb 141) 54 = .ok (.bipush 48, 2) := by decide +kernel
set_option maxRecDepth 100000 in
theorem d141_56 : decode (xmb 141) 56 = .ok (.iload 4, 2) := by decide +kernel
set_option maxRecDepth 100000 in
theorem d141_58 : decode (xmb 141) 58 = .ok (.bipush 10, 2) := by decide +kernel
set_option maxRecDepth 100000 in
theorem d141_60 : decode (xmb 141) 60 = .ok (.irem, 1) := by decide +kernel
set_option maxRecDepth 100000 in
theorem d141_61 : decode (xmb 141) 61 = .ok (.iadd, 1) := by decide +kernel
set_option maxRecDepth 100000 in
theorem d141_62 : decode (xmb 141) 62 = .ok (.bipush 116, 2) := by decide +kernel
set_option maxRecDepth 100000 in
theorem d141_64 : decode (xmb 141) 64 = .ok (.invokestatic 220, 3) := by decide +kernel
set_option maxRecDepth 100000 in
theorem d141_67 : decode (xmb 141) 67 = .ok (.ifCond .eq 146, 3) := by decide +kernel
set_option maxRecDepth 100000 in
theorem d141_70 : decode (xmb 141) 70 = .ok (.aload_n 0, 1) := by decide +kernel
set_option maxRecDepth 100000 in
theorem d141_71 : decode (xmb 141) 71 = .ok (.bipush 115, 2) := by decide +kernel
set_option maxRecDepth 100000 in
theorem d141_73 : decode (xmb 141) 73 = .ok (.bipush 48, 2) := by decide +kernel
set_option maxRecDepth 100000 in
theorem d141_75 : decode (xmb 141) 75 = .ok (.iload 4, 2) := by decide +kernel
set_option maxRecDepth 100000 in
theorem d141_77 : decode (xmb 141) 77 = .ok (.bipush 9, 2) := by decide +kernel
set_option maxRecDepth 100000 in
theorem d141_79 : decode (xmb 141) 79 = .ok (.irem, 1) := by decide +kernel
set_option maxRecDepth 100000 in
theorem d141_80 : decode (xmb 141) 80 = .ok (.iadd, 1) := by decide +kernel
set_option maxRecDepth 100000 in
theorem d141_81 : decode (xmb 141) 81 = .ok (.bipush 49, 2) := by decide +kernel
set_option maxRecDepth 100000 in
theorem d141_83 : decode (xmb 141) 83 = .ok (.iload 4, 2) := by decide +kernel
set_option maxRecDepth 100000 in
theorem d141_85 : decode (xmb 141) 85 = .ok (.bipush 9, 2) := by decide +kernel
set_option maxRecDepth 100000 in
theorem d141_87 : decode (xmb 141) 87 = .ok (.irem, 1) := by decide +kernel
set_option maxRecDepth 100000 in
theorem d141_88 : decode (xmb 141) 88 = .ok (.iadd, 1) := by decide +kernel
set_option maxRecDepth 100000 in
theorem d141_89 : decode (xmb 141) 89 = .ok (.bipush 48, 2) := by decide +kernel
set_option maxRecDepth 100000 in
theorem d141_91 : decode (xmb 141) 91 = .ok (.iload 4, 2) := by decide +kernel
set_option maxRecDepth 100000 in
theorem d141_93 : decode (xmb 141) 93 = .ok (.iconst 5, 1) := by decide +kernel
set_option maxRecDepth 100000 in
theorem d141_94 : decode (xmb 141) 94 = .ok (.irem, 1) := by decide +kernel
set_option maxRecDepth 100000 in
theorem d141_95 : decode (xmb 141) 95 = .ok (.iadd, 1) := by decide +kernel
set_option maxRecDepth 100000 in
theorem d141_96 : decode (xmb 141) 96 = .ok (.invokestatic 220, 3) := by decide +kernel
set_option maxRecDepth 100000 in
theorem d141_99 : decode (xmb 141) 99 = .ok (.ifCond .eq 114, 3) := by decide +kernel
set_option maxRecDepth 100000 in
theorem d141_102 : decode (xmb 141) 102 = .ok (.aload_n 0, 1) := by decide +kernel
set_option maxRecDepth 100000 in
theorem d141_103 : decode (xmb 141) 103 = .ok (.bipush 48, 2) := by decide +kernel
set_option maxRecDepth 100000 in
theorem d141_105 : decode (xmb 141) 105 = .ok (.iload 4, 2) := by decide +kernel
set_option maxRecDepth 100000 in
theorem d141_107 : decode (xmb 141) 107 = .ok (.iconst 2, 1) := by decide +kernel
set_option maxRecDepth 100000 in
theorem d141_108 : decode (xmb 141) 108 = .ok (.irem, 1) := by decide +kernel
set_option maxRecDepth 100000 in
theorem d141_109 : decode (xmb 141) 109 = .ok (.iadd, 1) := by decide +kernel
set_option maxRecDepth 100000 in
theorem d141_110 : decode (xmb 141) 110 = .ok (.bipush 117, 2) := by decide +kernel
set_option maxRecDepth 100000 in
theorem d141_112 : decode (xmb 141) 112 = .ok (.bipush 48, 2) := by decide +kernel
set_option maxRecDepth 100000 in
theorem d141_114 : decode (xmb 141) 114 = .ok (.bipush 48, 2) := by decide +kernel
set_option maxRecDepth 100000 in
theorem d141_116 : decode (xmb 141) 116 = .ok (.iload 4, 2) := by decide +kernel
set_option maxRecDepth 100000 in
theorem d141_118 : decode (xmb 141) 118 = .ok (.iconst 4, 1) := by decide +kernel
set_option maxRecDepth 100000 in
theorem d141_119 : decode (xmb 141) 119 = .ok (.irem, 1) := by decide +kernel
set_option maxRecDepth 100000 in
theorem d141_120 : decode (xmb 141) 120 = .ok (.iadd, 1) := by decide +kernel
set_option maxRecDepth 100000 in
theorem d141_121 : decode (xmb 141) 121 = .ok (.invokestatic 220, 3) := by decide +kernel
set_option maxRecDepth 100000 in
theorem d141_124 : decode (xmb 141) 124 = .ok (.ifCond .eq 89, 3) := by decide +kernel
set_option maxRecDepth 100000 in
theorem d141_127 : decode (xmb 141) 127 = .ok (.aload_n 0, 1) := by decide +kernel
set_option maxRecDepth 100000 in
theorem d141_128 : decode (xmb 141) 128 = .ok (.bipush 48, 2) := by decide +kernel
set_option maxRecDepth 100000 in
theorem d141_130 : decode (xmb 141) 130 = .ok (.bipush 48, 2) := by decide +kernel
set_option maxRecDepth 100000 in
theorem d141_132 : decode (xmb 141) 132 = .ok (.iload 4, 2) := by decide +kernel
set_option maxRecDepth 100000 in
theorem d141_134 : decode (xmb 141) 134 = .ok (.iconst 3, 1) := by decide +kernel
set_option maxRecDepth 100000 in
theorem d141_135 : decode (xmb 141) 135 = .ok (.irem, 1) := by decide +kernel
set_option maxRecDepth 100000 in
theorem d141_136 : decode (xmb 141) 136 = .ok (.iadd, 1) := by decide +kernel
set_option maxRecDepth 100000 in
theorem d141_137 : decode (xmb 141) 137 = .ok (.bipush 110, 2) := by decide +kernel
set_option maxRecDepth 100000 in
theorem d141_139 : decode (xmb 141) 139 = .ok (.bipush 48, 2) := by decide +kernel
set_option maxRecDepth 100000 in
theorem d141_141 : decode (xmb 141) 141 = .ok (.invokestatic 220, 3) := by decide +kernel
set_option maxRecDepth 100000 in
theorem d141_144 : decode (xmb 141) 144 = .ok (.ifCond .eq 69, 3) := by decide +kernel
set_option maxRecDepth 100000 in
theorem d141_147 : decode (xmb 141) 147 = .ok (.aload_n 0, 1) := by decide +kernel
set_option maxRecDepth 100000 in
theorem d141_148 : decode (xmb 141) 148 = .ok (.bipush 48, 2) := by decide +kernel
set_option maxRecDepth 100000 in
theorem d141_150 : decode (xmb 141) 150 = .ok (.iload 4, 2) := by decide +kernel
set_option maxRecDepth 100000 in
theorem d141_152 : decode (xmb 141) 152 = .ok (.iconst 4, 1) := by decide +kernel
set_option maxRecDepth 100000 in
theorem d141_153 : decode (xmb 141) 153 = .ok (.irem, 1) := by decide +kernel
set_option maxRecDepth 100000 in
theorem d141_154 : decode (xmb 141) 154 = .ok (.iadd, 1) := by decide +kernel
set_option maxRecDepth 100000 in
theorem d141_155 : decode (xmb 141) 155 = .ok (.bipush 48, 2) := by decide +kernel
set_option maxRecDepth 100000 in
theorem d141_157 : decode (xmb 141) 157 = .ok (.bipush 48, 2) := by decide +kernel
set_option maxRecDepth 100000 in
theorem d141_159 : decode (xmb 141) 159 = .ok (.iload 4, 2) := by decide +kernel
set_option maxRecDepth 100000 in
theorem d141_161 : decode (xmb 141) 161 = .ok (.iconst 4, 1) := by decide +kernel
set_option maxRecDepth 100000 in
theorem d141_162 : decode (xmb 141) 162 = .ok (.idiv, 1) := by decide +kernel
set_option maxRecDepth 100000 in
theorem d141_163 : decode (xmb 141) 163 = .ok (.iconst 4, 1) := by decide +kernel
set_option maxRecDepth 100000 in
theorem d141_164 : decode (xmb 141) 164 = .ok (.irem, 1) := by decide +kernel
set_option maxRecDepth 100000 in
theorem d141_165 : decode (xmb 141) 165 = .ok (.iadd, 1) := by decide +kernel
set_option maxRecDepth 100000 in
theorem d141_166 : decode (xmb 141) 166 = .ok (.bipush 107, 2) := by decide +kernel
set_option maxRecDepth 100000 in
theorem d141_168 : decode (xmb 141) 168 = .ok (.invokestatic 220, 3) := by decide +kernel
set_option maxRecDepth 100000 in
theorem d141_171 : decode (xmb 141) 171 = .ok (.ifCond .eq 42, 3) := by decide +kernel
set_option maxRecDepth 100000 in
theorem d141_174 : decode (xmb 141) 174 = .ok (.aload_n 0, 1) := by decide +kernel
set_option maxRecDepth 100000 in
theorem d141_175 : decode (xmb 141) 175 = .ok (.bipush 48, 2) := by decide +kernel
set_option maxRecDepth 100000 in
theorem d141_177 : decode (xmb 141) 177 = .ok (.iload 4, 2) := by decide +kernel
set_option maxRecDepth 100000 in
theorem d141_179 : decode (xmb 141) 179 = .ok (.iconst 4, 1) := by decide +kernel
set_option maxRecDepth 100000 in
theorem d141_180 : decode (xmb 141) 180 = .ok (.irem, 1) := by decide +kernel
set_option maxRecDepth 100000 in
theorem d141_181 : decode (xmb 141) 181 = .ok (.iadd, 1) := by decide +kernel
set_option maxRecDepth 100000 in
theorem d141_182 : decode (xmb 141) 182 = .ok (.invokestatic 183, 3) := by decide +kernel
set_option maxRecDepth 100000 in
theorem d141_185 : decode (xmb 141) 185 = .ok (.lconst 0, 1) := by decide +kernel
set_option maxRecDepth 100000 in
theorem d141_186 : decode (xmb 141) 186 = .ok (.lcmp, 1) := by decide +kernel
set_option maxRecDepth 100000 in
theorem d141_187 : decode (xmb 141) 187 = .ok (.ifCond .le 26, 3) := by decide +kernel
set_option maxRecDepth 100000 in
theorem d141_190 : decode (xmb 141) 190 = .ok (.aload_n 0, 1) := by decide +kernel
set_option maxRecDepth 100000 in
theorem d141_191 : decode (xmb 141) 191 = .ok (.bipush 48, 2) := by decide +kernel
set_option maxRecDepth 100000 in
theorem d141_193 : decode (xmb 141) 193 = .ok (.iload 4, 2) := by decide +kernel
set_option maxRecDepth 100000 in
theorem d141_195 : decode (xmb 141) 195 = .ok (.bipush 7, 2) := by decide +kernel
set_option maxRecDepth 100000 in
theorem d141_197 : decode (xmb 141) 197 = .ok (.idiv, 1) := by decide +kernel
set_option maxRecDepth 100000 in
theorem d141_198 : decode (xmb 141) 198 = .ok (.iconst 4, 1) := by decide +kernel
set_option maxRecDepth 100000 in
theorem d141_199 : decode (xmb 141) 199 = .ok (.irem, 1) := by decide +kernel
set_option maxRecDepth 100000 in
theorem d141_200 : decode (xmb 141) 200 = .ok (.iadd, 1) := by decide +kernel
set_option maxRecDepth 100000 in
theorem d141_201 : decode (xmb 141) 201 = .ok (.invokestatic 183, 3) := by decide +kernel
set_option maxRecDepth 100000 in
theorem d141_204 : decode (xmb 141) 204 = .ok (.lconst 0, 1) := by decide +kernel
set_option maxRecDepth 100000 in
theorem d141_205 : decode (xmb 141) 205 = .ok (.lcmp, 1) := by decide +kernel
set_option maxRecDepth 100000 in
theorem d141_206 : decode (xmb 141) 206 = .ok (.ifCond .le 7, 3) := by decide +kernel
set_option maxRecDepth 100000 in
theorem d141_209 : decode (xmb 141) 209 = .ok (.iconst 1, 1) := by decide +kernel
set_option maxRecDepth 100000 in
theorem d141_210 : decode (xmb 141) 210 = .ok (.goto 4, 3) := by decide +kernel
set_option maxRecDepth 100000 in
theorem d141_213 : decode (xmb 141) 213 = .ok (.iconst 0, 1) := by decide +kernel
set_option maxRecDepth 100000 in
theorem d141_214 : decode (xmb 141) 214 = .ok (.istore_n 2, 1) := by decide +kernel
set_option maxRecDepth 100000 in
theorem d141_215 : decode (xmb 141) 215 = .ok (.iinc 3 1, 3) := by decide +kernel
set_option maxRecDepth 100000 in
theorem d141_218 : decode (xmb 141) 218 = .ok (.goto (-192), 3) := by decide +kernel
set_option maxRecDepth 100000 in
theorem d141_221 : decode (xmb 141) 221 = .ok (.iload_n 2, 1) := by decide +kernel
set_option maxRecDepth 100000 in
theorem d141_222 : decode (xmb 141) 222 = .ok (.ifCond .eq 50, 3) := by decide +kernel
set_option maxRecDepth 100000 in
theorem d141_225 : decode (xmb 141) 225 = .ok (.aload_n 0, 1) := by decide +kernel
set_option maxRecDepth 100000 in
theorem d141_226 : decode (xmb 141) 226 = .ok (.bipush 118, 2) := by decide +kernel
set_option maxRecDepth 100000 in
theorem d141_228 : decode (xmb 141) 228 = .ok (.bipush 49, 2) := by decide +kernel
set_option maxRecDepth 100000 in
theorem d141_230 : decode (xmb 141) 230 = .ok (.bipush 48, 2) := by decide +kernel
set_option maxRecDepth 100000 in
theorem d141_232 : decode (xmb 141) 232 = .ok (.iload_n 1, 1) := by decide +kernel
set_option maxRecDepth 100000 in
theorem d141_233 : decode (xmb 141) 233 = .ok (.bipush 10, 2) := by decide +kernel
set_option maxRecDepth 100000 in
theorem d141_235 : decode (xmb 141) 235 = .ok (.irem, 1) := by decide +kernel
set_option maxRecDepth 100000 in
theorem d141_236 : decode (xmb 141) 236 = .ok (.iadd, 1) := by decide +kernel
set_option maxRecDepth 100000 in
theorem d141_237 : decode (xmb 141) 237 = .ok (.bipush 114, 2) := by decide +kernel
set_option maxRecDepth 100000 in
theorem d141_239 : decode (xmb 141) 239 = .ok (.invokestatic 220, 3) := by decide +kernel
set_option maxRecDepth 100000 in
theorem d141_242 : decode (xmb 141) 242 = .ok (.ifCond .eq 30, 3) := by decide +kernel
set_option maxRecDepth 100000 in
theorem d141_245 : decode (xmb 141) 245 = .ok (.aload_n 0, 1) := by decide +kernel
set_option maxRecDepth 100000 in
theorem d141_246 : decode (xmb 141) 246 = .ok (.bipush 48, 2) := by decide +kernel
set_option maxRecDepth 100000 in
theorem d141_248 : decode (xmb 141) 248 = .ok (.iload_n 1, 1) := by decide +kernel
set_option maxRecDepth 100000 in
theorem d141_249 : decode (xmb 141) 249 = .ok (.iconst 4, 1) := by decide +kernel
set_option maxRecDepth 100000 in
theorem d141_250 : decode (xmb 141) 250 = .ok (.irem, 1) := by decide +kernel
set_option maxRecDepth 100000 in
theorem d141_251 : decode (xmb 141) 251 = .ok (.iadd, 1) := by decide +kernel
set_option maxRecDepth 100000 in
theorem d141_252 : decode (xmb 141) 252 = .ok (.invokestatic 183, 3) := by decide +kernel
set_option maxRecDepth 100000 in
theorem d141_255 : decode (xmb 141) 255 = .ok (.lconst 0, 1) := by decide +kernel
set_option maxRecDepth 100000 in
theorem d141_256 : decode (xmb 141) 256 = .ok (.lcmp, 1) := by decide +kernel
set_option maxRecDepth 100000 in
theorem d141_257 : decode (xmb 141) 257 = .ok (.ifCond .le 15, 3) := by decide +kernel
set_option maxRecDepth 100000 in
theorem d141_260 : decode (xmb 141) 260 = .ok (.aload_n 0, 1) := by decide +kernel
set_option maxRecDepth 100000 in
theorem d141_261 : decode (xmb 141) 261 = .ok (.invokevirtual 212, 3) := by decide +kernel
set_option maxRecDepth 100000 in
theorem d141_264 : decode (xmb 141) 264 = .ok (.iconst (-1), 1) := by decide +kernel
set_option maxRecDepth 100000 in
theorem d141_265 : decode (xmb 141) 265 = .ok (.if_icmp .ne 7, 3) := by decide +kernel
set_option maxRecDepth 100000 in
theorem d141_268 : decode (xmb 141) 268 = .ok (.iconst 1, 1) := by decide +kernel
set_option maxRecDepth 100000 in
theorem d141_269 : decode (xmb 141) 269 = .ok (.goto 4, 3) := by decide +kernel
set_option maxRecDepth 100000 in
theorem d141_272 : decode (xmb 141) 272 = .ok (.iconst 0, 1) := by decide +kernel
set_option maxRecDepth 100000 in
theorem d141_273 : decode (xmb 141) 273 = .ok (.ireturn, 1) := by decide +kernel
set_option maxRecDepth 100000 in
theorem d143_0 : decode (xmb 143) 0 = .ok (.new 10, 3) := by decide +kernel
set_option maxRecDepth 100000 in
theorem d143_3 : decode (xmb 143) 3 = .ok (.dup, 1) := by decide +kernel
set_option maxRecDepth 100000 in
theorem d143_4 : decode (xmb 143) 4 = .ok (.invokespecial 224, 3) := by decide +kernel
set_option maxRecDepth 100000 in
theorem d143_7 : decode (xmb 143) 7 = .ok (.astore_n 1, 1) := by decide +kernel
set_option maxRecDepth 100000 in
theorem d143_8 : decode (xmb 143) 8 = .ok (.new 10, 3) := by decide +kernel
set_option maxRecDepth 100000 in
theorem d143_11 : decode (xmb 143) 11 = .ok (.dup, 1) := by decide +kernel
set_option maxRecDepth 100000 in
theorem d143_12 : decode (xmb 143) 12 = .ok (.invokespecial 224, 3) := by decide +kernel
set_option maxRecDepth 100000 in
theorem d143_15 : decode (xmb 143) 15 = .ok (.astore_n 2, 1) := by decide +kernel
set_option maxRecDepth 100000 in
theorem d143_16 : decode (xmb 143) 16 = .ok (.aload_n 1, 1) := by decide +kernel
set_option maxRecDepth 100000 in
theorem d143_17 : decode (xmb 143) 17 = .ok (.aload_n 2, 1) := by decide +kernel
set_option maxRecDepth 100000 in
theorem d143_18 : decode (xmb 143) 18 = .ok (.aload_n 0, 1) := by decide +kernel
set_option maxRecDepth 100000 in
theorem d143_19 : decode (xmb 143) 19 = .ok (.iconst 0, 1) := by decide +kernel
set_option maxRecDepth 100000 in
theorem d143_20 : decode (xmb 143) 20 = .ok (.invokestatic 225, 3) := by decide +kernel
set_option maxRecDepth 100000 in
theorem d143_23 : decode (xmb 143) 23 = .ok (.invokestatic 229, 3) := by decide +kernel
set_option maxRecDepth 100000 in
theorem d143_26 : decode (xmb 143) 26 = .ok (.ifCond .eq 21, 3) := by decide +kernel
set_option maxRecDepth 100000 in
theorem d143_29 : decode (xmb 143) 29 = .ok (.aload_n 1, 1) := by decide +kernel
set_option maxRecDepth 100000 in
theorem d143_30 : decode (xmb 143) 30 = .ok (.invokestatic 233, 3) := by decide +kernel
set_option maxRecDepth 100000 in
theorem d143_33 : decode (xmb 143) 33 = .ok (.ifCond .eq 14, 3) := by decide +kernel
set_option maxRecDepth 100000 in
theorem d143_36 : decode (xmb 143) 36 = .ok (.aload_n 1, 1) := by decide +kernel
set_option maxRecDepth 100000 in
theorem d143_37 : decode (xmb 143) 37 = .ok (.invokestatic 237, 3) := by decide +kernel
set_option maxRecDepth 100000 in
theorem d143_40 : decode (xmb 143) 40 = .ok (.ifCond .eq 7, 3) := by decide +kernel
set_option maxRecDepth 100000 in
theorem d143_43 : decode (xmb 143) 43 = .ok (.iconst 1, 1) := by decide +kernel
set_option maxRecDepth 100000 in
theorem d143_44 : decode (xmb 143) 44 = .ok (.goto 4, 3) := by decide +kernel
set_option maxRecDepth 100000 in
theorem d143_47 : decode (xmb 143) 47 = .ok (.iconst 0, 1) := by decide +kernel
set_option maxRecDepth 100000 in
theorem d143_48 : decode (xmb 143) 48 = .ok (.istore_n 3, 1) := by decide +kernel
set_option maxRecDepth 100000 in
theorem d143_49 : decode (xmb 143) 49 = .ok (.iconst 0, 1) := by decide +kernel
set_option maxRecDepth 100000 in
theorem d143_50 : decode (xmb 143) 50 = .ok (.istore 4, 2) := by decide +kernel
set_option maxRecDepth 100000 in
theorem d143_52 : decode (xmb 143) 52 = .ok (.iload 4, 2) := by decide +kernel
set_option maxRecDepth 100000 in
theorem d143_54 : decode (xmb 143) 54 = .ok (.bipush 40, 2) := by decide +kernel
set_option maxRecDepth 100000 in
theorem d143_56 : decode (xmb 143) 56 = .ok (.if_icmp .ge 215, 3) := by decide +kernel
set_option maxRecDepth 100000 in
theorem d143_59 : decode (xmb 143) 59 = .ok (.iload_n 3, 1) := by decide +kernel
set_option maxRecDepth 100000 in
theorem d143_60 : decode (xmb 143) 60 = .ok (.ifCond .eq 211, 3) := by decide +kernel
set_option maxRecDepth 100000 in
theorem d143_63 : decode (xmb 143) 63 = .ok (.aload_n 0, 1) := by decide +kernel
set_option maxRecDepth 100000 in
theorem d143_64 : decode (xmb 143) 64 = .ok (.iconst 2, 1) := by decide +kernel
set_option maxRecDepth 100000 in
theorem d143_65 : decode (xmb 143) 65 = .ok (.iload 4, 2) := by decide +kernel
set_option maxRecDepth 100000 in
theorem d143_67 : decode (xmb 143) 67 = .ok (.imul, 1) := by decide +kernel
set_option maxRecDepth 100000 in
theorem d143_68 : decode (xmb 143) 68 = .ok (.invokestatic 225, 3) := by decide +kernel
set_option maxRecDepth 100000 in
theorem d143_71 : decode (xmb 143) 71 = .ok (.istore 5, 2) := by decide +kernel
set_option maxRecDepth 100000 in
theorem d143_73 : decode (xmb 143) 73 = .ok (.aload_n 0, 1) := by decide +kernel
set_option maxRecDepth 100000 in
theorem d143_74 : decode (xmb 143) 74 = .ok (.iconst 2, 1) := by decide +kernel
set_option maxRecDepth 100000 in
theorem d143_75 : decode (xmb 143) 75 = .ok (.iload 4, 2) := by decide +kernel
set_option maxRecDepth 100000 in
theorem d143_77 : decode (xmb 143) 77 = .ok (.imul, 1) := by decide +kernel
set_option maxRecDepth 100000 in
theorem d143_78 : decode (xmb 143) 78 = .ok (.iconst 1, 1) := by decide +kernel
set_option maxRecDepth 100000 in
theorem d143_79 : decode (xmb 143) 79 = .ok (.iadd, 1) := by decide +kernel
set_option maxRecDepth 100000 in
theorem d143_80 : decode (xmb 143) 80 = .ok (.invokestatic 225, 3) := by decide +kernel
set_option maxRecDepth 100000 in
theorem d143_83 : decode (xmb 143) 83 = .ok (.istore 6, 2) := by decide +kernel
set_option maxRecDepth 100000 in
theorem d143_85 : decode (xmb 143) 85 = .ok (.iload 4, 2) := by decide +kernel
set_option maxRecDepth 100000 in
theorem d143_87 : decode (xmb 143) 87 = .ok (.ifCond .ne 42, 3) := by decide +kernel
set_option maxRecDepth 100000 in
theorem d143_90 : decode (xmb 143) 90 = .ok (.aload_n 1, 1) := by decide +kernel
set_option maxRecDepth 100000 in
theorem d143_91 : decode (xmb 143) 91 = .ok (.iload 5, 2) := by decide +kernel
set_option maxRecDepth 100000 in
theorem d143_93 : decode (xmb 143) 93 = .ok (.invokestatic 240, 3) := by decide +kernel
set_option maxRecDepth 100000 in
theorem d143_96 : decode (xmb 143) 96 = .ok (.ifCond .eq 28, 3) := by decide +kernel
set_option maxRecDepth 100000 in
theorem d143_99 : decode (xmb 143) 99 = .ok (.aload_n 2, 1) := by decide +kernel
set_option maxRecDepth 100000 in
theorem d143_100 : decode (xmb 143) 100 = .ok (.iload 5, 2) := by decide +kernel
set_option maxRecDepth 100000 in
theorem d143_102 : decode (xmb 143) 102 = .ok (.invokestatic 240, 3) := by decide +kernel
set_option maxRecDepth 100000 in
theorem d143_105 : decode (xmb 143) 105 = .ok (.ifCond .eq 19, 3) := by decide +kernel
set_option maxRecDepth 100000 in
theorem d143_108 : decode (xmb 143) 108 = .ok (.aload_n 1, 1) := by decide +kernel
