set_option maxRecDepth 100000 in
theorem d143_109 : decode (xmb 143) 109 = .ok (.invokestatic 244, 3) := by decide +kernel
set_option maxRecDepth 100000 in
theorem d143_112 : decode (xmb 143) 112 = .ok (.aload_n 2, 1) := by decide +kernel
set_option maxRecDepth 100000 in
theorem d143_113 : decode (xmb 143) 113 = .ok (.invokestatic 244, 3) := by decide +kernel
set_option maxRecDepth 100000 in
theorem d143_116 : decode (xmb 143) 116 = .ok (.lcmp, 1) := by decide +kernel
set_option maxRecDepth 100000 in
theorem d143_117 : decode (xmb 143) 117 = .ok (.ifCond .ne 7, 3) := by decide +kernel
set_option maxRecDepth 100000 in
theorem d143_120 : decode (xmb 143) 120 = .ok (.iconst 1, 1) := by decide +kernel
set_option maxRecDepth 100000 in
theorem d143_121 : decode (xmb 143) 121 = .ok (.goto 4, 3) := by decide +kernel
set_option maxRecDepth 100000 in
theorem d143_124 : decode (xmb 143) 124 = .ok (.iconst 0, 1) := by decide +kernel
set_option maxRecDepth 100000 in
theorem d143_125 : decode (xmb 143) 125 = .ok (.istore_n 3, 1) := by decide +kernel
set_option maxRecDepth 100000 in
theorem d143_126 : decode (xmb 143) 126 = .ok (.goto 139, 3) := by decide +kernel
set_option maxRecDepth 100000 in
theorem d143_129 : decode (xmb 143) 129 = .ok (.aload_n 1, 1) := by decide +kernel
set_option maxRecDepth 100000 in
theorem d143_130 : decode (xmb 143) 130 = .ok (.iload 5, 2) := by decide +kernel
set_option maxRecDepth 100000 in
theorem d143_132 : decode (xmb 143) 132 = .ok (.iload 6, 2) := by decide +kernel
set_option maxRecDepth 100000 in
theorem d143_134 : decode (xmb 143) 134 = .ok (.invokestatic 246, 3) := by decide +kernel
set_option maxRecDepth 100000 in
theorem d143_137 : decode (xmb 143) 137 = .ok (.aload_n 2, 1) := by decide +kernel
set_option maxRecDepth 100000 in
theorem d143_138 : decode (xmb 143) 138 = .ok (.iload 5, 2) := by decide +kernel
set_option maxRecDepth 100000 in
theorem d143_140 : decode (xmb 143) 140 = .ok (.iload 6, 2) := by decide +kernel
set_option maxRecDepth 100000 in
theorem d143_142 : decode (xmb 143) 142 = .ok (.invokestatic 246, 3) := by decide +kernel
set_option maxRecDepth 100000 in
theorem d143_145 : decode (xmb 143) 145 = .ok (.lcmp, 1) := by decide +kernel
set_option maxRecDepth 100000 in
theorem d143_146 : decode (xmb 143) 146 = .ok (.ifCond .ne 7, 3) := by decide +kernel
set_option maxRecDepth 100000 in
theorem d143_149 : decode (xmb 143) 149 = .ok (.iconst 1, 1) := by decide +kernel
set_option maxRecDepth 100000 in
theorem d143_150 : decode (xmb 143) 150 = .ok (.goto 4, 3) := by decide +kernel
set_option maxRecDepth 100000 in
theorem d143_153 : decode (xmb 143) 153 = .ok (.iconst 0, 1) := by decide +kernel
set_option maxRecDepth 100000 in
theorem d143_154 : decode (xmb 143) 154 = .ok (.istore_n 3, 1) := by decide +kernel
set_option maxRecDepth 100000 in
theorem d143_155 : decode (xmb 143) 155 = .ok (.iload 4, 2) := by decide +kernel
set_option maxRecDepth 100000 in
theorem d143_157 : decode (xmb 143) 157 = .ok (.bipush 8, 2) := by decide +kernel
set_option maxRecDepth 100000 in
theorem d143_159 : decode (xmb 143) 159 = .ok (.irem, 1) := by decide +kernel
set_option maxRecDepth 100000 in
theorem d143_160 : decode (xmb 143) 160 = .ok (.iconst 3, 1) := by decide +kernel
set_option maxRecDepth 100000 in
theorem d143_161 : decode (xmb 143) 161 = .ok (.if_icmp .ne 27, 3) := by decide +kernel
set_option maxRecDepth 100000 in
theorem d143_164 : decode (xmb 143) 164 = .ok (.iload_n 3, 1) := by decide +kernel
set_option maxRecDepth 100000 in
theorem d143_165 : decode (xmb 143) 165 = .ok (.ifCond .eq 21, 3) := by decide +kernel
set_option maxRecDepth 100000 in
theorem d143_168 : decode (xmb 143) 168 = .ok (.aload_n 2, 1) := by decide +kernel
set_option maxRecDepth 100000 in
theorem d143_169 : decode (xmb 143) 169 = .ok (.invokestatic 233, 3) := by decide +kernel
set_option maxRecDepth 100000 in
theorem d143_172 : decode (xmb 143) 172 = .ok (.ifCond .eq 14, 3) := by decide +kernel
set_option maxRecDepth 100000 in
theorem d143_175 : decode (xmb 143) 175 = .ok (.aload_n 2, 1) := by decide +kernel
set_option maxRecDepth 100000 in
theorem d143_176 : decode (xmb 143) 176 = .ok (.invokestatic 237, 3) := by decide +kernel
set_option maxRecDepth 100000 in
theorem d143_179 : decode (xmb 143) 179 = .ok (.ifCond .eq 7, 3) := by decide +kernel
set_option maxRecDepth 100000 in
theorem d143_182 : decode (xmb 143) 182 = .ok (.iconst 1, 1) := by decide +kernel
set_option maxRecDepth 100000 in
theorem d143_183 : decode (xmb 143) 183 = .ok (.goto 4, 3) := by decide +kernel
set_option maxRecDepth 100000 in
theorem d143_186 : decode (xmb 143) 186 = .ok (.iconst 0, 1) := by decide +kernel
set_option maxRecDepth 100000 in
theorem d143_187 : decode (xmb 143) 187 = .ok (.istore_n 3, 1) := by decide +kernel
set_option maxRecDepth 100000 in
theorem d143_188 : decode (xmb 143) 188 = .ok (.iload 4, 2) := by decide +kernel
set_option maxRecDepth 100000 in
theorem d143_190 : decode (xmb 143) 190 = .ok (.bipush 14, 2) := by decide +kernel
set_option maxRecDepth 100000 in
theorem d143_192 : decode (xmb 143) 192 = .ok (.irem, 1) := by decide +kernel
set_option maxRecDepth 100000 in
theorem d143_193 : decode (xmb 143) 193 = .ok (.bipush 13, 2) := by decide +kernel
set_option maxRecDepth 100000 in
theorem d143_195 : decode (xmb 143) 195 = .ok (.if_icmp .ne 42, 3) := by decide +kernel
set_option maxRecDepth 100000 in
theorem d143_198 : decode (xmb 143) 198 = .ok (.iload_n 3, 1) := by decide +kernel
set_option maxRecDepth 100000 in
theorem d143_199 : decode (xmb 143) 199 = .ok (.ifCond .eq 36, 3) := by decide +kernel
set_option maxRecDepth 100000 in
theorem d143_202 : decode (xmb 143) 202 = .ok (.aload_n 2, 1) := by decide +kernel
set_option maxRecDepth 100000 in
theorem d143_203 : decode (xmb 143) 203 = .ok (.iload 6, 2) := by decide +kernel
set_option maxRecDepth 100000 in
theorem d143_205 : decode (xmb 143) 205 = .ok (.invokestatic 249, 3) := by decide +kernel
set_option maxRecDepth 100000 in
theorem d143_208 : decode (xmb 143) 208 = .ok (.ifCond .eq 27, 3) := by decide +kernel
set_option maxRecDepth 100000 in
theorem d143_211 : decode (xmb 143) 211 = .ok (.aload_n 1, 1) := by decide +kernel
set_option maxRecDepth 100000 in
theorem d143_212 : decode (xmb 143) 212 = .ok (.iconst 1, 1) := by decide +kernel
set_option maxRecDepth 100000 in
theorem d143_213 : decode (xmb 143) 213 = .ok (.invokestatic 179, 3) := by decide +kernel
set_option maxRecDepth 100000 in
theorem d143_216 : decode (xmb 143) 216 = .ok (.lconst 0, 1) := by decide +kernel
set_option maxRecDepth 100000 in
theorem d143_217 : decode (xmb 143) 217 = .ok (.lcmp, 1) := by decide +kernel
set_option maxRecDepth 100000 in
theorem d143_218 : decode (xmb 143) 218 = .ok (.ifCond .lt 17, 3) := by decide +kernel
set_option maxRecDepth 100000 in
theorem d143_221 : decode (xmb 143) 221 = .ok (.aload_n 1, 1) := by decide +kernel
set_option maxRecDepth 100000 in
theorem d143_222 : decode (xmb 143) 222 = .ok (.iconst 1, 1) := by decide +kernel
set_option maxRecDepth 100000 in
theorem d143_223 : decode (xmb 143) 223 = .ok (.invokestatic 181, 3) := by decide +kernel
set_option maxRecDepth 100000 in
theorem d143_226 : decode (xmb 143) 226 = .ok (.lconst 0, 1) := by decide +kernel
set_option maxRecDepth 100000 in
theorem d143_227 : decode (xmb 143) 227 = .ok (.lcmp, 1) := by decide +kernel
set_option maxRecDepth 100000 in
theorem d143_228 : decode (xmb 143) 228 = .ok (.ifCond .lt 7, 3) := by decide +kernel
set_option maxRecDepth 100000 in
theorem d143_231 : decode (xmb 143) 231 = .ok (.iconst 1, 1) := by decide +kernel
set_option maxRecDepth 100000 in
theorem d143_232 : decode (xmb 143) 232 = .ok (.goto 4, 3) := by decide +kernel
set_option maxRecDepth 100000 in
theorem d143_235 : decode (xmb 143) 235 = .ok (.iconst 0, 1) := by decide +kernel
set_option maxRecDepth 100000 in
theorem d143_236 : decode (xmb 143) 236 = .ok (.istore_n 3, 1) := by decide +kernel
set_option maxRecDepth 100000 in
theorem d143_237 : decode (xmb 143) 237 = .ok (.iload_n 3, 1) := by decide +kernel
set_option maxRecDepth 100000 in
theorem d143_238 : decode (xmb 143) 238 = .ok (.ifCond .eq 25, 3) := by decide +kernel
set_option maxRecDepth 100000 in
theorem d143_241 : decode (xmb 143) 241 = .ok (.iload 4, 2) := by decide +kernel
set_option maxRecDepth 100000 in
theorem d143_243 : decode (xmb 143) 243 = .ok (.bipush 10, 2) := by decide +kernel
set_option maxRecDepth 100000 in
theorem d143_245 : decode (xmb 143) 245 = .ok (.irem, 1) := by decide +kernel
set_option maxRecDepth 100000 in
theorem d143_246 : decode (xmb 143) 246 = .ok (.ifCond .gt 13, 3) := by decide +kernel
set_option maxRecDepth 100000 in
theorem d143_249 : decode (xmb 143) 249 = .ok (.aload_n 1, 1) := by decide +kernel
set_option maxRecDepth 100000 in
theorem d143_250 : decode (xmb 143) 250 = .ok (.aload_n 2, 1) := by decide +kernel
set_option maxRecDepth 100000 in
theorem d143_251 : decode (xmb 143) 251 = .ok (.iload 6, 2) := by decide +kernel
set_option maxRecDepth 100000 in
theorem d143_253 : decode (xmb 143) 253 = .ok (.invokestatic 229, 3) := by decide +kernel
set_option maxRecDepth 100000 in
theorem d143_256 : decode (xmb 143) 256 = .ok (.ifCond .eq 7, 3) := by decide +kernel
set_option maxRecDepth 100000 in
theorem d143_259 : decode (xmb 143) 259 = .ok (.iconst 1, 1) := by decide +kernel
set_option maxRecDepth 100000 in
theorem d143_260 : decode (xmb 143) 260 = .ok (.goto 4, 3) := by decide +kernel
set_option maxRecDepth 100000 in
theorem d143_263 : decode (xmb 143) 263 = .ok (.iconst 0, 1) := by decide +kernel
set_option maxRecDepth 100000 in
theorem d143_264 : decode (xmb 143) 264 = .ok (.istore_n 3, 1) := by decide +kernel
set_option maxRecDepth 100000 in
theorem d143_265 : decode (xmb 143) 265 = .ok (.iinc 4 1, 3) := by decide +kernel
set_option maxRecDepth 100000 in
theorem d143_268 : decode (xmb 143) 268 = .ok (.goto (-216), 3) := by decide +kernel
set_option maxRecDepth 100000 in
theorem d143_271 : decode (xmb 143) 271 = .ok (.iload_n 3, 1) := by decide +kernel
set_option maxRecDepth 100000 in
theorem d143_272 : decode (xmb 143) 272 = .ok (.ifCond .eq 18, 3) := by decide +kernel
set_option maxRecDepth 100000 in
theorem d143_275 : decode (xmb 143) 275 = .ok (.aload_n 1, 1) := by decide +kernel
set_option maxRecDepth 100000 in
theorem d143_276 : decode (xmb 143) 276 = .ok (.aload_n 2, 1) := by decide +kernel
set_option maxRecDepth 100000 in
theorem d143_277 : decode (xmb 143) 277 = .ok (.sipush 10799, 3) := by decide +kernel
set_option maxRecDepth 100000 in
theorem d143_280 : decode (xmb 143) 280 = .ok (.invokestatic 229, 3) := by decide +kernel
set_option maxRecDepth 100000 in
theorem d143_283 : decode (xmb 143) 283 = .ok (.ifCond .eq 7, 3) := by decide +kernel
set_option maxRecDepth 100000 in
theorem d143_286 : decode (xmb 143) 286 = .ok (.iconst 1, 1) := by decide +kernel
set_option maxRecDepth 100000 in
theorem d143_287 : decode (xmb 143) 287 = .ok (.goto 4, 3) := by decide +kernel
set_option maxRecDepth 100000 in
theorem d143_290 : decode (xmb 143) 290 = .ok (.iconst 0, 1) := by decide +kernel
set_option maxRecDepth 100000 in
theorem d143_291 : decode (xmb 143) 291 = .ok (.ireturn, 1) := by decide +kernel
