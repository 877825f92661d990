set_option maxRecDepth 100000 in
theorem d136_42 : decode (xmb 136) 42 = .ok (.ifCond .ne 354, 3) := by decide +kernel
set_option maxRecDepth 100000 in
theorem d136_45 : decode (xmb 136) 45 = .ok (.aload_n 0, 1) := by decide +kernel
set_option maxRecDepth 100000 in
theorem d136_46 : decode (xmb 136) 46 = .ok (.iload_n 3, 1) := by decide +kernel
set_option maxRecDepth 100000 in
theorem d136_47 : decode (xmb 136) 47 = .ok (.bipush 7, 2) := by decide +kernel
set_option maxRecDepth 100000 in
theorem d136_49 : decode (xmb 136) 49 = .ok (.invokestatic 128, 3) := by decide +kernel
set_option maxRecDepth 100000 in
theorem d136_52 : decode (xmb 136) 52 = .ok (.ldc2_w 36, 3) := by decide +kernel
set_option maxRecDepth 100000 in
theorem d136_55 : decode (xmb 136) 55 = .ok (.lcmp, 1) := by decide +kernel
set_option maxRecDepth 100000 in
theorem d136_56 : decode (xmb 136) 56 = .ok (.ifCond .ne 340, 3) := by decide +kernel
set_option maxRecDepth 100000 in
theorem d136_59 : decode (xmb 136) 59 = .ok (.aload_n 0, 1) := by decide +kernel
set_option maxRecDepth 100000 in
theorem d136_60 : decode (xmb 136) 60 = .ok (.iload_n 3, 1) := by decide +kernel
set_option maxRecDepth 100000 in
theorem d136_61 : decode (xmb 136) 61 = .ok (.iconst 4, 1) := by decide +kernel
set_option maxRecDepth 100000 in
theorem d136_62 : decode (xmb 136) 62 = .ok (.invokestatic 137, 3) := by decide +kernel
set_option maxRecDepth 100000 in
theorem d136_65 : decode (xmb 136) 65 = .ok (.ldc2_w 36, 3) := by decide +kernel
set_option maxRecDepth 100000 in
theorem d136_68 : decode (xmb 136) 68 = .ok (.lcmp, 1) := by decide +kernel
set_option maxRecDepth 100000 in
theorem d136_69 : decode (xmb 136) 69 = .ok (.ifCond .ne 327, 3) := by decide +kernel
set_option maxRecDepth 100000 in
theorem d136_72 : decode (xmb 136) 72 = .ok (.iload_n 3, 1) := by decide +kernel
set_option maxRecDepth 100000 in
theorem d136_73 : decode (xmb 136) 73 = .ok (.ifCond .eq 43, 3) := by decide +kernel
set_option maxRecDepth 100000 in
theorem d136_76 : decode (xmb 136) 76 = .ok (.aload_n 0, 1) := by decide +kernel
set_option maxRecDepth 100000 in
theorem d136_77 : decode (xmb 136) 77 = .ok (.iconst 0, 1) := by decide +kernel
set_option maxRecDepth 100000 in
theorem d136_78 : decode (xmb 136) 78 = .ok (.bipush 7, 2) := by decide +kernel
set_option maxRecDepth 100000 in
theorem d136_80 : decode (xmb 136) 80 = .ok (.invokestatic 128, 3) := by decide +kernel
set_option maxRecDepth 100000 in
theorem d136_83 : decode (xmb 136) 83 = .ok (.ldc2_w 17, 3) := by decide +kernel
set_option maxRecDepth 100000 in
theorem d136_86 : decode (xmb 136) 86 = .ok (.lcmp, 1) := by decide +kernel
set_option maxRecDepth 100000 in
theorem d136_87 : decode (xmb 136) 87 = .ok (.ifCond .ne 309, 3) := by decide +kernel
set_option maxRecDepth 100000 in
theorem d136_90 : decode (xmb 136) 90 = .ok (.aload_n 0, 1) := by decide +kernel
set_option maxRecDepth 100000 in
theorem d136_91 : decode (xmb 136) 91 = .ok (.iconst 0, 1) := by decide +kernel
set_option maxRecDepth 100000 in
theorem d136_92 : decode (xmb 136) 92 = .ok (.iconst 4, 1) := by decide +kernel
set_option maxRecDepth 100000 in
theorem d136_93 : decode (xmb 136) 93 = .ok (.invokestatic 137, 3) := by decide +kernel
set_option maxRecDepth 100000 in
theorem d136_96 : decode (xmb 136) 96 = .ok (.ldc2_w 17, 3) := by decide +kernel
set_option maxRecDepth 100000 in
theorem d136_99 : decode (xmb 136) 99 = .ok (.lcmp, 1) := by decide +kernel
set_option maxRecDepth 100000 in
theorem d136_100 : decode (xmb 136) 100 = .ok (.ifCond .ne 296, 3) := by decide +kernel
set_option maxRecDepth 100000 in
theorem d136_103 : decode (xmb 136) 103 = .ok (.aload_n 0, 1) := by decide +kernel
set_option maxRecDepth 100000 in
theorem d136_104 : decode (xmb 136) 104 = .ok (.iconst 0, 1) := by decide +kernel
set_option maxRecDepth 100000 in
theorem d136_105 : decode (xmb 136) 105 = .ok (.iconst 0, 1) := by decide +kernel
set_option maxRecDepth 100000 in
theorem d136_106 : decode (xmb 136) 106 = .ok (.invokestatic 139, 3) := by decide +kernel
set_option maxRecDepth 100000 in
theorem d136_109 : decode (xmb 136) 109 = .ok (.ldc2_w 17, 3) := by decide +kernel
set_option maxRecDepth 100000 in
theorem d136_112 : decode (xmb 136) 112 = .ok (.lcmp, 1) := by decide +kernel
set_option maxRecDepth 100000 in
theorem d136_113 : decode (xmb 136) 113 = .ok (.ifCond .ne 283, 3) := by decide +kernel
set_option maxRecDepth 100000 in
theorem d136_116 : decode (xmb 136) 116 = .ok (.aload_n 0, 1) := by decide +kernel
set_option maxRecDepth 100000 in
theorem d136_117 : decode (xmb 136) 117 = .ok (.iload 4, 2) := by decide +kernel
set_option maxRecDepth 100000 in
theorem d136_119 : decode (xmb 136) 119 = .ok (.bipush 10, 2) := by decide +kernel
set_option maxRecDepth 100000 in
theorem d136_121 : decode (xmb 136) 121 = .ok (.invokestatic 131, 3) := by decide +kernel
set_option maxRecDepth 100000 in
theorem d136_124 : decode (xmb 136) 124 = .ok (.ldc2_w 36, 3) := by decide +kernel
set_option maxRecDepth 100000 in
theorem d136_127 : decode (xmb 136) 127 = .ok (.lcmp, 1) := by decide +kernel
set_option maxRecDepth 100000 in
theorem d136_128 : decode (xmb 136) 128 = .ok (.ifCond .ne 268, 3) := by decide +kernel
set_option maxRecDepth 100000 in
theorem d136_131 : decode (xmb 136) 131 = .ok (.iload 4, 2) := by decide +kernel
set_option maxRecDepth 100000 in
theorem d136_133 : decode (xmb 136) 133 = .ok (.ifCond .eq 74, 3) := by decide +kernel
set_option maxRecDepth 100000 in
theorem d136_136 : decode (xmb 136) 136 = .ok (.aload_n 0, 1) := by decide +kernel
set_option maxRecDepth 100000 in
theorem d136_137 : decode (xmb 136) 137 = .ok (.iconst 0, 1) := by decide +kernel
set_option maxRecDepth 100000 in
theorem d136_138 : decode (xmb 136) 138 = .ok (.bipush 10, 2) := by decide +kernel
set_option maxRecDepth 100000 in
theorem d136_140 : decode (xmb 136) 140 = .ok (.invokestatic 131, 3) := by decide +kernel
set_option maxRecDepth 100000 in
theorem d136_143 : decode (xmb 136) 143 = .ok (.ldc2_w 17, 3) := by decide +kernel
set_option maxRecDepth 100000 in
theorem d136_146 : decode (xmb 136) 146 = .ok (.lcmp, 1) := by decide +kernel
set_option maxRecDepth 100000 in
theorem d136_147 : decode (xmb 136) 147 = .ok (.ifCond .ne 249, 3) := by decide +kernel
set_option maxRecDepth 100000 in
theorem d136_150 : decode (xmb 136) 150 = .ok (.aload_n 0, 1) := by decide +kernel
set_option maxRecDepth 100000 in
theorem d136_151 : decode (xmb 136) 151 = .ok (.iconst 0, 1) := by decide +kernel
set_option maxRecDepth 100000 in
theorem d136_152 : decode (xmb 136) 152 = .ok (.bipush 91, 2) := by decide +kernel
set_option maxRecDepth 100000 in
theorem d136_154 : decode (xmb 136) 154 = .ok (.invokestatic 141, 3) := by decide +kernel
set_option maxRecDepth 100000 in
theorem d136_157 : decode (xmb 136) 157 = .ok (.ldc2_w 17, 3) := by decide +kernel
set_option maxRecDepth 100000 in
theorem d136_160 : decode (xmb 136) 160 = .ok (.lcmp, 1) := by decide +kernel
set_option maxRecDepth 100000 in
theorem d136_161 : decode (xmb 136) 161 = .ok (.ifCond .ne 235, 3) := by decide +kernel
set_option maxRecDepth 100000 in
theorem d136_164 : decode (xmb 136) 164 = .ok (.aload_n 0, 1) := by decide +kernel
set_option maxRecDepth 100000 in
theorem d136_165 : decode (xmb 136) 165 = .ok (.iconst 0, 1) := by decide +kernel
set_option maxRecDepth 100000 in
theorem d136_166 : decode (xmb 136) 166 = .ok (.iconst 0, 1) := by decide +kernel
set_option maxRecDepth 100000 in
theorem d136_167 : decode (xmb 136) 167 = .ok (.iconst 1, 1) := by decide +kernel
set_option maxRecDepth 100000 in
theorem d136_168 : decode (xmb 136) 168 = .ok (.invokestatic 143, 3) := by decide +kernel
set_option maxRecDepth 100000 in
theorem d136_171 : decode (xmb 136) 171 = .ok (.ldc2_w 21, 3) := by decide +kernel
set_option maxRecDepth 100000 in
theorem d136_174 : decode (xmb 136) 174 = .ok (.lcmp, 1) := by decide +kernel
set_option maxRecDepth 100000 in
theorem d136_175 : decode (xmb 136) 175 = .ok (.ifCond .ne 221, 3) := by decide +kernel
set_option maxRecDepth 100000 in
theorem d136_178 : decode (xmb 136) 178 = .ok (.aload_n 0, 1) := by decide +kernel
set_option maxRecDepth 100000 in
theorem d136_179 : decode (xmb 136) 179 = .ok (.iconst 0, 1) := by decide +kernel
set_option maxRecDepth 100000 in
theorem d136_180 : decode (xmb 136) 180 = .ok (.iload_n 3, 1) := by decide +kernel
set_option maxRecDepth 100000 in
theorem d136_181 : decode (xmb 136) 181 = .ok (.iconst 1, 1) := by decide +kernel
set_option maxRecDepth 100000 in
theorem d136_182 : decode (xmb 136) 182 = .ok (.invokestatic 146, 3) := by decide +kernel
set_option maxRecDepth 100000 in
theorem d136_185 : decode (xmb 136) 185 = .ok (.ldc2_w 36, 3) := by decide +kernel
set_option maxRecDepth 100000 in
theorem d136_188 : decode (xmb 136) 188 = .ok (.lcmp, 1) := by decide +kernel
set_option maxRecDepth 100000 in
theorem d136_189 : decode (xmb 136) 189 = .ok (.ifCond .ne 207, 3) := by decide +kernel
set_option maxRecDepth 100000 in
theorem d136_192 : decode (xmb 136) 192 = .ok (.aload_n 0, 1) := by decide +kernel
set_option maxRecDepth 100000 in
theorem d136_193 : decode (xmb 136) 193 = .ok (.iconst 0, 1) := by decide +kernel
set_option maxRecDepth 100000 in
theorem d136_194 : decode (xmb 136) 194 = .ok (.iload 4, 2) := by decide +kernel
set_option maxRecDepth 100000 in
theorem d136_196 : decode (xmb 136) 196 = .ok (.iconst 0, 1) := by decide +kernel
set_option maxRecDepth 100000 in
theorem d136_197 : decode (xmb 136) 197 = .ok (.invokestatic 143, 3) := by decide +kernel
set_option maxRecDepth 100000 in
theorem d136_200 : decode (xmb 136) 200 = .ok (.ldc2_w 36, 3) := by decide +kernel
set_option maxRecDepth 100000 in
theorem d136_203 : decode (xmb 136) 203 = .ok (.lcmp, 1) := by decide +kernel
set_option maxRecDepth 100000 in
theorem d136_204 : decode (xmb 136) 204 = .ok (.ifCond .ne 192, 3) := by decide +kernel
set_option maxRecDepth 100000 in
theorem d136_207 : decode (xmb 136) 207 = .ok (.aload_n 0, 1) := by decide +kernel
set_option maxRecDepth 100000 in
theorem d136_208 : decode (xmb 136) 208 = .ok (.iconst (-1), 1) := by decide +kernel
set_option maxRecDepth 100000 in
theorem d136_209 : decode (xmb 136) 209 = .ok (.invokestatic 148, 3) := by decide +kernel
set_option maxRecDepth 100000 in
theorem d136_212 : decode (xmb 136) 212 = .ok (.ldc2_w 36, 3) := by decide +kernel
set_option maxRecDepth 100000 in
theorem d136_215 : decode (xmb 136) 215 = .ok (.lcmp, 1) := by decide +kernel
set_option maxRecDepth 100000 in
theorem d136_216 : decode (xmb 136) 216 = .ok (.ifCond .ne 180, 3) := by decide +kernel
set_option maxRecDepth 100000 in
theorem d136_219 : decode (xmb 136) 219 = .ok (.aload_n 0, 1) := by decide +kernel
set_option maxRecDepth 100000 in
theorem d136_220 : decode (xmb 136) 220 = .ok (.iload 4, 2) := by decide +kernel
set_option maxRecDepth 100000 in
theorem d136_222 : decode (xmb 136) 222 = .ok (.invokestatic 148, 3) := by decide +kernel
set_option maxRecDepth 100000 in
theorem d136_225 : decode (xmb 136) 225 = .ok (.ldc2_w 36, 3) := by decide +kernel
set_option maxRecDepth 100000 in
theorem d136_228 : decode (xmb 136) 228 = .ok (.lcmp, 1) := by decide +kernel
set_option maxRecDepth 100000 in
theorem d136_229 : decode (xmb 136) 229 = .ok (.ifCond .ne 167, 3) := by decide +kernel
set_option maxRecDepth 100000 in
theorem d136_232 : decode (xmb 136) 232 = .ok (.aload_n 0, 1) := by decide +kernel
set_option maxRecDepth 100000 in
theorem d136_233 : decode (xmb 136) 233 = .ok (.iconst 4, 1) := by decide +kernel
set_option maxRecDepth 100000 in
theorem d136_234 : decode (xmb 136) 234 = .ok (.invokestatic 126, 3) := by decide +kernel
set_option maxRecDepth 100000 in
theorem d136_237 : decode (xmb 136) 237 = .ok (.ldc2_w 36, 3) := by decide +kernel
set_option maxRecDepth 100000 in
theorem d136_240 : decode (xmb 136) 240 = .ok (.lcmp, 1) := by decide +kernel
set_option maxRecDepth 100000 in
theorem d136_241 : decode (xmb 136) 241 = .ok (.ifCond .ne 155, 3) := by decide +kernel
set_option maxRecDepth 100000 in
theorem d136_244 : decode (xmb 136) 244 = .ok (.aload_n 0, 1) := by decide +kernel
set_option maxRecDepth 100000 in
theorem d136_245 : decode (xmb 136) 245 = .ok (.iconst 5, 1) := by decide +kernel
set_option maxRecDepth 100000 in
theorem d136_246 : decode (xmb 136) 246 = .ok (.invokestatic 122, 3) := by decide +kernel
set_option maxRecDepth 100000 in
theorem d136_249 : decode (xmb 136) 249 = .ok (.ldc2_w 17, 3) := by decide +kernel
set_option maxRecDepth 100000 in
theorem d136_252 : decode (xmb 136) 252 = .ok (.lcmp, 1) := by decide +kernel
set_option maxRecDepth 100000 in
theorem d136_253 : decode (xmb 136) 253 = .ok (.ifCond .ne 143, 3) := by decide +kernel
set_option maxRecDepth 100000 in
theorem d136_256 : decode (xmb 136) 256 = .ok (.aload_n 0, 1) := by decide +kernel
set_option maxRecDepth 100000 in
theorem d136_257 : decode (xmb 136) 257 = .ok (.sipush 1501, 3) := by decide +kernel
set_option maxRecDepth 100000 in
theorem d136_260 : decode (xmb 136) 260 = .ok (.iconst 0, 1) := by decide +kernel
set_option maxRecDepth 100000 in
theorem d136_261 : decode (xmb 136) 261 = .ok (.invokestatic 150, 3) := by decide +kernel
set_option maxRecDepth 100000 in
theorem d136_264 : decode (xmb 136) 264 = .ok (.ldc2_w 17, 3) := by decide +kernel
set_option maxRecDepth 100000 in
theorem d136_267 : decode (xmb 136) 267 = .ok (.lcmp, 1) := by decide +kernel
set_option maxRecDepth 100000 in
theorem d136_268 : decode (xmb 136) 268 = .ok (.ifCond .ne 128, 3) := by decide +kernel
set_option maxRecDepth 100000 in
theorem d136_271 : decode (xmb 136) 271 = .ok (.aload_n 0, 1) := by decide +kernel
set_option maxRecDepth 100000 in
theorem d136_272 : decode (xmb 136) 272 = .ok (.iconst 0, 1) := by decide +kernel
set_option maxRecDepth 100000 in
theorem d136_273 : decode (xmb 136) 273 = .ok (.bipush 10, 2) := by decide +kernel
set_option maxRecDepth 100000 in
theorem d136_275 : decode (xmb 136) 275 = .ok (.invokestatic 150, 3) := by decide +kernel
set_option maxRecDepth 100000 in
theorem d136_278 : decode (xmb 136) 278 = .ok (.ldc2_w 17, 3) := by decide +kernel
set_option maxRecDepth 100000 in
theorem d136_281 : decode (xmb 136) 281 = .ok (.lcmp, 1) := by decide +kernel
set_option maxRecDepth 100000 in
theorem d136_282 : decode (xmb 136) 282 = .ok (.ifCond .ne 114, 3) := by decide +kernel
set_option maxRecDepth 100000 in
theorem d136_285 : decode (xmb 136) 285 = .ok (.aload_n 0, 1) := by decide +kernel
set_option maxRecDepth 100000 in
theorem d136_286 : decode (xmb 136) 286 = .ok (.iconst 0, 1) := by decide +kernel
set_option maxRecDepth 100000 in
theorem d136_287 : decode (xmb 136) 287 = .ok (.invokestatic 152, 3) := by decide +kernel
set_option maxRecDepth 100000 in
theorem d136_290 : decode (xmb 136) 290 = .ok (.ldc2_w 17, 3) := by decide +kernel
set_option maxRecDepth 100000 in
theorem d136_293 : decode (xmb 136) 293 = .ok (.lcmp, 1) := by decide +kernel
set_option maxRecDepth 100000 in
theorem d136_294 : decode (xmb 136) 294 = .ok (.ifCond .ne 102, 3) := by decide +kernel
set_option maxRecDepth 100000 in
theorem d136_297 : decode (xmb 136) 297 = .ok (.iload_n 3, 1) := by decide +kernel
set_option maxRecDepth 100000 in
theorem d136_298 : decode (xmb 136) 298 = .ok (.bipush 12, 2) := by decide +kernel
set_option maxRecDepth 100000 in
theorem d136_300 : decode (xmb 136) 300 = .ok (.if_icmp .lt 15, 3) := by decide +kernel
set_option maxRecDepth 100000 in
theorem d136_303 : decode (xmb 136) 303 = .ok (.aload_n 0, 1) := by decide +kernel
set_option maxRecDepth 100000 in
theorem d136_304 : decode (xmb 136) 304 = .ok (.iconst 1, 1) := by decide +kernel
set_option maxRecDepth 100000 in
theorem d136_305 : decode (xmb 136) 305 = .ok (.invokestatic 152, 3) := by decide +kernel
set_option maxRecDepth 100000 in
theorem d136_308 : decode (xmb 136) 308 = .ok (.ldc2_w 21, 3) := by decide +kernel
set_option maxRecDepth 100000 in
theorem d136_311 : decode (xmb 136) 311 = .ok (.lcmp, 1) := by decide +kernel
set_option maxRecDepth 100000 in
theorem d136_312 : decode (xmb 136) 312 = .ok (.ifCond .ne 84, 3) := by decide +kernel
set_option maxRecDepth 100000 in
theorem d136_315 : decode (xmb 136) 315 = .ok (.aload_n 0, 1) := by decide +kernel
set_option maxRecDepth 100000 in
theorem d136_316 : decode (xmb 136) 316 = .ok (.bipush 25, 2) := by decide +kernel
set_option maxRecDepth 100000 in
theorem d136_318 : decode (xmb 136) 318 = .ok (.iconst 1, 1) := by decide +kernel
set_option maxRecDepth 100000 in
theorem d136_319 : decode (xmb 136) 319 = .ok (.invokestatic 154, 3) := by decide +kernel
set_option maxRecDepth 100000 in
theorem d136_322 : decode (xmb 136) 322 = .ok (.ldc2_w 17, 3) := by decide +kernel
set_option maxRecDepth 100000 in
theorem d136_325 : decode (xmb 136) 325 = .ok (.lcmp, 1) := by decide +kernel
set_option maxRecDepth 100000 in
theorem d136_326 : decode (xmb 136) 326 = .ok (.ifCond .ne 70, 3) := by decide +kernel
set_option maxRecDepth 100000 in
theorem d136_329 : decode (xmb 136) 329 = .ok (.aload_n 0, 1) := by decide +kernel
set_option maxRecDepth 100000 in
theorem d136_330 : decode (xmb 136) 330 = .ok (.iconst 1, 1) := by decide +kernel
set_option maxRecDepth 100000 in
theorem d136_331 : decode (xmb 136) 331 = .ok (.iconst 0, 1) := by decide +kernel
set_option maxRecDepth 100000 in
theorem d136_332 : decode (xmb 136) 332 = .ok (.invokestatic 154, 3) := by decide +kernel
set_option maxRecDepth 100000 in
theorem d136_335 : decode (xmb 136) 335 = .ok (.ldc2_w 17, 3) := by decide +kernel
set_option maxRecDepth 100000 in
theorem d136_338 : decode (xmb 136) 338 = .ok (.lcmp, 1) := by decide +kernel
set_option maxRecDepth 100000 in
theorem d136_339 : decode (xmb 136) 339 = .ok (.ifCond .ne 57, 3) := by decide +kernel
set_option maxRecDepth 100000 in
theorem d136_342 : decode (xmb 136) 342 = .ok (.aload_n 0, 1) := by decide +kernel
set_option maxRecDepth 100000 in
theorem d136_343 : decode (xmb 136) 343 = .ok (.iconst 0, 1) := by decide +kernel
set_option maxRecDepth 100000 in
theorem d136_344 : decode (xmb 136) 344 = .ok (.iconst 0, 1) := by decide +kernel
set_option maxRecDepth 100000 in
theorem d136_345 : decode (xmb 136) 345 = .ok (.iconst 1, 1) := by decide +kernel
set_option maxRecDepth 100000 in
theorem d136_346 : decode (xmb 136) 346 = .ok (.invokestatic 156, 3) := by decide +kernel
set_option maxRecDepth 100000 in
theorem d136_349 : decode (xmb 136) 349 = .ok (.ldc2_w 17, 3) := by decide +kernel
set_option maxRecDepth 100000 in
theorem d136_352 : decode (xmb 136) 352 = .ok (.lcmp, 1) := by decide +kernel
set_option maxRecDepth 100000 in
theorem d136_353 : decode (xmb 136) 353 = .ok (.ifCond .ne 43, 3) := by decide +kernel
set_option maxRecDepth 100000 in
theorem d136_356 : decode (xmb 136) 356 = .ok (.aload_n 0, 1) := by decide +kernel
set_option maxRecDepth 100000 in
theorem d136_357 : decode (xmb 136) 357 = .ok (.iconst 1, 1) := by decide +kernel
set_option maxRecDepth 100000 in
theorem d136_358 : decode (xmb 136) 358 = .ok (.bipush (-2), 2) := by decide +kernel
set_option maxRecDepth 100000 in
theorem d136_360 : decode (xmb 136) 360 = .ok (.iconst 1, 1) := by decide +kernel
set_option maxRecDepth 100000 in
theorem d136_361 : decode (xmb 136) 361 = .ok (.invokestatic 156, 3) := by decide +kernel
set_option maxRecDepth 100000 in
theorem d136_364 : decode (xmb 136) 364 = .ok (.ldc2_w 17, 3) := by decide +kernel
set_option maxRecDepth 100000 in
theorem d136_367 : decode (xmb 136) 367 = .ok (.lcmp, 1) := by decide +kernel
set_option maxRecDepth 100000 in
theorem d136_368 : decode (xmb 136) 368 = .ok (.ifCond .ne 28, 3) := by decide +kernel
set_option maxRecDepth 100000 in
theorem d136_371 : decode (xmb 136) 371 = .ok (.iload 4, 2) := by decide +kernel
set_option maxRecDepth 100000 in
theorem d136_373 : decode (xmb 136) 373 = .ok (.bipush 14, 2) := by decide +kernel
set_option maxRecDepth 100000 in
theorem d136_375 : decode (xmb 136) 375 = .ok (.if_icmp .lt 17, 3) := by decide +kernel
set_option maxRecDepth 100000 in
theorem d136_378 : decode (xmb 136) 378 = .ok (.aload_n 0, 1) := by decide +kernel
set_option maxRecDepth 100000 in
theorem d136_379 : decode (xmb 136) 379 = .ok (.iconst 1, 1) := by decide +kernel
set_option maxRecDepth 100000 in
theorem d136_380 : decode (xmb 136) 380 = .ok (.iconst 0, 1) := by decide +kernel
set_option maxRecDepth 100000 in
theorem d136_381 : decode (xmb 136) 381 = .ok (.iconst 1, 1) := by decide +kernel
set_option maxRecDepth 100000 in
theorem d136_382 : decode (xmb 136) 382 = .ok (.invokestatic 156, 3) := by decide +kernel
set_option maxRecDepth 100000 in
theorem d136_385 : decode (xmb 136) 385 = .ok (.ldc2_w 21, 3) := by decide +kernel
set_option maxRecDepth 100000 in
theorem d136_388 : decode (xmb 136) 388 = .ok (.lcmp, 1) := by decide +kernel
set_option maxRecDepth 100000 in
theorem d136_389 : decode (xmb 136) 389 = .ok (.ifCond .ne 7, 3) := by decide +kernel
set_option maxRecDepth 100000 in
theorem d136_392 : decode (xmb 136) 392 = .ok (.iconst 1, 1) := by decide +kernel
set_option maxRecDepth 100000 in
theorem d136_393 : decode (xmb 136) 393 = .ok (.goto 4, 3) := by decide +kernel
set_option maxRecDepth 100000 in
theorem d136_396 : decode (xmb 136) 396 = .ok (.iconst 0, 1) := by decide +kernel
set_option maxRecDepth 100000 in
theorem d136_397 : decode (xmb 136) 397 = .ok (.istore 5, 2) := by decide +kernel
set_option maxRecDepth 100000 in
theorem d136_399 : decode (xmb 136) 399 = .ok (.iload 5, 2) := by decide +kernel
set_option maxRecDepth 100000 in
theorem d136_401 : decode (xmb 136) 401 = .ok (.ifCond .eq 311, 3) := by decide +kernel
set_option maxRecDepth 100000 in
theorem d136_404 : decode (xmb 136) 404 = .ok (.aload_n 0, 1) := by decide +kernel
set_option maxRecDepth 100000 in
theorem d136_405 : decode (xmb 136) 405 = .ok (.iload_n 3, 1) := by decide +kernel
set_option maxRecDepth 100000 in
theorem d136_406 : decode (xmb 136) 406 = .ok (.iconst 0, 1) := by decide +kernel
set_option maxRecDepth 100000 in
theorem d136_407 : decode (xmb 136) 407 = .ok (.invokestatic 139, 3) := by decide +kernel
set_option maxRecDepth 100000 in
theorem d136_410 : decode (xmb 136) 410 = .ok (.ldc2_w 36, 3) := by decide +kernel
set_option maxRecDepth 100000 in
theorem d136_413 : decode (xmb 136) 413 = .ok (.lcmp, 1) := by decide +kernel
set_option maxRecDepth 100000 in
theorem d136_414 : decode (xmb 136) 414 = .ok (.ifCond .ne 298, 3) := by decide +kernel
set_option maxRecDepth 100000 in
theorem d136_417 : decode (xmb 136) 417 = .ok (.aload_n 0, 1) := by decide +kernel
set_option maxRecDepth 100000 in
theorem d136_418 : decode (xmb 136) 418 = .ok (.iload 4, 2) := by decide +kernel
set_option maxRecDepth 100000 in
theorem d136_420 : decode (xmb 136) 420 = .ok (.iconst 0, 1) := by decide +kernel
set_option maxRecDepth 100000 in
theorem d136_421 : decode (xmb 136) 421 = .ok (.invokestatic 141, 3) := by decide +kernel
set_option maxRecDepth 100000 in
theorem d136_424 : decode (xmb 136) 424 = .ok (.ldc2_w 36, 3) := by decide +kernel
set_option maxRecDepth 100000 in
theorem d136_427 : decode (xmb 136) 427 = .ok (.lcmp, 1) := by decide +kernel
set_option maxRecDepth 100000 in
theorem d136_428 : decode (xmb 136) 428 = .ok (.ifCond .ne 284, 3) := by decide +kernel
set_option maxRecDepth 100000 in
theorem d136_431 : decode (xmb 136) 431 = .ok (.aload_n 0, 1) := by decide +kernel
set_option maxRecDepth 100000 in
theorem d136_432 : decode (xmb 136) 432 = .ok (.iload 4, 2) := by decide +kernel
set_option maxRecDepth 100000 in
theorem d136_434 : decode (xmb 136) 434 = .ok (.iconst 0, 1) := by decide +kernel
set_option maxRecDepth 100000 in
theorem d136_435 : decode (xmb 136) 435 = .ok (.iconst 1, 1) := by decide +kernel
set_option maxRecDepth 100000 in
theorem d136_436 : decode (xmb 136) 436 = .ok (.invokestatic 146, 3) := by decide +kernel
set_option maxRecDepth 100000 in
theorem d136_439 : decode (xmb 136) 439 = .ok (.ldc2_w 36, 3) := by decide +kernel
set_option maxRecDepth 100000 in
theorem d136_442 : decode (xmb 136) 442 = .ok (.lcmp, 1) := by decide +kernel
set_option maxRecDepth 100000 in
theorem d136_443 : decode (xmb 136) 443 = .ok (.ifCond .ne 269, 3) := by decide +kernel
set_option maxRecDepth 100000 in
theorem d136_446 : decode (xmb 136) 446 = .ok (.aload_n 0, 1) := by decide +kernel
set_option maxRecDepth 100000 in
theorem d136_447 : decode (xmb 136) 447 = .ok (.iconst (-1), 1) := by decide +kernel
set_option maxRecDepth 100000 in
theorem d136_448 : decode (xmb 136) 448 = .ok (.iconst 4, 1) := by decide +kernel
set_option maxRecDepth 100000 in
theorem d136_449 : decode (xmb 136) 449 = .ok (.invokestatic 158, 3) := by decide +kernel
set_option maxRecDepth 100000 in
theorem d136_452 : decode (xmb 136) 452 = .ok (.ldc2_w 36, 3) := by decide +kernel
set_option maxRecDepth 100000 in
theorem d136_455 : decode (xmb 136) 455 = .ok (.lcmp, 1) := by decide +kernel
set_option maxRecDepth 100000 in
theorem d136_456 : decode (xmb 136) 456 = .ok (.ifCond .ne 256, 3) := by decide +kernel
set_option maxRecDepth 100000 in
theorem d136_459 : decode (xmb 136) 459 = .ok (.aload_n 0, 1) := by decide +kernel
set_option maxRecDepth 100000 in
theorem d136_460 : decode (xmb 136) 460 = .ok (.iconst 3, 1) := by decide +kernel
set_option maxRecDepth 100000 in
theorem d136_461 : decode (xmb 136) 461 = .ok (.iconst (-1), 1) := by decide +kernel
set_option maxRecDepth 100000 in
theorem d136_462 : decode (xmb 136) 462 = .ok (.invokestatic 158, 3) := by decide +kernel
set_option maxRecDepth 100000 in
theorem d136_465 : decode (xmb 136) 465 = .ok (.ldc2_w 17, 3) := by decide +kernel
set_option maxRecDepth 100000 in
theorem d136_468 : decode (xmb 136) 468 = .ok (.lcmp, 1) := by decide +kernel
set_option maxRecDepth 100000 in
theorem d136_469 : decode (xmb 136) 469 = .ok (.ifCond .ne 243, 3) := by decide +kernel
set_option maxRecDepth 100000 in
theorem d136_472 : decode (xmb 136) 472 = .ok (.aload_n 0, 1) := by decide +kernel
set_option maxRecDepth 100000 in
theorem d136_473 : decode (xmb 136) 473 = .ok (.iconst 0, 1) := by decide +kernel
set_option maxRecDepth 100000 in
theorem d136_474 : decode (xmb 136) 474 = .ok (.iconst 0, 1) := by decide +kernel
set_option maxRecDepth 100000 in
theorem d136_475 : decode (xmb 136) 475 = .ok (.invokestatic 160, 3) := by decide +kernel
set_option maxRecDepth 100000 in
theorem d136_478 : decode (xmb 136) 478 = .ok (.ldc2_w 17, 3) := by decide +kernel
set_option maxRecDepth 100000 in
theorem d136_481 : decode (xmb 136) 481 = .ok (.lcmp, 1) := by decide +kernel
set_option maxRecDepth 100000 in
theorem d136_482 : decode (xmb 136) 482 = .ok (.ifCond .ne 230, 3) := by decide +kernel
set_option maxRecDepth 100000 in
theorem d136_485 : decode (xmb 136) 485 = .ok (.aload_n 0, 1) := by decide +kernel
set_option maxRecDepth 100000 in
theorem d136_486 : decode (xmb 136) 486 = .ok (.iconst 1, 1) := by decide +kernel
set_option maxRecDepth 100000 in
theorem d136_487 : decode (xmb 136) 487 = .ok (.iconst 3, 1) := by decide +kernel
set_option maxRecDepth 100000 in
theorem d136_488 : decode (xmb 136) 488 = .ok (.invokestatic 160, 3) := by decide +kernel
set_option maxRecDepth 100000 in
theorem d136_491 : decode (xmb 136) 491 = .ok (.ldc2_w 17, 3) := by decide +kernel
set_option maxRecDepth 100000 in
theorem d136_494 : decode (xmb 136) 494 = .ok (.lcmp, 1) := by decide +kernel
set_option maxRecDepth 100000 in
theorem d136_495 : decode (xmb 136) 495 = .ok (.ifCond .ne 217, 3) := by decide +kernel
set_option maxRecDepth 100000 in
theorem d136_498 : decode (xmb 136) 498 = .ok (.aload_n 0, 1) := by decide +kernel
set_option maxRecDepth 100000 in
theorem d136_499 : decode (xmb 136) 499 = .ok (.iconst 2, 1) := by decide +kernel
set_option maxRecDepth 100000 in
theorem d136_500 : decode (xmb 136) 500 = .ok (.bipush 21, 2) := by decide +kernel
set_option maxRecDepth 100000 in
theorem d136_502 : decode (xmb 136) 502 = .ok (.invokestatic 160, 3) := by decide +kernel
set_option maxRecDepth 100000 in
theorem d136_505 : decode (xmb 136) 505 = .ok (.ldc2_w 17, 3) := by decide +kernel
set_option maxRecDepth 100000 in
theorem d136_508 : decode (xmb 136) 508 = .ok (.lcmp, 1) := by decide +kernel
set_option maxRecDepth 100000 in
theorem d136_509 : decode (xmb 136) 509 = .ok (.ifCond .ne 203, 3) := by decide +kernel
set_option maxRecDepth 100000 in
theorem d136_512 : decode (xmb 136) 512 = .ok (.aload_n 0, 1) := by decide +kernel
set_option maxRecDepth 100000 in
theorem d136_513 : decode (xmb 136) 513 = .ok (.iconst 3, 1) := by decide +kernel
set_option maxRecDepth 100000 in
theorem d136_514 : decode (xmb 136) 514 = .ok (.iconst 0, 1) := by decide +kernel
set_option maxRecDepth 100000 in
theorem d136_515 : decode (xmb 136) 515 = .ok (.invokestatic 160, 3) := by decide +kernel
set_option maxRecDepth 100000 in
theorem d136_518 : decode (xmb 136) 518 = .ok (.ldc2_w 17, 3) := by decide +kernel
set_option maxRecDepth 100000 in
theorem d136_521 : decode (xmb 136) 521 = .ok (.lcmp, 1) := by decide +kernel
set_option maxRecDepth 100000 in
theorem d136_522 : decode (xmb 136) 522 = .ok (.ifCond .ne 190, 3) := by decide +kernel
set_option maxRecDepth 100000 in
theorem d136_525 : decode (xmb 136) 525 = .ok (.aload_n 0, 1) := by decide +kernel
