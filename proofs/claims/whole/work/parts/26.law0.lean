set_option maxRecDepth 100000 in
theorem d240_0 : decode (xmb 240) 0 = .ok (.new 8, 3) := by decide +kernel
set_option maxRecDepth 100000 in
theorem d240_3 : decode (xmb 240) 3 = .ok (.dup, 1) := by decide +kernel
set_option maxRecDepth 100000 in
theorem d240_4 : decode (xmb 240) 4 = .ok (.invokespecial 105, 3) := by decide +kernel
set_option maxRecDepth 100000 in
theorem d240_7 : decode (xmb 240) 7 = .ok (.astore_n 1, 1) := by decide +kernel
set_option maxRecDepth 100000 in
theorem d240_8 : decode (xmb 240) 8 = .ok (.new 106, 3) := by decide +kernel
set_option maxRecDepth 100000 in
theorem d240_11 : decode (xmb 240) 11 = .ok (.dup, 1) := by decide +kernel
set_option maxRecDepth 100000 in
theorem d240_12 : decode (xmb 240) 12 = .ok (.invokespecial 108, 3) := by decide +kernel
set_option maxRecDepth 100000 in
theorem d240_15 : decode (xmb 240) 15 = .ok (.astore_n 2, 1) := by decide +kernel
set_option maxRecDepth 100000 in
theorem d240_16 : decode (xmb 240) 16 = .ok (.iconst 1, 1) := by decide +kernel
set_option maxRecDepth 100000 in
theorem d240_17 : decode (xmb 240) 17 = .ok (.newarray .long, 2) := by decide +kernel
set_option maxRecDepth 100000 in
theorem d240_19 : decode (xmb 240) 19 = .ok (.astore_n 3, 1) := by decide +kernel
set_option maxRecDepth 100000 in
theorem d240_20 : decode (xmb 240) 20 = .ok (.iconst 0, 1) := by decide +kernel
set_option maxRecDepth 100000 in
theorem d240_21 : decode (xmb 240) 21 = .ok (.istore 4, 2) := by decide +kernel
set_option maxRecDepth 100000 in
theorem d240_23 : decode (xmb 240) 23 = .ok (.iload 4, 2) := by decide +kernel
set_option maxRecDepth 100000 in
theorem d240_25 : decode (xmb 240) 25 = .ok (.aload_n 0, 1) := by decide +kernel
set_option maxRecDepth 100000 in
theorem d240_26 : decode (xmb 240) 26 = .ok (.arraylength, 1) := by decide +kernel
set_option maxRecDepth 100000 in
theorem d240_27 : decode (xmb 240) 27 = .ok (.iconst 4, 1) := by decide +kernel
set_option maxRecDepth 100000 in
theorem d240_28 : decode (xmb 240) 28 = .ok (.isub, 1) := by decide +kernel
set_option maxRecDepth 100000 in
theorem d240_29 : decode (xmb 240) 29 = .ok (.if_icmp .gt 2088, 3) := by decide +kernel
set_option maxRecDepth 100000 in
theorem d240_32 : decode (xmb 240) 32 = .ok (.aload_n 0, 1) := by decide +kernel
set_option maxRecDepth 100000 in
theorem d240_33 : decode (xmb 240) 33 = .ok (.iload 4, 2) := by decide +kernel
set_option maxRecDepth 100000 in
theorem d240_35 : decode (xmb 240) 35 = .ok (.iaload, 1) := by decide +kernel
set_option maxRecDepth 100000 in
theorem d240_36 : decode (xmb 240) 36 = .ok (.bipush 31, 2) := by decide +kernel
set_option maxRecDepth 100000 in
theorem d240_38 : decode (xmb 240) 38 = .ok (.iand, 1) := by decide +kernel
set_option maxRecDepth 100000 in
theorem d240_39 : decode (xmb 240) 39 = .ok (.tableswitch 2072 0 30 #[137, 193, 206, 219, 263, 319, 387, 455, 523, 579, 635, 691, 759, 815, 883, 951, 1047, 1115, 1211, 1307, 1375, 1443, 1487, 1555, 1623, 1679, 1692, 1760, 1860, 1960, 2016], 137) := by decide +kernel
set_option maxRecDepth 100000 in
theorem d240_176 : decode (xmb 240) 176 = .ok (.aload_n 1, 1) := by decide +kernel
set_option maxRecDepth 100000 in
theorem d240_177 : decode (xmb 240) 177 = .ok (.aload_n 0, 1) := by decide +kernel
set_option maxRecDepth 100000 in
theorem d240_178 : decode (xmb 240) 178 = .ok (.iload 4, 2) := by decide +kernel
set_option maxRecDepth 100000 in
theorem d240_180 : decode (xmb 240) 180 = .ok (.iconst 1, 1) := by decide +kernel
set_option maxRecDepth 100000 in
theorem d240_181 : decode (xmb 240) 181 = .ok (.iadd, 1) := by decide +kernel
set_option maxRecDepth 100000 in
theorem d240_182 : decode (xmb 240) 182 = .ok (.iaload, 1) := by decide +kernel
set_option maxRecDepth 100000 in
theorem d240_183 : decode (xmb 240) 183 = .ok (.aload_n 3, 1) := by decide +kernel
set_option maxRecDepth 100000 in
theorem d240_184 : decode (xmb 240) 184 = .ok (.invokestatic 109, 3) := by decide +kernel
set_option maxRecDepth 100000 in
theorem d240_187 : decode (xmb 240) 187 = .ok (.istore 5, 2) := by decide +kernel
set_option maxRecDepth 100000 in
theorem d240_189 : decode (xmb 240) 189 = .ok (.aload_n 2, 1) := by decide +kernel
set_option maxRecDepth 100000 in
theorem d240_190 : decode (xmb 240) 190 = .ok (.aload_n 0, 1) := by decide +kernel
set_option maxRecDepth 100000 in
theorem d240_191 : decode (xmb 240) 191 = .ok (.iload 4, 2) := by decide +kernel
set_option maxRecDepth 100000 in
theorem d240_193 : decode (xmb 240) 193 = .ok (.iconst 1, 1) := by decide +kernel
set_option maxRecDepth 100000 in
theorem d240_194 : decode (xmb 240) 194 = .ok (.iadd, 1) := by decide +kernel
set_option maxRecDepth 100000 in
theorem d240_195 : decode (xmb 240) 195 = .ok (.iaload, 1) := by decide +kernel
set_option maxRecDepth 100000 in
theorem d240_196 : decode (xmb 240) 196 = .ok (.invokevirtual 114, 3) := by decide +kernel
set_option maxRecDepth 100000 in
theorem d240_199 : decode (xmb 240) 199 = .ok (.istore 6, 2) := by decide +kernel
set_option maxRecDepth 100000 in
theorem d240_201 : decode (xmb 240) 201 = .ok (.aload_n 2, 1) := by decide +kernel
set_option maxRecDepth 100000 in
theorem d240_202 : decode (xmb 240) 202 = .ok (.invokevirtual 115, 3) := by decide +kernel
set_option maxRecDepth 100000 in
theorem d240_205 : decode (xmb 240) 205 = .ok (.iload 5, 2) := by decide +kernel
set_option maxRecDepth 100000 in
theorem d240_207 : decode (xmb 240) 207 = .ok (.if_icmp .eq 5, 3) := by decide +kernel
set_option maxRecDepth 100000 in
theorem d240_210 : decode (xmb 240) 210 = .ok (.iconst 0, 1) := by decide +kernel
set_option maxRecDepth 100000 in
theorem d240_211 : decode (xmb 240) 211 = .ok (.ireturn, 1) := by decide +kernel
set_option maxRecDepth 100000 in
theorem d240_212 : decode (xmb 240) 212 = .ok (.iload 5, 2) := by decide +kernel
set_option maxRecDepth 100000 in
theorem d240_214 : decode (xmb 240) 214 = .ok (.ifCond .ne 15, 3) := by decide +kernel
set_option maxRecDepth 100000 in
theorem d240_217 : decode (xmb 240) 217 = .ok (.aload_n 3, 1) := by decide +kernel
set_option maxRecDepth 100000 in
theorem d240_218 : decode (xmb 240) 218 = .ok (.iconst 0, 1) := by decide +kernel
set_option maxRecDepth 100000 in
theorem d240_219 : decode (xmb 240) 219 = .ok (.laload, 1) := by decide +kernel
set_option maxRecDepth 100000 in
theorem d240_220 : decode (xmb 240) 220 = .ok (.iload 6, 2) := by decide +kernel
set_option maxRecDepth 100000 in
theorem d240_222 : decode (xmb 240) 222 = .ok (.i2l, 1) := by decide +kernel
set_option maxRecDepth 100000 in
theorem d240_223 : decode (xmb 240) 223 = .ok (.lcmp, 1) := by decide +kernel
set_option maxRecDepth 100000 in
theorem d240_224 : decode (xmb 240) 224 = .ok (.ifCond .eq 5, 3) := by decide +kernel
set_option maxRecDepth 100000 in
theorem d240_227 : decode (xmb 240) 227 = .ok (.iconst 0, 1) := by decide +kernel
set_option maxRecDepth 100000 in
theorem d240_228 : decode (xmb 240) 228 = .ok (.ireturn, 1) := by decide +kernel
set_option maxRecDepth 100000 in
theorem d240_229 : decode (xmb 240) 229 = .ok (.goto 1882, 3) := by decide +kernel
set_option maxRecDepth 100000 in
theorem d240_232 : decode (xmb 240) 232 = .ok (.aload_n 1, 1) := by decide +kernel
set_option maxRecDepth 100000 in
theorem d240_233 : decode (xmb 240) 233 = .ok (.invokevirtual 118, 3) := by decide +kernel
set_option maxRecDepth 100000 in
theorem d240_236 : decode (xmb 240) 236 = .ok (.aload_n 2, 1) := by decide +kernel
set_option maxRecDepth 100000 in
theorem d240_237 : decode (xmb 240) 237 = .ok (.invokevirtual 121, 3) := by decide +kernel
set_option maxRecDepth 100000 in
theorem d240_240 : decode (xmb 240) 240 = .ok (.if_icmp .eq 1871, 3) := by decide +kernel
set_option maxRecDepth 100000 in
theorem d240_243 : decode (xmb 240) 243 = .ok (.iconst 0, 1) := by decide +kernel
set_option maxRecDepth 100000 in
theorem d240_244 : decode (xmb 240) 244 = .ok (.ireturn, 1) := by decide +kernel
set_option maxRecDepth 100000 in
theorem d240_245 : decode (xmb 240) 245 = .ok (.aload_n 1, 1) := by decide +kernel
set_option maxRecDepth 100000 in
theorem d240_246 : decode (xmb 240) 246 = .ok (.invokevirtual 122, 3) := by decide +kernel
set_option maxRecDepth 100000 in
theorem d240_249 : decode (xmb 240) 249 = .ok (.aload_n 2, 1) := by decide +kernel
set_option maxRecDepth 100000 in
theorem d240_250 : decode (xmb 240) 250 = .ok (.invokevirtual 125, 3) := by decide +kernel
set_option maxRecDepth 100000 in
theorem d240_253 : decode (xmb 240) 253 = .ok (.if_icmp .eq 1858, 3) := by decide +kernel
set_option maxRecDepth 100000 in
theorem d240_256 : decode (xmb 240) 256 = .ok (.iconst 0, 1) := by decide +kernel
set_option maxRecDepth 100000 in
theorem d240_257 : decode (xmb 240) 257 = .ok (.ireturn, 1) := by decide +kernel
set_option maxRecDepth 100000 in
theorem d240_258 : decode (xmb 240) 258 = .ok (.aload_n 1, 1) := by decide +kernel
set_option maxRecDepth 100000 in
theorem d240_259 : decode (xmb 240) 259 = .ok (.aload_n 3, 1) := by decide +kernel
set_option maxRecDepth 100000 in
theorem d240_260 : decode (xmb 240) 260 = .ok (.invokestatic 126, 3) := by decide +kernel
set_option maxRecDepth 100000 in
theorem d240_263 : decode (xmb 240) 263 = .ok (.istore 5, 2) := by decide +kernel
set_option maxRecDepth 100000 in
theorem d240_265 : decode (xmb 240) 265 = .ok (.aload_n 2, 1) := by decide +kernel
set_option maxRecDepth 100000 in
theorem d240_266 : decode (xmb 240) 266 = .ok (.invokevirtual 129, 3) := by decide +kernel
set_option maxRecDepth 100000 in
theorem d240_269 : decode (xmb 240) 269 = .ok (.istore 6, 2) := by decide +kernel
set_option maxRecDepth 100000 in
theorem d240_271 : decode (xmb 240) 271 = .ok (.aload_n 2, 1) := by decide +kernel
set_option maxRecDepth 100000 in
theorem d240_272 : decode (xmb 240) 272 = .ok (.invokevirtual 115, 3) := by decide +kernel
set_option maxRecDepth 100000 in
theorem d240_275 : decode (xmb 240) 275 = .ok (.iload 5, 2) := by decide +kernel
set_option maxRecDepth 100000 in
theorem d240_277 : decode (xmb 240) 277 = .ok (.if_icmp .eq 5, 3) := by decide +kernel
set_option maxRecDepth 100000 in
theorem d240_280 : decode (xmb 240) 280 = .ok (.iconst 0, 1) := by decide +kernel
set_option maxRecDepth 100000 in
theorem d240_281 : decode (xmb 240) 281 = .ok (.ireturn, 1) := by decide +kernel
set_option maxRecDepth 100000 in
theorem d240_282 : decode (xmb 240) 282 = .ok (.iload 5, 2) := by decide +kernel
set_option maxRecDepth 100000 in
theorem d240_284 : decode (xmb 240) 284 = .ok (.ifCond .ne 15, 3) := by decide +kernel
set_option maxRecDepth 100000 in
theorem d240_287 : decode (xmb 240) 287 = .ok (.aload_n 3, 1) := by decide +kernel
set_option maxRecDepth 100000 in
theorem d240_288 : decode (xmb 240) 288 = .ok (.iconst 0, 1) := by decide +kernel
set_option maxRecDepth 100000 in
theorem d240_289 : decode (xmb 240) 289 = .ok (.laload, 1) := by decide +kernel
set_option maxRecDepth 100000 in
theorem d240_290 : decode (xmb 240) 290 = .ok (.iload 6, 2) := by decide +kernel
set_option maxRecDepth 100000 in
theorem d240_292 : decode (xmb 240) 292 = .ok (.i2l, 1) := by decide +kernel
set_option maxRecDepth 100000 in
theorem d240_293 : decode (xmb 240) 293 = .ok (.lcmp, 1) := by decide +kernel
set_option maxRecDepth 100000 in
theorem d240_294 : decode (xmb 240) 294 = .ok (.ifCond .eq 5, 3) := by decide +kernel
set_option maxRecDepth 100000 in
theorem d240_297 : decode (xmb 240) 297 = .ok (.iconst 0, 1) := by decide +kernel
set_option maxRecDepth 100000 in
theorem d240_298 : decode (xmb 240) 298 = .ok (.ireturn, 1) := by decide +kernel
set_option maxRecDepth 100000 in
theorem d240_299 : decode (xmb 240) 299 = .ok (.goto 1812, 3) := by decide +kernel
set_option maxRecDepth 100000 in
theorem d240_302 : decode (xmb 240) 302 = .ok (.aload_n 1, 1) := by decide +kernel
set_option maxRecDepth 100000 in
theorem d240_303 : decode (xmb 240) 303 = .ok (.aload_n 0, 1) := by decide +kernel
set_option maxRecDepth 100000 in
theorem d240_304 : decode (xmb 240) 304 = .ok (.iload 4, 2) := by decide +kernel
set_option maxRecDepth 100000 in
theorem d240_306 : decode (xmb 240) 306 = .ok (.iconst 1, 1) := by decide +kernel
set_option maxRecDepth 100000 in
theorem d240_307 : decode (xmb 240) 307 = .ok (.iadd, 1) := by decide +kernel
set_option maxRecDepth 100000 in
theorem d240_308 : decode (xmb 240) 308 = .ok (.iaload, 1) := by decide +kernel
set_option maxRecDepth 100000 in
theorem d240_309 : decode (xmb 240) 309 = .ok (.aload_n 3, 1) := by decide +kernel
set_option maxRecDepth 100000 in
theorem d240_310 : decode (xmb 240) 310 = .ok (.invokestatic 130, 3) := by decide +kernel
set_option maxRecDepth 100000 in
theorem d240_313 : decode (xmb 240) 313 = .ok (.istore 5, 2) := by decide +kernel
set_option maxRecDepth 100000 in
theorem d240_315 : decode (xmb 240) 315 = .ok (.aload_n 2, 1) := by decide +kernel
set_option maxRecDepth 100000 in
theorem d240_316 : decode (xmb 240) 316 = .ok (.aload_n 0, 1) := by decide +kernel
set_option maxRecDepth 100000 in
theorem d240_317 : decode (xmb 240) 317 = .ok (.iload 4, 2) := by decide +kernel
set_option maxRecDepth 100000 in
theorem d240_319 : decode (xmb 240) 319 = .ok (.iconst 1, 1) := by decide +kernel
set_option maxRecDepth 100000 in
theorem d240_320 : decode (xmb 240) 320 = .ok (.iadd, 1) := by decide +kernel
set_option maxRecDepth 100000 in
theorem d240_321 : decode (xmb 240) 321 = .ok (.iaload, 1) := by decide +kernel
set_option maxRecDepth 100000 in
theorem d240_322 : decode (xmb 240) 322 = .ok (.invokevirtual 132, 3) := by decide +kernel
set_option maxRecDepth 100000 in
theorem d240_325 : decode (xmb 240) 325 = .ok (.istore 6, 2) := by decide +kernel
set_option maxRecDepth 100000 in
theorem d240_327 : decode (xmb 240) 327 = .ok (.aload_n 2, 1) := by decide +kernel
set_option maxRecDepth 100000 in
theorem d240_328 : decode (xmb 240) 328 = .ok (.invokevirtual 115, 3) := by decide +kernel
set_option maxRecDepth 100000 in
theorem d240_331 : decode (xmb 240) 331 = .ok (.iload 5, 2) := by decide +kernel
set_option maxRecDepth 100000 in
theorem d240_333 : decode (xmb 240) 333 = .ok (.if_icmp .eq 5, 3) := by decide +kernel
set_option maxRecDepth 100000 in
theorem d240_336 : decode (xmb 240) 336 = .ok (.iconst 0, 1) := by decide +kernel
set_option maxRecDepth 100000 in
theorem d240_337 : decode (xmb 240) 337 = .ok (.ireturn, 1) := by decide +kernel
set_option maxRecDepth 100000 in
theorem d240_338 : decode (xmb 240) 338 = .ok (.iload 5, 2) := by decide +kernel
set_option maxRecDepth 100000 in
theorem d240_340 : decode (xmb 240) 340 = .ok (.ifCond .ne 15, 3) := by decide +kernel
set_option maxRecDepth 100000 in
theorem d240_343 : decode (xmb 240) 343 = .ok (.aload_n 3, 1) := by decide +kernel
set_option maxRecDepth 100000 in
theorem d240_344 : decode (xmb 240) 344 = .ok (.iconst 0, 1) := by decide +kernel
set_option maxRecDepth 100000 in
theorem d240_345 : decode (xmb 240) 345 = .ok (.laload, 1) := by decide +kernel
set_option maxRecDepth 100000 in
theorem d240_346 : decode (xmb 240) 346 = .ok (.iload 6, 2) := by decide +kernel
set_option maxRecDepth 100000 in
theorem d240_348 : decode (xmb 240) 348 = .ok (.i2l, 1) := by decide +kernel
set_option maxRecDepth 100000 in
theorem d240_349 : decode (xmb 240) 349 = .ok (.lcmp, 1) := by decide +kernel
set_option maxRecDepth 100000 in
theorem d240_350 : decode (xmb 240) 350 = .ok (.ifCond .eq 5, 3) := by decide +kernel
set_option maxRecDepth 100000 in
theorem d240_353 : decode (xmb 240) 353 = .ok (.iconst 0, 1) := by decide +kernel
set_option maxRecDepth 100000 in
theorem d240_354 : decode (xmb 240) 354 = .ok (.ireturn, 1) := by decide +kernel
set_option maxRecDepth 100000 in
theorem d240_355 : decode (xmb 240) 355 = .ok (.goto 1756, 3) := by decide +kernel
set_option maxRecDepth 100000 in
theorem d240_358 : decode (xmb 240) 358 = .ok (.aload_n 1, 1) := by decide +kernel
set_option maxRecDepth 100000 in
theorem d240_359 : decode (xmb 240) 359 = .ok (.aload_n 0, 1) := by decide +kernel
set_option maxRecDepth 100000 in
theorem d240_360 : decode (xmb 240) 360 = .ok (.iload 4, 2) := by decide +kernel
set_option maxRecDepth 100000 in
theorem d240_362 : decode (xmb 240) 362 = .ok (.iconst 1, 1) := by decide +kernel
set_option maxRecDepth 100000 in
theorem d240_363 : decode (xmb 240) 363 = .ok (.iadd, 1) := by decide +kernel
set_option maxRecDepth 100000 in
theorem d240_364 : decode (xmb 240) 364 = .ok (.iaload, 1) := by decide +kernel
set_option maxRecDepth 100000 in
theorem d240_365 : decode (xmb 240) 365 = .ok (.aload_n 0, 1) := by decide +kernel
set_option maxRecDepth 100000 in
theorem d240_366 : decode (xmb 240) 366 = .ok (.iload 4, 2) := by decide +kernel
set_option maxRecDepth 100000 in
theorem d240_368 : decode (xmb 240) 368 = .ok (.iconst 2, 1) := by decide +kernel
set_option maxRecDepth 100000 in
theorem d240_369 : decode (xmb 240) 369 = .ok (.iadd, 1) := by decide +kernel
set_option maxRecDepth 100000 in
theorem d240_370 : decode (xmb 240) 370 = .ok (.iaload, 1) := by decide +kernel
set_option maxRecDepth 100000 in
theorem d240_371 : decode (xmb 240) 371 = .ok (.aload_n 3, 1) := by decide +kernel
set_option maxRecDepth 100000 in
theorem d240_372 : decode (xmb 240) 372 = .ok (.invokestatic 133, 3) := by decide +kernel
set_option maxRecDepth 100000 in
theorem d240_375 : decode (xmb 240) 375 = .ok (.istore 5, 2) := by decide +kernel
set_option maxRecDepth 100000 in
theorem d240_377 : decode (xmb 240) 377 = .ok (.aload_n 2, 1) := by decide +kernel
set_option maxRecDepth 100000 in
theorem d240_378 : decode (xmb 240) 378 = .ok (.aload_n 0, 1) := by decide +kernel
set_option maxRecDepth 100000 in
theorem d240_379 : decode (xmb 240) 379 = .ok (.iload 4, 2) := by decide +kernel
set_option maxRecDepth 100000 in
theorem d240_381 : decode (xmb 240) 381 = .ok (.iconst 1, 1) := by decide +kernel
set_option maxRecDepth 100000 in
theorem d240_382 : decode (xmb 240) 382 = .ok (.iadd, 1) := by decide +kernel
set_option maxRecDepth 100000 in
theorem d240_383 : decode (xmb 240) 383 = .ok (.iaload, 1) := by decide +kernel
set_option maxRecDepth 100000 in
theorem d240_384 : decode (xmb 240) 384 = .ok (.aload_n 0, 1) := by decide +kernel
set_option maxRecDepth 100000 in
theorem d240_385 : decode (xmb 240) 385 = .ok (.iload 4, 2) := by decide +kernel
set_option maxRecDepth 100000 in
theorem d240_387 : decode (xmb 240) 387 = .ok (.iconst 2, 1) := by decide +kernel
set_option maxRecDepth 100000 in
theorem d240_388 : decode (xmb 240) 388 = .ok (.iadd, 1) := by decide +kernel
set_option maxRecDepth 100000 in
theorem d240_389 : decode (xmb 240) 389 = .ok (.iaload, 1) := by decide +kernel
set_option maxRecDepth 100000 in
theorem d240_390 : decode (xmb 240) 390 = .ok (.invokevirtual 136, 3) := by decide +kernel
set_option maxRecDepth 100000 in
theorem d240_393 : decode (xmb 240) 393 = .ok (.istore 6, 2) := by decide +kernel
set_option maxRecDepth 100000 in
theorem d240_395 : decode (xmb 240) 395 = .ok (.aload_n 2, 1) := by decide +kernel
set_option maxRecDepth 100000 in
theorem d240_396 : decode (xmb 240) 396 = .ok (.invokevirtual 115, 3) := by decide +kernel
set_option maxRecDepth 100000 in
theorem d240_399 : decode (xmb 240) 399 = .ok (.iload 5, 2) := by decide +kernel
set_option maxRecDepth 100000 in
theorem d240_401 : decode (xmb 240) 401 = .ok (.if_icmp .eq 5, 3) := by decide +kernel
set_option maxRecDepth 100000 in
theorem d240_404 : decode (xmb 240) 404 = .ok (.iconst 0, 1) := by decide +kernel
set_option maxRecDepth 100000 in
theorem d240_405 : decode (xmb 240) 405 = .ok (.ireturn, 1) := by decide +kernel
set_option maxRecDepth 100000 in
theorem d240_406 : decode (xmb 240) 406 = .ok (.iload 5, 2) := by decide +kernel
set_option maxRecDepth 100000 in
theorem d240_408 : decode (xmb 240) 408 = .ok (.ifCond .ne 15, 3) := by decide +kernel
set_option maxRecDepth 100000 in
theorem d240_411 : decode (xmb 240) 411 = .ok (.aload_n 3, 1) := by decide +kernel
set_option maxRecDepth 100000 in
theorem d240_412 : decode (xmb 240) 412 = .ok (.iconst 0, 1) := by decide +kernel
set_option maxRecDepth 100000 in
theorem d240_413 : decode (xmb 240) 413 = .ok (.laload, 1) := by decide +kernel
set_option maxRecDepth 100000 in
theorem d240_414 : decode (xmb 240) 414 = .ok (.iload 6, 2) := by decide +kernel
set_option maxRecDepth 100000 in
theorem d240_416 : decode (xmb 240) 416 = .ok (.i2l, 1) := by decide +kernel
set_option maxRecDepth 100000 in
theorem d240_417 : decode (xmb 240) 417 = .ok (.lcmp, 1) := by decide +kernel
set_option maxRecDepth 100000 in
theorem d240_418 : decode (xmb 240) 418 = .ok (.ifCond .eq 5, 3) := by decide +kernel
set_option maxRecDepth 100000 in
theorem d240_421 : decode (xmb 240) 421 = .ok (.iconst 0, 1) := by decide +kernel
set_option maxRecDepth 100000 in
theorem d240_422 : decode (xmb 240) 422 = .ok (.ireturn, 1) := by decide +kernel
set_option maxRecDepth 100000 in
theorem d240_423 : decode (xmb 240) 423 = .ok (.goto 1688, 3) := by decide +kernel
set_option maxRecDepth 100000 in
theorem d240_426 : decode (xmb 240) 426 = .ok (.aload_n 1, 1) := by decide +kernel
set_option maxRecDepth 100000 in
theorem d240_427 : decode (xmb 240) 427 = .ok (.aload_n 0, 1) := by decide +kernel
set_option maxRecDepth 100000 in
theorem d240_428 : decode (xmb 240) 428 = .ok (.iload 4, 2) := by decide +kernel
set_option maxRecDepth 100000 in
theorem d240_430 : decode (xmb 240) 430 = .ok (.iconst 1, 1) := by decide +kernel
set_option maxRecDepth 100000 in
theorem d240_431 : decode (xmb 240) 431 = .ok (.iadd, 1) := by decide +kernel
set_option maxRecDepth 100000 in
theorem d240_432 : decode (xmb 240) 432 = .ok (.iaload, 1) := by decide +kernel
set_option maxRecDepth 100000 in
theorem d240_433 : decode (xmb 240) 433 = .ok (.aload_n 0, 1) := by decide +kernel
set_option maxRecDepth 100000 in
theorem d240_434 : decode (xmb 240) 434 = .ok (.iload 4, 2) := by decide +kernel
set_option maxRecDepth 100000 in
theorem d240_436 : decode (xmb 240) 436 = .ok (.iconst 2, 1) := by decide +kernel
set_option maxRecDepth 100000 in
theorem d240_437 : decode (xmb 240) 437 = .ok (.iadd, 1) := by decide +kernel
set_option maxRecDepth 100000 in
theorem d240_438 : decode (xmb 240) 438 = .ok (.iaload, 1) := by decide +kernel
set_option maxRecDepth 100000 in
theorem d240_439 : decode (xmb 240) 439 = .ok (.aload_n 3, 1) := by decide +kernel
set_option maxRecDepth 100000 in
theorem d240_440 : decode (xmb 240) 440 = .ok (.invokestatic 137, 3) := by decide +kernel
set_option maxRecDepth 100000 in
theorem d240_443 : decode (xmb 240) 443 = .ok (.istore 5, 2) := by decide +kernel
set_option maxRecDepth 100000 in
theorem d240_445 : decode (xmb 240) 445 = .ok (.aload_n 2, 1) := by decide +kernel
set_option maxRecDepth 100000 in
theorem d240_446 : decode (xmb 240) 446 = .ok (.aload_n 0, 1) := by decide +kernel
set_option maxRecDepth 100000 in
theorem d240_447 : decode (xmb 240) 447 = .ok (.iload 4, 2) := by decide +kernel
set_option maxRecDepth 100000 in
theorem d240_449 : decode (xmb 240) 449 = .ok (.iconst 1, 1) := by decide +kernel
set_option maxRecDepth 100000 in
theorem d240_450 : decode (xmb 240) 450 = .ok (.iadd, 1) := by decide +kernel
set_option maxRecDepth 100000 in
theorem d240_451 : decode (xmb 240) 451 = .ok (.iaload, 1) := by decide +kernel
set_option maxRecDepth 100000 in
theorem d240_452 : decode (xmb 240) 452 = .ok (.aload_n 0, 1) := by decide +kernel
set_option maxRecDepth 100000 in
theorem d240_453 : decode (xmb 240) 453 = .ok (.iload 4, 2) := by decide +kernel
set_option maxRecDepth 100000 in
theorem d240_455 : decode (xmb 240) 455 = .ok (.iconst 2, 1) := by decide +kernel
set_option maxRecDepth 100000 in
theorem d240_456 : decode (xmb 240) 456 = .ok (.iadd, 1) := by decide +kernel
set_option maxRecDepth 100000 in
theorem d240_457 : decode (xmb 240) 457 = .ok (.iaload, 1) := by decide +kernel
set_option maxRecDepth 100000 in
theorem d240_458 : decode (xmb 240) 458 = .ok (.invokevirtual 139, 3) := by decide +kernel
set_option maxRecDepth 100000 in
theorem d240_461 : decode (xmb 240) 461 = .ok (.istore 6, 2) := by decide +kernel
set_option maxRecDepth 100000 in
theorem d240_463 : decode (xmb 240) 463 = .ok (.aload_n 2, 1) := by decide +kernel
set_option maxRecDepth 100000 in
theorem d240_464 : decode (xmb 240) 464 = .ok (.invokevirtual 115, 3) := by decide +kernel
set_option maxRecDepth 100000 in
theorem d240_467 : decode (xmb 240) 467 = .ok (.iload 5, 2) := by decide +kernel
set_option maxRecDepth 100000 in
theorem d240_469 : decode (xmb 240) 469 = .ok (.if_icmp .eq 5, 3) := by decide +kernel
set_option maxRecDepth 100000 in
theorem d240_472 : decode (xmb 240) 472 = .ok (.iconst 0, 1) := by decide +kernel
set_option maxRecDepth 100000 in
theorem d240_473 : decode (xmb 240) 473 = .ok (.ireturn, 1) := by decide +kernel
set_option maxRecDepth 100000 in
theorem d240_474 : decode (xmb 240) 474 = .ok (.iload 5, 2) := by decide +kernel
set_option maxRecDepth 100000 in
theorem d240_476 : decode (xmb 240) 476 = .ok (.ifCond .ne 15, 3) := by decide +kernel
set_option maxRecDepth 100000 in
theorem d240_479 : decode (xmb 240) 479 = .ok (.aload_n 3, 1) := by decide +kernel
set_option maxRecDepth 100000 in
theorem d240_480 : decode (xmb 240) 480 = .ok (.iconst 0, 1) := by decide +kernel
set_option maxRecDepth 100000 in
theorem d240_481 : decode (xmb 240) 481 = .ok (.laload, 1) := by decide +kernel
set_option maxRecDepth 100000 in
theorem d240_482 : decode (xmb 240) 482 = .ok (.iload 6, 2) := by decide +kernel
set_option maxRecDepth 100000 in
theorem d240_484 : decode (xmb 240) 484 = .ok (.i2l, 1) := by decide +kernel
set_option maxRecDepth 100000 in
theorem d240_485 : decode (xmb 240) 485 = .ok (.lcmp, 1) := by decide +kernel
set_option maxRecDepth 100000 in
theorem d240_486 : decode (xmb 240) 486 = .ok (.ifCond .eq 5, 3) := by decide +kernel
set_option maxRecDepth 100000 in
theorem d240_489 : decode (xmb 240) 489 = .ok (.iconst 0, 1) := by decide +kernel
set_option maxRecDepth 100000 in
theorem d240_490 : decode (xmb 240) 490 = .ok (.ireturn, 1) := by decide +kernel
set_option maxRecDepth 100000 in
theorem d240_491 : decode (xmb 240) 491 = .ok (.goto 1620, 3) := by decide +kernel
set_option maxRecDepth 100000 in
theorem d240_494 : decode (xmb 240) 494 = .ok (.aload_n 1, 1) := by decide +kernel
set_option maxRecDepth 100000 in
theorem d240_495 : decode (xmb 240) 495 = .ok (.aload_n 0, 1) := by decide +kernel
set_option maxRecDepth 100000 in
theorem d240_496 : decode (xmb 240) 496 = .ok (.iload 4, 2) := by decide +kernel
set_option maxRecDepth 100000 in
theorem d240_498 : decode (xmb 240) 498 = .ok (.iconst 1, 1) := by decide +kernel
set_option maxRecDepth 100000 in
theorem d240_499 : decode (xmb 240) 499 = .ok (.iadd, 1) := by decide +kernel
set_option maxRecDepth 100000 in
theorem d240_500 : decode (xmb 240) 500 = .ok (.iaload, 1) := by decide +kernel
set_option maxRecDepth 100000 in
theorem d240_501 : decode (xmb 240) 501 = .ok (.aload_n 0, 1) := by decide +kernel
set_option maxRecDepth 100000 in
theorem d240_502 : decode (xmb 240) 502 = .ok (.iload 4, 2) := by decide +kernel
set_option maxRecDepth 100000 in
theorem d240_504 : decode (xmb 240) 504 = .ok (.iconst 2, 1) := by decide +kernel
set_option maxRecDepth 100000 in
theorem d240_505 : decode (xmb 240) 505 = .ok (.iadd, 1) := by decide +kernel
set_option maxRecDepth 100000 in
theorem d240_506 : decode (xmb 240) 506 = .ok (.iaload, 1) := by decide +kernel
set_option maxRecDepth 100000 in
theorem d240_507 : decode (xmb 240) 507 = .ok (.aload_n 3, 1) := by decide +kernel
set_option maxRecDepth 100000 in
theorem d240_508 : decode (xmb 240) 508 = .ok (.invokestatic 140, 3) := by decide +kernel
set_option maxRecDepth 100000 in
theorem d240_511 : decode (xmb 240) 511 = .ok (.istore 5, 2) := by decide +kernel
set_option maxRecDepth 100000 in
theorem d240_513 : decode (xmb 240) 513 = .ok (.aload_n 2, 1) := by decide +kernel
set_option maxRecDepth 100000 in
theorem d240_514 : decode (xmb 240) 514 = .ok (.aload_n 0, 1) := by decide +kernel
set_option maxRecDepth 100000 in
theorem d240_515 : decode (xmb 240) 515 = .ok (.iload 4, 2) := by decide +kernel
set_option maxRecDepth 100000 in
theorem d240_517 : decode (xmb 240) 517 = .ok (.iconst 1, 1) := by decide +kernel
set_option maxRecDepth 100000 in
theorem d240_518 : decode (xmb 240) 518 = .ok (.iadd, 1) := by decide +kernel
set_option maxRecDepth 100000 in
theorem d240_519 : decode (xmb 240) 519 = .ok (.iaload, 1) := by decide +kernel
set_option maxRecDepth 100000 in
theorem d240_520 : decode (xmb 240) 520 = .ok (.aload_n 0, 1) := by decide +kernel
set_option maxRecDepth 100000 in
theorem d240_521 : decode (xmb 240) 521 = .ok (.iload 4, 2) := by decide +kernel
set_option maxRecDepth 100000 in
theorem d240_523 : decode (xmb 240) 523 = .ok (.iconst 2, 1) := by decide +kernel
set_option maxRecDepth 100000 in
theorem d240_524 : decode (xmb 240) 524 = .ok (.iadd, 1) := by decide +kernel
set_option maxRecDepth 100000 in
theorem d240_525 : decode (xmb 240) 525 = .ok (.iaload, 1) := by decide +kernel
set_option maxRecDepth 100000 in
theorem d240_526 : decode (xmb 240) 526 = .ok (.invokevirtual 142, 3) := by decide +kernel
