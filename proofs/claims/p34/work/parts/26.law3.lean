set_option maxRecDepth 100000 in
theorem d137_250 : decode (xmb 137) 250 = .ok (.lstore 11, 2) := by decide +kernel
set_option maxRecDepth 100000 in
theorem d137_252 : decode (xmb 137) 252 = .ok (.aload_n 0, 1) := by decide +kernel
set_option maxRecDepth 100000 in
theorem d137_253 : decode (xmb 137) 253 = .ok (.iload 10, 2) := by decide +kernel
set_option maxRecDepth 100000 in
theorem d137_255 : decode (xmb 137) 255 = .ok (.iconst 4, 1) := by decide +kernel
set_option maxRecDepth 100000 in
theorem d137_256 : decode (xmb 137) 256 = .ok (.invokestatic 131, 3) := by decide +kernel
set_option maxRecDepth 100000 in
theorem d137_259 : decode (xmb 137) 259 = .ok (.lstore 13, 2) := by decide +kernel
set_option maxRecDepth 100000 in
theorem d137_261 : decode (xmb 137) 261 = .ok (.aload_n 0, 1) := by decide +kernel
set_option maxRecDepth 100000 in
theorem d137_262 : decode (xmb 137) 262 = .ok (.iload 10, 2) := by decide +kernel
set_option maxRecDepth 100000 in
theorem d137_264 : decode (xmb 137) 264 = .ok (.bipush 6, 2) := by decide +kernel
set_option maxRecDepth 100000 in
theorem d137_266 : decode (xmb 137) 266 = .ok (.invokestatic 131, 3) := by decide +kernel
set_option maxRecDepth 100000 in
theorem d137_269 : decode (xmb 137) 269 = .ok (.lstore 15, 2) := by decide +kernel
set_option maxRecDepth 100000 in
theorem d137_271 : decode (xmb 137) 271 = .ok (.iload 5, 2) := by decide +kernel
set_option maxRecDepth 100000 in
theorem d137_273 : decode (xmb 137) 273 = .ok (.lload 11, 2) := by decide +kernel
set_option maxRecDepth 100000 in
theorem d137_275 : decode (xmb 137) 275 = .ok (.ldc2_w 201, 3) := by decide +kernel
set_option maxRecDepth 100000 in
theorem d137_278 : decode (xmb 137) 278 = .ok (.lcmp, 1) := by decide +kernel
set_option maxRecDepth 100000 in
theorem d137_279 : decode (xmb 137) 279 = .ok (.ifCond .ne 7, 3) := by decide +kernel
set_option maxRecDepth 100000 in
theorem d137_282 : decode (xmb 137) 282 = .ok (.iconst 1, 1) := by decide +kernel
set_option maxRecDepth 100000 in
theorem d137_283 : decode (xmb 137) 283 = .ok (.goto 4, 3) := by decide +kernel
set_option maxRecDepth 100000 in
theorem d137_286 : decode (xmb 137) 286 = .ok (.iconst 0, 1) := by decide +kernel
set_option maxRecDepth 100000 in
theorem d137_287 : decode (xmb 137) 287 = .ok (.iadd, 1) := by decide +kernel
set_option maxRecDepth 100000 in
theorem d137_288 : decode (xmb 137) 288 = .ok (.istore 5, 2) := by decide +kernel
set_option maxRecDepth 100000 in
theorem d137_290 : decode (xmb 137) 290 = .ok (.lload 6, 2) := by decide +kernel
set_option maxRecDepth 100000 in
theorem d137_292 : decode (xmb 137) 292 = .ok (.aload_n 0, 1) := by decide +kernel
set_option maxRecDepth 100000 in
theorem d137_293 : decode (xmb 137) 293 = .ok (.iload 10, 2) := by decide +kernel
set_option maxRecDepth 100000 in
theorem d137_295 : decode (xmb 137) 295 = .ok (.iconst 0, 1) := by decide +kernel
set_option maxRecDepth 100000 in
theorem d137_296 : decode (xmb 137) 296 = .ok (.invokestatic 131, 3) := by decide +kernel
set_option maxRecDepth 100000 in
theorem d137_299 : decode (xmb 137) 299 = .ok (.ladd, 1) := by decide +kernel
set_option maxRecDepth 100000 in
theorem d137_300 : decode (xmb 137) 300 = .ok (.lstore 6, 2) := by decide +kernel
set_option maxRecDepth 100000 in
theorem d137_302 : decode (xmb 137) 302 = .ok (.lload 15, 2) := by decide +kernel
set_option maxRecDepth 100000 in
theorem d137_304 : decode (xmb 137) 304 = .ok (.lload 8, 2) := by decide +kernel
set_option maxRecDepth 100000 in
theorem d137_306 : decode (xmb 137) 306 = .ok (.lcmp, 1) := by decide +kernel
set_option maxRecDepth 100000 in
theorem d137_307 : decode (xmb 137) 307 = .ok (.ifCond .le 8, 3) := by decide +kernel
set_option maxRecDepth 100000 in
theorem d137_310 : decode (xmb 137) 310 = .ok (.lload 15, 2) := by decide +kernel
set_option maxRecDepth 100000 in
theorem d137_312 : decode (xmb 137) 312 = .ok (.goto 5, 3) := by decide +kernel
set_option maxRecDepth 100000 in
theorem d137_315 : decode (xmb 137) 315 = .ok (.lload 8, 2) := by decide +kernel
set_option maxRecDepth 100000 in
theorem d137_317 : decode (xmb 137) 317 = .ok (.lstore 8, 2) := by decide +kernel
set_option maxRecDepth 100000 in
theorem d137_319 : decode (xmb 137) 319 = .ok (.lload 11, 2) := by decide +kernel
set_option maxRecDepth 100000 in
theorem d137_321 : decode (xmb 137) 321 = .ok (.ldc2_w 201, 3) := by decide +kernel
set_option maxRecDepth 100000 in
theorem d137_324 : decode (xmb 137) 324 = .ok (.lcmp, 1) := by decide +kernel
set_option maxRecDepth 100000 in
theorem d137_325 : decode (xmb 137) 325 = .ok (.ifCond .ne 21, 3) := by decide +kernel
set_option maxRecDepth 100000 in
theorem d137_328 : decode (xmb 137) 328 = .ok (.aload_n 0, 1) := by decide +kernel
set_option maxRecDepth 100000 in
theorem d137_329 : decode (xmb 137) 329 = .ok (.iload 10, 2) := by decide +kernel
set_option maxRecDepth 100000 in
theorem d137_331 : decode (xmb 137) 331 = .ok (.bipush 8, 2) := by decide +kernel
set_option maxRecDepth 100000 in
theorem d137_333 : decode (xmb 137) 333 = .ok (.invokestatic 131, 3) := by decide +kernel
set_option maxRecDepth 100000 in
theorem d137_336 : decode (xmb 137) 336 = .ok (.ldc2_w 201, 3) := by decide +kernel
set_option maxRecDepth 100000 in
theorem d137_339 : decode (xmb 137) 339 = .ok (.lcmp, 1) := by decide +kernel
set_option maxRecDepth 100000 in
theorem d137_340 : decode (xmb 137) 340 = .ok (.ifCond .ne 80, 3) := by decide +kernel
set_option maxRecDepth 100000 in
theorem d137_343 : decode (xmb 137) 343 = .ok (.goto 40, 3) := by decide +kernel
set_option maxRecDepth 100000 in
theorem d137_346 : decode (xmb 137) 346 = .ok (.aload_n 0, 1) := by decide +kernel
set_option maxRecDepth 100000 in
theorem d137_347 : decode (xmb 137) 347 = .ok (.iload 10, 2) := by decide +kernel
set_option maxRecDepth 100000 in
theorem d137_349 : decode (xmb 137) 349 = .ok (.bipush 8, 2) := by decide +kernel
set_option maxRecDepth 100000 in
theorem d137_351 : decode (xmb 137) 351 = .ok (.invokestatic 131, 3) := by decide +kernel
set_option maxRecDepth 100000 in
theorem d137_354 : decode (xmb 137) 354 = .ok (.lload 11, 2) := by decide +kernel
set_option maxRecDepth 100000 in
theorem d137_356 : decode (xmb 137) 356 = .ok (.aload_n 0, 1) := by decide +kernel
set_option maxRecDepth 100000 in
theorem d137_357 : decode (xmb 137) 357 = .ok (.iload 10, 2) := by decide +kernel
set_option maxRecDepth 100000 in
theorem d137_359 : decode (xmb 137) 359 = .ok (.iconst 0, 1) := by decide +kernel
set_option maxRecDepth 100000 in
theorem d137_360 : decode (xmb 137) 360 = .ok (.invokestatic 131, 3) := by decide +kernel
set_option maxRecDepth 100000 in
theorem d137_363 : decode (xmb 137) 363 = .ok (.ladd, 1) := by decide +kernel
set_option maxRecDepth 100000 in
theorem d137_364 : decode (xmb 137) 364 = .ok (.lcmp, 1) := by decide +kernel
set_option maxRecDepth 100000 in
theorem d137_365 : decode (xmb 137) 365 = .ok (.ifCond .ne 55, 3) := by decide +kernel
set_option maxRecDepth 100000 in
theorem d137_368 : decode (xmb 137) 368 = .ok (.aload_n 0, 1) := by decide +kernel
set_option maxRecDepth 100000 in
theorem d137_369 : decode (xmb 137) 369 = .ok (.iload 10, 2) := by decide +kernel
set_option maxRecDepth 100000 in
theorem d137_371 : decode (xmb 137) 371 = .ok (.bipush 8, 2) := by decide +kernel
set_option maxRecDepth 100000 in
theorem d137_373 : decode (xmb 137) 373 = .ok (.invokestatic 131, 3) := by decide +kernel
set_option maxRecDepth 100000 in
theorem d137_376 : decode (xmb 137) 376 = .ok (.iload 4, 2) := by decide +kernel
set_option maxRecDepth 100000 in
theorem d137_378 : decode (xmb 137) 378 = .ok (.i2l, 1) := by decide +kernel
set_option maxRecDepth 100000 in
theorem d137_379 : decode (xmb 137) 379 = .ok (.lcmp, 1) := by decide +kernel
set_option maxRecDepth 100000 in
theorem d137_380 : decode (xmb 137) 380 = .ok (.ifCond .gt 40, 3) := by decide +kernel
set_option maxRecDepth 100000 in
theorem d137_383 : decode (xmb 137) 383 = .ok (.lload 15, 2) := by decide +kernel
set_option maxRecDepth 100000 in
theorem d137_385 : decode (xmb 137) 385 = .ok (.aload_n 0, 1) := by decide +kernel
set_option maxRecDepth 100000 in
theorem d137_386 : decode (xmb 137) 386 = .ok (.iload 10, 2) := by decide +kernel
set_option maxRecDepth 100000 in
theorem d137_388 : decode (xmb 137) 388 = .ok (.iconst 0, 1) := by decide +kernel
set_option maxRecDepth 100000 in
theorem d137_389 : decode (xmb 137) 389 = .ok (.invokestatic 131, 3) := by decide +kernel
set_option maxRecDepth 100000 in
theorem d137_392 : decode (xmb 137) 392 = .ok (.lload 6, 2) := by decide +kernel
set_option maxRecDepth 100000 in
theorem d137_394 : decode (xmb 137) 394 = .ok (.ldc2_w 203, 3) := by decide +kernel
set_option maxRecDepth 100000 in
theorem d137_397 : decode (xmb 137) 397 = .ok (.ladd, 1) := by decide +kernel
set_option maxRecDepth 100000 in
theorem d137_398 : decode (xmb 137) 398 = .ok (.invokestatic 195, 3) := by decide +kernel
set_option maxRecDepth 100000 in
theorem d137_401 : decode (xmb 137) 401 = .ok (.ifCond .eq 19, 3) := by decide +kernel
set_option maxRecDepth 100000 in
theorem d137_404 : decode (xmb 137) 404 = .ok (.lload 13, 2) := by decide +kernel
set_option maxRecDepth 100000 in
theorem d137_406 : decode (xmb 137) 406 = .ok (.iload 10, 2) := by decide +kernel
set_option maxRecDepth 100000 in
theorem d137_408 : decode (xmb 137) 408 = .ok (.lshr, 1) := by decide +kernel
set_option maxRecDepth 100000 in
theorem d137_409 : decode (xmb 137) 409 = .ok (.lconst 1, 1) := by decide +kernel
set_option maxRecDepth 100000 in
theorem d137_410 : decode (xmb 137) 410 = .ok (.land, 1) := by decide +kernel
set_option maxRecDepth 100000 in
theorem d137_411 : decode (xmb 137) 411 = .ok (.lconst 0, 1) := by decide +kernel
set_option maxRecDepth 100000 in
theorem d137_412 : decode (xmb 137) 412 = .ok (.lcmp, 1) := by decide +kernel
set_option maxRecDepth 100000 in
theorem d137_413 : decode (xmb 137) 413 = .ok (.ifCond .ne 7, 3) := by decide +kernel
set_option maxRecDepth 100000 in
theorem d137_416 : decode (xmb 137) 416 = .ok (.iconst 1, 1) := by decide +kernel
set_option maxRecDepth 100000 in
theorem d137_417 : decode (xmb 137) 417 = .ok (.goto 4, 3) := by decide +kernel
set_option maxRecDepth 100000 in
theorem d137_420 : decode (xmb 137) 420 = .ok (.iconst 0, 1) := by decide +kernel
set_option maxRecDepth 100000 in
theorem d137_421 : decode (xmb 137) 421 = .ok (.istore_n 1, 1) := by decide +kernel
set_option maxRecDepth 100000 in
theorem d137_422 : decode (xmb 137) 422 = .ok (.iconst 0, 1) := by decide +kernel
set_option maxRecDepth 100000 in
theorem d137_423 : decode (xmb 137) 423 = .ok (.istore 17, 2) := by decide +kernel
set_option maxRecDepth 100000 in
theorem d137_425 : decode (xmb 137) 425 = .ok (.iload 17, 2) := by decide +kernel
set_option maxRecDepth 100000 in
theorem d137_427 : decode (xmb 137) 427 = .ok (.i2l, 1) := by decide +kernel
set_option maxRecDepth 100000 in
theorem d137_428 : decode (xmb 137) 428 = .ok (.aload_n 0, 1) := by decide +kernel
set_option maxRecDepth 100000 in
theorem d137_429 : decode (xmb 137) 429 = .ok (.iconst 1, 1) := by decide +kernel
set_option maxRecDepth 100000 in
theorem d137_430 : decode (xmb 137) 430 = .ok (.invokestatic 117, 3) := by decide +kernel
set_option maxRecDepth 100000 in
theorem d137_433 : decode (xmb 137) 433 = .ok (.lcmp, 1) := by decide +kernel
set_option maxRecDepth 100000 in
theorem d137_434 : decode (xmb 137) 434 = .ok (.ifCond .ge 134, 3) := by decide +kernel
set_option maxRecDepth 100000 in
theorem d137_437 : decode (xmb 137) 437 = .ok (.iload_n 1, 1) := by decide +kernel
set_option maxRecDepth 100000 in
theorem d137_438 : decode (xmb 137) 438 = .ok (.ifCond .eq 130, 3) := by decide +kernel
set_option maxRecDepth 100000 in
theorem d137_441 : decode (xmb 137) 441 = .ok (.lload 13, 2) := by decide +kernel
set_option maxRecDepth 100000 in
theorem d137_443 : decode (xmb 137) 443 = .ok (.iload 17, 2) := by decide +kernel
set_option maxRecDepth 100000 in
theorem d137_445 : decode (xmb 137) 445 = .ok (.lshr, 1) := by decide +kernel
set_option maxRecDepth 100000 in
theorem d137_446 : decode (xmb 137) 446 = .ok (.lconst 1, 1) := by decide +kernel
set_option maxRecDepth 100000 in
theorem d137_447 : decode (xmb 137) 447 = .ok (.land, 1) := by decide +kernel
set_option maxRecDepth 100000 in
theorem d137_448 : decode (xmb 137) 448 = .ok (.lconst 1, 1) := by decide +kernel
set_option maxRecDepth 100000 in
theorem d137_449 : decode (xmb 137) 449 = .ok (.lcmp, 1) := by decide +kernel
set_option maxRecDepth 100000 in
theorem d137_450 : decode (xmb 137) 450 = .ok (.ifCond .ne 7, 3) := by decide +kernel
set_option maxRecDepth 100000 in
theorem d137_453 : decode (xmb 137) 453 = .ok (.iconst 1, 1) := by decide +kernel
set_option maxRecDepth 100000 in
theorem d137_454 : decode (xmb 137) 454 = .ok (.goto 4, 3) := by decide +kernel
set_option maxRecDepth 100000 in
theorem d137_457 : decode (xmb 137) 457 = .ok (.iconst 0, 1) := by decide +kernel
set_option maxRecDepth 100000 in
theorem d137_458 : decode (xmb 137) 458 = .ok (.istore 18, 2) := by decide +kernel
set_option maxRecDepth 100000 in
theorem d137_460 : decode (xmb 137) 460 = .ok (.aload_n 0, 1) := by decide +kernel
set_option maxRecDepth 100000 in
theorem d137_461 : decode (xmb 137) 461 = .ok (.iload 17, 2) := by decide +kernel
set_option maxRecDepth 100000 in
theorem d137_463 : decode (xmb 137) 463 = .ok (.iconst 5, 1) := by decide +kernel
set_option maxRecDepth 100000 in
theorem d137_464 : decode (xmb 137) 464 = .ok (.invokestatic 131, 3) := by decide +kernel
set_option maxRecDepth 100000 in
theorem d137_467 : decode (xmb 137) 467 = .ok (.iload 10, 2) := by decide +kernel
set_option maxRecDepth 100000 in
theorem d137_469 : decode (xmb 137) 469 = .ok (.lshr, 1) := by decide +kernel
set_option maxRecDepth 100000 in
theorem d137_470 : decode (xmb 137) 470 = .ok (.lconst 1, 1) := by decide +kernel
set_option maxRecDepth 100000 in
theorem d137_471 : decode (xmb 137) 471 = .ok (.land, 1) := by decide +kernel
set_option maxRecDepth 100000 in
theorem d137_472 : decode (xmb 137) 472 = .ok (.iload 18, 2) := by decide +kernel
set_option maxRecDepth 100000 in
theorem d137_474 : decode (xmb 137) 474 = .ok (.ifCond .eq 7, 3) := by decide +kernel
set_option maxRecDepth 100000 in
theorem d137_477 : decode (xmb 137) 477 = .ok (.lconst 1, 1) := by decide +kernel
set_option maxRecDepth 100000 in
theorem d137_478 : decode (xmb 137) 478 = .ok (.goto 4, 3) := by decide +kernel
set_option maxRecDepth 100000 in
theorem d137_481 : decode (xmb 137) 481 = .ok (.lconst 0, 1) := by decide +kernel
set_option maxRecDepth 100000 in
theorem d137_482 : decode (xmb 137) 482 = .ok (.lcmp, 1) := by decide +kernel
set_option maxRecDepth 100000 in
theorem d137_483 : decode (xmb 137) 483 = .ok (.ifCond .ne 77, 3) := by decide +kernel
set_option maxRecDepth 100000 in
theorem d137_486 : decode (xmb 137) 486 = .ok (.iload 18, 2) := by decide +kernel
set_option maxRecDepth 100000 in
theorem d137_488 : decode (xmb 137) 488 = .ok (.ifCond .eq 41, 3) := by decide +kernel
set_option maxRecDepth 100000 in
theorem d137_491 : decode (xmb 137) 491 = .ok (.lload 11, 2) := by decide +kernel
set_option maxRecDepth 100000 in
theorem d137_493 : decode (xmb 137) 493 = .ok (.ldc2_w 201, 3) := by decide +kernel
set_option maxRecDepth 100000 in
theorem d137_496 : decode (xmb 137) 496 = .ok (.lcmp, 1) := by decide +kernel
set_option maxRecDepth 100000 in
theorem d137_497 : decode (xmb 137) 497 = .ok (.ifCond .eq 32, 3) := by decide +kernel
set_option maxRecDepth 100000 in
theorem d137_500 : decode (xmb 137) 500 = .ok (.aload_n 0, 1) := by decide +kernel
set_option maxRecDepth 100000 in
theorem d137_501 : decode (xmb 137) 501 = .ok (.iload 17, 2) := by decide +kernel
set_option maxRecDepth 100000 in
theorem d137_503 : decode (xmb 137) 503 = .ok (.bipush 8, 2) := by decide +kernel
set_option maxRecDepth 100000 in
theorem d137_505 : decode (xmb 137) 505 = .ok (.invokestatic 131, 3) := by decide +kernel
set_option maxRecDepth 100000 in
theorem d137_508 : decode (xmb 137) 508 = .ok (.ldc2_w 201, 3) := by decide +kernel
set_option maxRecDepth 100000 in
theorem d137_511 : decode (xmb 137) 511 = .ok (.lcmp, 1) := by decide +kernel
set_option maxRecDepth 100000 in
theorem d137_512 : decode (xmb 137) 512 = .ok (.ifCond .eq 48, 3) := by decide +kernel
set_option maxRecDepth 100000 in
theorem d137_515 : decode (xmb 137) 515 = .ok (.aload_n 0, 1) := by decide +kernel
set_option maxRecDepth 100000 in
theorem d137_516 : decode (xmb 137) 516 = .ok (.iload 17, 2) := by decide +kernel
set_option maxRecDepth 100000 in
theorem d137_518 : decode (xmb 137) 518 = .ok (.bipush 8, 2) := by decide +kernel
set_option maxRecDepth 100000 in
theorem d137_520 : decode (xmb 137) 520 = .ok (.invokestatic 131, 3) := by decide +kernel
set_option maxRecDepth 100000 in
theorem d137_523 : decode (xmb 137) 523 = .ok (.lload 11, 2) := by decide +kernel
set_option maxRecDepth 100000 in
theorem d137_525 : decode (xmb 137) 525 = .ok (.lcmp, 1) := by decide +kernel
set_option maxRecDepth 100000 in
theorem d137_526 : decode (xmb 137) 526 = .ok (.ifCond .gt 34, 3) := by decide +kernel
set_option maxRecDepth 100000 in
theorem d137_529 : decode (xmb 137) 529 = .ok (.iload 18, 2) := by decide +kernel
set_option maxRecDepth 100000 in
theorem d137_531 : decode (xmb 137) 531 = .ok (.ifCond .eq 25, 3) := by decide +kernel
set_option maxRecDepth 100000 in
theorem d137_534 : decode (xmb 137) 534 = .ok (.aload_n 0, 1) := by decide +kernel
set_option maxRecDepth 100000 in
theorem d137_535 : decode (xmb 137) 535 = .ok (.iload 17, 2) := by decide +kernel
set_option maxRecDepth 100000 in
theorem d137_537 : decode (xmb 137) 537 = .ok (.bipush 6, 2) := by decide +kernel
set_option maxRecDepth 100000 in
theorem d137_539 : decode (xmb 137) 539 = .ok (.invokestatic 131, 3) := by decide +kernel
set_option maxRecDepth 100000 in
theorem d137_542 : decode (xmb 137) 542 = .ok (.aload_n 0, 1) := by decide +kernel
set_option maxRecDepth 100000 in
theorem d137_543 : decode (xmb 137) 543 = .ok (.iload 17, 2) := by decide +kernel
set_option maxRecDepth 100000 in
theorem d137_545 : decode (xmb 137) 545 = .ok (.iconst 0, 1) := by decide +kernel
set_option maxRecDepth 100000 in
theorem d137_546 : decode (xmb 137) 546 = .ok (.invokestatic 131, 3) := by decide +kernel
set_option maxRecDepth 100000 in
theorem d137_549 : decode (xmb 137) 549 = .ok (.lload 15, 2) := by decide +kernel
set_option maxRecDepth 100000 in
theorem d137_551 : decode (xmb 137) 551 = .ok (.ladd, 1) := by decide +kernel
set_option maxRecDepth 100000 in
theorem d137_552 : decode (xmb 137) 552 = .ok (.lcmp, 1) := by decide +kernel
set_option maxRecDepth 100000 in
theorem d137_553 : decode (xmb 137) 553 = .ok (.ifCond .lt 7, 3) := by decide +kernel
set_option maxRecDepth 100000 in
theorem d137_556 : decode (xmb 137) 556 = .ok (.iconst 1, 1) := by decide +kernel
set_option maxRecDepth 100000 in
theorem d137_557 : decode (xmb 137) 557 = .ok (.goto 4, 3) := by decide +kernel
set_option maxRecDepth 100000 in
theorem d137_560 : decode (xmb 137) 560 = .ok (.iconst 0, 1) := by decide +kernel
set_option maxRecDepth 100000 in
theorem d137_561 : decode (xmb 137) 561 = .ok (.istore_n 1, 1) := by decide +kernel
set_option maxRecDepth 100000 in
theorem d137_562 : decode (xmb 137) 562 = .ok (.iinc 17 1, 3) := by decide +kernel
set_option maxRecDepth 100000 in
theorem d137_565 : decode (xmb 137) 565 = .ok (.goto (-140), 3) := by decide +kernel
set_option maxRecDepth 100000 in
theorem d137_568 : decode (xmb 137) 568 = .ok (.iconst 0, 1) := by decide +kernel
set_option maxRecDepth 100000 in
theorem d137_569 : decode (xmb 137) 569 = .ok (.istore 17, 2) := by decide +kernel
set_option maxRecDepth 100000 in
theorem d137_571 : decode (xmb 137) 571 = .ok (.iload 17, 2) := by decide +kernel
set_option maxRecDepth 100000 in
theorem d137_573 : decode (xmb 137) 573 = .ok (.bipush 9, 2) := by decide +kernel
set_option maxRecDepth 100000 in
theorem d137_575 : decode (xmb 137) 575 = .ok (.if_icmp .ge 94, 3) := by decide +kernel
set_option maxRecDepth 100000 in
theorem d137_578 : decode (xmb 137) 578 = .ok (.iload_n 1, 1) := by decide +kernel
set_option maxRecDepth 100000 in
theorem d137_579 : decode (xmb 137) 579 = .ok (.ifCond .eq 90, 3) := by decide +kernel
set_option maxRecDepth 100000 in
theorem d137_582 : decode (xmb 137) 582 = .ok (.lload 11, 2) := by decide +kernel
set_option maxRecDepth 100000 in
theorem d137_584 : decode (xmb 137) 584 = .ok (.ldc2_w 201, 3) := by decide +kernel
set_option maxRecDepth 100000 in
theorem d137_587 : decode (xmb 137) 587 = .ok (.lcmp, 1) := by decide +kernel
set_option maxRecDepth 100000 in
theorem d137_588 : decode (xmb 137) 588 = .ok (.ifCond .eq 81, 3) := by decide +kernel
set_option maxRecDepth 100000 in
theorem d137_591 : decode (xmb 137) 591 = .ok (.aload_n 0, 1) := by decide +kernel
set_option maxRecDepth 100000 in
theorem d137_592 : decode (xmb 137) 592 = .ok (.lload 11, 2) := by decide +kernel
set_option maxRecDepth 100000 in
theorem d137_594 : decode (xmb 137) 594 = .ok (.l2i, 1) := by decide +kernel
set_option maxRecDepth 100000 in
theorem d137_595 : decode (xmb 137) 595 = .ok (.iload 17, 2) := by decide +kernel
set_option maxRecDepth 100000 in
theorem d137_597 : decode (xmb 137) 597 = .ok (.invokestatic 150, 3) := by decide +kernel
set_option maxRecDepth 100000 in
theorem d137_600 : decode (xmb 137) 600 = .ok (.lstore 18, 2) := by decide +kernel
set_option maxRecDepth 100000 in
theorem d137_602 : decode (xmb 137) 602 = .ok (.iload 17, 2) := by decide +kernel
set_option maxRecDepth 100000 in
theorem d137_604 : decode (xmb 137) 604 = .ok (.ifCond .ne 17, 3) := by decide +kernel
set_option maxRecDepth 100000 in
theorem d137_607 : decode (xmb 137) 607 = .ok (.lload 18, 2) := by decide +kernel
set_option maxRecDepth 100000 in
theorem d137_609 : decode (xmb 137) 609 = .ok (.lconst 0, 1) := by decide +kernel
set_option maxRecDepth 100000 in
theorem d137_610 : decode (xmb 137) 610 = .ok (.aload_n 0, 1) := by decide +kernel
set_option maxRecDepth 100000 in
theorem d137_611 : decode (xmb 137) 611 = .ok (.iconst 3, 1) := by decide +kernel
set_option maxRecDepth 100000 in
theorem d137_612 : decode (xmb 137) 612 = .ok (.invokestatic 122, 3) := by decide +kernel
set_option maxRecDepth 100000 in
theorem d137_615 : decode (xmb 137) 615 = .ok (.invokestatic 195, 3) := by decide +kernel
set_option maxRecDepth 100000 in
theorem d137_618 : decode (xmb 137) 618 = .ok (.goto 44, 3) := by decide +kernel
set_option maxRecDepth 100000 in
theorem d137_621 : decode (xmb 137) 621 = .ok (.iload 17, 2) := by decide +kernel
set_option maxRecDepth 100000 in
theorem d137_623 : decode (xmb 137) 623 = .ok (.iconst 5, 1) := by decide +kernel
set_option maxRecDepth 100000 in
theorem d137_624 : decode (xmb 137) 624 = .ok (.if_icmp .ge 37, 3) := by decide +kernel
set_option maxRecDepth 100000 in
theorem d137_627 : decode (xmb 137) 627 = .ok (.lload 18, 2) := by decide +kernel
set_option maxRecDepth 100000 in
theorem d137_629 : decode (xmb 137) 629 = .ok (.aload_n 0, 1) := by decide +kernel
set_option maxRecDepth 100000 in
theorem d137_630 : decode (xmb 137) 630 = .ok (.lload 11, 2) := by decide +kernel
set_option maxRecDepth 100000 in
theorem d137_632 : decode (xmb 137) 632 = .ok (.l2i, 1) := by decide +kernel
set_option maxRecDepth 100000 in
theorem d137_633 : decode (xmb 137) 633 = .ok (.iload 17, 2) := by decide +kernel
set_option maxRecDepth 100000 in
theorem d137_635 : decode (xmb 137) 635 = .ok (.iconst 4, 1) := by decide +kernel
set_option maxRecDepth 100000 in
theorem d137_636 : decode (xmb 137) 636 = .ok (.iadd, 1) := by decide +kernel
set_option maxRecDepth 100000 in
theorem d137_637 : decode (xmb 137) 637 = .ok (.invokestatic 150, 3) := by decide +kernel
set_option maxRecDepth 100000 in
theorem d137_640 : decode (xmb 137) 640 = .ok (.ladd, 1) := by decide +kernel
set_option maxRecDepth 100000 in
theorem d137_641 : decode (xmb 137) 641 = .ok (.aload_n 0, 1) := by decide +kernel
set_option maxRecDepth 100000 in
theorem d137_642 : decode (xmb 137) 642 = .ok (.iload 17, 2) := by decide +kernel
set_option maxRecDepth 100000 in
theorem d137_644 : decode (xmb 137) 644 = .ok (.iconst 1, 1) := by decide +kernel
set_option maxRecDepth 100000 in
theorem d137_645 : decode (xmb 137) 645 = .ok (.isub, 1) := by decide +kernel
set_option maxRecDepth 100000 in
theorem d137_646 : decode (xmb 137) 646 = .ok (.invokestatic 126, 3) := by decide +kernel
set_option maxRecDepth 100000 in
theorem d137_649 : decode (xmb 137) 649 = .ok (.lcmp, 1) := by decide +kernel
set_option maxRecDepth 100000 in
theorem d137_650 : decode (xmb 137) 650 = .ok (.ifCond .gt 7, 3) := by decide +kernel
set_option maxRecDepth 100000 in
theorem d137_653 : decode (xmb 137) 653 = .ok (.iconst 1, 1) := by decide +kernel
set_option maxRecDepth 100000 in
theorem d137_654 : decode (xmb 137) 654 = .ok (.goto 8, 3) := by decide +kernel
set_option maxRecDepth 100000 in
theorem d137_657 : decode (xmb 137) 657 = .ok (.iconst 0, 1) := by decide +kernel
set_option maxRecDepth 100000 in
theorem d137_658 : decode (xmb 137) 658 = .ok (.goto 4, 3) := by decide +kernel
set_option maxRecDepth 100000 in
theorem d137_661 : decode (xmb 137) 661 = .ok (.iconst 1, 1) := by decide +kernel
set_option maxRecDepth 100000 in
theorem d137_662 : decode (xmb 137) 662 = .ok (.istore_n 1, 1) := by decide +kernel
set_option maxRecDepth 100000 in
theorem d137_663 : decode (xmb 137) 663 = .ok (.iinc 17 1, 3) := by decide +kernel
set_option maxRecDepth 100000 in
theorem d137_666 : decode (xmb 137) 666 = .ok (.goto (-95), 3) := by decide +kernel
set_option maxRecDepth 100000 in
theorem d137_669 : decode (xmb 137) 669 = .ok (.iinc 10 1, 3) := by decide +kernel
set_option maxRecDepth 100000 in
theorem d137_672 : decode (xmb 137) 672 = .ok (.goto (-446), 3) := by decide +kernel
set_option maxRecDepth 100000 in
theorem d137_675 : decode (xmb 137) 675 = .ok (.ldc2_w 201, 3) := by decide +kernel
set_option maxRecDepth 100000 in
theorem d137_678 : decode (xmb 137) 678 = .ok (.lstore 10, 2) := by decide +kernel
set_option maxRecDepth 100000 in
theorem d137_680 : decode (xmb 137) 680 = .ok (.iconst 0, 1) := by decide +kernel
set_option maxRecDepth 100000 in
theorem d137_681 : decode (xmb 137) 681 = .ok (.istore 12, 2) := by decide +kernel
set_option maxRecDepth 100000 in
theorem d137_683 : decode (xmb 137) 683 = .ok (.iload 12, 2) := by decide +kernel
set_option maxRecDepth 100000 in
theorem d137_685 : decode (xmb 137) 685 = .ok (.i2l, 1) := by decide +kernel
set_option maxRecDepth 100000 in
theorem d137_686 : decode (xmb 137) 686 = .ok (.aload_n 0, 1) := by decide +kernel
set_option maxRecDepth 100000 in
theorem d137_687 : decode (xmb 137) 687 = .ok (.iconst 1, 1) := by decide +kernel
set_option maxRecDepth 100000 in
theorem d137_688 : decode (xmb 137) 688 = .ok (.invokestatic 117, 3) := by decide +kernel
set_option maxRecDepth 100000 in
theorem d137_691 : decode (xmb 137) 691 = .ok (.iload 5, 2) := by decide +kernel
set_option maxRecDepth 100000 in
theorem d137_693 : decode (xmb 137) 693 = .ok (.i2l, 1) := by decide +kernel
set_option maxRecDepth 100000 in
theorem d137_694 : decode (xmb 137) 694 = .ok (.lsub, 1) := by decide +kernel
set_option maxRecDepth 100000 in
theorem d137_695 : decode (xmb 137) 695 = .ok (.lcmp, 1) := by decide +kernel
set_option maxRecDepth 100000 in
theorem d137_696 : decode (xmb 137) 696 = .ok (.ifCond .ge 55, 3) := by decide +kernel
set_option maxRecDepth 100000 in
theorem d137_699 : decode (xmb 137) 699 = .ok (.iload_n 1, 1) := by decide +kernel
set_option maxRecDepth 100000 in
theorem d137_700 : decode (xmb 137) 700 = .ok (.ifCond .eq 51, 3) := by decide +kernel
set_option maxRecDepth 100000 in
theorem d137_703 : decode (xmb 137) 703 = .ok (.aload_n 0, 1) := by decide +kernel
set_option maxRecDepth 100000 in
theorem d137_704 : decode (xmb 137) 704 = .ok (.aload_n 0, 1) := by decide +kernel
set_option maxRecDepth 100000 in
theorem d137_705 : decode (xmb 137) 705 = .ok (.iload 12, 2) := by decide +kernel
set_option maxRecDepth 100000 in
theorem d137_707 : decode (xmb 137) 707 = .ok (.invokestatic 148, 3) := by decide +kernel
set_option maxRecDepth 100000 in
theorem d137_710 : decode (xmb 137) 710 = .ok (.l2i, 1) := by decide +kernel
set_option maxRecDepth 100000 in
theorem d137_711 : decode (xmb 137) 711 = .ok (.bipush 7, 2) := by decide +kernel
set_option maxRecDepth 100000 in
theorem d137_713 : decode (xmb 137) 713 = .ok (.invokestatic 131, 3) := by decide +kernel
set_option maxRecDepth 100000 in
theorem d137_716 : decode (xmb 137) 716 = .ok (.lstore 13, 2) := by decide +kernel
set_option maxRecDepth 100000 in
theorem d137_718 : decode (xmb 137) 718 = .ok (.lload 13, 2) := by decide +kernel
set_option maxRecDepth 100000 in
theorem d137_720 : decode (xmb 137) 720 = .ok (.ldc2_w 201, 3) := by decide +kernel
set_option maxRecDepth 100000 in
theorem d137_723 : decode (xmb 137) 723 = .ok (.lcmp, 1) := by decide +kernel
