set_option maxRecDepth 100000 in
theorem d138_307 : decode (xmb 138) 307 = .ok (.iconst 0, 1) := by decide +kernel
set_option maxRecDepth 100000 in
theorem d138_308 : decode (xmb 138) 308 = .ok (.istore 4, 2) := by decide +kernel
set_option maxRecDepth 100000 in
theorem d138_310 : decode (xmb 138) 310 = .ok (.aload_n 0, 1) := by decide +kernel
set_option maxRecDepth 100000 in
theorem d138_311 : decode (xmb 138) 311 = .ok (.iconst 1, 1) := by decide +kernel
set_option maxRecDepth 100000 in
theorem d138_312 : decode (xmb 138) 312 = .ok (.invokestatic 117, 3) := by decide +kernel
set_option maxRecDepth 100000 in
theorem d138_315 : decode (xmb 138) 315 = .ok (.l2i, 1) := by decide +kernel
set_option maxRecDepth 100000 in
theorem d138_316 : decode (xmb 138) 316 = .ok (.istore 14, 2) := by decide +kernel
set_option maxRecDepth 100000 in
theorem d138_318 : decode (xmb 138) 318 = .ok (.iload 14, 2) := by decide +kernel
set_option maxRecDepth 100000 in
theorem d138_320 : decode (xmb 138) 320 = .ok (.ifCond .le 195, 3) := by decide +kernel
set_option maxRecDepth 100000 in
theorem d138_323 : decode (xmb 138) 323 = .ok (.iload 4, 2) := by decide +kernel
set_option maxRecDepth 100000 in
theorem d138_325 : decode (xmb 138) 325 = .ok (.ifCond .eq 190, 3) := by decide +kernel
set_option maxRecDepth 100000 in
theorem d138_328 : decode (xmb 138) 328 = .ok (.iload_n 1, 1) := by decide +kernel
set_option maxRecDepth 100000 in
theorem d138_329 : decode (xmb 138) 329 = .ok (.iload 14, 2) := by decide +kernel
set_option maxRecDepth 100000 in
theorem d138_331 : decode (xmb 138) 331 = .ok (.irem, 1) := by decide +kernel
set_option maxRecDepth 100000 in
theorem d138_332 : decode (xmb 138) 332 = .ok (.istore 15, 2) := by decide +kernel
set_option maxRecDepth 100000 in
theorem d138_334 : decode (xmb 138) 334 = .ok (.aload_n 0, 1) := by decide +kernel
set_option maxRecDepth 100000 in
theorem d138_335 : decode (xmb 138) 335 = .ok (.iload 15, 2) := by decide +kernel
set_option maxRecDepth 100000 in
theorem d138_337 : decode (xmb 138) 337 = .ok (.invokestatic 166, 3) := by decide +kernel
set_option maxRecDepth 100000 in
theorem d138_340 : decode (xmb 138) 340 = .ok (.l2i, 1) := by decide +kernel
set_option maxRecDepth 100000 in
theorem d138_341 : decode (xmb 138) 341 = .ok (.istore 16, 2) := by decide +kernel
set_option maxRecDepth 100000 in
theorem d138_343 : decode (xmb 138) 343 = .ok (.aload_n 0, 1) := by decide +kernel
set_option maxRecDepth 100000 in
theorem d138_344 : decode (xmb 138) 344 = .ok (.iload 15, 2) := by decide +kernel
set_option maxRecDepth 100000 in
theorem d138_346 : decode (xmb 138) 346 = .ok (.iconst 0, 1) := by decide +kernel
set_option maxRecDepth 100000 in
theorem d138_347 : decode (xmb 138) 347 = .ok (.invokestatic 131, 3) := by decide +kernel
set_option maxRecDepth 100000 in
theorem d138_350 : decode (xmb 138) 350 = .ok (.l2i, 1) := by decide +kernel
set_option maxRecDepth 100000 in
theorem d138_351 : decode (xmb 138) 351 = .ok (.istore 17, 2) := by decide +kernel
set_option maxRecDepth 100000 in
theorem d138_353 : decode (xmb 138) 353 = .ok (.aload_n 0, 1) := by decide +kernel
set_option maxRecDepth 100000 in
theorem d138_354 : decode (xmb 138) 354 = .ok (.iconst 5, 1) := by decide +kernel
set_option maxRecDepth 100000 in
theorem d138_355 : decode (xmb 138) 355 = .ok (.invokestatic 117, 3) := by decide +kernel
set_option maxRecDepth 100000 in
theorem d138_358 : decode (xmb 138) 358 = .ok (.lstore 18, 2) := by decide +kernel
set_option maxRecDepth 100000 in
theorem d138_360 : decode (xmb 138) 360 = .ok (.iload 16, 2) := by decide +kernel
set_option maxRecDepth 100000 in
theorem d138_362 : decode (xmb 138) 362 = .ok (.ifCond .lt 58, 3) := by decide +kernel
set_option maxRecDepth 100000 in
theorem d138_365 : decode (xmb 138) 365 = .ok (.iload 17, 2) := by decide +kernel
set_option maxRecDepth 100000 in
theorem d138_367 : decode (xmb 138) 367 = .ok (.iload 16, 2) := by decide +kernel
set_option maxRecDepth 100000 in
theorem d138_369 : decode (xmb 138) 369 = .ok (.iadd, 1) := by decide +kernel
set_option maxRecDepth 100000 in
theorem d138_370 : decode (xmb 138) 370 = .ok (.bipush 90, 2) := by decide +kernel
set_option maxRecDepth 100000 in
theorem d138_372 : decode (xmb 138) 372 = .ok (.if_icmp .gt 48, 3) := by decide +kernel
set_option maxRecDepth 100000 in
theorem d138_375 : decode (xmb 138) 375 = .ok (.aload_n 0, 1) := by decide +kernel
set_option maxRecDepth 100000 in
theorem d138_376 : decode (xmb 138) 376 = .ok (.iload 15, 2) := by decide +kernel
set_option maxRecDepth 100000 in
theorem d138_378 : decode (xmb 138) 378 = .ok (.iload 17, 2) := by decide +kernel
set_option maxRecDepth 100000 in
theorem d138_380 : decode (xmb 138) 380 = .ok (.iload 16, 2) := by decide +kernel
set_option maxRecDepth 100000 in
theorem d138_382 : decode (xmb 138) 382 = .ok (.iadd, 1) := by decide +kernel
set_option maxRecDepth 100000 in
theorem d138_383 : decode (xmb 138) 383 = .ok (.invokestatic 141, 3) := by decide +kernel
set_option maxRecDepth 100000 in
theorem d138_386 : decode (xmb 138) 386 = .ok (.iload 17, 2) := by decide +kernel
set_option maxRecDepth 100000 in
theorem d138_388 : decode (xmb 138) 388 = .ok (.i2l, 1) := by decide +kernel
set_option maxRecDepth 100000 in
theorem d138_389 : decode (xmb 138) 389 = .ok (.lcmp, 1) := by decide +kernel
set_option maxRecDepth 100000 in
theorem d138_390 : decode (xmb 138) 390 = .ok (.ifCond .ne 27, 3) := by decide +kernel
set_option maxRecDepth 100000 in
theorem d138_393 : decode (xmb 138) 393 = .ok (.aload_n 0, 1) := by decide +kernel
set_option maxRecDepth 100000 in
theorem d138_394 : decode (xmb 138) 394 = .ok (.iconst 5, 1) := by decide +kernel
set_option maxRecDepth 100000 in
theorem d138_395 : decode (xmb 138) 395 = .ok (.invokestatic 117, 3) := by decide +kernel
set_option maxRecDepth 100000 in
theorem d138_398 : decode (xmb 138) 398 = .ok (.lload 18, 2) := by decide +kernel
set_option maxRecDepth 100000 in
theorem d138_400 : decode (xmb 138) 400 = .ok (.lcmp, 1) := by decide +kernel
set_option maxRecDepth 100000 in
theorem d138_401 : decode (xmb 138) 401 = .ok (.ifCond .gt 16, 3) := by decide +kernel
set_option maxRecDepth 100000 in
theorem d138_404 : decode (xmb 138) 404 = .ok (.aload_n 0, 1) := by decide +kernel
set_option maxRecDepth 100000 in
theorem d138_405 : decode (xmb 138) 405 = .ok (.invokestatic 205, 3) := by decide +kernel
set_option maxRecDepth 100000 in
theorem d138_408 : decode (xmb 138) 408 = .ok (.lconst 0, 1) := by decide +kernel
set_option maxRecDepth 100000 in
theorem d138_409 : decode (xmb 138) 409 = .ok (.lcmp, 1) := by decide +kernel
set_option maxRecDepth 100000 in
theorem d138_410 : decode (xmb 138) 410 = .ok (.ifCond .lt 7, 3) := by decide +kernel
set_option maxRecDepth 100000 in
theorem d138_413 : decode (xmb 138) 413 = .ok (.iconst 1, 1) := by decide +kernel
set_option maxRecDepth 100000 in
theorem d138_414 : decode (xmb 138) 414 = .ok (.goto 4, 3) := by decide +kernel
set_option maxRecDepth 100000 in
theorem d138_417 : decode (xmb 138) 417 = .ok (.iconst 0, 1) := by decide +kernel
set_option maxRecDepth 100000 in
theorem d138_418 : decode (xmb 138) 418 = .ok (.istore 4, 2) := by decide +kernel
set_option maxRecDepth 100000 in
theorem d138_420 : decode (xmb 138) 420 = .ok (.iload 16, 2) := by decide +kernel
set_option maxRecDepth 100000 in
theorem d138_422 : decode (xmb 138) 422 = .ok (.ifCond .lt 72, 3) := by decide +kernel
set_option maxRecDepth 100000 in
theorem d138_425 : decode (xmb 138) 425 = .ok (.iload 16, 2) := by decide +kernel
set_option maxRecDepth 100000 in
theorem d138_427 : decode (xmb 138) 427 = .ok (.bipush 60, 2) := by decide +kernel
set_option maxRecDepth 100000 in
theorem d138_429 : decode (xmb 138) 429 = .ok (.if_icmp .ge 65, 3) := by decide +kernel
set_option maxRecDepth 100000 in
theorem d138_432 : decode (xmb 138) 432 = .ok (.iload 17, 2) := by decide +kernel
set_option maxRecDepth 100000 in
theorem d138_434 : decode (xmb 138) 434 = .ok (.iload 16, 2) := by decide +kernel
set_option maxRecDepth 100000 in
theorem d138_436 : decode (xmb 138) 436 = .ok (.iadd, 1) := by decide +kernel
set_option maxRecDepth 100000 in
theorem d138_437 : decode (xmb 138) 437 = .ok (.bipush 90, 2) := by decide +kernel
set_option maxRecDepth 100000 in
theorem d138_439 : decode (xmb 138) 439 = .ok (.if_icmp .ge 55, 3) := by decide +kernel
set_option maxRecDepth 100000 in
theorem d138_442 : decode (xmb 138) 442 = .ok (.iload 4, 2) := by decide +kernel
set_option maxRecDepth 100000 in
theorem d138_444 : decode (xmb 138) 444 = .ok (.ifCond .eq 50, 3) := by decide +kernel
set_option maxRecDepth 100000 in
theorem d138_447 : decode (xmb 138) 447 = .ok (.aload_n 0, 1) := by decide +kernel
set_option maxRecDepth 100000 in
theorem d138_448 : decode (xmb 138) 448 = .ok (.iload 15, 2) := by decide +kernel
set_option maxRecDepth 100000 in
theorem d138_450 : decode (xmb 138) 450 = .ok (.iload 17, 2) := by decide +kernel
set_option maxRecDepth 100000 in
theorem d138_452 : decode (xmb 138) 452 = .ok (.iload 16, 2) := by decide +kernel
set_option maxRecDepth 100000 in
theorem d138_454 : decode (xmb 138) 454 = .ok (.iadd, 1) := by decide +kernel
set_option maxRecDepth 100000 in
theorem d138_455 : decode (xmb 138) 455 = .ok (.iconst 1, 1) := by decide +kernel
set_option maxRecDepth 100000 in
theorem d138_456 : decode (xmb 138) 456 = .ok (.iadd, 1) := by decide +kernel
set_option maxRecDepth 100000 in
theorem d138_457 : decode (xmb 138) 457 = .ok (.invokestatic 141, 3) := by decide +kernel
set_option maxRecDepth 100000 in
theorem d138_460 : decode (xmb 138) 460 = .ok (.iload 17, 2) := by decide +kernel
set_option maxRecDepth 100000 in
theorem d138_462 : decode (xmb 138) 462 = .ok (.i2l, 1) := by decide +kernel
set_option maxRecDepth 100000 in
theorem d138_463 : decode (xmb 138) 463 = .ok (.lcmp, 1) := by decide +kernel
set_option maxRecDepth 100000 in
theorem d138_464 : decode (xmb 138) 464 = .ok (.ifCond .ne 27, 3) := by decide +kernel
set_option maxRecDepth 100000 in
theorem d138_467 : decode (xmb 138) 467 = .ok (.aload_n 0, 1) := by decide +kernel
set_option maxRecDepth 100000 in
theorem d138_468 : decode (xmb 138) 468 = .ok (.iconst 5, 1) := by decide +kernel
set_option maxRecDepth 100000 in
theorem d138_469 : decode (xmb 138) 469 = .ok (.invokestatic 117, 3) := by decide +kernel
set_option maxRecDepth 100000 in
theorem d138_472 : decode (xmb 138) 472 = .ok (.lload 18, 2) := by decide +kernel
set_option maxRecDepth 100000 in
theorem d138_474 : decode (xmb 138) 474 = .ok (.lcmp, 1) := by decide +kernel
set_option maxRecDepth 100000 in
theorem d138_475 : decode (xmb 138) 475 = .ok (.ifCond .le 16, 3) := by decide +kernel
set_option maxRecDepth 100000 in
theorem d138_478 : decode (xmb 138) 478 = .ok (.aload_n 0, 1) := by decide +kernel
set_option maxRecDepth 100000 in
theorem d138_479 : decode (xmb 138) 479 = .ok (.invokestatic 205, 3) := by decide +kernel
set_option maxRecDepth 100000 in
theorem d138_482 : decode (xmb 138) 482 = .ok (.lconst 0, 1) := by decide +kernel
set_option maxRecDepth 100000 in
theorem d138_483 : decode (xmb 138) 483 = .ok (.lcmp, 1) := by decide +kernel
set_option maxRecDepth 100000 in
theorem d138_484 : decode (xmb 138) 484 = .ok (.ifCond .lt 7, 3) := by decide +kernel
set_option maxRecDepth 100000 in
theorem d138_487 : decode (xmb 138) 487 = .ok (.iconst 1, 1) := by decide +kernel
set_option maxRecDepth 100000 in
theorem d138_488 : decode (xmb 138) 488 = .ok (.goto 4, 3) := by decide +kernel
set_option maxRecDepth 100000 in
theorem d138_491 : decode (xmb 138) 491 = .ok (.iconst 0, 1) := by decide +kernel
set_option maxRecDepth 100000 in
theorem d138_492 : decode (xmb 138) 492 = .ok (.istore 4, 2) := by decide +kernel
set_option maxRecDepth 100000 in
theorem d138_494 : decode (xmb 138) 494 = .ok (.iload 4, 2) := by decide +kernel
set_option maxRecDepth 100000 in
theorem d138_496 : decode (xmb 138) 496 = .ok (.ifCond .eq 16, 3) := by decide +kernel
set_option maxRecDepth 100000 in
theorem d138_499 : decode (xmb 138) 499 = .ok (.aload_n 0, 1) := by decide +kernel
set_option maxRecDepth 100000 in
theorem d138_500 : decode (xmb 138) 500 = .ok (.invokestatic 133, 3) := by decide +kernel
set_option maxRecDepth 100000 in
theorem d138_503 : decode (xmb 138) 503 = .ok (.lload_n 2, 1) := by decide +kernel
set_option maxRecDepth 100000 in
theorem d138_504 : decode (xmb 138) 504 = .ok (.lcmp, 1) := by decide +kernel
set_option maxRecDepth 100000 in
theorem d138_505 : decode (xmb 138) 505 = .ok (.ifCond .ne 7, 3) := by decide +kernel
set_option maxRecDepth 100000 in
theorem d138_508 : decode (xmb 138) 508 = .ok (.iconst 1, 1) := by decide +kernel
set_option maxRecDepth 100000 in
theorem d138_509 : decode (xmb 138) 509 = .ok (.goto 4, 3) := by decide +kernel
set_option maxRecDepth 100000 in
theorem d138_512 : decode (xmb 138) 512 = .ok (.iconst 0, 1) := by decide +kernel
set_option maxRecDepth 100000 in
theorem d138_513 : decode (xmb 138) 513 = .ok (.istore 4, 2) := by decide +kernel
set_option maxRecDepth 100000 in
theorem d138_515 : decode (xmb 138) 515 = .ok (.aload_n 0, 1) := by decide +kernel
set_option maxRecDepth 100000 in
theorem d138_516 : decode (xmb 138) 516 = .ok (.invokevirtual 207, 3) := by decide +kernel
set_option maxRecDepth 100000 in
theorem d138_519 : decode (xmb 138) 519 = .ok (.istore 15, 2) := by decide +kernel
set_option maxRecDepth 100000 in
theorem d138_521 : decode (xmb 138) 521 = .ok (.aload_n 0, 1) := by decide +kernel
set_option maxRecDepth 100000 in
theorem d138_522 : decode (xmb 138) 522 = .ok (.iconst 4, 1) := by decide +kernel
set_option maxRecDepth 100000 in
theorem d138_523 : decode (xmb 138) 523 = .ok (.invokestatic 122, 3) := by decide +kernel
set_option maxRecDepth 100000 in
theorem d138_526 : decode (xmb 138) 526 = .ok (.lstore 16, 2) := by decide +kernel
set_option maxRecDepth 100000 in
theorem d138_528 : decode (xmb 138) 528 = .ok (.aload_n 0, 1) := by decide +kernel
set_option maxRecDepth 100000 in
theorem d138_529 : decode (xmb 138) 529 = .ok (.bipush 6, 2) := by decide +kernel
set_option maxRecDepth 100000 in
theorem d138_531 : decode (xmb 138) 531 = .ok (.invokestatic 117, 3) := by decide +kernel
set_option maxRecDepth 100000 in
theorem d138_534 : decode (xmb 138) 534 = .ok (.lstore 18, 2) := by decide +kernel
set_option maxRecDepth 100000 in
theorem d138_536 : decode (xmb 138) 536 = .ok (.aload_n 0, 1) := by decide +kernel
set_option maxRecDepth 100000 in
theorem d138_537 : decode (xmb 138) 537 = .ok (.iconst 5, 1) := by decide +kernel
set_option maxRecDepth 100000 in
theorem d138_538 : decode (xmb 138) 538 = .ok (.invokestatic 117, 3) := by decide +kernel
set_option maxRecDepth 100000 in
theorem d138_541 : decode (xmb 138) 541 = .ok (.lstore 20, 2) := by decide +kernel
set_option maxRecDepth 100000 in
theorem d138_543 : decode (xmb 138) 543 = .ok (.iload 4, 2) := by decide +kernel
set_option maxRecDepth 100000 in
theorem d138_545 : decode (xmb 138) 545 = .ok (.ifCond .eq 77, 3) := by decide +kernel
set_option maxRecDepth 100000 in
theorem d138_548 : decode (xmb 138) 548 = .ok (.iload 15, 2) := by decide +kernel
set_option maxRecDepth 100000 in
theorem d138_550 : decode (xmb 138) 550 = .ok (.i2l, 1) := by decide +kernel
set_option maxRecDepth 100000 in
theorem d138_551 : decode (xmb 138) 551 = .ok (.lconst 0, 1) := by decide +kernel
set_option maxRecDepth 100000 in
theorem d138_552 : decode (xmb 138) 552 = .ok (.ldc2_w 210, 3) := by decide +kernel
set_option maxRecDepth 100000 in
theorem d138_555 : decode (xmb 138) 555 = .ok (.invokestatic 195, 3) := by decide +kernel
set_option maxRecDepth 100000 in
theorem d138_558 : decode (xmb 138) 558 = .ok (.ifCond .eq 64, 3) := by decide +kernel
set_option maxRecDepth 100000 in
theorem d138_561 : decode (xmb 138) 561 = .ok (.aload_n 0, 1) := by decide +kernel
set_option maxRecDepth 100000 in
theorem d138_562 : decode (xmb 138) 562 = .ok (.iconst 4, 1) := by decide +kernel
set_option maxRecDepth 100000 in
theorem d138_563 : decode (xmb 138) 563 = .ok (.iload 15, 2) := by decide +kernel
set_option maxRecDepth 100000 in
theorem d138_565 : decode (xmb 138) 565 = .ok (.invokestatic 160, 3) := by decide +kernel
set_option maxRecDepth 100000 in
theorem d138_568 : decode (xmb 138) 568 = .ok (.lload 16, 2) := by decide +kernel
set_option maxRecDepth 100000 in
theorem d138_570 : decode (xmb 138) 570 = .ok (.lcmp, 1) := by decide +kernel
set_option maxRecDepth 100000 in
theorem d138_571 : decode (xmb 138) 571 = .ok (.ifCond .ne 51, 3) := by decide +kernel
set_option maxRecDepth 100000 in
theorem d138_574 : decode (xmb 138) 574 = .ok (.aload_n 0, 1) := by decide +kernel
set_option maxRecDepth 100000 in
theorem d138_575 : decode (xmb 138) 575 = .ok (.bipush 6, 2) := by decide +kernel
set_option maxRecDepth 100000 in
theorem d138_577 : decode (xmb 138) 577 = .ok (.invokestatic 117, 3) := by decide +kernel
set_option maxRecDepth 100000 in
theorem d138_580 : decode (xmb 138) 580 = .ok (.lload 18, 2) := by decide +kernel
set_option maxRecDepth 100000 in
theorem d138_582 : decode (xmb 138) 582 = .ok (.lcmp, 1) := by decide +kernel
set_option maxRecDepth 100000 in
theorem d138_583 : decode (xmb 138) 583 = .ok (.ifCond .lt 26, 3) := by decide +kernel
set_option maxRecDepth 100000 in
theorem d138_586 : decode (xmb 138) 586 = .ok (.aload_n 0, 1) := by decide +kernel
set_option maxRecDepth 100000 in
theorem d138_587 : decode (xmb 138) 587 = .ok (.bipush 6, 2) := by decide +kernel
set_option maxRecDepth 100000 in
theorem d138_589 : decode (xmb 138) 589 = .ok (.invokestatic 117, 3) := by decide +kernel
set_option maxRecDepth 100000 in
theorem d138_592 : decode (xmb 138) 592 = .ok (.lload 18, 2) := by decide +kernel
set_option maxRecDepth 100000 in
theorem d138_594 : decode (xmb 138) 594 = .ok (.lcmp, 1) := by decide +kernel
set_option maxRecDepth 100000 in
theorem d138_595 : decode (xmb 138) 595 = .ok (.ifCond .ne 27, 3) := by decide +kernel
set_option maxRecDepth 100000 in
theorem d138_598 : decode (xmb 138) 598 = .ok (.aload_n 0, 1) := by decide +kernel
set_option maxRecDepth 100000 in
theorem d138_599 : decode (xmb 138) 599 = .ok (.iconst 5, 1) := by decide +kernel
set_option maxRecDepth 100000 in
theorem d138_600 : decode (xmb 138) 600 = .ok (.invokestatic 117, 3) := by decide +kernel
set_option maxRecDepth 100000 in
theorem d138_603 : decode (xmb 138) 603 = .ok (.lload 20, 2) := by decide +kernel
set_option maxRecDepth 100000 in
theorem d138_605 : decode (xmb 138) 605 = .ok (.lcmp, 1) := by decide +kernel
set_option maxRecDepth 100000 in
theorem d138_606 : decode (xmb 138) 606 = .ok (.ifCond .gt 16, 3) := by decide +kernel
set_option maxRecDepth 100000 in
theorem d138_609 : decode (xmb 138) 609 = .ok (.aload_n 0, 1) := by decide +kernel
set_option maxRecDepth 100000 in
theorem d138_610 : decode (xmb 138) 610 = .ok (.invokestatic 205, 3) := by decide +kernel
set_option maxRecDepth 100000 in
theorem d138_613 : decode (xmb 138) 613 = .ok (.lconst 0, 1) := by decide +kernel
set_option maxRecDepth 100000 in
theorem d138_614 : decode (xmb 138) 614 = .ok (.lcmp, 1) := by decide +kernel
set_option maxRecDepth 100000 in
theorem d138_615 : decode (xmb 138) 615 = .ok (.ifCond .lt 7, 3) := by decide +kernel
set_option maxRecDepth 100000 in
theorem d138_618 : decode (xmb 138) 618 = .ok (.iconst 1, 1) := by decide +kernel
set_option maxRecDepth 100000 in
theorem d138_619 : decode (xmb 138) 619 = .ok (.goto 4, 3) := by decide +kernel
set_option maxRecDepth 100000 in
theorem d138_622 : decode (xmb 138) 622 = .ok (.iconst 0, 1) := by decide +kernel
set_option maxRecDepth 100000 in
theorem d138_623 : decode (xmb 138) 623 = .ok (.istore 4, 2) := by decide +kernel
set_option maxRecDepth 100000 in
theorem d138_625 : decode (xmb 138) 625 = .ok (.iload 4, 2) := by decide +kernel
set_option maxRecDepth 100000 in
theorem d138_627 : decode (xmb 138) 627 = .ok (.ifCond .eq 37, 3) := by decide +kernel
set_option maxRecDepth 100000 in
theorem d138_630 : decode (xmb 138) 630 = .ok (.aload_n 0, 1) := by decide +kernel
set_option maxRecDepth 100000 in
theorem d138_631 : decode (xmb 138) 631 = .ok (.iconst 1, 1) := by decide +kernel
set_option maxRecDepth 100000 in
theorem d138_632 : decode (xmb 138) 632 = .ok (.invokestatic 181, 3) := by decide +kernel
set_option maxRecDepth 100000 in
theorem d138_635 : decode (xmb 138) 635 = .ok (.lconst 0, 1) := by decide +kernel
set_option maxRecDepth 100000 in
theorem d138_636 : decode (xmb 138) 636 = .ok (.lcmp, 1) := by decide +kernel
set_option maxRecDepth 100000 in
theorem d138_637 : decode (xmb 138) 637 = .ok (.ifCond .lt 27, 3) := by decide +kernel
set_option maxRecDepth 100000 in
theorem d138_640 : decode (xmb 138) 640 = .ok (.aload_n 0, 1) := by decide +kernel
set_option maxRecDepth 100000 in
theorem d138_641 : decode (xmb 138) 641 = .ok (.invokestatic 133, 3) := by decide +kernel
set_option maxRecDepth 100000 in
theorem d138_644 : decode (xmb 138) 644 = .ok (.lload_n 2, 1) := by decide +kernel
set_option maxRecDepth 100000 in
theorem d138_645 : decode (xmb 138) 645 = .ok (.lcmp, 1) := by decide +kernel
set_option maxRecDepth 100000 in
theorem d138_646 : decode (xmb 138) 646 = .ok (.ifCond .ne 18, 3) := by decide +kernel
set_option maxRecDepth 100000 in
theorem d138_649 : decode (xmb 138) 649 = .ok (.aload_n 0, 1) := by decide +kernel
set_option maxRecDepth 100000 in
theorem d138_650 : decode (xmb 138) 650 = .ok (.invokestatic 205, 3) := by decide +kernel
set_option maxRecDepth 100000 in
theorem d138_653 : decode (xmb 138) 653 = .ok (.ldc2_w 21, 3) := by decide +kernel
set_option maxRecDepth 100000 in
theorem d138_656 : decode (xmb 138) 656 = .ok (.lcmp, 1) := by decide +kernel
set_option maxRecDepth 100000 in
theorem d138_657 : decode (xmb 138) 657 = .ok (.ifCond .ne 7, 3) := by decide +kernel
set_option maxRecDepth 100000 in
theorem d138_660 : decode (xmb 138) 660 = .ok (.iconst 1, 1) := by decide +kernel
set_option maxRecDepth 100000 in
theorem d138_661 : decode (xmb 138) 661 = .ok (.goto 4, 3) := by decide +kernel
set_option maxRecDepth 100000 in
theorem d138_664 : decode (xmb 138) 664 = .ok (.iconst 0, 1) := by decide +kernel
set_option maxRecDepth 100000 in
theorem d138_665 : decode (xmb 138) 665 = .ok (.ireturn, 1) := by decide +kernel
set_option maxRecDepth 100000 in
theorem d139_0 : decode (xmb 139) 0 = .ok (.aload_n 0, 1) := by decide +kernel
set_option maxRecDepth 100000 in
theorem d139_1 : decode (xmb 139) 1 = .ok (.invokestatic 133, 3) := by decide +kernel
set_option maxRecDepth 100000 in
theorem d139_4 : decode (xmb 139) 4 = .ok (.aload_n 1, 1) := by decide +kernel
set_option maxRecDepth 100000 in
theorem d139_5 : decode (xmb 139) 5 = .ok (.invokestatic 133, 3) := by decide +kernel
set_option maxRecDepth 100000 in
theorem d139_8 : decode (xmb 139) 8 = .ok (.lcmp, 1) := by decide +kernel
set_option maxRecDepth 100000 in
theorem d139_9 : decode (xmb 139) 9 = .ok (.ifCond .ne 137, 3) := by decide +kernel
set_option maxRecDepth 100000 in
theorem d139_12 : decode (xmb 139) 12 = .ok (.aload_n 0, 1) := by decide +kernel
set_option maxRecDepth 100000 in
theorem d139_13 : decode (xmb 139) 13 = .ok (.invokevirtual 212, 3) := by decide +kernel
set_option maxRecDepth 100000 in
theorem d139_16 : decode (xmb 139) 16 = .ok (.aload_n 1, 1) := by decide +kernel
set_option maxRecDepth 100000 in
theorem d139_17 : decode (xmb 139) 17 = .ok (.invokevirtual 212, 3) := by decide +kernel
set_option maxRecDepth 100000 in
theorem d139_20 : decode (xmb 139) 20 = .ok (.if_icmp .ne 126, 3) := by decide +kernel
set_option maxRecDepth 100000 in
theorem d139_23 : decode (xmb 139) 23 = .ok (.aload_n 0, 1) := by decide +kernel
set_option maxRecDepth 100000 in
theorem d139_24 : decode (xmb 139) 24 = .ok (.invokevirtual 207, 3) := by decide +kernel
set_option maxRecDepth 100000 in
theorem d139_27 : decode (xmb 139) 27 = .ok (.aload_n 1, 1) := by decide +kernel
set_option maxRecDepth 100000 in
theorem d139_28 : decode (xmb 139) 28 = .ok (.invokevirtual 207, 3) := by decide +kernel
set_option maxRecDepth 100000 in
theorem d139_31 : decode (xmb 139) 31 = .ok (.if_icmp .ne 115, 3) := by decide +kernel
set_option maxRecDepth 100000 in
theorem d139_34 : decode (xmb 139) 34 = .ok (.aload_n 0, 1) := by decide +kernel
set_option maxRecDepth 100000 in
theorem d139_35 : decode (xmb 139) 35 = .ok (.iconst 1, 1) := by decide +kernel
set_option maxRecDepth 100000 in
theorem d139_36 : decode (xmb 139) 36 = .ok (.iload_n 2, 1) := by decide +kernel
set_option maxRecDepth 100000 in
theorem d139_37 : decode (xmb 139) 37 = .ok (.bipush 24, 2) := by decide +kernel
set_option maxRecDepth 100000 in
theorem d139_39 : decode (xmb 139) 39 = .ok (.irem, 1) := by decide +kernel
set_option maxRecDepth 100000 in
theorem d139_40 : decode (xmb 139) 40 = .ok (.iadd, 1) := by decide +kernel
set_option maxRecDepth 100000 in
theorem d139_41 : decode (xmb 139) 41 = .ok (.iconst 0, 1) := by decide +kernel
set_option maxRecDepth 100000 in
theorem d139_42 : decode (xmb 139) 42 = .ok (.invokestatic 164, 3) := by decide +kernel
set_option maxRecDepth 100000 in
theorem d139_45 : decode (xmb 139) 45 = .ok (.aload_n 1, 1) := by decide +kernel
set_option maxRecDepth 100000 in
theorem d139_46 : decode (xmb 139) 46 = .ok (.iconst 1, 1) := by decide +kernel
set_option maxRecDepth 100000 in
theorem d139_47 : decode (xmb 139) 47 = .ok (.iload_n 2, 1) := by decide +kernel
set_option maxRecDepth 100000 in
theorem d139_48 : decode (xmb 139) 48 = .ok (.bipush 24, 2) := by decide +kernel
set_option maxRecDepth 100000 in
theorem d139_50 : decode (xmb 139) 50 = .ok (.irem, 1) := by decide +kernel
set_option maxRecDepth 100000 in
theorem d139_51 : decode (xmb 139) 51 = .ok (.iadd, 1) := by decide +kernel
set_option maxRecDepth 100000 in
theorem d139_52 : decode (xmb 139) 52 = .ok (.iconst 0, 1) := by decide +kernel
set_option maxRecDepth 100000 in
theorem d139_53 : decode (xmb 139) 53 = .ok (.invokestatic 164, 3) := by decide +kernel
set_option maxRecDepth 100000 in
theorem d139_56 : decode (xmb 139) 56 = .ok (.lcmp, 1) := by decide +kernel
set_option maxRecDepth 100000 in
theorem d139_57 : decode (xmb 139) 57 = .ok (.ifCond .ne 89, 3) := by decide +kernel
set_option maxRecDepth 100000 in
theorem d139_60 : decode (xmb 139) 60 = .ok (.aload_n 0, 1) := by decide +kernel
set_option maxRecDepth 100000 in
theorem d139_61 : decode (xmb 139) 61 = .ok (.iload_n 2, 1) := by decide +kernel
set_option maxRecDepth 100000 in
theorem d139_62 : decode (xmb 139) 62 = .ok (.sipush 200, 3) := by decide +kernel
set_option maxRecDepth 100000 in
theorem d139_65 : decode (xmb 139) 65 = .ok (.irem, 1) := by decide +kernel
set_option maxRecDepth 100000 in
theorem d139_66 : decode (xmb 139) 66 = .ok (.iload_n 2, 1) := by decide +kernel
set_option maxRecDepth 100000 in
theorem d139_67 : decode (xmb 139) 67 = .ok (.bipush 10, 2) := by decide +kernel
set_option maxRecDepth 100000 in
theorem d139_69 : decode (xmb 139) 69 = .ok (.irem, 1) := by decide +kernel
set_option maxRecDepth 100000 in
theorem d139_70 : decode (xmb 139) 70 = .ok (.invokestatic 150, 3) := by decide +kernel
set_option maxRecDepth 100000 in
theorem d139_73 : decode (xmb 139) 73 = .ok (.aload_n 1, 1) := by decide +kernel
set_option maxRecDepth 100000 in
theorem d139_74 : decode (xmb 139) 74 = .ok (.iload_n 2, 1) := by decide +kernel
set_option maxRecDepth 100000 in
theorem d139_75 : decode (xmb 139) 75 = .ok (.sipush 200, 3) := by decide +kernel
set_option maxRecDepth 100000 in
theorem d139_78 : decode (xmb 139) 78 = .ok (.irem, 1) := by decide +kernel
set_option maxRecDepth 100000 in
theorem d139_79 : decode (xmb 139) 79 = .ok (.iload_n 2, 1) := by decide +kernel
set_option maxRecDepth 100000 in
theorem d139_80 : decode (xmb 139) 80 = .ok (.bipush 10, 2) := by decide +kernel
set_option maxRecDepth 100000 in
theorem d139_82 : decode (xmb 139) 82 = .ok (.irem, 1) := by decide +kernel
set_option maxRecDepth 100000 in
theorem d139_83 : decode (xmb 139) 83 = .ok (.invokestatic 150, 3) := by decide +kernel
set_option maxRecDepth 100000 in
theorem d139_86 : decode (xmb 139) 86 = .ok (.lcmp, 1) := by decide +kernel
set_option maxRecDepth 100000 in
theorem d139_87 : decode (xmb 139) 87 = .ok (.ifCond .ne 59, 3) := by decide +kernel
set_option maxRecDepth 100000 in
theorem d139_90 : decode (xmb 139) 90 = .ok (.aload_n 0, 1) := by decide +kernel
set_option maxRecDepth 100000 in
theorem d139_91 : decode (xmb 139) 91 = .ok (.iload_n 2, 1) := by decide +kernel
set_option maxRecDepth 100000 in
theorem d139_92 : decode (xmb 139) 92 = .ok (.i2l, 1) := by decide +kernel
set_option maxRecDepth 100000 in
theorem d139_93 : decode (xmb 139) 93 = .ok (.iconst 5, 1) := by decide +kernel
set_option maxRecDepth 100000 in
theorem d139_94 : decode (xmb 139) 94 = .ok (.invokestatic 176, 3) := by decide +kernel
set_option maxRecDepth 100000 in
theorem d139_97 : decode (xmb 139) 97 = .ok (.aload_n 1, 1) := by decide +kernel
set_option maxRecDepth 100000 in
theorem d139_98 : decode (xmb 139) 98 = .ok (.iload_n 2, 1) := by decide +kernel
