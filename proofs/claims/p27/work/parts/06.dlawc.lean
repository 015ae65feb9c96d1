theorem dL_acts_252 : decode cL_acts 252 = .ok (.imul, 1) := by decide +kernel
theorem dL_acts_253 : decode cL_acts 253 = .ok (.if_icmp .ge 7, 3) := by decide +kernel
theorem dL_acts_256 : decode cL_acts 256 = .ok (.iconst 1, 1) := by decide +kernel
theorem dL_acts_257 : decode cL_acts 257 = .ok (.goto 4, 3) := by decide +kernel
theorem dL_acts_260 : decode cL_acts 260 = .ok (.iconst 0, 1) := by decide +kernel
theorem dL_acts_261 : decode cL_acts 261 = .ok (.istore 8, 2) := by decide +kernel
theorem dL_acts_263 : decode cL_acts 263 = .ok (.iload 8, 2) := by decide +kernel
theorem dL_acts_265 : decode cL_acts 265 = .ok (.ifCond .ne 8, 3) := by decide +kernel
theorem dL_acts_268 : decode cL_acts 268 = .ok (.bipush (-101), 2) := by decide +kernel
theorem dL_acts_270 : decode cL_acts 270 = .ok (.goto 25, 3) := by decide +kernel
theorem dL_acts_273 : decode cL_acts 273 = .ok (.iload 7, 2) := by decide +kernel
theorem dL_acts_275 : decode cL_acts 275 = .ok (.iconst (-1), 1) := by decide +kernel
theorem dL_acts_276 : decode cL_acts 276 = .ok (.if_icmp .lt 9, 3) := by decide +kernel
theorem dL_acts_279 : decode cL_acts 279 = .ok (.iload 7, 2) := by decide +kernel
theorem dL_acts_281 : decode cL_acts 281 = .ok (.iconst 3, 1) := by decide +kernel
theorem dL_acts_282 : decode cL_acts 282 = .ok (.if_icmp .le 8, 3) := by decide +kernel
theorem dL_acts_285 : decode cL_acts 285 = .ok (.bipush (-102), 2) := by decide +kernel
theorem dL_acts_287 : decode cL_acts 287 = .ok (.goto 8, 3) := by decide +kernel
theorem dL_acts_290 : decode cL_acts 290 = .ok (.aload 4, 2) := by decide +kernel
theorem dL_acts_292 : decode cL_acts 292 = .ok (.iload 6, 2) := by decide +kernel
theorem dL_acts_294 : decode cL_acts 294 = .ok (.iaload, 1) := by decide +kernel
theorem dL_acts_295 : decode cL_acts 295 = .ok (.istore 9, 2) := by decide +kernel
theorem dL_acts_297 : decode cL_acts 297 = .ok (.iload 9, 2) := by decide +kernel
theorem dL_acts_299 : decode cL_acts 299 = .ok (.bipush (-101), 2) := by decide +kernel
theorem dL_acts_301 : decode cL_acts 301 = .ok (.if_icmp .le 10, 3) := by decide +kernel
theorem dL_acts_304 : decode cL_acts 304 = .ok (.aload 4, 2) := by decide +kernel
theorem dL_acts_306 : decode cL_acts 306 = .ok (.iload 6, 2) := by decide +kernel
theorem dL_acts_308 : decode cL_acts 308 = .ok (.iload 7, 2) := by decide +kernel
theorem dL_acts_310 : decode cL_acts 310 = .ok (.iastore, 1) := by decide +kernel
theorem dL_acts_311 : decode cL_acts 311 = .ok (.aload_n 0, 1) := by decide +kernel
theorem dL_acts_312 : decode cL_acts 312 = .ok (.iconst 1, 1) := by decide +kernel
theorem dL_acts_313 : decode cL_acts 313 = .ok (.iload 6, 2) := by decide +kernel
theorem dL_acts_315 : decode cL_acts 315 = .ok (.iload 7, 2) := by decide +kernel
theorem dL_acts_317 : decode cL_acts 317 = .ok (.invokestatic 142, 3) := by decide +kernel
theorem dL_acts_320 : decode cL_acts 320 = .ok (.iload 9, 2) := by decide +kernel
theorem dL_acts_322 : decode cL_acts 322 = .ok (.if_icmp .ne 7, 3) := by decide +kernel
theorem dL_acts_325 : decode cL_acts 325 = .ok (.iconst 1, 1) := by decide +kernel
theorem dL_acts_326 : decode cL_acts 326 = .ok (.goto 4, 3) := by decide +kernel
theorem dL_acts_329 : decode cL_acts 329 = .ok (.iconst 0, 1) := by decide +kernel
theorem dL_acts_330 : decode cL_acts 330 = .ok (.ireturn, 1) := by decide +kernel
theorem dL_acts_331 : decode cL_acts 331 = .ok (.iload_n 1, 1) := by decide +kernel
theorem dL_acts_332 : decode cL_acts 332 = .ok (.bipush 9, 2) := by decide +kernel
theorem dL_acts_334 : decode cL_acts 334 = .ok (.if_icmp .ge 155, 3) := by decide +kernel
theorem dL_acts_337 : decode cL_acts 337 = .ok (.iload_n 2, 1) := by decide +kernel
theorem dL_acts_338 : decode cL_acts 338 = .ok (.aload_n 3, 1) := by decide +kernel
theorem dL_acts_339 : decode cL_acts 339 = .ok (.invokestatic 32, 3) := by decide +kernel
theorem dL_acts_342 : decode cL_acts 342 = .ok (.iconst 1, 1) := by decide +kernel
theorem dL_acts_343 : decode cL_acts 343 = .ok (.iadd, 1) := by decide +kernel
theorem dL_acts_344 : decode cL_acts 344 = .ok (.invokestatic 135, 3) := by decide +kernel
theorem dL_acts_347 : decode cL_acts 347 = .ok (.iload_n 2, 1) := by decide +kernel
theorem dL_acts_348 : decode cL_acts 348 = .ok (.bipush 9, 2) := by decide +kernel
theorem dL_acts_350 : decode cL_acts 350 = .ok (.ishr, 1) := by decide +kernel
theorem dL_acts_351 : decode cL_acts 351 = .ok (.bipush 17, 2) := by decide +kernel
theorem dL_acts_353 : decode cL_acts 353 = .ok (.invokestatic 135, 3) := by decide +kernel
theorem dL_acts_356 : decode cL_acts 356 = .ok (.ifCond .ne 7, 3) := by decide +kernel
theorem dL_acts_359 : decode cL_acts 359 = .ok (.iconst 1, 1) := by decide +kernel
theorem dL_acts_360 : decode cL_acts 360 = .ok (.goto 4, 3) := by decide +kernel
theorem dL_acts_363 : decode cL_acts 363 = .ok (.iconst 0, 1) := by decide +kernel
theorem dL_acts_364 : decode cL_acts 364 = .ok (.isub, 1) := by decide +kernel
theorem dL_acts_365 : decode cL_acts 365 = .ok (.istore 6, 2) := by decide +kernel
theorem dL_acts_367 : decode cL_acts 367 = .ok (.iload_n 2, 1) := by decide +kernel
theorem dL_acts_368 : decode cL_acts 368 = .ok (.iconst 5, 1) := by decide +kernel
theorem dL_acts_369 : decode cL_acts 369 = .ok (.ishr, 1) := by decide +kernel
theorem dL_acts_370 : decode cL_acts 370 = .ok (.bipush 20, 2) := by decide +kernel
theorem dL_acts_372 : decode cL_acts 372 = .ok (.invokestatic 135, 3) := by decide +kernel
theorem dL_acts_375 : decode cL_acts 375 = .ok (.ifCond .ne 15, 3) := by decide +kernel
theorem dL_acts_378 : decode cL_acts 378 = .ok (.iload_n 2, 1) := by decide +kernel
theorem dL_acts_379 : decode cL_acts 379 = .ok (.iconst 2, 1) := by decide +kernel
theorem dL_acts_380 : decode cL_acts 380 = .ok (.invokestatic 135, 3) := by decide +kernel
theorem dL_acts_383 : decode cL_acts 383 = .ok (.iconst 4, 1) := by decide +kernel
theorem dL_acts_384 : decode cL_acts 384 = .ok (.imul, 1) := by decide +kernel
theorem dL_acts_385 : decode cL_acts 385 = .ok (.iconst 1, 1) := by decide +kernel
theorem dL_acts_386 : decode cL_acts 386 = .ok (.isub, 1) := by decide +kernel
theorem dL_acts_387 : decode cL_acts 387 = .ok (.goto 12, 3) := by decide +kernel
theorem dL_acts_390 : decode cL_acts 390 = .ok (.iload_n 2, 1) := by decide +kernel
theorem dL_acts_391 : decode cL_acts 391 = .ok (.iconst 5, 1) := by decide +kernel
theorem dL_acts_392 : decode cL_acts 392 = .ok (.ishr, 1) := by decide +kernel
theorem dL_acts_393 : decode cL_acts 393 = .ok (.iconst 4, 1) := by decide +kernel
theorem dL_acts_394 : decode cL_acts 394 = .ok (.invokestatic 135, 3) := by decide +kernel
theorem dL_acts_397 : decode cL_acts 397 = .ok (.iconst 3, 1) := by decide +kernel
theorem dL_acts_398 : decode cL_acts 398 = .ok (.irem, 1) := by decide +kernel
theorem dL_acts_399 : decode cL_acts 399 = .ok (.istore 7, 2) := by decide +kernel
theorem dL_acts_401 : decode cL_acts 401 = .ok (.iload 6, 2) := by decide +kernel
theorem dL_acts_403 : decode cL_acts 403 = .ok (.ifCond .lt 16, 3) := by decide +kernel
theorem dL_acts_406 : decode cL_acts 406 = .ok (.iload 6, 2) := by decide +kernel
theorem dL_acts_408 : decode cL_acts 408 = .ok (.aload_n 3, 1) := by decide +kernel
theorem dL_acts_409 : decode cL_acts 409 = .ok (.invokestatic 32, 3) := by decide +kernel
theorem dL_acts_412 : decode cL_acts 412 = .ok (.if_icmp .ge 7, 3) := by decide +kernel
theorem dL_acts_415 : decode cL_acts 415 = .ok (.iconst 1, 1) := by decide +kernel
theorem dL_acts_416 : decode cL_acts 416 = .ok (.goto 4, 3) := by decide +kernel
theorem dL_acts_419 : decode cL_acts 419 = .ok (.iconst 0, 1) := by decide +kernel
theorem dL_acts_420 : decode cL_acts 420 = .ok (.istore 8, 2) := by decide +kernel
theorem dL_acts_422 : decode cL_acts 422 = .ok (.iload 8, 2) := by decide +kernel
theorem dL_acts_424 : decode cL_acts 424 = .ok (.ifCond .ne 8, 3) := by decide +kernel
theorem dL_acts_427 : decode cL_acts 427 = .ok (.bipush (-101), 2) := by decide +kernel
theorem dL_acts_429 : decode cL_acts 429 = .ok (.goto 24, 3) := by decide +kernel
theorem dL_acts_432 : decode cL_acts 432 = .ok (.iload 7, 2) := by decide +kernel
theorem dL_acts_434 : decode cL_acts 434 = .ok (.ifCond .lt 9, 3) := by decide +kernel
theorem dL_acts_437 : decode cL_acts 437 = .ok (.iload 7, 2) := by decide +kernel
theorem dL_acts_439 : decode cL_acts 439 = .ok (.iconst 2, 1) := by decide +kernel
theorem dL_acts_440 : decode cL_acts 440 = .ok (.if_icmp .le 8, 3) := by decide +kernel
theorem dL_acts_443 : decode cL_acts 443 = .ok (.bipush (-102), 2) := by decide +kernel
theorem dL_acts_445 : decode cL_acts 445 = .ok (.goto 8, 3) := by decide +kernel
theorem dL_acts_448 : decode cL_acts 448 = .ok (.aload 5, 2) := by decide +kernel
theorem dL_acts_450 : decode cL_acts 450 = .ok (.iload 6, 2) := by decide +kernel
theorem dL_acts_452 : decode cL_acts 452 = .ok (.iaload, 1) := by decide +kernel
theorem dL_acts_453 : decode cL_acts 453 = .ok (.istore 9, 2) := by decide +kernel
theorem dL_acts_455 : decode cL_acts 455 = .ok (.iload 9, 2) := by decide +kernel
theorem dL_acts_457 : decode cL_acts 457 = .ok (.bipush (-101), 2) := by decide +kernel
theorem dL_acts_459 : decode cL_acts 459 = .ok (.if_icmp .le 10, 3) := by decide +kernel
theorem dL_acts_462 : decode cL_acts 462 = .ok (.aload 5, 2) := by decide +kernel
theorem dL_acts_464 : decode cL_acts 464 = .ok (.iload 6, 2) := by decide +kernel
theorem dL_acts_466 : decode cL_acts 466 = .ok (.iload 7, 2) := by decide +kernel
theorem dL_acts_468 : decode cL_acts 468 = .ok (.iastore, 1) := by decide +kernel
theorem dL_acts_469 : decode cL_acts 469 = .ok (.aload_n 0, 1) := by decide +kernel
theorem dL_acts_470 : decode cL_acts 470 = .ok (.iconst 0, 1) := by decide +kernel
theorem dL_acts_471 : decode cL_acts 471 = .ok (.iload 6, 2) := by decide +kernel
theorem dL_acts_473 : decode cL_acts 473 = .ok (.iload 7, 2) := by decide +kernel
theorem dL_acts_475 : decode cL_acts 475 = .ok (.invokestatic 142, 3) := by decide +kernel
theorem dL_acts_478 : decode cL_acts 478 = .ok (.iload 9, 2) := by decide +kernel
theorem dL_acts_480 : decode cL_acts 480 = .ok (.if_icmp .ne 7, 3) := by decide +kernel
theorem dL_acts_483 : decode cL_acts 483 = .ok (.iconst 1, 1) := by decide +kernel
theorem dL_acts_484 : decode cL_acts 484 = .ok (.goto 4, 3) := by decide +kernel
theorem dL_acts_487 : decode cL_acts 487 = .ok (.iconst 0, 1) := by decide +kernel
theorem dL_acts_488 : decode cL_acts 488 = .ok (.ireturn, 1) := by decide +kernel
theorem dL_acts_489 : decode cL_acts 489 = .ok (.iload_n 1, 1) := by decide +kernel
theorem dL_acts_490 : decode cL_acts 490 = .ok (.bipush 9, 2) := by decide +kernel
theorem dL_acts_492 : decode cL_acts 492 = .ok (.if_icmp .ne 41, 3) := by decide +kernel
theorem dL_acts_495 : decode cL_acts 495 = .ok (.iload_n 2, 1) := by decide +kernel
theorem dL_acts_496 : decode cL_acts 496 = .ok (.iconst 3, 1) := by decide +kernel
theorem dL_acts_497 : decode cL_acts 497 = .ok (.invokestatic 135, 3) := by decide +kernel
theorem dL_acts_500 : decode cL_acts 500 = .ok (.ifCond .ne 33, 3) := by decide +kernel
theorem dL_acts_503 : decode cL_acts 503 = .ok (.aload_n 0, 1) := by decide +kernel
theorem dL_acts_504 : decode cL_acts 504 = .ok (.invokevirtual 146, 3) := by decide +kernel
theorem dL_acts_507 : decode cL_acts 507 = .ok (.iconst 0, 1) := by decide +kernel
theorem dL_acts_508 : decode cL_acts 508 = .ok (.istore 6, 2) := by decide +kernel
theorem dL_acts_510 : decode cL_acts 510 = .ok (.iload 6, 2) := by decide +kernel
theorem dL_acts_512 : decode cL_acts 512 = .ok (.aload_n 3, 1) := by decide +kernel
theorem dL_acts_513 : decode cL_acts 513 = .ok (.invokestatic 32, 3) := by decide +kernel
theorem dL_acts_516 : decode cL_acts 516 = .ok (.if_icmp .ge 15, 3) := by decide +kernel
theorem dL_acts_519 : decode cL_acts 519 = .ok (.aload 5, 2) := by decide +kernel
theorem dL_acts_521 : decode cL_acts 521 = .ok (.iload 6, 2) := by decide +kernel
theorem dL_acts_523 : decode cL_acts 523 = .ok (.iconst 0, 1) := by decide +kernel
theorem dL_acts_524 : decode cL_acts 524 = .ok (.iastore, 1) := by decide +kernel
theorem dL_acts_525 : decode cL_acts 525 = .ok (.iinc 6 1, 3) := by decide +kernel
theorem dL_acts_528 : decode cL_acts 528 = .ok (.goto (-18), 3) := by decide +kernel
theorem dL_acts_531 : decode cL_acts 531 = .ok (.iconst 1, 1) := by decide +kernel
theorem dL_acts_532 : decode cL_acts 532 = .ok (.ireturn, 1) := by decide +kernel
theorem dL_acts_533 : decode cL_acts 533 = .ok (.bipush 24, 2) := by decide +kernel
theorem dL_acts_535 : decode cL_acts 535 = .ok (.newarray .int, 2) := by decide +kernel
theorem dL_acts_537 : decode cL_acts 537 = .ok (.astore 6, 2) := by decide +kernel
theorem dL_acts_539 : decode cL_acts 539 = .ok (.bipush 24, 2) := by decide +kernel
theorem dL_acts_541 : decode cL_acts 541 = .ok (.newarray .int, 2) := by decide +kernel
theorem dL_acts_543 : decode cL_acts 543 = .ok (.astore 7, 2) := by decide +kernel
theorem dL_acts_545 : decode cL_acts 545 = .ok (.bipush 24, 2) := by decide +kernel
theorem dL_acts_547 : decode cL_acts 547 = .ok (.newarray .int, 2) := by decide +kernel
theorem dL_acts_549 : decode cL_acts 549 = .ok (.astore 8, 2) := by decide +kernel
theorem dL_acts_551 : decode cL_acts 551 = .ok (.iconst 4, 1) := by decide +kernel
theorem dL_acts_552 : decode cL_acts 552 = .ok (.newarray .int, 2) := by decide +kernel
theorem dL_acts_554 : decode cL_acts 554 = .ok (.astore 9, 2) := by decide +kernel
theorem dL_acts_556 : decode cL_acts 556 = .ok (.aload_n 3, 1) := by decide +kernel
theorem dL_acts_557 : decode cL_acts 557 = .ok (.aload 5, 2) := by decide +kernel
theorem dL_acts_559 : decode cL_acts 559 = .ok (.aload 4, 2) := by decide +kernel
theorem dL_acts_561 : decode cL_acts 561 = .ok (.aload 6, 2) := by decide +kernel
theorem dL_acts_563 : decode cL_acts 563 = .ok (.aload 7, 2) := by decide +kernel
theorem dL_acts_565 : decode cL_acts 565 = .ok (.aload 8, 2) := by decide +kernel
theorem dL_acts_567 : decode cL_acts 567 = .ok (.aload 9, 2) := by decide +kernel
theorem dL_acts_569 : decode cL_acts 569 = .ok (.invokestatic 149, 3) := by decide +kernel
theorem dL_acts_572 : decode cL_acts 572 = .ok (.iload_n 1, 1) := by decide +kernel
theorem dL_acts_573 : decode cL_acts 573 = .ok (.bipush 10, 2) := by decide +kernel
theorem dL_acts_575 : decode cL_acts 575 = .ok (.if_icmp .ne 79, 3) := by decide +kernel
theorem dL_acts_578 : decode cL_acts 578 = .ok (.iconst 0, 1) := by decide +kernel
theorem dL_acts_579 : decode cL_acts 579 = .ok (.istore 10, 2) := by decide +kernel
theorem dL_acts_581 : decode cL_acts 581 = .ok (.iconst 0, 1) := by decide +kernel
theorem dL_acts_582 : decode cL_acts 582 = .ok (.istore 11, 2) := by decide +kernel
theorem dL_acts_584 : decode cL_acts 584 = .ok (.iload 11, 2) := by decide +kernel
theorem dL_acts_586 : decode cL_acts 586 = .ok (.aload_n 3, 1) := by decide +kernel
theorem dL_acts_587 : decode cL_acts 587 = .ok (.invokestatic 32, 3) := by decide +kernel
theorem dL_acts_590 : decode cL_acts 590 = .ok (.if_icmp .ge 49, 3) := by decide +kernel
theorem dL_acts_593 : decode cL_acts 593 = .ok (.aload 9, 2) := by decide +kernel
theorem dL_acts_595 : decode cL_acts 595 = .ok (.iconst 1, 1) := by decide +kernel
theorem dL_acts_596 : decode cL_acts 596 = .ok (.iaload, 1) := by decide +kernel
theorem dL_acts_597 : decode cL_acts 597 = .ok (.ifCond .ne 42, 3) := by decide +kernel
theorem dL_acts_600 : decode cL_acts 600 = .ok (.iload 10, 2) := by decide +kernel
theorem dL_acts_602 : decode cL_acts 602 = .ok (.aload 5, 2) := by decide +kernel
theorem dL_acts_604 : decode cL_acts 604 = .ok (.iload 11, 2) := by decide +kernel
theorem dL_acts_606 : decode cL_acts 606 = .ok (.iaload, 1) := by decide +kernel
theorem dL_acts_607 : decode cL_acts 607 = .ok (.aload 6, 2) := by decide +kernel
theorem dL_acts_609 : decode cL_acts 609 = .ok (.iload 11, 2) := by decide +kernel
theorem dL_acts_611 : decode cL_acts 611 = .ok (.iaload, 1) := by decide +kernel
theorem dL_acts_612 : decode cL_acts 612 = .ok (.if_icmp .ne 7, 3) := by decide +kernel
theorem dL_acts_615 : decode cL_acts 615 = .ok (.iconst 0, 1) := by decide +kernel
theorem dL_acts_616 : decode cL_acts 616 = .ok (.goto 4, 3) := by decide +kernel
theorem dL_acts_619 : decode cL_acts 619 = .ok (.iconst 1, 1) := by decide +kernel
theorem dL_acts_620 : decode cL_acts 620 = .ok (.iadd, 1) := by decide +kernel
theorem dL_acts_621 : decode cL_acts 621 = .ok (.istore 10, 2) := by decide +kernel
theorem dL_acts_623 : decode cL_acts 623 = .ok (.aload 5, 2) := by decide +kernel
theorem dL_acts_625 : decode cL_acts 625 = .ok (.iload 11, 2) := by decide +kernel
theorem dL_acts_627 : decode cL_acts 627 = .ok (.aload 6, 2) := by decide +kernel
theorem dL_acts_629 : decode cL_acts 629 = .ok (.iload 11, 2) := by decide +kernel
theorem dL_acts_631 : decode cL_acts 631 = .ok (.iaload, 1) := by decide +kernel
theorem dL_acts_632 : decode cL_acts 632 = .ok (.iastore, 1) := by decide +kernel
theorem dL_acts_633 : decode cL_acts 633 = .ok (.iinc 11 1, 3) := by decide +kernel
theorem dL_acts_636 : decode cL_acts 636 = .ok (.goto (-52), 3) := by decide +kernel
theorem dL_acts_639 : decode cL_acts 639 = .ok (.aload_n 0, 1) := by decide +kernel
theorem dL_acts_640 : decode cL_acts 640 = .ok (.invokevirtual 153, 3) := by decide +kernel
theorem dL_acts_643 : decode cL_acts 643 = .ok (.iload 10, 2) := by decide +kernel
theorem dL_acts_645 : decode cL_acts 645 = .ok (.if_icmp .ne 7, 3) := by decide +kernel
theorem dL_acts_648 : decode cL_acts 648 = .ok (.iconst 1, 1) := by decide +kernel
theorem dL_acts_649 : decode cL_acts 649 = .ok (.goto 4, 3) := by decide +kernel
theorem dL_acts_652 : decode cL_acts 652 = .ok (.iconst 0, 1) := by decide +kernel
theorem dL_acts_653 : decode cL_acts 653 = .ok (.ireturn, 1) := by decide +kernel
theorem dL_acts_654 : decode cL_acts 654 = .ok (.iconst 0, 1) := by decide +kernel
theorem dL_acts_655 : decode cL_acts 655 = .ok (.istore 10, 2) := by decide +kernel
theorem dL_acts_657 : decode cL_acts 657 = .ok (.iload 10, 2) := by decide +kernel
theorem dL_acts_659 : decode cL_acts 659 = .ok (.aload_n 3, 1) := by decide +kernel
theorem dL_acts_660 : decode cL_acts 660 = .ok (.invokestatic 32, 3) := by decide +kernel
theorem dL_acts_663 : decode cL_acts 663 = .ok (.if_icmp .gt 105, 3) := by decide +kernel
theorem dL_acts_666 : decode cL_acts 666 = .ok (.iload 10, 2) := by decide +kernel
theorem dL_acts_668 : decode cL_acts 668 = .ok (.aload_n 3, 1) := by decide +kernel
theorem dL_acts_669 : decode cL_acts 669 = .ok (.invokestatic 32, 3) := by decide +kernel
theorem dL_acts_672 : decode cL_acts 672 = .ok (.if_icmp .ge 7, 3) := by decide +kernel
theorem dL_acts_675 : decode cL_acts 675 = .ok (.iconst 1, 1) := by decide +kernel
theorem dL_acts_676 : decode cL_acts 676 = .ok (.goto 4, 3) := by decide +kernel
theorem dL_acts_679 : decode cL_acts 679 = .ok (.iconst 0, 1) := by decide +kernel
theorem dL_acts_680 : decode cL_acts 680 = .ok (.istore 11, 2) := by decide +kernel
theorem dL_acts_682 : decode cL_acts 682 = .ok (.aload_n 0, 1) := by decide +kernel
theorem dL_acts_683 : decode cL_acts 683 = .ok (.iconst 0, 1) := by decide +kernel
theorem dL_acts_684 : decode cL_acts 684 = .ok (.iload 10, 2) := by decide +kernel
theorem dL_acts_686 : decode cL_acts 686 = .ok (.iconst 0, 1) := by decide +kernel
theorem dL_acts_687 : decode cL_acts 687 = .ok (.invokestatic 156, 3) := by decide +kernel
theorem dL_acts_690 : decode cL_acts 690 = .ok (.iload 11, 2) := by decide +kernel
theorem dL_acts_692 : decode cL_acts 692 = .ok (.ifCond .eq 11, 3) := by decide +kernel
theorem dL_acts_695 : decode cL_acts 695 = .ok (.aload 6, 2) := by decide +kernel
theorem dL_acts_697 : decode cL_acts 697 = .ok (.iload 10, 2) := by decide +kernel
theorem dL_acts_699 : decode cL_acts 699 = .ok (.iaload, 1) := by decide +kernel
theorem dL_acts_700 : decode cL_acts 700 = .ok (.goto 5, 3) := by decide +kernel
theorem dL_acts_703 : decode cL_acts 703 = .ok (.bipush (-101), 2) := by decide +kernel
theorem dL_acts_705 : decode cL_acts 705 = .ok (.if_icmp .ne 55, 3) := by decide +kernel
theorem dL_acts_708 : decode cL_acts 708 = .ok (.aload_n 0, 1) := by decide +kernel
theorem dL_acts_709 : decode cL_acts 709 = .ok (.iconst 1, 1) := by decide +kernel
theorem dL_acts_710 : decode cL_acts 710 = .ok (.iload 10, 2) := by decide +kernel
theorem dL_acts_712 : decode cL_acts 712 = .ok (.iconst 0, 1) := by decide +kernel
theorem dL_acts_713 : decode cL_acts 713 = .ok (.invokestatic 156, 3) := by decide +kernel
theorem dL_acts_716 : decode cL_acts 716 = .ok (.iload 11, 2) := by decide +kernel
theorem dL_acts_718 : decode cL_acts 718 = .ok (.ifCond .eq 11, 3) := by decide +kernel
theorem dL_acts_721 : decode cL_acts 721 = .ok (.aload 7, 2) := by decide +kernel
theorem dL_acts_723 : decode cL_acts 723 = .ok (.iload 10, 2) := by decide +kernel
theorem dL_acts_725 : decode cL_acts 725 = .ok (.iaload, 1) := by decide +kernel
theorem dL_acts_726 : decode cL_acts 726 = .ok (.goto 5, 3) := by decide +kernel
theorem dL_acts_729 : decode cL_acts 729 = .ok (.bipush (-101), 2) := by decide +kernel
theorem dL_acts_731 : decode cL_acts 731 = .ok (.if_icmp .ne 29, 3) := by decide +kernel
theorem dL_acts_734 : decode cL_acts 734 = .ok (.aload_n 0, 1) := by decide +kernel
theorem dL_acts_735 : decode cL_acts 735 = .ok (.iconst 2, 1) := by decide +kernel
theorem dL_acts_736 : decode cL_acts 736 = .ok (.iload 10, 2) := by decide +kernel
theorem dL_acts_738 : decode cL_acts 738 = .ok (.iconst 0, 1) := by decide +kernel
theorem dL_acts_739 : decode cL_acts 739 = .ok (.invokestatic 156, 3) := by decide +kernel
theorem dL_acts_742 : decode cL_acts 742 = .ok (.iload 11, 2) := by decide +kernel
theorem dL_acts_744 : decode cL_acts 744 = .ok (.ifCond .eq 11, 3) := by decide +kernel
theorem dL_acts_747 : decode cL_acts 747 = .ok (.aload 8, 2) := by decide +kernel
theorem dL_acts_749 : decode cL_acts 749 = .ok (.iload 10, 2) := by decide +kernel
theorem dL_acts_751 : decode cL_acts 751 = .ok (.iaload, 1) := by decide +kernel
theorem dL_acts_752 : decode cL_acts 752 = .ok (.goto 5, 3) := by decide +kernel
theorem dL_acts_755 : decode cL_acts 755 = .ok (.bipush (-101), 2) := by decide +kernel
theorem dL_acts_757 : decode cL_acts 757 = .ok (.if_icmp .eq 5, 3) := by decide +kernel
theorem dL_acts_760 : decode cL_acts 760 = .ok (.iconst 0, 1) := by decide +kernel
theorem dL_acts_761 : decode cL_acts 761 = .ok (.ireturn, 1) := by decide +kernel
theorem dL_acts_762 : decode cL_acts 762 = .ok (.iinc 10 1, 3) := by decide +kernel
theorem dL_acts_765 : decode cL_acts 765 = .ok (.goto (-108), 3) := by decide +kernel
theorem dL_acts_768 : decode cL_acts 768 = .ok (.aload_n 0, 1) := by decide +kernel
theorem dL_acts_769 : decode cL_acts 769 = .ok (.invokevirtual 160, 3) := by decide +kernel
theorem dL_acts_772 : decode cL_acts 772 = .ok (.aload 9, 2) := by decide +kernel
theorem dL_acts_774 : decode cL_acts 774 = .ok (.iconst 0, 1) := by decide +kernel
theorem dL_acts_775 : decode cL_acts 775 = .ok (.iaload, 1) := by decide +kernel
theorem dL_acts_776 : decode cL_acts 776 = .ok (.if_icmp .ne 18, 3) := by decide +kernel
theorem dL_acts_779 : decode cL_acts 779 = .ok (.aload_n 0, 1) := by decide +kernel
theorem dL_acts_780 : decode cL_acts 780 = .ok (.invokevirtual 163, 3) := by decide +kernel
theorem dL_acts_783 : decode cL_acts 783 = .ok (.aload 9, 2) := by decide +kernel
theorem dL_acts_785 : decode cL_acts 785 = .ok (.iconst 1, 1) := by decide +kernel
theorem dL_acts_786 : decode cL_acts 786 = .ok (.iaload, 1) := by decide +kernel
theorem dL_acts_787 : decode cL_acts 787 = .ok (.if_icmp .ne 7, 3) := by decide +kernel
theorem dL_acts_790 : decode cL_acts 790 = .ok (.iconst 1, 1) := by decide +kernel
theorem dL_acts_791 : decode cL_acts 791 = .ok (.goto 4, 3) := by decide +kernel
theorem dL_acts_794 : decode cL_acts 794 = .ok (.iconst 0, 1) := by decide +kernel
theorem dL_acts_795 : decode cL_acts 795 = .ok (.ireturn, 1) := by decide +kernel
theorem dL_looks_0 : decode cL_looks 0 = .ok (.bipush 24, 2) := by decide +kernel
theorem dL_looks_2 : decode cL_looks 2 = .ok (.newarray .int, 2) := by decide +kernel
theorem dL_looks_4 : decode cL_looks 4 = .ok (.astore 5, 2) := by decide +kernel
theorem dL_looks_6 : decode cL_looks 6 = .ok (.bipush 24, 2) := by decide +kernel
theorem dL_looks_8 : decode cL_looks 8 = .ok (.newarray .int, 2) := by decide +kernel
theorem dL_looks_10 : decode cL_looks 10 = .ok (.astore 6, 2) := by decide +kernel
theorem dL_looks_12 : decode cL_looks 12 = .ok (.bipush 24, 2) := by decide +kernel
theorem dL_looks_14 : decode cL_looks 14 = .ok (.newarray .int, 2) := by decide +kernel
theorem dL_looks_16 : decode cL_looks 16 = .ok (.astore 7, 2) := by decide +kernel
theorem dL_looks_18 : decode cL_looks 18 = .ok (.iconst 4, 1) := by decide +kernel
theorem dL_looks_19 : decode cL_looks 19 = .ok (.newarray .int, 2) := by decide +kernel
theorem dL_looks_21 : decode cL_looks 21 = .ok (.astore 8, 2) := by decide +kernel
theorem dL_looks_23 : decode cL_looks 23 = .ok (.iconst 0, 1) := by decide +kernel
theorem dL_looks_24 : decode cL_looks 24 = .ok (.istore 9, 2) := by decide +kernel
theorem dL_looks_26 : decode cL_looks 26 = .ok (.iconst 0, 1) := by decide +kernel
theorem dL_looks_27 : decode cL_looks 27 = .ok (.istore 10, 2) := by decide +kernel
theorem dL_looks_29 : decode cL_looks 29 = .ok (.iconst 0, 1) := by decide +kernel
theorem dL_looks_30 : decode cL_looks 30 = .ok (.istore 11, 2) := by decide +kernel
theorem dL_looks_32 : decode cL_looks 32 = .ok (.iconst 0, 1) := by decide +kernel
theorem dL_looks_33 : decode cL_looks 33 = .ok (.istore 12, 2) := by decide +kernel
theorem dL_looks_35 : decode cL_looks 35 = .ok (.iload 12, 2) := by decide +kernel
theorem dL_looks_37 : decode cL_looks 37 = .ok (.aload_n 2, 1) := by decide +kernel
theorem dL_looks_38 : decode cL_looks 38 = .ok (.invokestatic 32, 3) := by decide +kernel
theorem dL_looks_41 : decode cL_looks 41 = .ok (.if_icmp .ge 63, 3) := by decide +kernel
theorem dL_looks_44 : decode cL_looks 44 = .ok (.aload 4, 2) := by decide +kernel
theorem dL_looks_46 : decode cL_looks 46 = .ok (.iload 12, 2) := by decide +kernel
theorem dL_looks_48 : decode cL_looks 48 = .ok (.iaload, 1) := by decide +kernel
theorem dL_looks_49 : decode cL_looks 49 = .ok (.iconst 1, 1) := by decide +kernel
theorem dL_looks_50 : decode cL_looks 50 = .ok (.if_icmp .ne 48, 3) := by decide +kernel
theorem dL_looks_53 : decode cL_looks 53 = .ok (.iinc 9 1, 3) := by decide +kernel
theorem dL_looks_56 : decode cL_looks 56 = .ok (.iload 10, 2) := by decide +kernel
theorem dL_looks_58 : decode cL_looks 58 = .ok (.iload 11, 2) := by decide +kernel
theorem dL_looks_60 : decode cL_looks 60 = .ok (.aload_n 2, 1) := by decide +kernel
theorem dL_looks_61 : decode cL_looks 61 = .ok (.iload 12, 2) := by decide +kernel
theorem dL_looks_63 : decode cL_looks 63 = .ok (.invokestatic 22, 3) := by decide +kernel
theorem dL_looks_66 : decode cL_looks 66 = .ok (.ishr, 1) := by decide +kernel
theorem dL_looks_67 : decode cL_looks 67 = .ok (.iconst 1, 1) := by decide +kernel
theorem dL_looks_68 : decode cL_looks 68 = .ok (.iand, 1) := by decide +kernel
theorem dL_looks_69 : decode cL_looks 69 = .ok (.ifCond .ne 7, 3) := by decide +kernel
theorem dL_looks_72 : decode cL_looks 72 = .ok (.iconst 1, 1) := by decide +kernel
theorem dL_looks_73 : decode cL_looks 73 = .ok (.goto 4, 3) := by decide +kernel
theorem dL_looks_76 : decode cL_looks 76 = .ok (.iconst 0, 1) := by decide +kernel
theorem dL_looks_77 : decode cL_looks 77 = .ok (.iadd, 1) := by decide +kernel
theorem dL_looks_78 : decode cL_looks 78 = .ok (.istore 10, 2) := by decide +kernel
theorem dL_looks_80 : decode cL_looks 80 = .ok (.iload 11, 2) := by decide +kernel
theorem dL_looks_82 : decode cL_looks 82 = .ok (.aload_n 2, 1) := by decide +kernel
theorem dL_looks_83 : decode cL_looks 83 = .ok (.aload 4, 2) := by decide +kernel
theorem dL_looks_85 : decode cL_looks 85 = .ok (.aload_n 2, 1) := by decide +kernel
theorem dL_looks_86 : decode cL_looks 86 = .ok (.iload 12, 2) := by decide +kernel
theorem dL_looks_88 : decode cL_looks 88 = .ok (.invokestatic 22, 3) := by decide +kernel
theorem dL_looks_91 : decode cL_looks 91 = .ok (.iconst (-1), 1) := by decide +kernel
theorem dL_looks_92 : decode cL_looks 92 = .ok (.invokestatic 49, 3) := by decide +kernel
theorem dL_looks_95 : decode cL_looks 95 = .ok (.ior, 1) := by decide +kernel
theorem dL_looks_96 : decode cL_looks 96 = .ok (.istore 11, 2) := by decide +kernel
theorem dL_looks_98 : decode cL_looks 98 = .ok (.iinc 12 1, 3) := by decide +kernel
theorem dL_looks_101 : decode cL_looks 101 = .ok (.goto (-66), 3) := by decide +kernel
theorem dL_looks_104 : decode cL_looks 104 = .ok (.aload_n 2, 1) := by decide +kernel
theorem dL_looks_105 : decode cL_looks 105 = .ok (.aload 4, 2) := by decide +kernel
theorem dL_looks_107 : decode cL_looks 107 = .ok (.aload_n 3, 1) := by decide +kernel
theorem dL_looks_108 : decode cL_looks 108 = .ok (.aload 5, 2) := by decide +kernel
theorem dL_looks_110 : decode cL_looks 110 = .ok (.aload 6, 2) := by decide +kernel
theorem dL_looks_112 : decode cL_looks 112 = .ok (.aload 7, 2) := by decide +kernel
theorem dL_looks_114 : decode cL_looks 114 = .ok (.aload 8, 2) := by decide +kernel
theorem dL_looks_116 : decode cL_looks 116 = .ok (.invokestatic 149, 3) := by decide +kernel
theorem dL_looks_119 : decode cL_looks 119 = .ok (.iload_n 1, 1) := by decide +kernel
theorem dL_looks_120 : decode cL_looks 120 = .ok (.aload_n 2, 1) := by decide +kernel
theorem dL_looks_121 : decode cL_looks 121 = .ok (.iconst 0, 1) := by decide +kernel
theorem dL_looks_122 : decode cL_looks 122 = .ok (.iaload, 1) := by decide +kernel
theorem dL_looks_123 : decode cL_looks 123 = .ok (.aload_n 2, 1) := by decide +kernel
theorem dL_looks_124 : decode cL_looks 124 = .ok (.iconst 1, 1) := by decide +kernel
theorem dL_looks_125 : decode cL_looks 125 = .ok (.iaload, 1) := by decide +kernel
theorem dL_looks_126 : decode cL_looks 126 = .ok (.imul, 1) := by decide +kernel
theorem dL_looks_127 : decode cL_looks 127 = .ok (.iconst 1, 1) := by decide +kernel
theorem dL_looks_128 : decode cL_looks 128 = .ok (.iadd, 1) := by decide +kernel
theorem dL_looks_129 : decode cL_looks 129 = .ok (.invokestatic 135, 3) := by decide +kernel
theorem dL_looks_132 : decode cL_looks 132 = .ok (.istore 12, 2) := by decide +kernel
theorem dL_looks_134 : decode cL_looks 134 = .ok (.iload_n 1, 1) := by decide +kernel
theorem dL_looks_135 : decode cL_looks 135 = .ok (.iconst 3, 1) := by decide +kernel
theorem dL_looks_136 : decode cL_looks 136 = .ok (.ishr, 1) := by decide +kernel
theorem dL_looks_137 : decode cL_looks 137 = .ok (.iconst 5, 1) := by decide +kernel
theorem dL_looks_138 : decode cL_looks 138 = .ok (.invokestatic 135, 3) := by decide +kernel
theorem dL_looks_141 : decode cL_looks 141 = .ok (.istore 13, 2) := by decide +kernel
theorem dL_looks_143 : decode cL_looks 143 = .ok (.iload 12, 2) := by decide +kernel
theorem dL_looks_145 : decode cL_looks 145 = .ok (.aload_n 2, 1) := by decide +kernel
theorem dL_looks_146 : decode cL_looks 146 = .ok (.iconst 0, 1) := by decide +kernel
theorem dL_looks_147 : decode cL_looks 147 = .ok (.iaload, 1) := by decide +kernel
theorem dL_looks_148 : decode cL_looks 148 = .ok (.aload_n 2, 1) := by decide +kernel
theorem dL_looks_149 : decode cL_looks 149 = .ok (.iconst 1, 1) := by decide +kernel
theorem dL_looks_150 : decode cL_looks 150 = .ok (.iaload, 1) := by decide +kernel
theorem dL_looks_151 : decode cL_looks 151 = .ok (.imul, 1) := by decide +kernel
theorem dL_looks_152 : decode cL_looks 152 = .ok (.if_icmp .ge 13, 3) := by decide +kernel
theorem dL_looks_155 : decode cL_looks 155 = .ok (.iload 13, 2) := by decide +kernel
theorem dL_looks_157 : decode cL_looks 157 = .ok (.iconst 4, 1) := by decide +kernel
theorem dL_looks_158 : decode cL_looks 158 = .ok (.if_icmp .ge 7, 3) := by decide +kernel
theorem dL_looks_161 : decode cL_looks 161 = .ok (.iconst 1, 1) := by decide +kernel
theorem dL_looks_162 : decode cL_looks 162 = .ok (.goto 4, 3) := by decide +kernel
theorem dL_looks_165 : decode cL_looks 165 = .ok (.iconst 0, 1) := by decide +kernel
theorem dL_looks_166 : decode cL_looks 166 = .ok (.istore 14, 2) := by decide +kernel
theorem dL_looks_168 : decode cL_looks 168 = .ok (.aload_n 0, 1) := by decide +kernel
theorem dL_looks_169 : decode cL_looks 169 = .ok (.invokevirtual 166, 3) := by decide +kernel
theorem dL_looks_172 : decode cL_looks 172 = .ok (.iload 9, 2) := by decide +kernel
theorem dL_looks_174 : decode cL_looks 174 = .ok (.if_icmp .ne 139, 3) := by decide +kernel
theorem dL_looks_177 : decode cL_looks 177 = .ok (.aload_n 0, 1) := by decide +kernel
theorem dL_looks_178 : decode cL_looks 178 = .ok (.invokevirtual 168, 3) := by decide +kernel
theorem dL_looks_181 : decode cL_looks 181 = .ok (.iload 10, 2) := by decide +kernel
theorem dL_looks_183 : decode cL_looks 183 = .ok (.if_icmp .ne 130, 3) := by decide +kernel
theorem dL_looks_186 : decode cL_looks 186 = .ok (.aload_n 0, 1) := by decide +kernel
theorem dL_looks_187 : decode cL_looks 187 = .ok (.invokevirtual 171, 3) := by decide +kernel
theorem dL_looks_190 : decode cL_looks 190 = .ok (.aload_n 2, 1) := by decide +kernel
theorem dL_looks_191 : decode cL_looks 191 = .ok (.aload 4, 2) := by decide +kernel
theorem dL_looks_193 : decode cL_looks 193 = .ok (.aload_n 3, 1) := by decide +kernel
theorem dL_looks_194 : decode cL_looks 194 = .ok (.invokestatic 67, 3) := by decide +kernel
theorem dL_looks_197 : decode cL_looks 197 = .ok (.if_icmp .ne 116, 3) := by decide +kernel
theorem dL_looks_200 : decode cL_looks 200 = .ok (.aload_n 0, 1) := by decide +kernel
theorem dL_looks_201 : decode cL_looks 201 = .ok (.invokevirtual 173, 3) := by decide +kernel
theorem dL_looks_204 : decode cL_looks 204 = .ok (.aload_n 2, 1) := by decide +kernel
theorem dL_looks_205 : decode cL_looks 205 = .ok (.aload 4, 2) := by decide +kernel
theorem dL_looks_207 : decode cL_looks 207 = .ok (.invokestatic 63, 3) := by decide +kernel
theorem dL_looks_210 : decode cL_looks 210 = .ok (.ifCond .eq 18, 3) := by decide +kernel
theorem dL_looks_213 : decode cL_looks 213 = .ok (.aload_n 2, 1) := by decide +kernel
theorem dL_looks_214 : decode cL_looks 214 = .ok (.aload 4, 2) := by decide +kernel
theorem dL_looks_216 : decode cL_looks 216 = .ok (.aload_n 3, 1) := by decide +kernel
theorem dL_looks_217 : decode cL_looks 217 = .ok (.iconst (-1), 1) := by decide +kernel
theorem dL_looks_218 : decode cL_looks 218 = .ok (.invokestatic 55, 3) := by decide +kernel
theorem dL_looks_221 : decode cL_looks 221 = .ok (.ifCond .eq 7, 3) := by decide +kernel
theorem dL_looks_224 : decode cL_looks 224 = .ok (.iconst 1, 1) := by decide +kernel
theorem dL_looks_225 : decode cL_looks 225 = .ok (.goto 4, 3) := by decide +kernel
theorem dL_looks_228 : decode cL_looks 228 = .ok (.iconst 0, 1) := by decide +kernel
theorem dL_looks_229 : decode cL_looks 229 = .ok (.if_icmp .ne 84, 3) := by decide +kernel
theorem dL_looks_232 : decode cL_looks 232 = .ok (.aload_n 0, 1) := by decide +kernel
theorem dL_looks_233 : decode cL_looks 233 = .ok (.invokevirtual 177, 3) := by decide +kernel
theorem dL_looks_236 : decode cL_looks 236 = .ok (.aload 8, 2) := by decide +kernel
theorem dL_looks_238 : decode cL_looks 238 = .ok (.iconst 2, 1) := by decide +kernel
theorem dL_looks_239 : decode cL_looks 239 = .ok (.iaload, 1) := by decide +kernel
theorem dL_looks_240 : decode cL_looks 240 = .ok (.if_icmp .ne 73, 3) := by decide +kernel
theorem dL_looks_243 : decode cL_looks 243 = .ok (.aload_n 0, 1) := by decide +kernel
theorem dL_looks_244 : decode cL_looks 244 = .ok (.invokevirtual 163, 3) := by decide +kernel
theorem dL_looks_247 : decode cL_looks 247 = .ok (.aload 8, 2) := by decide +kernel
theorem dL_looks_249 : decode cL_looks 249 = .ok (.iconst 1, 1) := by decide +kernel
theorem dL_looks_250 : decode cL_looks 250 = .ok (.iaload, 1) := by decide +kernel
theorem dL_looks_251 : decode cL_looks 251 = .ok (.if_icmp .ne 62, 3) := by decide +kernel
theorem dL_looks_254 : decode cL_looks 254 = .ok (.aload_n 0, 1) := by decide +kernel
theorem dL_looks_255 : decode cL_looks 255 = .ok (.invokevirtual 180, 3) := by decide +kernel
theorem dL_looks_258 : decode cL_looks 258 = .ok (.aload_n 2, 1) := by decide +kernel
theorem dL_looks_259 : decode cL_looks 259 = .ok (.iconst 0, 1) := by decide +kernel
theorem dL_looks_260 : decode cL_looks 260 = .ok (.iaload, 1) := by decide +kernel
theorem dL_looks_261 : decode cL_looks 261 = .ok (.aload_n 2, 1) := by decide +kernel
theorem dL_looks_262 : decode cL_looks 262 = .ok (.iconst 1, 1) := by decide +kernel
theorem dL_looks_263 : decode cL_looks 263 = .ok (.iaload, 1) := by decide +kernel
theorem dL_looks_264 : decode cL_looks 264 = .ok (.imul, 1) := by decide +kernel
theorem dL_looks_265 : decode cL_looks 265 = .ok (.if_icmp .ne 48, 3) := by decide +kernel
theorem dL_looks_268 : decode cL_looks 268 = .ok (.aload_n 0, 1) := by decide +kernel
theorem dL_looks_269 : decode cL_looks 269 = .ok (.invokevirtual 183, 3) := by decide +kernel
theorem dL_looks_272 : decode cL_looks 272 = .ok (.aload_n 2, 1) := by decide +kernel
theorem dL_looks_273 : decode cL_looks 273 = .ok (.invokestatic 32, 3) := by decide +kernel
theorem dL_looks_276 : decode cL_looks 276 = .ok (.if_icmp .ne 37, 3) := by decide +kernel
theorem dL_looks_279 : decode cL_looks 279 = .ok (.aload_n 0, 1) := by decide +kernel
theorem dL_looks_280 : decode cL_looks 280 = .ok (.iconst 3, 1) := by decide +kernel
theorem dL_looks_281 : decode cL_looks 281 = .ok (.iload 12, 2) := by decide +kernel
theorem dL_looks_283 : decode cL_looks 283 = .ok (.iload 13, 2) := by decide +kernel
theorem dL_looks_285 : decode cL_looks 285 = .ok (.invokestatic 156, 3) := by decide +kernel
theorem dL_looks_288 : decode cL_looks 288 = .ok (.iload 14, 2) := by decide +kernel
theorem dL_looks_290 : decode cL_looks 290 = .ok (.ifCond .eq 14, 3) := by decide +kernel
theorem dL_looks_293 : decode cL_looks 293 = .ok (.aload_n 2, 1) := by decide +kernel
theorem dL_looks_294 : decode cL_looks 294 = .ok (.iload 12, 2) := by decide +kernel
theorem dL_looks_296 : decode cL_looks 296 = .ok (.iload 13, 2) := by decide +kernel
theorem dL_looks_298 : decode cL_looks 298 = .ok (.invokestatic 29, 3) := by decide +kernel
theorem dL_looks_301 : decode cL_looks 301 = .ok (.goto 5, 3) := by decide +kernel
theorem dL_looks_304 : decode cL_looks 304 = .ok (.bipush (-101), 2) := by decide +kernel
theorem dL_looks_306 : decode cL_looks 306 = .ok (.if_icmp .ne 7, 3) := by decide +kernel
theorem dL_looks_309 : decode cL_looks 309 = .ok (.iconst 1, 1) := by decide +kernel
theorem dL_looks_310 : decode cL_looks 310 = .ok (.goto 4, 3) := by decide +kernel
theorem dL_looks_313 : decode cL_looks 313 = .ok (.iconst 0, 1) := by decide +kernel
theorem dL_looks_314 : decode cL_looks 314 = .ok (.ireturn, 1) := by decide +kernel
theorem dL_solves_0 : decode cL_solves 0 = .ok (.bipush 24, 2) := by decide +kernel
theorem dL_solves_2 : decode cL_solves 2 = .ok (.newarray .int, 2) := by decide +kernel
theorem dL_solves_4 : decode cL_solves 4 = .ok (.astore 5, 2) := by decide +kernel
theorem dL_solves_6 : decode cL_solves 6 = .ok (.bipush 24, 2) := by decide +kernel
theorem dL_solves_8 : decode cL_solves 8 = .ok (.newarray .int, 2) := by decide +kernel
theorem dL_solves_10 : decode cL_solves 10 = .ok (.astore 6, 2) := by decide +kernel
theorem dL_solves_12 : decode cL_solves 12 = .ok (.bipush 24, 2) := by decide +kernel
theorem dL_solves_14 : decode cL_solves 14 = .ok (.newarray .int, 2) := by decide +kernel
theorem dL_solves_16 : decode cL_solves 16 = .ok (.astore 7, 2) := by decide +kernel
theorem dL_solves_18 : decode cL_solves 18 = .ok (.bipush 24, 2) := by decide +kernel
theorem dL_solves_20 : decode cL_solves 20 = .ok (.newarray .int, 2) := by decide +kernel
theorem dL_solves_22 : decode cL_solves 22 = .ok (.astore 8, 2) := by decide +kernel
theorem dL_solves_24 : decode cL_solves 24 = .ok (.iconst 4, 1) := by decide +kernel
theorem dL_solves_25 : decode cL_solves 25 = .ok (.newarray .int, 2) := by decide +kernel
theorem dL_solves_27 : decode cL_solves 27 = .ok (.astore 9, 2) := by decide +kernel
theorem dL_solves_29 : decode cL_solves 29 = .ok (.iload_n 1, 1) := by decide +kernel
theorem dL_solves_30 : decode cL_solves 30 = .ok (.aload_n 2, 1) := by decide +kernel
theorem dL_solves_31 : decode cL_solves 31 = .ok (.iconst 0, 1) := by decide +kernel
theorem dL_solves_32 : decode cL_solves 32 = .ok (.iaload, 1) := by decide +kernel
theorem dL_solves_33 : decode cL_solves 33 = .ok (.aload_n 2, 1) := by decide +kernel
theorem dL_solves_34 : decode cL_solves 34 = .ok (.iconst 1, 1) := by decide +kernel
theorem dL_solves_35 : decode cL_solves 35 = .ok (.iaload, 1) := by decide +kernel
theorem dL_solves_36 : decode cL_solves 36 = .ok (.imul, 1) := by decide +kernel
theorem dL_solves_37 : decode cL_solves 37 = .ok (.iconst 1, 1) := by decide +kernel
theorem dL_solves_38 : decode cL_solves 38 = .ok (.iadd, 1) := by decide +kernel
theorem dL_solves_39 : decode cL_solves 39 = .ok (.invokestatic 135, 3) := by decide +kernel
theorem dL_solves_42 : decode cL_solves 42 = .ok (.istore 10, 2) := by decide +kernel
theorem dL_solves_44 : decode cL_solves 44 = .ok (.iload 10, 2) := by decide +kernel
theorem dL_solves_46 : decode cL_solves 46 = .ok (.aload_n 2, 1) := by decide +kernel
theorem dL_solves_47 : decode cL_solves 47 = .ok (.iconst 0, 1) := by decide +kernel
theorem dL_solves_48 : decode cL_solves 48 = .ok (.iaload, 1) := by decide +kernel
theorem dL_solves_49 : decode cL_solves 49 = .ok (.aload_n 2, 1) := by decide +kernel
theorem dL_solves_50 : decode cL_solves 50 = .ok (.iconst 1, 1) := by decide +kernel
theorem dL_solves_51 : decode cL_solves 51 = .ok (.iaload, 1) := by decide +kernel
theorem dL_solves_52 : decode cL_solves 52 = .ok (.imul, 1) := by decide +kernel
theorem dL_solves_53 : decode cL_solves 53 = .ok (.if_icmp .ge 7, 3) := by decide +kernel
theorem dL_solves_56 : decode cL_solves 56 = .ok (.iconst 1, 1) := by decide +kernel
theorem dL_solves_57 : decode cL_solves 57 = .ok (.goto 4, 3) := by decide +kernel
theorem dL_solves_60 : decode cL_solves 60 = .ok (.iconst 0, 1) := by decide +kernel
theorem dL_solves_61 : decode cL_solves 61 = .ok (.istore 11, 2) := by decide +kernel
theorem dL_solves_63 : decode cL_solves 63 = .ok (.aload_n 2, 1) := by decide +kernel
theorem dL_solves_64 : decode cL_solves 64 = .ok (.aload 4, 2) := by decide +kernel
theorem dL_solves_66 : decode cL_solves 66 = .ok (.aload_n 3, 1) := by decide +kernel
theorem dL_solves_67 : decode cL_solves 67 = .ok (.iconst (-1), 1) := by decide +kernel
theorem dL_solves_68 : decode cL_solves 68 = .ok (.lconst 0, 1) := by decide +kernel
theorem dL_solves_69 : decode cL_solves 69 = .ok (.aload 5, 2) := by decide +kernel
theorem dL_solves_71 : decode cL_solves 71 = .ok (.aload 9, 2) := by decide +kernel
theorem dL_solves_73 : decode cL_solves 73 = .ok (.invokestatic 185, 3) := by decide +kernel
theorem dL_solves_76 : decode cL_solves 76 = .ok (.istore 12, 2) := by decide +kernel
theorem dL_solves_78 : decode cL_solves 78 = .ok (.iload 11, 2) := by decide +kernel
theorem dL_solves_80 : decode cL_solves 80 = .ok (.ifCond .eq 20, 3) := by decide +kernel
theorem dL_solves_83 : decode cL_solves 83 = .ok (.aload_n 2, 1) := by decide +kernel
theorem dL_solves_84 : decode cL_solves 84 = .ok (.aload 4, 2) := by decide +kernel
theorem dL_solves_86 : decode cL_solves 86 = .ok (.aload_n 3, 1) := by decide +kernel
theorem dL_solves_87 : decode cL_solves 87 = .ok (.iload 10, 2) := by decide +kernel
theorem dL_solves_89 : decode cL_solves 89 = .ok (.lconst 0, 1) := by decide +kernel
theorem dL_solves_90 : decode cL_solves 90 = .ok (.aload 5, 2) := by decide +kernel
theorem dL_solves_92 : decode cL_solves 92 = .ok (.aload 9, 2) := by decide +kernel
theorem dL_solves_94 : decode cL_solves 94 = .ok (.invokestatic 185, 3) := by decide +kernel
theorem dL_solves_97 : decode cL_solves 97 = .ok (.goto 4, 3) := by decide +kernel
theorem dL_solves_100 : decode cL_solves 100 = .ok (.iconst 0, 1) := by decide +kernel
theorem dL_solves_101 : decode cL_solves 101 = .ok (.istore 13, 2) := by decide +kernel
theorem dL_solves_103 : decode cL_solves 103 = .ok (.aload_n 0, 1) := by decide +kernel
theorem dL_solves_104 : decode cL_solves 104 = .ok (.invokevirtual 189, 3) := by decide +kernel
theorem dL_solves_107 : decode cL_solves 107 = .ok (.iload 12, 2) := by decide +kernel
theorem dL_solves_109 : decode cL_solves 109 = .ok (.if_icmp .ne 43, 3) := by decide +kernel
theorem dL_solves_112 : decode cL_solves 112 = .ok (.aload_n 0, 1) := by decide +kernel
theorem dL_solves_113 : decode cL_solves 113 = .ok (.iconst 4, 1) := by decide +kernel
theorem dL_solves_114 : decode cL_solves 114 = .ok (.iload 10, 2) := by decide +kernel
theorem dL_solves_116 : decode cL_solves 116 = .ok (.iconst 0, 1) := by decide +kernel
theorem dL_solves_117 : decode cL_solves 117 = .ok (.invokestatic 156, 3) := by decide +kernel
theorem dL_solves_120 : decode cL_solves 120 = .ok (.iload 11, 2) := by decide +kernel
theorem dL_solves_122 : decode cL_solves 122 = .ok (.ifCond .eq 25, 3) := by decide +kernel
theorem dL_solves_125 : decode cL_solves 125 = .ok (.aload_n 3, 1) := by decide +kernel
theorem dL_solves_126 : decode cL_solves 126 = .ok (.iload 10, 2) := by decide +kernel
theorem dL_solves_128 : decode cL_solves 128 = .ok (.iaload, 1) := by decide +kernel
theorem dL_solves_129 : decode cL_solves 129 = .ok (.ifCond .lt 14, 3) := by decide +kernel
theorem dL_solves_132 : decode cL_solves 132 = .ok (.iload 13, 2) := by decide +kernel
theorem dL_solves_134 : decode cL_solves 134 = .ok (.iload 12, 2) := by decide +kernel
theorem dL_solves_136 : decode cL_solves 136 = .ok (.if_icmp .le 7, 3) := by decide +kernel
theorem dL_solves_139 : decode cL_solves 139 = .ok (.iconst 1, 1) := by decide +kernel
theorem dL_solves_140 : decode cL_solves 140 = .ok (.goto 9, 3) := by decide +kernel
theorem dL_solves_143 : decode cL_solves 143 = .ok (.iconst 0, 1) := by decide +kernel
theorem dL_solves_144 : decode cL_solves 144 = .ok (.goto 5, 3) := by decide +kernel
theorem dL_solves_147 : decode cL_solves 147 = .ok (.bipush (-101), 2) := by decide +kernel
theorem dL_solves_149 : decode cL_solves 149 = .ok (.if_icmp .eq 5, 3) := by decide +kernel
theorem dL_solves_152 : decode cL_solves 152 = .ok (.iconst 0, 1) := by decide +kernel
theorem dL_solves_153 : decode cL_solves 153 = .ok (.ireturn, 1) := by decide +kernel
theorem dL_solves_154 : decode cL_solves 154 = .ok (.iload_n 1, 1) := by decide +kernel
theorem dL_solves_155 : decode cL_solves 155 = .ok (.iconst 3, 1) := by decide +kernel
theorem dL_solves_156 : decode cL_solves 156 = .ok (.ishr, 1) := by decide +kernel
theorem dL_solves_157 : decode cL_solves 157 = .ok (.iload 12, 2) := by decide +kernel
theorem dL_solves_159 : decode cL_solves 159 = .ok (.iconst 2, 1) := by decide +kernel
theorem dL_solves_160 : decode cL_solves 160 = .ok (.iadd, 1) := by decide +kernel
theorem dL_solves_161 : decode cL_solves 161 = .ok (.invokestatic 135, 3) := by decide +kernel
theorem dL_solves_164 : decode cL_solves 164 = .ok (.iconst 1, 1) := by decide +kernel
theorem dL_solves_165 : decode cL_solves 165 = .ok (.isub, 1) := by decide +kernel
theorem dL_solves_166 : decode cL_solves 166 = .ok (.istore 14, 2) := by decide +kernel
theorem dL_solves_168 : decode cL_solves 168 = .ok (.aload_n 0, 1) := by decide +kernel
theorem dL_solves_169 : decode cL_solves 169 = .ok (.iload 14, 2) := by decide +kernel
theorem dL_solves_171 : decode cL_solves 171 = .ok (.invokestatic 191, 3) := by decide +kernel
theorem dL_solves_174 : decode cL_solves 174 = .ok (.lstore 15, 2) := by decide +kernel
theorem dL_solves_176 : decode cL_solves 176 = .ok (.iload 14, 2) := by decide +kernel
theorem dL_solves_178 : decode cL_solves 178 = .ok (.ifCond .lt 14, 3) := by decide +kernel
theorem dL_solves_181 : decode cL_solves 181 = .ok (.iload 14, 2) := by decide +kernel
theorem dL_solves_183 : decode cL_solves 183 = .ok (.iload 12, 2) := by decide +kernel
theorem dL_solves_185 : decode cL_solves 185 = .ok (.if_icmp .ge 7, 3) := by decide +kernel
theorem dL_solves_188 : decode cL_solves 188 = .ok (.iconst 1, 1) := by decide +kernel
theorem dL_solves_189 : decode cL_solves 189 = .ok (.goto 4, 3) := by decide +kernel
theorem dL_solves_192 : decode cL_solves 192 = .ok (.iconst 0, 1) := by decide +kernel
theorem dL_solves_193 : decode cL_solves 193 = .ok (.istore 17, 2) := by decide +kernel
theorem dL_solves_195 : decode cL_solves 195 = .ok (.iload 17, 2) := by decide +kernel
theorem dL_solves_197 : decode cL_solves 197 = .ok (.ifCond .ne 65, 3) := by decide +kernel
theorem dL_solves_200 : decode cL_solves 200 = .ok (.lload 15, 2) := by decide +kernel
theorem dL_solves_202 : decode cL_solves 202 = .ok (.ldc2_w 124, 3) := by decide +kernel
theorem dL_solves_205 : decode cL_solves 205 = .ok (.lcmp, 1) := by decide +kernel
theorem dL_solves_206 : decode cL_solves 206 = .ok (.ifCond .ne 54, 3) := by decide +kernel
theorem dL_solves_209 : decode cL_solves 209 = .ok (.aload_n 0, 1) := by decide +kernel
theorem dL_solves_210 : decode cL_solves 210 = .ok (.iconst 5, 1) := by decide +kernel
theorem dL_solves_211 : decode cL_solves 211 = .ok (.iload 14, 2) := by decide +kernel
theorem dL_solves_213 : decode cL_solves 213 = .ok (.iconst 0, 1) := by decide +kernel
theorem dL_solves_214 : decode cL_solves 214 = .ok (.invokestatic 156, 3) := by decide +kernel
theorem dL_solves_217 : decode cL_solves 217 = .ok (.bipush (-101), 2) := by decide +kernel
theorem dL_solves_219 : decode cL_solves 219 = .ok (.if_icmp .ne 41, 3) := by decide +kernel
theorem dL_solves_222 : decode cL_solves 222 = .ok (.iload 12, 2) := by decide +kernel
theorem dL_solves_224 : decode cL_solves 224 = .ok (.ifCond .gt 32, 3) := by decide +kernel
theorem dL_solves_227 : decode cL_solves 227 = .ok (.aload_n 0, 1) := by decide +kernel
theorem dL_solves_228 : decode cL_solves 228 = .ok (.iconst 0, 1) := by decide +kernel
theorem dL_solves_229 : decode cL_solves 229 = .ok (.invokestatic 194, 3) := by decide +kernel
theorem dL_solves_232 : decode cL_solves 232 = .ok (.bipush (-102), 2) := by decide +kernel
theorem dL_solves_234 : decode cL_solves 234 = .ok (.if_icmp .ne 26, 3) := by decide +kernel
theorem dL_solves_237 : decode cL_solves 237 = .ok (.aload_n 0, 1) := by decide +kernel
theorem dL_solves_238 : decode cL_solves 238 = .ok (.iconst (-1), 1) := by decide +kernel
theorem dL_solves_239 : decode cL_solves 239 = .ok (.invokestatic 194, 3) := by decide +kernel
theorem dL_solves_242 : decode cL_solves 242 = .ok (.bipush (-101), 2) := by decide +kernel
theorem dL_solves_244 : decode cL_solves 244 = .ok (.if_icmp .ne 16, 3) := by decide +kernel
theorem dL_solves_247 : decode cL_solves 247 = .ok (.aload_n 0, 1) := by decide +kernel
theorem dL_solves_248 : decode cL_solves 248 = .ok (.invokestatic 197, 3) := by decide +kernel
theorem dL_solves_251 : decode cL_solves 251 = .ok (.bipush (-101), 2) := by decide +kernel
theorem dL_solves_253 : decode cL_solves 253 = .ok (.if_icmp .ne 7, 3) := by decide +kernel
theorem dL_solves_256 : decode cL_solves 256 = .ok (.iconst 1, 1) := by decide +kernel
theorem dL_solves_257 : decode cL_solves 257 = .ok (.goto 4, 3) := by decide +kernel
theorem dL_solves_260 : decode cL_solves 260 = .ok (.iconst 0, 1) := by decide +kernel
theorem dL_solves_261 : decode cL_solves 261 = .ok (.ireturn, 1) := by decide +kernel
theorem dL_solves_262 : decode cL_solves 262 = .ok (.iconst 0, 1) := by decide +kernel
theorem dL_solves_263 : decode cL_solves 263 = .ok (.istore 18, 2) := by decide +kernel
theorem dL_solves_265 : decode cL_solves 265 = .ok (.iconst 0, 1) := by decide +kernel
theorem dL_solves_266 : decode cL_solves 266 = .ok (.istore 19, 2) := by decide +kernel
theorem dL_solves_268 : decode cL_solves 268 = .ok (.iload 19, 2) := by decide +kernel
theorem dL_solves_270 : decode cL_solves 270 = .ok (.aload_n 2, 1) := by decide +kernel
theorem dL_solves_271 : decode cL_solves 271 = .ok (.iconst 0, 1) := by decide +kernel
theorem dL_solves_272 : decode cL_solves 272 = .ok (.iaload, 1) := by decide +kernel
theorem dL_solves_273 : decode cL_solves 273 = .ok (.aload_n 2, 1) := by decide +kernel
theorem dL_solves_274 : decode cL_solves 274 = .ok (.iconst 1, 1) := by decide +kernel
theorem dL_solves_275 : decode cL_solves 275 = .ok (.iaload, 1) := by decide +kernel
theorem dL_solves_276 : decode cL_solves 276 = .ok (.imul, 1) := by decide +kernel
theorem dL_solves_277 : decode cL_solves 277 = .ok (.if_icmp .ge 77, 3) := by decide +kernel
theorem dL_solves_280 : decode cL_solves 280 = .ok (.aload_n 0, 1) := by decide +kernel
theorem dL_solves_281 : decode cL_solves 281 = .ok (.iconst 5, 1) := by decide +kernel
theorem dL_solves_282 : decode cL_solves 282 = .ok (.iload 14, 2) := by decide +kernel
theorem dL_solves_284 : decode cL_solves 284 = .ok (.iload 19, 2) := by decide +kernel
theorem dL_solves_286 : decode cL_solves 286 = .ok (.invokestatic 156, 3) := by decide +kernel
theorem dL_solves_289 : decode cL_solves 289 = .ok (.istore 20, 2) := by decide +kernel
theorem dL_solves_291 : decode cL_solves 291 = .ok (.iload 19, 2) := by decide +kernel
theorem dL_solves_293 : decode cL_solves 293 = .ok (.aload_n 2, 1) := by decide +kernel
theorem dL_solves_294 : decode cL_solves 294 = .ok (.iconst 0, 1) := by decide +kernel
theorem dL_solves_295 : decode cL_solves 295 = .ok (.iaload, 1) := by decide +kernel
theorem dL_solves_296 : decode cL_solves 296 = .ok (.irem, 1) := by decide +kernel
theorem dL_solves_297 : decode cL_solves 297 = .ok (.ifCond .ne 7, 3) := by decide +kernel
theorem dL_solves_300 : decode cL_solves 300 = .ok (.iconst 0, 1) := by decide +kernel
theorem dL_solves_301 : decode cL_solves 301 = .ok (.goto 12, 3) := by decide +kernel
theorem dL_solves_304 : decode cL_solves 304 = .ok (.iload 18, 2) := by decide +kernel
theorem dL_solves_306 : decode cL_solves 306 = .ok (.iload 19, 2) := by decide +kernel
theorem dL_solves_308 : decode cL_solves 308 = .ok (.iconst 1, 1) := by decide +kernel
theorem dL_solves_309 : decode cL_solves 309 = .ok (.isub, 1) := by decide +kernel
theorem dL_solves_310 : decode cL_solves 310 = .ok (.ishr, 1) := by decide +kernel
theorem dL_solves_311 : decode cL_solves 311 = .ok (.iconst 1, 1) := by decide +kernel
theorem dL_solves_312 : decode cL_solves 312 = .ok (.iand, 1) := by decide +kernel
theorem dL_solves_313 : decode cL_solves 313 = .ok (.istore 21, 2) := by decide +kernel
theorem dL_solves_315 : decode cL_solves 315 = .ok (.iload 20, 2) := by decide +kernel
theorem dL_solves_317 : decode cL_solves 317 = .ok (.iload 21, 2) := by decide +kernel
theorem dL_solves_319 : decode cL_solves 319 = .ok (.lload 15, 2) := by decide +kernel
theorem dL_solves_321 : decode cL_solves 321 = .ok (.aload_n 2, 1) := by decide +kernel
theorem dL_solves_322 : decode cL_solves 322 = .ok (.iload 19, 2) := by decide +kernel
theorem dL_solves_324 : decode cL_solves 324 = .ok (.iconst 2, 1) := by decide +kernel
theorem dL_solves_325 : decode cL_solves 325 = .ok (.invokestatic 29, 3) := by decide +kernel
theorem dL_solves_328 : decode cL_solves 328 = .ok (.lshr, 1) := by decide +kernel
theorem dL_solves_329 : decode cL_solves 329 = .ok (.lconst 1, 1) := by decide +kernel
theorem dL_solves_330 : decode cL_solves 330 = .ok (.land, 1) := by decide +kernel
theorem dL_solves_331 : decode cL_solves 331 = .ok (.l2i, 1) := by decide +kernel
theorem dL_solves_332 : decode cL_solves 332 = .ok (.ixor, 1) := by decide +kernel
theorem dL_solves_333 : decode cL_solves 333 = .ok (.if_icmp .eq 5, 3) := by decide +kernel
theorem dL_solves_336 : decode cL_solves 336 = .ok (.iconst 0, 1) := by decide +kernel
theorem dL_solves_337 : decode cL_solves 337 = .ok (.ireturn, 1) := by decide +kernel
theorem dL_solves_338 : decode cL_solves 338 = .ok (.iload 18, 2) := by decide +kernel
theorem dL_solves_340 : decode cL_solves 340 = .ok (.iload 20, 2) := by decide +kernel
theorem dL_solves_342 : decode cL_solves 342 = .ok (.iload 19, 2) := by decide +kernel
theorem dL_solves_344 : decode cL_solves 344 = .ok (.ishl, 1) := by decide +kernel
theorem dL_solves_345 : decode cL_solves 345 = .ok (.ior, 1) := by decide +kernel
theorem dL_solves_346 : decode cL_solves 346 = .ok (.istore 18, 2) := by decide +kernel
theorem dL_solves_348 : decode cL_solves 348 = .ok (.iinc 19 1, 3) := by decide +kernel
theorem dL_solves_351 : decode cL_solves 351 = .ok (.goto (-83), 3) := by decide +kernel
theorem dL_solves_354 : decode cL_solves 354 = .ok (.iload 18, 2) := by decide +kernel
theorem dL_solves_356 : decode cL_solves 356 = .ok (.ifCond .eq 47, 3) := by decide +kernel
theorem dL_solves_359 : decode cL_solves 359 = .ok (.aload_n 2, 1) := by decide +kernel
theorem dL_solves_360 : decode cL_solves 360 = .ok (.iload 18, 2) := by decide +kernel
theorem dL_solves_362 : decode cL_solves 362 = .ok (.invokestatic 79, 3) := by decide +kernel
theorem dL_solves_365 : decode cL_solves 365 = .ok (.ifCond .eq 38, 3) := by decide +kernel
theorem dL_solves_368 : decode cL_solves 368 = .ok (.aload_n 2, 1) := by decide +kernel
theorem dL_solves_369 : decode cL_solves 369 = .ok (.aload 4, 2) := by decide +kernel
theorem dL_solves_371 : decode cL_solves 371 = .ok (.aload_n 3, 1) := by decide +kernel
theorem dL_solves_372 : decode cL_solves 372 = .ok (.iload 18, 2) := by decide +kernel
theorem dL_solves_374 : decode cL_solves 374 = .ok (.iconst (-1), 1) := by decide +kernel
theorem dL_solves_375 : decode cL_solves 375 = .ok (.invokestatic 75, 3) := by decide +kernel
theorem dL_solves_378 : decode cL_solves 378 = .ok (.lload 15, 2) := by decide +kernel
theorem dL_solves_380 : decode cL_solves 380 = .ok (.lcmp, 1) := by decide +kernel
theorem dL_solves_381 : decode cL_solves 381 = .ok (.ifCond .ne 22, 3) := by decide +kernel
theorem dL_solves_384 : decode cL_solves 384 = .ok (.aload_n 0, 1) := by decide +kernel
theorem dL_solves_385 : decode cL_solves 385 = .ok (.iconst 5, 1) := by decide +kernel
theorem dL_solves_386 : decode cL_solves 386 = .ok (.iload 14, 2) := by decide +kernel
theorem dL_solves_388 : decode cL_solves 388 = .ok (.aload_n 2, 1) := by decide +kernel
theorem dL_solves_389 : decode cL_solves 389 = .ok (.iconst 0, 1) := by decide +kernel
theorem dL_solves_390 : decode cL_solves 390 = .ok (.iaload, 1) := by decide +kernel
theorem dL_solves_391 : decode cL_solves 391 = .ok (.aload_n 2, 1) := by decide +kernel
theorem dL_solves_392 : decode cL_solves 392 = .ok (.iconst 1, 1) := by decide +kernel
theorem dL_solves_393 : decode cL_solves 393 = .ok (.iaload, 1) := by decide +kernel
theorem dL_solves_394 : decode cL_solves 394 = .ok (.imul, 1) := by decide +kernel
theorem dL_solves_395 : decode cL_solves 395 = .ok (.invokestatic 156, 3) := by decide +kernel
theorem dL_solves_398 : decode cL_solves 398 = .ok (.bipush (-101), 2) := by decide +kernel
theorem dL_solves_400 : decode cL_solves 400 = .ok (.if_icmp .eq 5, 3) := by decide +kernel
theorem dL_solves_403 : decode cL_solves 403 = .ok (.iconst 0, 1) := by decide +kernel
theorem dL_solves_404 : decode cL_solves 404 = .ok (.ireturn, 1) := by decide +kernel
theorem dL_solves_405 : decode cL_solves 405 = .ok (.aload_n 2, 1) := by decide +kernel
theorem dL_solves_406 : decode cL_solves 406 = .ok (.aload 4, 2) := by decide +kernel
theorem dL_solves_408 : decode cL_solves 408 = .ok (.aload_n 3, 1) := by decide +kernel
theorem dL_solves_409 : decode cL_solves 409 = .ok (.iconst (-1), 1) := by decide +kernel
theorem dL_solves_410 : decode cL_solves 410 = .ok (.lload 15, 2) := by decide +kernel
theorem dL_solves_412 : decode cL_solves 412 = .ok (.aload 5, 2) := by decide +kernel
theorem dL_solves_414 : decode cL_solves 414 = .ok (.aload 9, 2) := by decide +kernel
theorem dL_solves_416 : decode cL_solves 416 = .ok (.invokestatic 185, 3) := by decide +kernel
theorem dL_solves_419 : decode cL_solves 419 = .ok (.pop, 1) := by decide +kernel
theorem dL_solves_420 : decode cL_solves 420 = .ok (.aload 9, 2) := by decide +kernel
theorem dL_solves_422 : decode cL_solves 422 = .ok (.iconst 3, 1) := by decide +kernel
theorem dL_solves_423 : decode cL_solves 423 = .ok (.iaload, 1) := by decide +kernel
theorem dL_solves_424 : decode cL_solves 424 = .ok (.iload 14, 2) := by decide +kernel
theorem dL_solves_426 : decode cL_solves 426 = .ok (.if_icmp .eq 5, 3) := by decide +kernel
theorem dL_solves_429 : decode cL_solves 429 = .ok (.iconst 0, 1) := by decide +kernel
theorem dL_solves_430 : decode cL_solves 430 = .ok (.ireturn, 1) := by decide +kernel
theorem dL_solves_431 : decode cL_solves 431 = .ok (.aload_n 2, 1) := by decide +kernel
theorem dL_solves_432 : decode cL_solves 432 = .ok (.aload 4, 2) := by decide +kernel
theorem dL_solves_434 : decode cL_solves 434 = .ok (.aload_n 3, 1) := by decide +kernel
theorem dL_solves_435 : decode cL_solves 435 = .ok (.aload 6, 2) := by decide +kernel
theorem dL_solves_437 : decode cL_solves 437 = .ok (.aload 7, 2) := by decide +kernel
theorem dL_solves_439 : decode cL_solves 439 = .ok (.aload 8, 2) := by decide +kernel
theorem dL_solves_441 : decode cL_solves 441 = .ok (.aload 9, 2) := by decide +kernel
theorem dL_solves_443 : decode cL_solves 443 = .ok (.invokestatic 149, 3) := by decide +kernel
theorem dL_solves_446 : decode cL_solves 446 = .ok (.iconst 0, 1) := by decide +kernel
theorem dL_solves_447 : decode cL_solves 447 = .ok (.istore 19, 2) := by decide +kernel
theorem dL_solves_449 : decode cL_solves 449 = .ok (.iconst 0, 1) := by decide +kernel
theorem dL_solves_450 : decode cL_solves 450 = .ok (.istore 20, 2) := by decide +kernel
theorem dL_solves_452 : decode cL_solves 452 = .ok (.iload 20, 2) := by decide +kernel
theorem dL_solves_454 : decode cL_solves 454 = .ok (.aload_n 2, 1) := by decide +kernel
theorem dL_solves_455 : decode cL_solves 455 = .ok (.invokestatic 32, 3) := by decide +kernel
theorem dL_solves_458 : decode cL_solves 458 = .ok (.if_icmp .ge 74, 3) := by decide +kernel
theorem dL_solves_461 : decode cL_solves 461 = .ok (.aload 5, 2) := by decide +kernel
theorem dL_solves_463 : decode cL_solves 463 = .ok (.iload 20, 2) := by decide +kernel
theorem dL_solves_465 : decode cL_solves 465 = .ok (.iaload, 1) := by decide +kernel
theorem dL_solves_466 : decode cL_solves 466 = .ok (.iload 12, 2) := by decide +kernel
theorem dL_solves_468 : decode cL_solves 468 = .ok (.if_icmp .ne 7, 3) := by decide +kernel
theorem dL_solves_471 : decode cL_solves 471 = .ok (.iconst 1, 1) := by decide +kernel
theorem dL_solves_472 : decode cL_solves 472 = .ok (.goto 16, 3) := by decide +kernel
theorem dL_solves_475 : decode cL_solves 475 = .ok (.aload 5, 2) := by decide +kernel
theorem dL_solves_477 : decode cL_solves 477 = .ok (.iload 20, 2) := by decide +kernel
theorem dL_solves_479 : decode cL_solves 479 = .ok (.iaload, 1) := by decide +kernel
theorem dL_solves_480 : decode cL_solves 480 = .ok (.ifCond .ne 7, 3) := by decide +kernel
theorem dL_solves_483 : decode cL_solves 483 = .ok (.iconst 2, 1) := by decide +kernel
theorem dL_solves_484 : decode cL_solves 484 = .ok (.goto 4, 3) := by decide +kernel
theorem dL_solves_487 : decode cL_solves 487 = .ok (.iconst 0, 1) := by decide +kernel
theorem dL_solves_488 : decode cL_solves 488 = .ok (.istore 21, 2) := by decide +kernel
theorem dL_solves_490 : decode cL_solves 490 = .ok (.iload 19, 2) := by decide +kernel
theorem dL_solves_492 : decode cL_solves 492 = .ok (.iload 21, 2) := by decide +kernel
theorem dL_solves_494 : decode cL_solves 494 = .ok (.ifCond .le 15, 3) := by decide +kernel
theorem dL_solves_497 : decode cL_solves 497 = .ok (.aload 6, 2) := by decide +kernel
theorem dL_solves_499 : decode cL_solves 499 = .ok (.iload 20, 2) := by decide +kernel
theorem dL_solves_501 : decode cL_solves 501 = .ok (.iaload, 1) := by decide +kernel
theorem dL_solves_502 : decode cL_solves 502 = .ok (.ifCond .ne 7, 3) := by decide +kernel
theorem dL_solves_505 : decode cL_solves 505 = .ok (.iconst 1, 1) := by decide +kernel
theorem dL_solves_506 : decode cL_solves 506 = .ok (.goto 4, 3) := by decide +kernel
theorem dL_solves_509 : decode cL_solves 509 = .ok (.iconst 0, 1) := by decide +kernel
theorem dL_solves_510 : decode cL_solves 510 = .ok (.iadd, 1) := by decide +kernel
theorem dL_solves_511 : decode cL_solves 511 = .ok (.istore 19, 2) := by decide +kernel
theorem dL_solves_513 : decode cL_solves 513 = .ok (.aload_n 0, 1) := by decide +kernel
theorem dL_solves_514 : decode cL_solves 514 = .ok (.iload 20, 2) := by decide +kernel
theorem dL_solves_516 : decode cL_solves 516 = .ok (.invokestatic 194, 3) := by decide +kernel
theorem dL_solves_519 : decode cL_solves 519 = .ok (.iload 21, 2) := by decide +kernel
theorem dL_solves_521 : decode cL_solves 521 = .ok (.if_icmp .eq 5, 3) := by decide +kernel
theorem dL_solves_524 : decode cL_solves 524 = .ok (.iconst 0, 1) := by decide +kernel
theorem dL_solves_525 : decode cL_solves 525 = .ok (.ireturn, 1) := by decide +kernel
theorem dL_solves_526 : decode cL_solves 526 = .ok (.iinc 20 1, 3) := by decide +kernel
theorem dL_solves_529 : decode cL_solves 529 = .ok (.goto (-77), 3) := by decide +kernel
theorem dL_solves_532 : decode cL_solves 532 = .ok (.aload_n 0, 1) := by decide +kernel
theorem dL_solves_533 : decode cL_solves 533 = .ok (.invokestatic 197, 3) := by decide +kernel
theorem dL_solves_536 : decode cL_solves 536 = .ok (.iload 19, 2) := by decide +kernel
theorem dL_solves_538 : decode cL_solves 538 = .ok (.if_icmp .ne 20, 3) := by decide +kernel
theorem dL_solves_541 : decode cL_solves 541 = .ok (.aload_n 0, 1) := by decide +kernel
theorem dL_solves_542 : decode cL_solves 542 = .ok (.aload_n 2, 1) := by decide +kernel
theorem dL_solves_543 : decode cL_solves 543 = .ok (.invokestatic 32, 3) := by decide +kernel
theorem dL_solves_546 : decode cL_solves 546 = .ok (.invokestatic 194, 3) := by decide +kernel
theorem dL_solves_549 : decode cL_solves 549 = .ok (.bipush (-101), 2) := by decide +kernel
theorem dL_solves_551 : decode cL_solves 551 = .ok (.if_icmp .ne 7, 3) := by decide +kernel
theorem dL_solves_554 : decode cL_solves 554 = .ok (.iconst 1, 1) := by decide +kernel
theorem dL_solves_555 : decode cL_solves 555 = .ok (.goto 4, 3) := by decide +kernel
theorem dL_solves_558 : decode cL_solves 558 = .ok (.iconst 0, 1) := by decide +kernel
theorem dL_solves_559 : decode cL_solves 559 = .ok (.ireturn, 1) := by decide +kernel
theorem dL_law_0 : decode cL_law 0 = .ok (.new 83, 3) := by decide +kernel
theorem dL_law_3 : decode cL_law 3 = .ok (.dup, 1) := by decide +kernel
theorem dL_law_4 : decode cL_law 4 = .ok (.invokespecial 201, 3) := by decide +kernel
theorem dL_law_7 : decode cL_law 7 = .ok (.astore_n 1, 1) := by decide +kernel
theorem dL_law_8 : decode cL_law 8 = .ok (.iconst 2, 1) := by decide +kernel
theorem dL_law_9 : decode cL_law 9 = .ok (.newarray .int, 2) := by decide +kernel
theorem dL_law_11 : decode cL_law 11 = .ok (.astore_n 2, 1) := by decide +kernel
theorem dL_law_12 : decode cL_law 12 = .ok (.bipush 9, 2) := by decide +kernel
theorem dL_law_14 : decode cL_law 14 = .ok (.newarray .int, 2) := by decide +kernel
theorem dL_law_16 : decode cL_law 16 = .ok (.astore_n 3, 1) := by decide +kernel
theorem dL_law_17 : decode cL_law 17 = .ok (.bipush 24, 2) := by decide +kernel
theorem dL_law_19 : decode cL_law 19 = .ok (.newarray .int, 2) := by decide +kernel
theorem dL_law_21 : decode cL_law 21 = .ok (.astore 4, 2) := by decide +kernel
theorem dL_law_23 : decode cL_law 23 = .ok (.aload_n 2, 1) := by decide +kernel
theorem dL_law_24 : decode cL_law 24 = .ok (.iconst 0, 1) := by decide +kernel
theorem dL_law_25 : decode cL_law 25 = .ok (.iconst 3, 1) := by decide +kernel
theorem dL_law_26 : decode cL_law 26 = .ok (.iastore, 1) := by decide +kernel
theorem dL_law_27 : decode cL_law 27 = .ok (.aload_n 2, 1) := by decide +kernel
theorem dL_law_28 : decode cL_law 28 = .ok (.iconst 1, 1) := by decide +kernel
theorem dL_law_29 : decode cL_law 29 = .ok (.iconst 3, 1) := by decide +kernel
theorem dL_law_30 : decode cL_law 30 = .ok (.iastore, 1) := by decide +kernel
theorem dL_law_31 : decode cL_law 31 = .ok (.iconst 0, 1) := by decide +kernel
theorem dL_law_32 : decode cL_law 32 = .ok (.istore 5, 2) := by decide +kernel
theorem dL_law_34 : decode cL_law 34 = .ok (.iload 5, 2) := by decide +kernel
theorem dL_law_36 : decode cL_law 36 = .ok (.bipush 9, 2) := by decide +kernel
theorem dL_law_38 : decode cL_law 38 = .ok (.if_icmp .ge 14, 3) := by decide +kernel
theorem dL_law_41 : decode cL_law 41 = .ok (.aload_n 3, 1) := by decide +kernel
theorem dL_law_42 : decode cL_law 42 = .ok (.iload 5, 2) := by decide +kernel
theorem dL_law_44 : decode cL_law 44 = .ok (.iconst (-1), 1) := by decide +kernel
theorem dL_law_45 : decode cL_law 45 = .ok (.iastore, 1) := by decide +kernel
theorem dL_law_46 : decode cL_law 46 = .ok (.iinc 5 1, 3) := by decide +kernel
theorem dL_law_49 : decode cL_law 49 = .ok (.goto (-15), 3) := by decide +kernel
theorem dL_law_52 : decode cL_law 52 = .ok (.iconst 0, 1) := by decide +kernel
theorem dL_law_53 : decode cL_law 53 = .ok (.istore 5, 2) := by decide +kernel
theorem dL_law_55 : decode cL_law 55 = .ok (.iload 5, 2) := by decide +kernel
theorem dL_law_57 : decode cL_law 57 = .ok (.bipush 60, 2) := by decide +kernel
theorem dL_law_59 : decode cL_law 59 = .ok (.if_icmp .ge 131, 3) := by decide +kernel
theorem dL_law_62 : decode cL_law 62 = .ok (.aload_n 0, 1) := by decide +kernel
theorem dL_law_63 : decode cL_law 63 = .ok (.iload 5, 2) := by decide +kernel
theorem dL_law_65 : decode cL_law 65 = .ok (.invokestatic 202, 3) := by decide +kernel
theorem dL_law_68 : decode cL_law 68 = .ok (.istore 6, 2) := by decide +kernel
theorem dL_law_70 : decode cL_law 70 = .ok (.iload 6, 2) := by decide +kernel
theorem dL_law_72 : decode cL_law 72 = .ok (.iconst 4, 1) := by decide +kernel
theorem dL_law_73 : decode cL_law 73 = .ok (.ishr, 1) := by decide +kernel
theorem dL_law_74 : decode cL_law 74 = .ok (.istore 7, 2) := by decide +kernel
theorem dL_law_76 : decode cL_law 76 = .ok (.iload 6, 2) := by decide +kernel
theorem dL_law_78 : decode cL_law 78 = .ok (.bipush 13, 2) := by decide +kernel
theorem dL_law_80 : decode cL_law 80 = .ok (.invokestatic 135, 3) := by decide +kernel
theorem dL_law_83 : decode cL_law 83 = .ok (.istore 8, 2) := by decide +kernel
theorem dL_law_85 : decode cL_law 85 = .ok (.aload_n 1, 1) := by decide +kernel
theorem dL_law_86 : decode cL_law 86 = .ok (.iload 5, 2) := by decide +kernel
theorem dL_law_88 : decode cL_law 88 = .ok (.ifCond .ne 7, 3) := by decide +kernel
theorem dL_law_91 : decode cL_law 91 = .ok (.iconst 0, 1) := by decide +kernel
theorem dL_law_92 : decode cL_law 92 = .ok (.goto 17, 3) := by decide +kernel
theorem dL_law_95 : decode cL_law 95 = .ok (.iload 8, 2) := by decide +kernel
theorem dL_law_97 : decode cL_law 97 = .ok (.bipush 10, 2) := by decide +kernel
theorem dL_law_99 : decode cL_law 99 = .ok (.if_icmp .le 8, 3) := by decide +kernel
theorem dL_law_102 : decode cL_law 102 = .ok (.bipush 11, 2) := by decide +kernel
theorem dL_law_104 : decode cL_law 104 = .ok (.goto 5, 3) := by decide +kernel
theorem dL_law_107 : decode cL_law 107 = .ok (.iload 8, 2) := by decide +kernel
theorem dL_law_109 : decode cL_law 109 = .ok (.iload 7, 2) := by decide +kernel
theorem dL_law_111 : decode cL_law 111 = .ok (.aload_n 2, 1) := by decide +kernel
theorem dL_law_112 : decode cL_law 112 = .ok (.aload_n 3, 1) := by decide +kernel
theorem dL_law_113 : decode cL_law 113 = .ok (.aload 4, 2) := by decide +kernel
theorem dL_law_115 : decode cL_law 115 = .ok (.invokestatic 205, 3) := by decide +kernel
theorem dL_law_118 : decode cL_law 118 = .ok (.istore 9, 2) := by decide +kernel
theorem dL_law_120 : decode cL_law 120 = .ok (.iload 9, 2) := by decide +kernel
theorem dL_law_122 : decode cL_law 122 = .ok (.ifCond .eq 52, 3) := by decide +kernel
theorem dL_law_125 : decode cL_law 125 = .ok (.iload 5, 2) := by decide +kernel
theorem dL_law_127 : decode cL_law 127 = .ok (.iconst 3, 1) := by decide +kernel
theorem dL_law_128 : decode cL_law 128 = .ok (.irem, 1) := by decide +kernel
theorem dL_law_129 : decode cL_law 129 = .ok (.ifCond .ne 19, 3) := by decide +kernel
theorem dL_law_132 : decode cL_law 132 = .ok (.aload_n 1, 1) := by decide +kernel
theorem dL_law_133 : decode cL_law 133 = .ok (.iload 7, 2) := by decide +kernel
theorem dL_law_135 : decode cL_law 135 = .ok (.aload_n 2, 1) := by decide +kernel
theorem dL_law_136 : decode cL_law 136 = .ok (.aload_n 3, 1) := by decide +kernel
theorem dL_law_137 : decode cL_law 137 = .ok (.aload 4, 2) := by decide +kernel
theorem dL_law_139 : decode cL_law 139 = .ok (.invokestatic 209, 3) := by decide +kernel
theorem dL_law_142 : decode cL_law 142 = .ok (.ifCond .eq 32, 3) := by decide +kernel
theorem dL_law_145 : decode cL_law 145 = .ok (.goto 25, 3) := by decide +kernel
theorem dL_law_148 : decode cL_law 148 = .ok (.iload 5, 2) := by decide +kernel
theorem dL_law_150 : decode cL_law 150 = .ok (.bipush 6, 2) := by decide +kernel
theorem dL_law_152 : decode cL_law 152 = .ok (.irem, 1) := by decide +kernel
theorem dL_law_153 : decode cL_law 153 = .ok (.iconst 5, 1) := by decide +kernel
theorem dL_law_154 : decode cL_law 154 = .ok (.if_icmp .ne 16, 3) := by decide +kernel
theorem dL_law_157 : decode cL_law 157 = .ok (.aload_n 1, 1) := by decide +kernel
theorem dL_law_158 : decode cL_law 158 = .ok (.iload 7, 2) := by decide +kernel
theorem dL_law_160 : decode cL_law 160 = .ok (.aload_n 2, 1) := by decide +kernel
theorem dL_law_161 : decode cL_law 161 = .ok (.aload_n 3, 1) := by decide +kernel
theorem dL_law_162 : decode cL_law 162 = .ok (.aload 4, 2) := by decide +kernel
theorem dL_law_164 : decode cL_law 164 = .ok (.invokestatic 213, 3) := by decide +kernel
theorem dL_law_167 : decode cL_law 167 = .ok (.ifCond .eq 7, 3) := by decide +kernel
theorem dL_law_170 : decode cL_law 170 = .ok (.iconst 1, 1) := by decide +kernel
theorem dL_law_171 : decode cL_law 171 = .ok (.goto 4, 3) := by decide +kernel
theorem dL_law_174 : decode cL_law 174 = .ok (.iconst 0, 1) := by decide +kernel
theorem dL_law_175 : decode cL_law 175 = .ok (.istore 9, 2) := by decide +kernel
theorem dL_law_177 : decode cL_law 177 = .ok (.iload 9, 2) := by decide +kernel
theorem dL_law_179 : decode cL_law 179 = .ok (.ifCond .ne 5, 3) := by decide +kernel
theorem dL_law_182 : decode cL_law 182 = .ok (.iconst 0, 1) := by decide +kernel
theorem dL_law_183 : decode cL_law 183 = .ok (.ireturn, 1) := by decide +kernel
theorem dL_law_184 : decode cL_law 184 = .ok (.iinc 5 1, 3) := by decide +kernel
theorem dL_law_187 : decode cL_law 187 = .ok (.goto (-132), 3) := by decide +kernel
theorem dL_law_190 : decode cL_law 190 = .ok (.iconst 1, 1) := by decide +kernel
theorem dL_law_191 : decode cL_law 191 = .ok (.ireturn, 1) := by decide +kernel
