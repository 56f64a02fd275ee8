theorem dL_law_349 : decode cL_law 349 = .ok (.iload 17, 2) := by decide +kernel
theorem dL_law_351 : decode cL_law 351 = .ok (.iconst 1, 1) := by decide +kernel
theorem dL_law_352 : decode cL_law 352 = .ok (.if_icmp .ne 111, 3) := by decide +kernel
theorem dL_law_355 : decode cL_law 355 = .ok (.aload_n 3, 1) := by decide +kernel
theorem dL_law_356 : decode cL_law 356 = .ok (.iload 15, 2) := by decide +kernel
theorem dL_law_358 : decode cL_law 358 = .ok (.iconst 4, 1) := by decide +kernel
theorem dL_law_359 : decode cL_law 359 = .ok (.bipush (-7), 2) := by decide +kernel
theorem dL_law_361 : decode cL_law 361 = .ok (.iconst 3, 1) := by decide +kernel
theorem dL_law_362 : decode cL_law 362 = .ok (.invokevirtual 93, 3) := by decide +kernel
theorem dL_law_365 : decode cL_law 365 = .ok (.iconst 1, 1) := by decide +kernel
theorem dL_law_366 : decode cL_law 366 = .ok (.if_icmp .ne 97, 3) := by decide +kernel
theorem dL_law_369 : decode cL_law 369 = .ok (.aload_n 3, 1) := by decide +kernel
theorem dL_law_370 : decode cL_law 370 = .ok (.iload 15, 2) := by decide +kernel
theorem dL_law_372 : decode cL_law 372 = .ok (.iconst 4, 1) := by decide +kernel
theorem dL_law_373 : decode cL_law 373 = .ok (.bipush (-7), 2) := by decide +kernel
theorem dL_law_375 : decode cL_law 375 = .ok (.iconst 0, 1) := by decide +kernel
theorem dL_law_376 : decode cL_law 376 = .ok (.invokevirtual 93, 3) := by decide +kernel
theorem dL_law_379 : decode cL_law 379 = .ok (.istore 18, 2) := by decide +kernel
theorem dL_law_381 : decode cL_law 381 = .ok (.aload_n 3, 1) := by decide +kernel
theorem dL_law_382 : decode cL_law 382 = .ok (.iload 15, 2) := by decide +kernel
theorem dL_law_384 : decode cL_law 384 = .ok (.iconst 4, 1) := by decide +kernel
theorem dL_law_385 : decode cL_law 385 = .ok (.bipush (-7), 2) := by decide +kernel
theorem dL_law_387 : decode cL_law 387 = .ok (.iconst 2, 1) := by decide +kernel
theorem dL_law_388 : decode cL_law 388 = .ok (.invokevirtual 93, 3) := by decide +kernel
theorem dL_law_391 : decode cL_law 391 = .ok (.istore 19, 2) := by decide +kernel
theorem dL_law_393 : decode cL_law 393 = .ok (.iload 18, 2) := by decide +kernel
theorem dL_law_395 : decode cL_law 395 = .ok (.invokestatic 97, 3) := by decide +kernel
theorem dL_law_398 : decode cL_law 398 = .ok (.sipush 1000, 3) := by decide +kernel
theorem dL_law_401 : decode cL_law 401 = .ok (.if_icmp .gt 62, 3) := by decide +kernel
theorem dL_law_404 : decode cL_law 404 = .ok (.iload 19, 2) := by decide +kernel
theorem dL_law_406 : decode cL_law 406 = .ok (.invokestatic 97, 3) := by decide +kernel
theorem dL_law_409 : decode cL_law 409 = .ok (.sipush 1000, 3) := by decide +kernel
theorem dL_law_412 : decode cL_law 412 = .ok (.if_icmp .gt 51, 3) := by decide +kernel
theorem dL_law_415 : decode cL_law 415 = .ok (.aload_n 3, 1) := by decide +kernel
theorem dL_law_416 : decode cL_law 416 = .ok (.iload 15, 2) := by decide +kernel
theorem dL_law_418 : decode cL_law 418 = .ok (.iload 18, 2) := by decide +kernel
theorem dL_law_420 : decode cL_law 420 = .ok (.iload 19, 2) := by decide +kernel
theorem dL_law_422 : decode cL_law 422 = .ok (.iconst 0, 1) := by decide +kernel
theorem dL_law_423 : decode cL_law 423 = .ok (.invokevirtual 99, 3) := by decide +kernel
theorem dL_law_426 : decode cL_law 426 = .ok (.iconst 4, 1) := by decide +kernel
theorem dL_law_427 : decode cL_law 427 = .ok (.if_icmp .ne 34, 3) := by decide +kernel
theorem dL_law_430 : decode cL_law 430 = .ok (.aload_n 3, 1) := by decide +kernel
theorem dL_law_431 : decode cL_law 431 = .ok (.iload 15, 2) := by decide +kernel
theorem dL_law_433 : decode cL_law 433 = .ok (.iload 18, 2) := by decide +kernel
theorem dL_law_435 : decode cL_law 435 = .ok (.iload 19, 2) := by decide +kernel
theorem dL_law_437 : decode cL_law 437 = .ok (.iconst 1, 1) := by decide +kernel
theorem dL_law_438 : decode cL_law 438 = .ok (.invokevirtual 99, 3) := by decide +kernel
theorem dL_law_441 : decode cL_law 441 = .ok (.iconst 1, 1) := by decide +kernel
theorem dL_law_442 : decode cL_law 442 = .ok (.if_icmp .ne 19, 3) := by decide +kernel
theorem dL_law_445 : decode cL_law 445 = .ok (.aload_n 3, 1) := by decide +kernel
theorem dL_law_446 : decode cL_law 446 = .ok (.iload 15, 2) := by decide +kernel
theorem dL_law_448 : decode cL_law 448 = .ok (.iload 18, 2) := by decide +kernel
theorem dL_law_450 : decode cL_law 450 = .ok (.iload 19, 2) := by decide +kernel
theorem dL_law_452 : decode cL_law 452 = .ok (.iconst 2, 1) := by decide +kernel
theorem dL_law_453 : decode cL_law 453 = .ok (.invokevirtual 99, 3) := by decide +kernel
theorem dL_law_456 : decode cL_law 456 = .ok (.bipush (-7), 2) := by decide +kernel
theorem dL_law_458 : decode cL_law 458 = .ok (.if_icmp .eq 5, 3) := by decide +kernel
theorem dL_law_461 : decode cL_law 461 = .ok (.iconst 0, 1) := by decide +kernel
theorem dL_law_462 : decode cL_law 462 = .ok (.ireturn, 1) := by decide +kernel
theorem dL_law_463 : decode cL_law 463 = .ok (.iconst 0, 1) := by decide +kernel
theorem dL_law_464 : decode cL_law 464 = .ok (.istore 18, 2) := by decide +kernel
theorem dL_law_466 : decode cL_law 466 = .ok (.iload 18, 2) := by decide +kernel
theorem dL_law_468 : decode cL_law 468 = .ok (.iconst 4, 1) := by decide +kernel
theorem dL_law_469 : decode cL_law 469 = .ok (.if_icmp .ge 100, 3) := by decide +kernel
theorem dL_law_472 : decode cL_law 472 = .ok (.aload_n 3, 1) := by decide +kernel
theorem dL_law_473 : decode cL_law 473 = .ok (.iload 15, 2) := by decide +kernel
theorem dL_law_475 : decode cL_law 475 = .ok (.iload 15, 2) := by decide +kernel
theorem dL_law_477 : decode cL_law 477 = .ok (.iconst 5, 1) := by decide +kernel
theorem dL_law_478 : decode cL_law 478 = .ok (.bipush 6, 2) := by decide +kernel
theorem dL_law_480 : decode cL_law 480 = .ok (.iload 18, 2) := by decide +kernel
theorem dL_law_482 : decode cL_law 482 = .ok (.invokevirtual 102, 3) := by decide +kernel
theorem dL_law_485 : decode cL_law 485 = .ok (.iload 18, 2) := by decide +kernel
theorem dL_law_487 : decode cL_law 487 = .ok (.ifCond .ne 7, 3) := by decide +kernel
theorem dL_law_490 : decode cL_law 490 = .ok (.iconst 5, 1) := by decide +kernel
theorem dL_law_491 : decode cL_law 491 = .ok (.goto 15, 3) := by decide +kernel
theorem dL_law_494 : decode cL_law 494 = .ok (.iload 18, 2) := by decide +kernel
theorem dL_law_496 : decode cL_law 496 = .ok (.iconst 2, 1) := by decide +kernel
theorem dL_law_497 : decode cL_law 497 = .ok (.if_icmp .ne 8, 3) := by decide +kernel
theorem dL_law_500 : decode cL_law 500 = .ok (.bipush 6, 2) := by decide +kernel
theorem dL_law_502 : decode cL_law 502 = .ok (.goto 4, 3) := by decide +kernel
theorem dL_law_505 : decode cL_law 505 = .ok (.iconst 1, 1) := by decide +kernel
theorem dL_law_506 : decode cL_law 506 = .ok (.if_icmp .ne 55, 3) := by decide +kernel
theorem dL_law_509 : decode cL_law 509 = .ok (.aload_n 3, 1) := by decide +kernel
theorem dL_law_510 : decode cL_law 510 = .ok (.iconst 0, 1) := by decide +kernel
theorem dL_law_511 : decode cL_law 511 = .ok (.iload 16, 2) := by decide +kernel
theorem dL_law_513 : decode cL_law 513 = .ok (.iconst 5, 1) := by decide +kernel
theorem dL_law_514 : decode cL_law 514 = .ok (.bipush 6, 2) := by decide +kernel
theorem dL_law_516 : decode cL_law 516 = .ok (.iload 18, 2) := by decide +kernel
theorem dL_law_518 : decode cL_law 518 = .ok (.invokevirtual 102, 3) := by decide +kernel
theorem dL_law_521 : decode cL_law 521 = .ok (.aload_n 3, 1) := by decide +kernel
theorem dL_law_522 : decode cL_law 522 = .ok (.iload 16, 2) := by decide +kernel
