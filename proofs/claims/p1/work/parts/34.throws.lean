theorem dX11_person_0 : decode cX11_person 0 = .ok (.aload_n 0, 1) := by decide +kernel
theorem dX11_person_1 : decode cX11_person 1 = .ok (.getfield 38, 3) := by decide +kernel
theorem dX11_person_4 : decode cX11_person 4 = .ok (.getfield 135, 3) := by decide +kernel
theorem dX11_person_7 : decode cX11_person 7 = .ok (.iload_n 1, 1) := by decide +kernel
theorem dX11_person_8 : decode cX11_person 8 = .ok (.invokevirtual 139, 3) := by decide +kernel
theorem dX11_person_11 : decode cX11_person 11 = .ok (.ifCond .eq 13, 3) := by decide +kernel
theorem dX11_person_24 : decode cX11_person 24 = .ok (.new 145, 3) := by decide +kernel
theorem dX11_person_27 : decode cX11_person 27 = .ok (.dup, 1) := by decide +kernel
theorem dX11_person_28 : decode cX11_person 28 = .ok (.ldc 147, 2) := by decide +kernel
theorem dX11_person_30 : decode cX11_person 30 = .ok (.invokespecial 149, 3) := by decide +kernel
theorem dX11_person_33 : decode cX11_person 33 = .ok (.athrow, 1) := by decide +kernel
theorem dX11_umbrella_0 : decode cX11_umbrella 0 = .ok (.aload_n 0, 1) := by decide +kernel
theorem dX11_umbrella_1 : decode cX11_umbrella 1 = .ok (.getfield 38, 3) := by decide +kernel
theorem dX11_umbrella_4 : decode cX11_umbrella 4 = .ok (.getfield 175, 3) := by decide +kernel
theorem dX11_umbrella_7 : decode cX11_umbrella 7 = .ok (.iload_n 1, 1) := by decide +kernel
theorem dX11_umbrella_8 : decode cX11_umbrella 8 = .ok (.invokevirtual 139, 3) := by decide +kernel
theorem dX11_umbrella_11 : decode cX11_umbrella 11 = .ok (.ifCond .eq 12, 3) := by decide +kernel
theorem dX11_umbrella_23 : decode cX11_umbrella 23 = .ok (.new 145, 3) := by decide +kernel
theorem dX11_umbrella_26 : decode cX11_umbrella 26 = .ok (.dup, 1) := by decide +kernel
theorem dX11_umbrella_27 : decode cX11_umbrella 27 = .ok (.ldc 178, 2) := by decide +kernel
theorem dX11_umbrella_29 : decode cX11_umbrella 29 = .ok (.invokespecial 149, 3) := by decide +kernel
theorem dX11_umbrella_32 : decode cX11_umbrella 32 = .ok (.athrow, 1) := by decide +kernel
theorem dX11_sorrow_0 : decode cX11_sorrow 0 = .ok (.iload_n 1, 1) := by decide +kernel
theorem dX11_sorrow_1 : decode cX11_sorrow 1 = .ok (.ifCond .lt 23, 3) := by decide +kernel
theorem dX11_sorrow_4 : decode cX11_sorrow 4 = .ok (.iload_n 1, 1) := by decide +kernel
theorem dX11_sorrow_5 : decode cX11_sorrow 5 = .ok (.aload_n 0, 1) := by decide +kernel
theorem dX11_sorrow_6 : decode cX11_sorrow 6 = .ok (.getfield 38, 3) := by decide +kernel
theorem dX11_sorrow_9 : decode cX11_sorrow 9 = .ok (.getfield 198, 3) := by decide +kernel
theorem dX11_sorrow_12 : decode cX11_sorrow 12 = .ok (.if_icmp .ge 12, 3) := by decide +kernel
theorem dX11_sorrow_24 : decode cX11_sorrow 24 = .ok (.new 145, 3) := by decide +kernel
theorem dX11_sorrow_27 : decode cX11_sorrow 27 = .ok (.dup, 1) := by decide +kernel
theorem dX11_sorrow_28 : decode cX11_sorrow 28 = .ok (.ldc 201, 2) := by decide +kernel
theorem dX11_sorrow_30 : decode cX11_sorrow 30 = .ok (.invokespecial 149, 3) := by decide +kernel
theorem dX11_sorrow_33 : decode cX11_sorrow 33 = .ok (.athrow, 1) := by decide +kernel
theorem dL_person_0 : decode cL_person 0 = .ok (.aload_n 3, 1) := by decide +kernel
theorem dL_person_1 : decode cL_person 1 = .ok (.iconst 0, 1) := by decide +kernel
theorem dL_person_2 : decode cL_person 2 = .ok (.aload_n 0, 1) := by decide +kernel
theorem dL_person_3 : decode cL_person 3 = .ok (.iload_n 1, 1) := by decide +kernel
theorem dL_person_4 : decode cL_person 4 = .ok (.iload_n 2, 1) := by decide +kernel
theorem dL_person_5 : decode cL_person 5 = .ok (.invokevirtual 7, 3) := by decide +kernel
theorem dL_person_13 : decode cL_person 13 = .ok (.astore 4, 2) := by decide +kernel
theorem dL_person_15 : decode cL_person 15 = .ok (.iconst 1, 1) := by decide +kernel
theorem dL_person_16 : decode cL_person 16 = .ok (.ireturn, 1) := by decide +kernel
theorem dL_umbrella_0 : decode cL_umbrella 0 = .ok (.aload_n 3, 1) := by decide +kernel
theorem dL_umbrella_1 : decode cL_umbrella 1 = .ok (.iconst 0, 1) := by decide +kernel
theorem dL_umbrella_2 : decode cL_umbrella 2 = .ok (.aload_n 0, 1) := by decide +kernel
theorem dL_umbrella_3 : decode cL_umbrella 3 = .ok (.iload_n 1, 1) := by decide +kernel
theorem dL_umbrella_4 : decode cL_umbrella 4 = .ok (.iload_n 2, 1) := by decide +kernel
theorem dL_umbrella_5 : decode cL_umbrella 5 = .ok (.invokevirtual 15, 3) := by decide +kernel
theorem dL_umbrella_13 : decode cL_umbrella 13 = .ok (.astore 4, 2) := by decide +kernel
theorem dL_umbrella_15 : decode cL_umbrella 15 = .ok (.iconst 1, 1) := by decide +kernel
theorem dL_umbrella_16 : decode cL_umbrella 16 = .ok (.ireturn, 1) := by decide +kernel
theorem dL_sorrow_0 : decode cL_sorrow 0 = .ok (.aload_n 3, 1) := by decide +kernel
theorem dL_sorrow_1 : decode cL_sorrow 1 = .ok (.iconst 0, 1) := by decide +kernel
theorem dL_sorrow_2 : decode cL_sorrow 2 = .ok (.aload_n 0, 1) := by decide +kernel
theorem dL_sorrow_3 : decode cL_sorrow 3 = .ok (.iload_n 1, 1) := by decide +kernel
theorem dL_sorrow_4 : decode cL_sorrow 4 = .ok (.iload_n 2, 1) := by decide +kernel
theorem dL_sorrow_5 : decode cL_sorrow 5 = .ok (.invokevirtual 18, 3) := by decide +kernel
theorem dL_sorrow_13 : decode cL_sorrow 13 = .ok (.astore 4, 2) := by decide +kernel
theorem dL_sorrow_15 : decode cL_sorrow 15 = .ok (.iconst 1, 1) := by decide +kernel
theorem dL_sorrow_16 : decode cL_sorrow 16 = .ok (.ireturn, 1) := by decide +kernel
theorem dL_law_0 : decode cL_law 0 = .ok (.new 8, 3) := by decide +kernel
theorem dL_law_3 : decode cL_law 3 = .ok (.dup, 1) := by decide +kernel
theorem dL_law_4 : decode cL_law 4 = .ok (.invokespecial 21, 3) := by decide +kernel
theorem dL_law_7 : decode cL_law 7 = .ok (.astore_n 1, 1) := by decide +kernel
theorem dL_law_8 : decode cL_law 8 = .ok (.new 22, 3) := by decide +kernel
theorem dL_law_11 : decode cL_law 11 = .ok (.dup, 1) := by decide +kernel
theorem dL_law_12 : decode cL_law 12 = .ok (.invokespecial 24, 3) := by decide +kernel
theorem dL_law_15 : decode cL_law 15 = .ok (.astore_n 2, 1) := by decide +kernel
theorem dL_law_16 : decode cL_law 16 = .ok (.iconst 1, 1) := by decide +kernel
theorem dL_law_17 : decode cL_law 17 = .ok (.newarray .long, 2) := by decide +kernel
theorem dL_law_19 : decode cL_law 19 = .ok (.astore_n 3, 1) := by decide +kernel
theorem dL_law_20 : decode cL_law 20 = .ok (.iconst 0, 1) := by decide +kernel
theorem dL_law_21 : decode cL_law 21 = .ok (.istore 4, 2) := by decide +kernel
theorem dL_law_33 : decode cL_law 33 = .ok (.aload_n 0, 1) := by decide +kernel
theorem dL_law_34 : decode cL_law 34 = .ok (.iload 4, 2) := by decide +kernel
theorem dL_law_36 : decode cL_law 36 = .ok (.iaload, 1) := by decide +kernel
theorem dL_law_37 : decode cL_law 37 = .ok (.bipush 63, 2) := by decide +kernel
theorem dL_law_39 : decode cL_law 39 = .ok (.iand, 1) := by decide +kernel
theorem dL_law_40 : decode cL_law 40 = .ok (.tableswitch 1358 0 40 #[180, 253, 278, 291, 304, 372, 440, 508, 545, 570, 607, 644, 681, 706, 731, 744, 769, 794, 819, 832, 845, 858, 871, 908, 933, 946, 959, 972, 997, 1046, 1059, 1084, 1109, 1146, 1195, 1220, 1245, 1258, 1283, 1308, 1333], 180) := by decide +kernel
theorem dL_law_344 : decode cL_law 344 = .ok (.aload_n 1, 1) := by decide +kernel
theorem dL_law_345 : decode cL_law 345 = .ok (.aload_n 0, 1) := by decide +kernel
theorem dL_law_346 : decode cL_law 346 = .ok (.iload 4, 2) := by decide +kernel
theorem dL_law_348 : decode cL_law 348 = .ok (.iconst 1, 1) := by decide +kernel
theorem dL_law_349 : decode cL_law 349 = .ok (.iadd, 1) := by decide +kernel
theorem dL_law_350 : decode cL_law 350 = .ok (.iaload, 1) := by decide +kernel
theorem dL_law_351 : decode cL_law 351 = .ok (.aload_n 0, 1) := by decide +kernel
theorem dL_law_352 : decode cL_law 352 = .ok (.iload 4, 2) := by decide +kernel
theorem dL_law_354 : decode cL_law 354 = .ok (.iconst 2, 1) := by decide +kernel
theorem dL_law_355 : decode cL_law 355 = .ok (.iadd, 1) := by decide +kernel
theorem dL_law_356 : decode cL_law 356 = .ok (.iaload, 1) := by decide +kernel
theorem dL_law_357 : decode cL_law 357 = .ok (.aload_n 3, 1) := by decide +kernel
theorem dL_law_358 : decode cL_law 358 = .ok (.invokestatic 44, 3) := by decide +kernel
theorem dL_law_361 : decode cL_law 361 = .ok (.istore 5, 2) := by decide +kernel
theorem dL_law_363 : decode cL_law 363 = .ok (.aload_n 2, 1) := by decide +kernel
theorem dL_law_364 : decode cL_law 364 = .ok (.aload_n 0, 1) := by decide +kernel
theorem dL_law_365 : decode cL_law 365 = .ok (.iload 4, 2) := by decide +kernel
theorem dL_law_367 : decode cL_law 367 = .ok (.iconst 1, 1) := by decide +kernel
theorem dL_law_368 : decode cL_law 368 = .ok (.iadd, 1) := by decide +kernel
theorem dL_law_369 : decode cL_law 369 = .ok (.iaload, 1) := by decide +kernel
theorem dL_law_370 : decode cL_law 370 = .ok (.aload_n 0, 1) := by decide +kernel
theorem dL_law_371 : decode cL_law 371 = .ok (.iload 4, 2) := by decide +kernel
theorem dL_law_373 : decode cL_law 373 = .ok (.iconst 2, 1) := by decide +kernel
theorem dL_law_374 : decode cL_law 374 = .ok (.iadd, 1) := by decide +kernel
theorem dL_law_375 : decode cL_law 375 = .ok (.iaload, 1) := by decide +kernel
theorem dL_law_376 : decode cL_law 376 = .ok (.invokevirtual 49, 3) := by decide +kernel
theorem dL_law_379 : decode cL_law 379 = .ok (.istore 6, 2) := by decide +kernel
theorem dL_law_381 : decode cL_law 381 = .ok (.aload_n 2, 1) := by decide +kernel
theorem dL_law_382 : decode cL_law 382 = .ok (.invokevirtual 50, 3) := by decide +kernel
theorem dL_law_385 : decode cL_law 385 = .ok (.iload 5, 2) := by decide +kernel
theorem dL_law_387 : decode cL_law 387 = .ok (.if_icmp .eq 5, 3) := by decide +kernel
theorem dL_law_392 : decode cL_law 392 = .ok (.iload 5, 2) := by decide +kernel
theorem dL_law_394 : decode cL_law 394 = .ok (.ifCond .ne 15, 3) := by decide +kernel
theorem dL_law_409 : decode cL_law 409 = .ok (.goto 989, 3) := by decide +kernel
theorem dL_law_412 : decode cL_law 412 = .ok (.aload_n 1, 1) := by decide +kernel
theorem dL_law_413 : decode cL_law 413 = .ok (.aload_n 0, 1) := by decide +kernel
theorem dL_law_414 : decode cL_law 414 = .ok (.iload 4, 2) := by decide +kernel
theorem dL_law_416 : decode cL_law 416 = .ok (.iconst 1, 1) := by decide +kernel
theorem dL_law_417 : decode cL_law 417 = .ok (.iadd, 1) := by decide +kernel
theorem dL_law_418 : decode cL_law 418 = .ok (.iaload, 1) := by decide +kernel
theorem dL_law_419 : decode cL_law 419 = .ok (.aload_n 0, 1) := by decide +kernel
theorem dL_law_420 : decode cL_law 420 = .ok (.iload 4, 2) := by decide +kernel
theorem dL_law_422 : decode cL_law 422 = .ok (.iconst 2, 1) := by decide +kernel
theorem dL_law_423 : decode cL_law 423 = .ok (.iadd, 1) := by decide +kernel
theorem dL_law_424 : decode cL_law 424 = .ok (.iaload, 1) := by decide +kernel
theorem dL_law_425 : decode cL_law 425 = .ok (.aload_n 3, 1) := by decide +kernel
theorem dL_law_426 : decode cL_law 426 = .ok (.invokestatic 53, 3) := by decide +kernel
theorem dL_law_429 : decode cL_law 429 = .ok (.istore 5, 2) := by decide +kernel
theorem dL_law_431 : decode cL_law 431 = .ok (.aload_n 2, 1) := by decide +kernel
theorem dL_law_432 : decode cL_law 432 = .ok (.aload_n 0, 1) := by decide +kernel
theorem dL_law_433 : decode cL_law 433 = .ok (.iload 4, 2) := by decide +kernel
theorem dL_law_435 : decode cL_law 435 = .ok (.iconst 1, 1) := by decide +kernel
theorem dL_law_436 : decode cL_law 436 = .ok (.iadd, 1) := by decide +kernel
theorem dL_law_437 : decode cL_law 437 = .ok (.iaload, 1) := by decide +kernel
theorem dL_law_438 : decode cL_law 438 = .ok (.aload_n 0, 1) := by decide +kernel
theorem dL_law_439 : decode cL_law 439 = .ok (.iload 4, 2) := by decide +kernel
theorem dL_law_441 : decode cL_law 441 = .ok (.iconst 2, 1) := by decide +kernel
theorem dL_law_442 : decode cL_law 442 = .ok (.iadd, 1) := by decide +kernel
theorem dL_law_443 : decode cL_law 443 = .ok (.iaload, 1) := by decide +kernel
theorem dL_law_444 : decode cL_law 444 = .ok (.invokevirtual 55, 3) := by decide +kernel
theorem dL_law_447 : decode cL_law 447 = .ok (.istore 6, 2) := by decide +kernel
theorem dL_law_449 : decode cL_law 449 = .ok (.aload_n 2, 1) := by decide +kernel
theorem dL_law_450 : decode cL_law 450 = .ok (.invokevirtual 50, 3) := by decide +kernel
theorem dL_law_453 : decode cL_law 453 = .ok (.iload 5, 2) := by decide +kernel
theorem dL_law_455 : decode cL_law 455 = .ok (.if_icmp .eq 5, 3) := by decide +kernel
theorem dL_law_460 : decode cL_law 460 = .ok (.iload 5, 2) := by decide +kernel
theorem dL_law_462 : decode cL_law 462 = .ok (.ifCond .ne 15, 3) := by decide +kernel
theorem dL_law_477 : decode cL_law 477 = .ok (.goto 921, 3) := by decide +kernel
theorem dL_law_480 : decode cL_law 480 = .ok (.aload_n 1, 1) := by decide +kernel
theorem dL_law_481 : decode cL_law 481 = .ok (.aload_n 0, 1) := by decide +kernel
theorem dL_law_482 : decode cL_law 482 = .ok (.iload 4, 2) := by decide +kernel
theorem dL_law_484 : decode cL_law 484 = .ok (.iconst 1, 1) := by decide +kernel
theorem dL_law_485 : decode cL_law 485 = .ok (.iadd, 1) := by decide +kernel
theorem dL_law_486 : decode cL_law 486 = .ok (.iaload, 1) := by decide +kernel
theorem dL_law_487 : decode cL_law 487 = .ok (.aload_n 0, 1) := by decide +kernel
theorem dL_law_488 : decode cL_law 488 = .ok (.iload 4, 2) := by decide +kernel
theorem dL_law_490 : decode cL_law 490 = .ok (.iconst 2, 1) := by decide +kernel
theorem dL_law_491 : decode cL_law 491 = .ok (.iadd, 1) := by decide +kernel
theorem dL_law_492 : decode cL_law 492 = .ok (.iaload, 1) := by decide +kernel
theorem dL_law_493 : decode cL_law 493 = .ok (.aload_n 3, 1) := by decide +kernel
theorem dL_law_494 : decode cL_law 494 = .ok (.invokestatic 56, 3) := by decide +kernel
theorem dL_law_497 : decode cL_law 497 = .ok (.istore 5, 2) := by decide +kernel
theorem dL_law_499 : decode cL_law 499 = .ok (.aload_n 2, 1) := by decide +kernel
theorem dL_law_500 : decode cL_law 500 = .ok (.aload_n 0, 1) := by decide +kernel
theorem dL_law_501 : decode cL_law 501 = .ok (.iload 4, 2) := by decide +kernel
theorem dL_law_503 : decode cL_law 503 = .ok (.iconst 1, 1) := by decide +kernel
theorem dL_law_504 : decode cL_law 504 = .ok (.iadd, 1) := by decide +kernel
theorem dL_law_505 : decode cL_law 505 = .ok (.iaload, 1) := by decide +kernel
theorem dL_law_506 : decode cL_law 506 = .ok (.aload_n 0, 1) := by decide +kernel
theorem dL_law_507 : decode cL_law 507 = .ok (.iload 4, 2) := by decide +kernel
theorem dL_law_509 : decode cL_law 509 = .ok (.iconst 2, 1) := by decide +kernel
theorem dL_law_510 : decode cL_law 510 = .ok (.iadd, 1) := by decide +kernel
theorem dL_law_511 : decode cL_law 511 = .ok (.iaload, 1) := by decide +kernel
theorem dL_law_512 : decode cL_law 512 = .ok (.invokevirtual 58, 3) := by decide +kernel
theorem dL_law_515 : decode cL_law 515 = .ok (.istore 6, 2) := by decide +kernel
theorem dL_law_517 : decode cL_law 517 = .ok (.aload_n 2, 1) := by decide +kernel
theorem dL_law_518 : decode cL_law 518 = .ok (.invokevirtual 50, 3) := by decide +kernel
theorem dL_law_521 : decode cL_law 521 = .ok (.iload 5, 2) := by decide +kernel
theorem dL_law_523 : decode cL_law 523 = .ok (.if_icmp .eq 5, 3) := by decide +kernel
theorem dL_law_528 : decode cL_law 528 = .ok (.iload 5, 2) := by decide +kernel
theorem dL_law_530 : decode cL_law 530 = .ok (.ifCond .ne 15, 3) := by decide +kernel
theorem dL_law_545 : decode cL_law 545 = .ok (.goto 853, 3) := by decide +kernel
set_option maxHeartbeats 8000000 in
set_option maxRecDepth 100000 in
theorem kx_person (l : Launch) (hst : l.stackTraces = false) (D : va_G) (ad a : Nat → Nat) (p0 p1 : Int32) (sa sz : Nat) : vx_Met l yX11_person wzX11_person { frames := 6, cells := 1, slots := 6, locals := 90 } (va_Pc [.ref (a 0), .int p0, .int p1] (fun U => z_B D ad sz [(a 0, .inr (10, [.ref (a 4), .ref (a 5), .ref (a 6), .ref (a 7), .ref (a 8), .ref (a 9), .ref (a 10), .ref (a 11), .ref (a 12), .int 0, .ref (a 13), .ref (a 102), .ref (a 14), .ref (a 15), .int (-1), .int (-1)])), (a 7, .inr (8, [.ref (a 28), .ref (a 29), .ref (a 30), .int 0, .ref (a 31), .ref (a 32), .ref (a 33), .int 0, .ref (a 34), .ref (a 35), .ref (a 36), .int 2])), (a 29, .inr (2, [.ref (a 78), .int 0]))] [] U ∧ z_X 147 "no such person" sa (va_A [(a 0, .inr (10, [.ref (a 4), .ref (a 5), .ref (a 6), .ref (a 7), .ref (a 8), .ref (a 9), .ref (a 10), .ref (a 11), .ref (a 12), .int 0, .ref (a 13), .ref (a 102), .ref (a 14), .ref (a 15), .int (-1), .int (-1)])), (a 7, .inr (8, [.ref (a 28), .ref (a 29), .ref (a 30), .int 0, .ref (a 31), .ref (a 32), .ref (a 33), .int 0, .ref (a 34), .ref (a 35), .ref (a 36), .int 2])), (a 29, .inr (2, [.ref (a 78), .int 0]))] sz) U U.heap)) (va_Qi (fun (_ : Int32) (_ : Unit) => False) (fun _ _ => True) (va_A [(a 0, .inr (10, [.ref (a 4), .ref (a 5), .ref (a 6), .ref (a 7), .ref (a 8), .ref (a 9), .ref (a 10), .ref (a 11), .ref (a 12), .int 0, .ref (a 13), .ref (a 102), .ref (a 14), .ref (a 15), .int (-1), .int (-1)])), (a 7, .inr (8, [.ref (a 28), .ref (a 29), .ref (a 30), .int 0, .ref (a 31), .ref (a 32), .ref (a 33), .int 0, .ref (a 34), .ref (a 35), .ref (a 36), .int 2])), (a 29, .inr (2, [.ref (a 78), .int 0]))] sz)) (vx_X (fun _ : Unit => True) (fun E _ _ => E = "java/util/NoSuchElementException") (va_A [(a 0, .inr (10, [.ref (a 4), .ref (a 5), .ref (a 6), .ref (a 7), .ref (a 8), .ref (a 9), .ref (a 10), .ref (a 11), .ref (a 12), .int 0, .ref (a 13), .ref (a 102), .ref (a 14), .ref (a 15), .int (-1), .int (-1)])), (a 7, .inr (8, [.ref (a 28), .ref (a 29), .ref (a 30), .int 0, .ref (a 31), .ref (a 32), .ref (a 33), .int 0, .ref (a 34), .ref (a 35), .ref (a 36), .int 2])), (a 29, .inr (2, [.ref (a 78), .int 0]))] sz)) 1 6 (va_A [(a 0, .inr (10, [.ref (a 4), .ref (a 5), .ref (a 6), .ref (a 7), .ref (a 8), .ref (a 9), .ref (a 10), .ref (a 11), .ref (a 12), .int 0, .ref (a 13), .ref (a 102), .ref (a 14), .ref (a 15), .int (-1), .int (-1)])), (a 7, .inr (8, [.ref (a 28), .ref (a 29), .ref (a 30), .int 0, .ref (a 31), .ref (a 32), .ref (a 33), .int 0, .ref (a 34), .ref (a 35), .ref (a 36), .int 2])), (a 29, .inr (2, [.ref (a 78), .int 0]))] sz) := by
  refine vx_ofW (cc := cX11_person) (maxL := 3) (ret := some .int) (by decide) rfl ?_
  intro p e s m args below meth c s₁ B hml hno hv
  obtain ⟨rfl, ⟨hsz, hP, hK, hD0, hE, hO⟩, hR9, hU9, hN9, hB9⟩ := hv
  subst hsz
  have hx := B.exec
  have hb := B.bytes
  have hts := atoms_spec (ws := wzX11_person) B.pre
  have hown : s.vm.findClass RX11 = some m.cls := findClass_of_methodNamed B.named
  have hlocks := B.notSynchronized
  have hD := hD0.self (sz := s.heap.size)
  generalize hAe : va_A [(a 0, .inr (10, [.ref (a 4), .ref (a 5), .ref (a 6), .ref (a 7), .ref (a 8), .ref (a 9), .ref (a 10), .ref (a 11), .ref (a 12), .int 0, .ref (a 13), .ref (a 102), .ref (a 14), .ref (a 15), .int (-1), .int (-1)])), (a 7, .inr (8, [.ref (a 28), .ref (a 29), .ref (a 30), .int 0, .ref (a 31), .ref (a 32), .ref (a 33), .int 0, .ref (a 34), .ref (a 35), .ref (a 36), .int 2])), (a 29, .inr (2, [.ref (a 78), .int 0]))] s.heap.size = A at hD hE hU9 hN9 ⊢
  have hA : ∀ q : Nat, s.heap.size ≤ q → A q := fun q h => by rw [← hAe]; exact Or.inr h
  have hS : va_S A s.heap s.heap [] := va_S.rf
  have hiX11 : ∀ w ∈ wsX110, w ∈ wzX11_person := fun _ h9 => List.mem_cons_of_mem _ (List.mem_append_left _ (List.mem_append_left _ (List.mem_append_left _ (List.mem_append_left _ (List.mem_append_right _ h9)))))
  have hiX8 : ∀ w ∈ wsX80, w ∈ wzX11_person := fun _ h9 => List.mem_cons_of_mem _ (List.mem_append_left _ (List.mem_append_left _ (List.mem_append_left _ (List.mem_append_right _ h9))))
  have hiX4 : ∀ w ∈ wsX40, w ∈ wzX11_person := fun _ h9 => List.mem_cons_of_mem _ (List.mem_append_left _ (List.mem_append_left _ (List.mem_append_right _ h9)))
  have hiX2 : ∀ w ∈ wsX20, w ∈ wzX11_person := fun _ h9 => List.mem_cons_of_mem _ (List.mem_append_left _ (List.mem_append_right _ h9))
  have hl := lv_entry ([.ref (a 0), .int p0, .int p1]) (n := 3) (Nat.le_of_ble_eq_true rfl)
  rw [lg_entry_eq]
  generalize (lg_sl ([.ref (a 0), .int p0, .int p1]) ++ List.replicate (3 - (lg_sl ([.ref (a 0), .int p0, .int p1])).length) Slot.unset).toArray = ls at hl ⊢
  have hl : lv_has ls 3 [(0, .ref (a 0)), (1, .int p0), (2, .int p1)] := hl
  refine lv_aload_n hx hb dX11_person_0 rfl (lv_at hl 0 rfl) ?_
  refine va_get (D := D) (ci := 10) (v := .ref (a 7)) (C := RX11) (T := TX11) (N := 16) hx hb hts hiX11 hown hK hP 0 rfl rfl 3 (by decide) (hts _ (List.mem_of_getElem? (i := 3) rfl)) (fun _ h9 => h9) rfl dX11_person_1 ?_
  refine va_get (D := D) (ci := 8) (v := .ref (a 29)) (C := RX8) (T := TX8) (N := 12) hx hb hts hiX8 hown hK hP 1 rfl rfl 1 (by decide) (hts _ (List.mem_of_getElem? (i := 4) rfl)) (fun _ h9 => h9) rfl dX11_person_4 ?_
  refine lv_iload_n hx hb dX11_person_7 rfl (lv_at hl 1 rfl) ?_
  have hc9 := (k_X2_has l D ad (a 29) (a 78) p0 )
  refine z_calli (w0 := [(a 29, .inr (2, [.ref (a 78), .int 0]))]) (wr := [(a 0, .inr (10, [.ref (a 4), .ref (a 5), .ref (a 6), .ref (a 7), .ref (a 8), .ref (a 9), .ref (a 10), .ref (a 11), .ref (a 12), .int 0, .ref (a 13), .ref (a 102), .ref (a 14), .ref (a 15), .int (-1), .int (-1)])), (a 7, .inr (8, [.ref (a 28), .ref (a 29), .ref (a 30), .int 0, .ref (a 31), .ref (a 32), .ref (a 33), .int 0, .ref (a 34), .ref (a 35), .ref (a 36), .int 2]))]) (va_runV (As := [.int p0]) (rest := []) ⟨hx, hb, hml, hown, hts⟩ (hc9 _) (cwV 1 hts zgX11_person_X2_has rfl rfl rfl (by decide +kernel) ⟨Nat.le_of_ble_eq_true rfl, Nat.le_of_ble_eq_true rfl⟩) (z_preV hP hD hK hS hA hE hO [2] [] rfl (by decide +kernel) rfl 2 2 rfl rfl rfl) rfl rfl hl.1 rfl (lv_room (Nat.le_of_ble_eq_true rfl)) dX11_person_8 ⟨Nat.le_of_ble_eq_true rfl, Nat.le_of_ble_eq_true rfl⟩) hP hD hK hS hA [2] [0, 1] rfl rfl (by decide +kernel) (by decide +kernel) (fun r9 u9 H locs hw hP hD hK hS => ?_)
  obtain ⟨er9, rfl⟩ := hw
  have hP : va_P D vwCl [(a 0, .inr (10, [.ref (a 4), .ref (a 5), .ref (a 6), .ref (a 7), .ref (a 8), .ref (a 9), .ref (a 10), .ref (a 11), .ref (a 12), .int 0, .ref (a 13), .ref (a 102), .ref (a 14), .ref (a 15), .int (-1), .int (-1)])), (a 7, .inr (8, [.ref (a 28), .ref (a 29), .ref (a 30), .int 0, .ref (a 31), .ref (a 32), .ref (a 33), .int 0, .ref (a 34), .ref (a 35), .ref (a 36), .int 2])), (a 29, .inr (2, [.ref (a 78), .int 0]))] H := hP
  have hD : va_D A [(a 0, .inr (10, [.ref (a 4), .ref (a 5), .ref (a 6), .ref (a 7), .ref (a 8), .ref (a 9), .ref (a 10), .ref (a 11), .ref (a 12), .int 0, .ref (a 13), .ref (a 102), .ref (a 14), .ref (a 15), .int (-1), .int (-1)])), (a 7, .inr (8, [.ref (a 28), .ref (a 29), .ref (a 30), .int 0, .ref (a 31), .ref (a 32), .ref (a 33), .int 0, .ref (a 34), .ref (a 35), .ref (a 36), .int 2])), (a 29, .inr (2, [.ref (a 78), .int 0]))] := hD
  have hK : va_K D vwCl [] s := hK
  refine W.cs (cells' := 0) (slots' := 0) rfl rfl ?_
  obtain rfl := er9
  refine W.eq (g2 := F0 m 11 ls (.int 0 :: [])) rfl ?_
  refine lv_if_eq (tgt := 24) hx hb dX11_person_11 (by decide) (fun _ => ?_) (fun h9 => absurd (by decide) h9)
  refine z_throwS (own := RX11) (cls := "java/util/NoSuchElementException") (text := "no such person") (names := ["java/lang/RuntimeException", "java/lang/Exception"]) (ik := 145) (is := 147) (ic := 149) (sa := sa) (A := A) hx hb hst z_x0 z_x1 z_x2 z_x5 hown (by decide +kernel) (by decide +kernel) (hts _ (List.mem_of_getElem? (i := 1) rfl)) (hts _ (List.mem_of_getElem? (i := 2) rfl)) hR9 (vx_hat (B := z_bad) (fun w hw => hts w (List.mem_cons_of_mem _ (List.mem_append_right _ hw))) z_notgood (fun w hw => va_tabs (z_bad_ot w hw) rfl (hB9 w hw))) z_allot hU9 hN9 hS (by rw [hml]; exact hl.1) dX11_person_24 dX11_person_27 dX11_person_28 dX11_person_30 dX11_person_33 (fun x9 hx9 => (hno x9 hx9).elim) (Nat.le_of_ble_eq_true rfl) (Nat.le_of_ble_eq_true rfl) (Nat.le_of_ble_eq_true rfl) (Nat.le_of_ble_eq_true rfl) hlocks (fun t hvm hz9 hk9 => ⟨(), trivial, rfl, Nat.le_trans hS.1 hz9, fun q hq hn => (hk9 q (Nat.lt_of_lt_of_le hq hS.1)).trans (hS.2.1 q hq hn)⟩) hS.2.2 (Nat.le_of_ble_eq_true rfl) (Nat.le_of_ble_eq_true rfl)

set_option maxHeartbeats 8000000 in
set_option maxRecDepth 100000 in
theorem kl_person (l : Launch) (hst : l.stackTraces = false) (D : va_G) (ad a : Nat → Nat) (p0 p1 : Int32) (qo sa sz : Nat) : Met l yL_person wzL_person { frames := 7, cells := 1, slots := 6, locals := 112 } (va_Pc [.ref (a 0), .int p0, .int p1, .ref qo] (fun U => z_B D ad sz [(a 0, .inr (10, [.ref (a 4), .ref (a 5), .ref (a 6), .ref (a 7), .ref (a 8), .ref (a 9), .ref (a 10), .ref (a 11), .ref (a 12), .int 0, .ref (a 13), .ref (a 102), .ref (a 14), .ref (a 15), .int (-1), .int (-1)])), (a 7, .inr (8, [.ref (a 28), .ref (a 29), .ref (a 30), .int 0, .ref (a 31), .ref (a 32), .ref (a 33), .int 0, .ref (a 34), .ref (a 35), .ref (a 36), .int 2])), (a 29, .inr (2, [.ref (a 78), .int 0]))] [] U ∧ z_X 147 "no such person" sa (va_A [(a 0, .inr (10, [.ref (a 4), .ref (a 5), .ref (a 6), .ref (a 7), .ref (a 8), .ref (a 9), .ref (a 10), .ref (a 11), .ref (a 12), .int 0, .ref (a 13), .ref (a 102), .ref (a 14), .ref (a 15), .int (-1), .int (-1)])), (a 7, .inr (8, [.ref (a 28), .ref (a 29), .ref (a 30), .int 0, .ref (a 31), .ref (a 32), .ref (a 33), .int 0, .ref (a 34), .ref (a 35), .ref (a 36), .int 2])), (a 29, .inr (2, [.ref (a 78), .int 0]))] sz) U U.heap)) (va_Qi (fun (r : Int32) (u : va_W × z_T) => r = 1 ∧ u = ([], [])) (z_F D (va_A [(a 0, .inr (10, [.ref (a 4), .ref (a 5), .ref (a 6), .ref (a 7), .ref (a 8), .ref (a 9), .ref (a 10), .ref (a 11), .ref (a 12), .int 0, .ref (a 13), .ref (a 102), .ref (a 14), .ref (a 15), .int (-1), .int (-1)])), (a 7, .inr (8, [.ref (a 28), .ref (a 29), .ref (a 30), .int 0, .ref (a 31), .ref (a 32), .ref (a 33), .int 0, .ref (a 34), .ref (a 35), .ref (a 36), .int 2])), (a 29, .inr (2, [.ref (a 78), .int 0]))] sz)) (va_A [(a 0, .inr (10, [.ref (a 4), .ref (a 5), .ref (a 6), .ref (a 7), .ref (a 8), .ref (a 9), .ref (a 10), .ref (a 11), .ref (a 12), .int 0, .ref (a 13), .ref (a 102), .ref (a 14), .ref (a 15), .int (-1), .int (-1)])), (a 7, .inr (8, [.ref (a 28), .ref (a 29), .ref (a 30), .int 0, .ref (a 31), .ref (a 32), .ref (a 33), .int 0, .ref (a 34), .ref (a 35), .ref (a 36), .int 2])), (a 29, .inr (2, [.ref (a 78), .int 0]))] sz)) 1 6 (va_A [(a 0, .inr (10, [.ref (a 4), .ref (a 5), .ref (a 6), .ref (a 7), .ref (a 8), .ref (a 9), .ref (a 10), .ref (a 11), .ref (a 12), .int 0, .ref (a 13), .ref (a 102), .ref (a 14), .ref (a 15), .int (-1), .int (-1)])), (a 7, .inr (8, [.ref (a 28), .ref (a 29), .ref (a 30), .int 0, .ref (a 31), .ref (a 32), .ref (a 33), .int 0, .ref (a 34), .ref (a 35), .ref (a 36), .int 2])), (a 29, .inr (2, [.ref (a 78), .int 0]))] sz) := by
  refine va_MetW (cc := cL_person) (maxL := 5) (ret := some .int) (hh := [(0, 10, 13, 13)]) (by decide) rfl ?_
  intro p e s m args below meth c s₁ B hml hv
  obtain ⟨rfl, ⟨hsz, hP, hK, hD0, hE, hO⟩, hR9, hU9, hN9, hB9⟩ := hv
  subst hsz
  have hx := B.exec
  have hb := B.bytes
  have hr := B.returns
  have hts := atoms_spec (ws := wzL_person) B.pre
  have hown : s.vm.findClass RL = some m.cls := findClass_of_methodNamed B.named
  have hlocks := B.notSynchronized
  have htab := vx_table (x := yL_law) B (hts _ List.mem_cons_self)
  have hD := hD0.self (sz := s.heap.size)
  generalize hAe : va_A [(a 0, .inr (10, [.ref (a 4), .ref (a 5), .ref (a 6), .ref (a 7), .ref (a 8), .ref (a 9), .ref (a 10), .ref (a 11), .ref (a 12), .int 0, .ref (a 13), .ref (a 102), .ref (a 14), .ref (a 15), .int (-1), .int (-1)])), (a 7, .inr (8, [.ref (a 28), .ref (a 29), .ref (a 30), .int 0, .ref (a 31), .ref (a 32), .ref (a 33), .int 0, .ref (a 34), .ref (a 35), .ref (a 36), .int 2])), (a 29, .inr (2, [.ref (a 78), .int 0]))] s.heap.size = A at hD hE hU9 hN9 ⊢
  have hA : ∀ q : Nat, s.heap.size ≤ q → A q := fun q h => by rw [← hAe]; exact Or.inr h
  have hS : va_S A s.heap s.heap [] := va_S.rf
  have hl := lv_entry ([.ref (a 0), .int p0, .int p1, .ref qo]) (n := 5) (Nat.le_of_ble_eq_true rfl)
  rw [lg_entry_eq]
  generalize (lg_sl ([.ref (a 0), .int p0, .int p1, .ref qo]) ++ List.replicate (5 - (lg_sl ([.ref (a 0), .int p0, .int p1, .ref qo])).length) Slot.unset).toArray = ls at hl ⊢
  have hl : lv_has ls 5 [(0, .ref (a 0)), (1, .int p0), (2, .int p1), (3, .ref qo)] := hl
  have hF := va_free (wc := [(a 0, .inr (10, [.ref (a 4), .ref (a 5), .ref (a 6), .ref (a 7), .ref (a 8), .ref (a 9), .ref (a 10), .ref (a 11), .ref (a 12), .int 0, .ref (a 13), .ref (a 102), .ref (a 14), .ref (a 15), .int (-1), .int (-1)])), (a 7, .inr (8, [.ref (a 28), .ref (a 29), .ref (a 30), .int 0, .ref (a 31), .ref (a 32), .ref (a 33), .int 0, .ref (a 34), .ref (a 35), .ref (a 36), .int 2])), (a 29, .inr (2, [.ref (a 78), .int 0]))]) hD hS hA [0, 1, 2] rfl
  refine lv_aload_n hx hb dL_person_0 rfl (lv_at hl 3 rfl) ?_
  refine lv_iconst (v := 0) hx hb dL_person_1 (by decide) ?_
  refine lv_aload_n hx hb dL_person_2 rfl (lv_at hl 0 rfl) ?_
  refine lv_iload_n hx hb dL_person_3 rfl (lv_at hl 1 rfl) ?_
  refine lv_iload_n hx hb dL_person_4 rfl (lv_at hl 2 rfl) ?_
  have hc9 := kx_person l hst D ad a p0 p1 sa s.heap.size
  refine vx_calli (vx_runV (As := [.int p0, .int p1]) (rest := [.int 0, .ref qo]) ⟨hx, hb, hml, hown, hts⟩ hc9 (cwV 2 hts zgL_person_X11_person rfl rfl rfl (by decide +kernel) ⟨Nat.le_of_ble_eq_true rfl, Nat.le_of_ble_eq_true rfl⟩) ⟨z_blindX, va_recv hK hP (ci := 10) (q0 := 0) rfl rfl, z_preX hP hD hK hS hA hE hO ⟨hR9, hU9, hN9, hB9⟩ [0, 1, 2] [] rfl (by decide) rfl⟩ rfl rfl hl.1 rfl (lv_room (Nat.le_of_ble_eq_true rfl)) dL_person_5 ⟨Nat.le_of_ble_eq_true rfl, Nat.le_of_ble_eq_true rfl⟩) hS (fun q _ h => hF q h) hF (fun q _ h => hF q h) (fun E ce q9 u t H1 locs1 ht hvm hpx hBX hz9 hk9 hS1 hcell hv9 hcl => ?_) (fun r u t H1 locs1 ht hvm hw => hw.elim)
  obtain rfl := hBX
  refine vx_catch hown [] { startPc := 0, endPc := 10, handlerPc := 13, catchType := 13 } [] (htab.trans rfl) (fun z hz => nomatch hz) (by decide) (by decide) (hts _ (List.mem_of_getElem? (i := 1) rfl)) (va_tabs rfl rfl (hB9 (Cond.castable "java/util/NoSuchElementException" "java/util/NoSuchElementException") (by decide +kernel))) hcell hv9 hcl ?_
  refine lv_astore (lv' := [(4, .ref q9), (0, .ref (a 0)), (1, .int p0), (2, .int p1), (3, .ref qo)]) hx hb dL_person_13 hl (by decide) rfl (fun ls hl => ?_)
  refine lv_iconst (v := 1) hx hb dL_person_15 (by decide) ?_
  refine W.widen (k := 1) (n := 6) (by decide) (by decide) ?_
  exact W.iret hx hb hr (fun t1 ht1 hW => ⟨⟨1, ([], []), rfl, ⟨rfl, rfl⟩, (fun k q h => by simp at h), va_K.moved hW.alike (hK.sub [] rfl), (⟨fun i j p q h => by simp at h, fun k q h => by simp at h⟩)⟩, hS1.F ht1⟩) hS1.2.2 dL_person_16

set_option maxHeartbeats 8000000 in
set_option maxRecDepth 100000 in
theorem kx_umbrella (l : Launch) (hst : l.stackTraces = false) (D : va_G) (ad a : Nat → Nat) (p0 p1 : Int32) (sa sz : Nat) : vx_Met l yX11_umbrella wzX11_umbrella { frames := 6, cells := 1, slots := 6, locals := 90 } (va_Pc [.ref (a 0), .int p0, .int p1] (fun U => z_B D ad sz [(a 0, .inr (10, [.ref (a 4), .ref (a 5), .ref (a 6), .ref (a 7), .ref (a 8), .ref (a 9), .ref (a 10), .ref (a 11), .ref (a 12), .int 0, .ref (a 13), .ref (a 102), .ref (a 14), .ref (a 15), .int (-1), .int (-1)])), (a 7, .inr (8, [.ref (a 28), .ref (a 29), .ref (a 30), .int 0, .ref (a 31), .ref (a 32), .ref (a 33), .int 0, .ref (a 34), .ref (a 35), .ref (a 36), .int 2])), (a 30, .inr (2, [.ref (a 79), .int 0]))] [] U ∧ z_X 178 "no such umbrella" sa (va_A [(a 0, .inr (10, [.ref (a 4), .ref (a 5), .ref (a 6), .ref (a 7), .ref (a 8), .ref (a 9), .ref (a 10), .ref (a 11), .ref (a 12), .int 0, .ref (a 13), .ref (a 102), .ref (a 14), .ref (a 15), .int (-1), .int (-1)])), (a 7, .inr (8, [.ref (a 28), .ref (a 29), .ref (a 30), .int 0, .ref (a 31), .ref (a 32), .ref (a 33), .int 0, .ref (a 34), .ref (a 35), .ref (a 36), .int 2])), (a 30, .inr (2, [.ref (a 79), .int 0]))] sz) U U.heap)) (va_Qi (fun (_ : Int32) (_ : Unit) => False) (fun _ _ => True) (va_A [(a 0, .inr (10, [.ref (a 4), .ref (a 5), .ref (a 6), .ref (a 7), .ref (a 8), .ref (a 9), .ref (a 10), .ref (a 11), .ref (a 12), .int 0, .ref (a 13), .ref (a 102), .ref (a 14), .ref (a 15), .int (-1), .int (-1)])), (a 7, .inr (8, [.ref (a 28), .ref (a 29), .ref (a 30), .int 0, .ref (a 31), .ref (a 32), .ref (a 33), .int 0, .ref (a 34), .ref (a 35), .ref (a 36), .int 2])), (a 30, .inr (2, [.ref (a 79), .int 0]))] sz)) (vx_X (fun _ : Unit => True) (fun E _ _ => E = "java/util/NoSuchElementException") (va_A [(a 0, .inr (10, [.ref (a 4), .ref (a 5), .ref (a 6), .ref (a 7), .ref (a 8), .ref (a 9), .ref (a 10), .ref (a 11), .ref (a 12), .int 0, .ref (a 13), .ref (a 102), .ref (a 14), .ref (a 15), .int (-1), .int (-1)])), (a 7, .inr (8, [.ref (a 28), .ref (a 29), .ref (a 30), .int 0, .ref (a 31), .ref (a 32), .ref (a 33), .int 0, .ref (a 34), .ref (a 35), .ref (a 36), .int 2])), (a 30, .inr (2, [.ref (a 79), .int 0]))] sz)) 1 6 (va_A [(a 0, .inr (10, [.ref (a 4), .ref (a 5), .ref (a 6), .ref (a 7), .ref (a 8), .ref (a 9), .ref (a 10), .ref (a 11), .ref (a 12), .int 0, .ref (a 13), .ref (a 102), .ref (a 14), .ref (a 15), .int (-1), .int (-1)])), (a 7, .inr (8, [.ref (a 28), .ref (a 29), .ref (a 30), .int 0, .ref (a 31), .ref (a 32), .ref (a 33), .int 0, .ref (a 34), .ref (a 35), .ref (a 36), .int 2])), (a 30, .inr (2, [.ref (a 79), .int 0]))] sz) := by
  refine vx_ofW (cc := cX11_umbrella) (maxL := 3) (ret := some .int) (by decide) rfl ?_
  intro p e s m args below meth c s₁ B hml hno hv
  obtain ⟨rfl, ⟨hsz, hP, hK, hD0, hE, hO⟩, hR9, hU9, hN9, hB9⟩ := hv
  subst hsz
  have hx := B.exec
  have hb := B.bytes
  have hts := atoms_spec (ws := wzX11_umbrella) B.pre
  have hown : s.vm.findClass RX11 = some m.cls := findClass_of_methodNamed B.named
  have hlocks := B.notSynchronized
  have hD := hD0.self (sz := s.heap.size)
  generalize hAe : va_A [(a 0, .inr (10, [.ref (a 4), .ref (a 5), .ref (a 6), .ref (a 7), .ref (a 8), .ref (a 9), .ref (a 10), .ref (a 11), .ref (a 12), .int 0, .ref (a 13), .ref (a 102), .ref (a 14), .ref (a 15), .int (-1), .int (-1)])), (a 7, .inr (8, [.ref (a 28), .ref (a 29), .ref (a 30), .int 0, .ref (a 31), .ref (a 32), .ref (a 33), .int 0, .ref (a 34), .ref (a 35), .ref (a 36), .int 2])), (a 30, .inr (2, [.ref (a 79), .int 0]))] s.heap.size = A at hD hE hU9 hN9 ⊢
  have hA : ∀ q : Nat, s.heap.size ≤ q → A q := fun q h => by rw [← hAe]; exact Or.inr h
  have hS : va_S A s.heap s.heap [] := va_S.rf
  have hiX11 : ∀ w ∈ wsX110, w ∈ wzX11_umbrella := fun _ h9 => List.mem_cons_of_mem _ (List.mem_append_left _ (List.mem_append_left _ (List.mem_append_left _ (List.mem_append_left _ (List.mem_append_right _ h9)))))
  have hiX8 : ∀ w ∈ wsX80, w ∈ wzX11_umbrella := fun _ h9 => List.mem_cons_of_mem _ (List.mem_append_left _ (List.mem_append_left _ (List.mem_append_left _ (List.mem_append_right _ h9))))
  have hiX4 : ∀ w ∈ wsX40, w ∈ wzX11_umbrella := fun _ h9 => List.mem_cons_of_mem _ (List.mem_append_left _ (List.mem_append_left _ (List.mem_append_right _ h9)))
  have hiX2 : ∀ w ∈ wsX20, w ∈ wzX11_umbrella := fun _ h9 => List.mem_cons_of_mem _ (List.mem_append_left _ (List.mem_append_right _ h9))
  have hl := lv_entry ([.ref (a 0), .int p0, .int p1]) (n := 3) (Nat.le_of_ble_eq_true rfl)
  rw [lg_entry_eq]
  generalize (lg_sl ([.ref (a 0), .int p0, .int p1]) ++ List.replicate (3 - (lg_sl ([.ref (a 0), .int p0, .int p1])).length) Slot.unset).toArray = ls at hl ⊢
  have hl : lv_has ls 3 [(0, .ref (a 0)), (1, .int p0), (2, .int p1)] := hl
  refine lv_aload_n hx hb dX11_umbrella_0 rfl (lv_at hl 0 rfl) ?_
  refine va_get (D := D) (ci := 10) (v := .ref (a 7)) (C := RX11) (T := TX11) (N := 16) hx hb hts hiX11 hown hK hP 0 rfl rfl 3 (by decide) (hts _ (List.mem_of_getElem? (i := 3) rfl)) (fun _ h9 => h9) rfl dX11_umbrella_1 ?_
  refine va_get (D := D) (ci := 8) (v := .ref (a 30)) (C := RX8) (T := TX8) (N := 12) hx hb hts hiX8 hown hK hP 1 rfl rfl 2 (by decide) (hts _ (List.mem_of_getElem? (i := 4) rfl)) (fun _ h9 => h9) rfl dX11_umbrella_4 ?_
  refine lv_iload_n hx hb dX11_umbrella_7 rfl (lv_at hl 1 rfl) ?_
  have hc9 := (k_X2_has l D ad (a 30) (a 79) p0 )
  refine z_calli (w0 := [(a 30, .inr (2, [.ref (a 79), .int 0]))]) (wr := [(a 0, .inr (10, [.ref (a 4), .ref (a 5), .ref (a 6), .ref (a 7), .ref (a 8), .ref (a 9), .ref (a 10), .ref (a 11), .ref (a 12), .int 0, .ref (a 13), .ref (a 102), .ref (a 14), .ref (a 15), .int (-1), .int (-1)])), (a 7, .inr (8, [.ref (a 28), .ref (a 29), .ref (a 30), .int 0, .ref (a 31), .ref (a 32), .ref (a 33), .int 0, .ref (a 34), .ref (a 35), .ref (a 36), .int 2]))]) (va_runV (As := [.int p0]) (rest := []) ⟨hx, hb, hml, hown, hts⟩ (hc9 _) (cwV 1 hts zgX11_umbrella_X2_has rfl rfl rfl (by decide +kernel) ⟨Nat.le_of_ble_eq_true rfl, Nat.le_of_ble_eq_true rfl⟩) (z_preV hP hD hK hS hA hE hO [2] [] rfl (by decide +kernel) rfl 2 2 rfl rfl rfl) rfl rfl hl.1 rfl (lv_room (Nat.le_of_ble_eq_true rfl)) dX11_umbrella_8 ⟨Nat.le_of_ble_eq_true rfl, Nat.le_of_ble_eq_true rfl⟩) hP hD hK hS hA [2] [0, 1] rfl rfl (by decide +kernel) (by decide +kernel) (fun r9 u9 H locs hw hP hD hK hS => ?_)
  obtain ⟨er9, rfl⟩ := hw
  have hP : va_P D vwCl [(a 0, .inr (10, [.ref (a 4), .ref (a 5), .ref (a 6), .ref (a 7), .ref (a 8), .ref (a 9), .ref (a 10), .ref (a 11), .ref (a 12), .int 0, .ref (a 13), .ref (a 102), .ref (a 14), .ref (a 15), .int (-1), .int (-1)])), (a 7, .inr (8, [.ref (a 28), .ref (a 29), .ref (a 30), .int 0, .ref (a 31), .ref (a 32), .ref (a 33), .int 0, .ref (a 34), .ref (a 35), .ref (a 36), .int 2])), (a 30, .inr (2, [.ref (a 79), .int 0]))] H := hP
  have hD : va_D A [(a 0, .inr (10, [.ref (a 4), .ref (a 5), .ref (a 6), .ref (a 7), .ref (a 8), .ref (a 9), .ref (a 10), .ref (a 11), .ref (a 12), .int 0, .ref (a 13), .ref (a 102), .ref (a 14), .ref (a 15), .int (-1), .int (-1)])), (a 7, .inr (8, [.ref (a 28), .ref (a 29), .ref (a 30), .int 0, .ref (a 31), .ref (a 32), .ref (a 33), .int 0, .ref (a 34), .ref (a 35), .ref (a 36), .int 2])), (a 30, .inr (2, [.ref (a 79), .int 0]))] := hD
  have hK : va_K D vwCl [] s := hK
  refine W.cs (cells' := 0) (slots' := 0) rfl rfl ?_
  obtain rfl := er9
  refine W.eq (g2 := F0 m 11 ls (.int 0 :: [])) rfl ?_
  refine lv_if_eq (tgt := 23) hx hb dX11_umbrella_11 (by decide) (fun _ => ?_) (fun h9 => absurd (by decide) h9)
  refine z_throwS (own := RX11) (cls := "java/util/NoSuchElementException") (text := "no such umbrella") (names := ["java/lang/RuntimeException", "java/lang/Exception"]) (ik := 145) (is := 178) (ic := 149) (sa := sa) (A := A) hx hb hst z_x0 z_x1 z_x2 z_x5 hown (by decide +kernel) (by decide +kernel) (hts _ (List.mem_of_getElem? (i := 1) rfl)) (hts _ (List.mem_of_getElem? (i := 2) rfl)) hR9 (vx_hat (B := z_bad) (fun w hw => hts w (List.mem_cons_of_mem _ (List.mem_append_right _ hw))) z_notgood (fun w hw => va_tabs (z_bad_ot w hw) rfl (hB9 w hw))) z_allot hU9 hN9 hS (by rw [hml]; exact hl.1) dX11_umbrella_23 dX11_umbrella_26 dX11_umbrella_27 dX11_umbrella_29 dX11_umbrella_32 (fun x9 hx9 => (hno x9 hx9).elim) (Nat.le_of_ble_eq_true rfl) (Nat.le_of_ble_eq_true rfl) (Nat.le_of_ble_eq_true rfl) (Nat.le_of_ble_eq_true rfl) hlocks (fun t hvm hz9 hk9 => ⟨(), trivial, rfl, Nat.le_trans hS.1 hz9, fun q hq hn => (hk9 q (Nat.lt_of_lt_of_le hq hS.1)).trans (hS.2.1 q hq hn)⟩) hS.2.2 (Nat.le_of_ble_eq_true rfl) (Nat.le_of_ble_eq_true rfl)

set_option maxHeartbeats 8000000 in
set_option maxRecDepth 100000 in
theorem kl_umbrella (l : Launch) (hst : l.stackTraces = false) (D : va_G) (ad a : Nat → Nat) (p0 p1 : Int32) (qo sa sz : Nat) : Met l yL_umbrella wzL_umbrella { frames := 7, cells := 1, slots := 6, locals := 112 } (va_Pc [.ref (a 0), .int p0, .int p1, .ref qo] (fun U => z_B D ad sz [(a 0, .inr (10, [.ref (a 4), .ref (a 5), .ref (a 6), .ref (a 7), .ref (a 8), .ref (a 9), .ref (a 10), .ref (a 11), .ref (a 12), .int 0, .ref (a 13), .ref (a 102), .ref (a 14), .ref (a 15), .int (-1), .int (-1)])), (a 7, .inr (8, [.ref (a 28), .ref (a 29), .ref (a 30), .int 0, .ref (a 31), .ref (a 32), .ref (a 33), .int 0, .ref (a 34), .ref (a 35), .ref (a 36), .int 2])), (a 30, .inr (2, [.ref (a 79), .int 0]))] [] U ∧ z_X 178 "no such umbrella" sa (va_A [(a 0, .inr (10, [.ref (a 4), .ref (a 5), .ref (a 6), .ref (a 7), .ref (a 8), .ref (a 9), .ref (a 10), .ref (a 11), .ref (a 12), .int 0, .ref (a 13), .ref (a 102), .ref (a 14), .ref (a 15), .int (-1), .int (-1)])), (a 7, .inr (8, [.ref (a 28), .ref (a 29), .ref (a 30), .int 0, .ref (a 31), .ref (a 32), .ref (a 33), .int 0, .ref (a 34), .ref (a 35), .ref (a 36), .int 2])), (a 30, .inr (2, [.ref (a 79), .int 0]))] sz) U U.heap)) (va_Qi (fun (r : Int32) (u : va_W × z_T) => r = 1 ∧ u = ([], [])) (z_F D (va_A [(a 0, .inr (10, [.ref (a 4), .ref (a 5), .ref (a 6), .ref (a 7), .ref (a 8), .ref (a 9), .ref (a 10), .ref (a 11), .ref (a 12), .int 0, .ref (a 13), .ref (a 102), .ref (a 14), .ref (a 15), .int (-1), .int (-1)])), (a 7, .inr (8, [.ref (a 28), .ref (a 29), .ref (a 30), .int 0, .ref (a 31), .ref (a 32), .ref (a 33), .int 0, .ref (a 34), .ref (a 35), .ref (a 36), .int 2])), (a 30, .inr (2, [.ref (a 79), .int 0]))] sz)) (va_A [(a 0, .inr (10, [.ref (a 4), .ref (a 5), .ref (a 6), .ref (a 7), .ref (a 8), .ref (a 9), .ref (a 10), .ref (a 11), .ref (a 12), .int 0, .ref (a 13), .ref (a 102), .ref (a 14), .ref (a 15), .int (-1), .int (-1)])), (a 7, .inr (8, [.ref (a 28), .ref (a 29), .ref (a 30), .int 0, .ref (a 31), .ref (a 32), .ref (a 33), .int 0, .ref (a 34), .ref (a 35), .ref (a 36), .int 2])), (a 30, .inr (2, [.ref (a 79), .int 0]))] sz)) 1 6 (va_A [(a 0, .inr (10, [.ref (a 4), .ref (a 5), .ref (a 6), .ref (a 7), .ref (a 8), .ref (a 9), .ref (a 10), .ref (a 11), .ref (a 12), .int 0, .ref (a 13), .ref (a 102), .ref (a 14), .ref (a 15), .int (-1), .int (-1)])), (a 7, .inr (8, [.ref (a 28), .ref (a 29), .ref (a 30), .int 0, .ref (a 31), .ref (a 32), .ref (a 33), .int 0, .ref (a 34), .ref (a 35), .ref (a 36), .int 2])), (a 30, .inr (2, [.ref (a 79), .int 0]))] sz) := by
  refine va_MetW (cc := cL_umbrella) (maxL := 5) (ret := some .int) (hh := [(0, 10, 13, 13)]) (by decide) rfl ?_
  intro p e s m args below meth c s₁ B hml hv
  obtain ⟨rfl, ⟨hsz, hP, hK, hD0, hE, hO⟩, hR9, hU9, hN9, hB9⟩ := hv
  subst hsz
  have hx := B.exec
  have hb := B.bytes
  have hr := B.returns
  have hts := atoms_spec (ws := wzL_umbrella) B.pre
  have hown : s.vm.findClass RL = some m.cls := findClass_of_methodNamed B.named
  have hlocks := B.notSynchronized
  have htab := vx_table (x := yL_law) B (hts _ List.mem_cons_self)
  have hD := hD0.self (sz := s.heap.size)
  generalize hAe : va_A [(a 0, .inr (10, [.ref (a 4), .ref (a 5), .ref (a 6), .ref (a 7), .ref (a 8), .ref (a 9), .ref (a 10), .ref (a 11), .ref (a 12), .int 0, .ref (a 13), .ref (a 102), .ref (a 14), .ref (a 15), .int (-1), .int (-1)])), (a 7, .inr (8, [.ref (a 28), .ref (a 29), .ref (a 30), .int 0, .ref (a 31), .ref (a 32), .ref (a 33), .int 0, .ref (a 34), .ref (a 35), .ref (a 36), .int 2])), (a 30, .inr (2, [.ref (a 79), .int 0]))] s.heap.size = A at hD hE hU9 hN9 ⊢
  have hA : ∀ q : Nat, s.heap.size ≤ q → A q := fun q h => by rw [← hAe]; exact Or.inr h
  have hS : va_S A s.heap s.heap [] := va_S.rf
  have hl := lv_entry ([.ref (a 0), .int p0, .int p1, .ref qo]) (n := 5) (Nat.le_of_ble_eq_true rfl)
  rw [lg_entry_eq]
  generalize (lg_sl ([.ref (a 0), .int p0, .int p1, .ref qo]) ++ List.replicate (5 - (lg_sl ([.ref (a 0), .int p0, .int p1, .ref qo])).length) Slot.unset).toArray = ls at hl ⊢
  have hl : lv_has ls 5 [(0, .ref (a 0)), (1, .int p0), (2, .int p1), (3, .ref qo)] := hl
  have hF := va_free (wc := [(a 0, .inr (10, [.ref (a 4), .ref (a 5), .ref (a 6), .ref (a 7), .ref (a 8), .ref (a 9), .ref (a 10), .ref (a 11), .ref (a 12), .int 0, .ref (a 13), .ref (a 102), .ref (a 14), .ref (a 15), .int (-1), .int (-1)])), (a 7, .inr (8, [.ref (a 28), .ref (a 29), .ref (a 30), .int 0, .ref (a 31), .ref (a 32), .ref (a 33), .int 0, .ref (a 34), .ref (a 35), .ref (a 36), .int 2])), (a 30, .inr (2, [.ref (a 79), .int 0]))]) hD hS hA [0, 1, 2] rfl
  refine lv_aload_n hx hb dL_umbrella_0 rfl (lv_at hl 3 rfl) ?_
  refine lv_iconst (v := 0) hx hb dL_umbrella_1 (by decide) ?_
  refine lv_aload_n hx hb dL_umbrella_2 rfl (lv_at hl 0 rfl) ?_
  refine lv_iload_n hx hb dL_umbrella_3 rfl (lv_at hl 1 rfl) ?_
  refine lv_iload_n hx hb dL_umbrella_4 rfl (lv_at hl 2 rfl) ?_
  have hc9 := kx_umbrella l hst D ad a p0 p1 sa s.heap.size
  refine vx_calli (vx_runV (As := [.int p0, .int p1]) (rest := [.int 0, .ref qo]) ⟨hx, hb, hml, hown, hts⟩ hc9 (cwV 2 hts zgL_umbrella_X11_umbrella rfl rfl rfl (by decide +kernel) ⟨Nat.le_of_ble_eq_true rfl, Nat.le_of_ble_eq_true rfl⟩) ⟨z_blindX, va_recv hK hP (ci := 10) (q0 := 0) rfl rfl, z_preX hP hD hK hS hA hE hO ⟨hR9, hU9, hN9, hB9⟩ [0, 1, 2] [] rfl (by decide) rfl⟩ rfl rfl hl.1 rfl (lv_room (Nat.le_of_ble_eq_true rfl)) dL_umbrella_5 ⟨Nat.le_of_ble_eq_true rfl, Nat.le_of_ble_eq_true rfl⟩) hS (fun q _ h => hF q h) hF (fun q _ h => hF q h) (fun E ce q9 u t H1 locs1 ht hvm hpx hBX hz9 hk9 hS1 hcell hv9 hcl => ?_) (fun r u t H1 locs1 ht hvm hw => hw.elim)
  obtain rfl := hBX
  refine vx_catch hown [] { startPc := 0, endPc := 10, handlerPc := 13, catchType := 13 } [] (htab.trans rfl) (fun z hz => nomatch hz) (by decide) (by decide) (hts _ (List.mem_of_getElem? (i := 1) rfl)) (va_tabs rfl rfl (hB9 (Cond.castable "java/util/NoSuchElementException" "java/util/NoSuchElementException") (by decide +kernel))) hcell hv9 hcl ?_
  refine lv_astore (lv' := [(4, .ref q9), (0, .ref (a 0)), (1, .int p0), (2, .int p1), (3, .ref qo)]) hx hb dL_umbrella_13 hl (by decide) rfl (fun ls hl => ?_)
  refine lv_iconst (v := 1) hx hb dL_umbrella_15 (by decide) ?_
  refine W.widen (k := 1) (n := 6) (by decide) (by decide) ?_
  exact W.iret hx hb hr (fun t1 ht1 hW => ⟨⟨1, ([], []), rfl, ⟨rfl, rfl⟩, (fun k q h => by simp at h), va_K.moved hW.alike (hK.sub [] rfl), (⟨fun i j p q h => by simp at h, fun k q h => by simp at h⟩)⟩, hS1.F ht1⟩) hS1.2.2 dL_umbrella_16

set_option maxHeartbeats 8000000 in
set_option maxRecDepth 100000 in
theorem kx_sorrow (l : Launch) (hst : l.stackTraces = false) (D : va_G) (ad a : Nat → Nat) (p0 p1 : Int32) (sa sz : Nat) : vx_Met l yX11_sorrow wzX11_sorrow { frames := 6, cells := 1, slots := 6, locals := 90 } (va_Pc [.ref (a 0), .int p0, .int p1] (fun U => z_B D ad sz [(a 0, .inr (10, [.ref (a 4), .ref (a 5), .ref (a 6), .ref (a 7), .ref (a 8), .ref (a 9), .ref (a 10), .ref (a 11), .ref (a 12), .int 0, .ref (a 13), .ref (a 102), .ref (a 14), .ref (a 15), .int (-1), .int (-1)])), (a 7, .inr (8, [.ref (a 28), .ref (a 29), .ref (a 30), .int 0, .ref (a 31), .ref (a 32), .ref (a 33), .int 0, .ref (a 34), .ref (a 35), .ref (a 36), .int 2]))] [] U ∧ z_X 201 "no such sorrow" sa (va_A [(a 0, .inr (10, [.ref (a 4), .ref (a 5), .ref (a 6), .ref (a 7), .ref (a 8), .ref (a 9), .ref (a 10), .ref (a 11), .ref (a 12), .int 0, .ref (a 13), .ref (a 102), .ref (a 14), .ref (a 15), .int (-1), .int (-1)])), (a 7, .inr (8, [.ref (a 28), .ref (a 29), .ref (a 30), .int 0, .ref (a 31), .ref (a 32), .ref (a 33), .int 0, .ref (a 34), .ref (a 35), .ref (a 36), .int 2]))] sz) U U.heap)) (va_Qi (fun (_ : Int32) (_ : Unit) => False) (fun _ _ => True) (va_A [(a 0, .inr (10, [.ref (a 4), .ref (a 5), .ref (a 6), .ref (a 7), .ref (a 8), .ref (a 9), .ref (a 10), .ref (a 11), .ref (a 12), .int 0, .ref (a 13), .ref (a 102), .ref (a 14), .ref (a 15), .int (-1), .int (-1)])), (a 7, .inr (8, [.ref (a 28), .ref (a 29), .ref (a 30), .int 0, .ref (a 31), .ref (a 32), .ref (a 33), .int 0, .ref (a 34), .ref (a 35), .ref (a 36), .int 2]))] sz)) (vx_X (fun _ : Unit => True) (fun E _ _ => E = "java/util/NoSuchElementException") (va_A [(a 0, .inr (10, [.ref (a 4), .ref (a 5), .ref (a 6), .ref (a 7), .ref (a 8), .ref (a 9), .ref (a 10), .ref (a 11), .ref (a 12), .int 0, .ref (a 13), .ref (a 102), .ref (a 14), .ref (a 15), .int (-1), .int (-1)])), (a 7, .inr (8, [.ref (a 28), .ref (a 29), .ref (a 30), .int 0, .ref (a 31), .ref (a 32), .ref (a 33), .int 0, .ref (a 34), .ref (a 35), .ref (a 36), .int 2]))] sz)) 1 6 (va_A [(a 0, .inr (10, [.ref (a 4), .ref (a 5), .ref (a 6), .ref (a 7), .ref (a 8), .ref (a 9), .ref (a 10), .ref (a 11), .ref (a 12), .int 0, .ref (a 13), .ref (a 102), .ref (a 14), .ref (a 15), .int (-1), .int (-1)])), (a 7, .inr (8, [.ref (a 28), .ref (a 29), .ref (a 30), .int 0, .ref (a 31), .ref (a 32), .ref (a 33), .int 0, .ref (a 34), .ref (a 35), .ref (a 36), .int 2]))] sz) := by
  refine vx_ofW (cc := cX11_sorrow) (maxL := 3) (ret := some .int) (by decide) rfl ?_
  intro p e s m args below meth c s₁ B hml hno hv
  obtain ⟨rfl, ⟨hsz, hP, hK, hD0, hE, hO⟩, hR9, hU9, hN9, hB9⟩ := hv
  subst hsz
  have hx := B.exec
  have hb := B.bytes
  have hts := atoms_spec (ws := wzX11_sorrow) B.pre
  have hown : s.vm.findClass RX11 = some m.cls := findClass_of_methodNamed B.named
  have hlocks := B.notSynchronized
  have hD := hD0.self (sz := s.heap.size)
  generalize hAe : va_A [(a 0, .inr (10, [.ref (a 4), .ref (a 5), .ref (a 6), .ref (a 7), .ref (a 8), .ref (a 9), .ref (a 10), .ref (a 11), .ref (a 12), .int 0, .ref (a 13), .ref (a 102), .ref (a 14), .ref (a 15), .int (-1), .int (-1)])), (a 7, .inr (8, [.ref (a 28), .ref (a 29), .ref (a 30), .int 0, .ref (a 31), .ref (a 32), .ref (a 33), .int 0, .ref (a 34), .ref (a 35), .ref (a 36), .int 2]))] s.heap.size = A at hD hE hU9 hN9 ⊢
  have hA : ∀ q : Nat, s.heap.size ≤ q → A q := fun q h => by rw [← hAe]; exact Or.inr h
  have hS : va_S A s.heap s.heap [] := va_S.rf
  have hiX11 : ∀ w ∈ wsX110, w ∈ wzX11_sorrow := fun _ h9 => List.mem_cons_of_mem _ (List.mem_append_left _ (List.mem_append_left _ (List.mem_append_left _ (List.mem_append_right _ h9))))
  have hiX8 : ∀ w ∈ wsX80, w ∈ wzX11_sorrow := fun _ h9 => List.mem_cons_of_mem _ (List.mem_append_left _ (List.mem_append_left _ (List.mem_append_right _ h9)))
  have hiX4 : ∀ w ∈ wsX40, w ∈ wzX11_sorrow := fun _ h9 => List.mem_cons_of_mem _ (List.mem_append_left _ (List.mem_append_right _ h9))
  have hl := lv_entry ([.ref (a 0), .int p0, .int p1]) (n := 3) (Nat.le_of_ble_eq_true rfl)
  rw [lg_entry_eq]
  generalize (lg_sl ([.ref (a 0), .int p0, .int p1]) ++ List.replicate (3 - (lg_sl ([.ref (a 0), .int p0, .int p1])).length) Slot.unset).toArray = ls at hl ⊢
  have hl : lv_has ls 3 [(0, .ref (a 0)), (1, .int p0), (2, .int p1)] := hl
  refine lv_iload_n hx hb dX11_sorrow_0 rfl (lv_at hl 1 rfl) ?_
  refine lv_if_lt (tgt := 24) hx hb dX11_sorrow_1 (by decide) (fun c_1 => ?_) (fun c_1 => ?_)
  · refine z_throwS (own := RX11) (cls := "java/util/NoSuchElementException") (text := "no such sorrow") (names := ["java/lang/RuntimeException", "java/lang/Exception"]) (ik := 145) (is := 201) (ic := 149) (sa := sa) (A := A) hx hb hst z_x0 z_x1 z_x2 z_x5 hown (by decide +kernel) (by decide +kernel) (hts _ (List.mem_of_getElem? (i := 1) rfl)) (hts _ (List.mem_of_getElem? (i := 2) rfl)) hR9 (vx_hat (B := z_bad) (fun w hw => hts w (List.mem_cons_of_mem _ (List.mem_append_right _ hw))) z_notgood (fun w hw => va_tabs (z_bad_ot w hw) rfl (hB9 w hw))) z_allot hU9 hN9 hS (by rw [hml]; exact hl.1) dX11_sorrow_24 dX11_sorrow_27 dX11_sorrow_28 dX11_sorrow_30 dX11_sorrow_33 (fun x9 hx9 => (hno x9 hx9).elim) (Nat.le_of_ble_eq_true rfl) (Nat.le_of_ble_eq_true rfl) (Nat.le_of_ble_eq_true rfl) (Nat.le_of_ble_eq_true rfl) hlocks (fun t hvm hz9 hk9 => ⟨(), trivial, rfl, Nat.le_trans hS.1 hz9, fun q hq hn => (hk9 q (Nat.lt_of_lt_of_le hq hS.1)).trans (hS.2.1 q hq hn)⟩) hS.2.2 (Nat.le_of_ble_eq_true rfl) (Nat.le_of_ble_eq_true rfl)
  · refine lv_iload_n hx hb dX11_sorrow_4 rfl (lv_at hl 1 rfl) ?_
    refine lv_aload_n hx hb dX11_sorrow_5 rfl (lv_at hl 0 rfl) ?_
    refine va_get (D := D) (ci := 10) (v := .ref (a 7)) (C := RX11) (T := TX11) (N := 16) hx hb hts hiX11 hown hK hP 0 rfl rfl 3 (by decide) (hts _ (List.mem_of_getElem? (i := 3) rfl)) (fun _ h9 => h9) rfl dX11_sorrow_6 ?_
    refine va_get (D := D) (ci := 8) (v := .int 0) (C := RX8) (T := TX8) (N := 12) hx hb hts hiX8 hown hK hP 1 rfl rfl 7 (by decide) (hts _ (List.mem_of_getElem? (i := 4) rfl)) (fun _ h9 => h9) rfl dX11_sorrow_9 ?_
    refine lv_icmp_ge (tgt := 24) hx hb dX11_sorrow_12 (by decide) (fun _ => ?_) (fun h9 => absurd (Int32.not_lt.mp c_1) h9)
    refine z_throwS (own := RX11) (cls := "java/util/NoSuchElementException") (text := "no such sorrow") (names := ["java/lang/RuntimeException", "java/lang/Exception"]) (ik := 145) (is := 201) (ic := 149) (sa := sa) (A := A) hx hb hst z_x0 z_x1 z_x2 z_x5 hown (by decide +kernel) (by decide +kernel) (hts _ (List.mem_of_getElem? (i := 1) rfl)) (hts _ (List.mem_of_getElem? (i := 2) rfl)) hR9 (vx_hat (B := z_bad) (fun w hw => hts w (List.mem_cons_of_mem _ (List.mem_append_right _ hw))) z_notgood (fun w hw => va_tabs (z_bad_ot w hw) rfl (hB9 w hw))) z_allot hU9 hN9 hS (by rw [hml]; exact hl.1) dX11_sorrow_24 dX11_sorrow_27 dX11_sorrow_28 dX11_sorrow_30 dX11_sorrow_33 (fun x9 hx9 => (hno x9 hx9).elim) (Nat.le_of_ble_eq_true rfl) (Nat.le_of_ble_eq_true rfl) (Nat.le_of_ble_eq_true rfl) (Nat.le_of_ble_eq_true rfl) hlocks (fun t hvm hz9 hk9 => ⟨(), trivial, rfl, Nat.le_trans hS.1 hz9, fun q hq hn => (hk9 q (Nat.lt_of_lt_of_le hq hS.1)).trans (hS.2.1 q hq hn)⟩) hS.2.2 (Nat.le_of_ble_eq_true rfl) (Nat.le_of_ble_eq_true rfl)

set_option maxHeartbeats 8000000 in
set_option maxRecDepth 100000 in
theorem kl_sorrow (l : Launch) (hst : l.stackTraces = false) (D : va_G) (ad a : Nat → Nat) (p0 p1 : Int32) (qo sa sz : Nat) : Met l yL_sorrow wzL_sorrow { frames := 7, cells := 1, slots := 6, locals := 112 } (va_Pc [.ref (a 0), .int p0, .int p1, .ref qo] (fun U => z_B D ad sz [(a 0, .inr (10, [.ref (a 4), .ref (a 5), .ref (a 6), .ref (a 7), .ref (a 8), .ref (a 9), .ref (a 10), .ref (a 11), .ref (a 12), .int 0, .ref (a 13), .ref (a 102), .ref (a 14), .ref (a 15), .int (-1), .int (-1)])), (a 7, .inr (8, [.ref (a 28), .ref (a 29), .ref (a 30), .int 0, .ref (a 31), .ref (a 32), .ref (a 33), .int 0, .ref (a 34), .ref (a 35), .ref (a 36), .int 2]))] [] U ∧ z_X 201 "no such sorrow" sa (va_A [(a 0, .inr (10, [.ref (a 4), .ref (a 5), .ref (a 6), .ref (a 7), .ref (a 8), .ref (a 9), .ref (a 10), .ref (a 11), .ref (a 12), .int 0, .ref (a 13), .ref (a 102), .ref (a 14), .ref (a 15), .int (-1), .int (-1)])), (a 7, .inr (8, [.ref (a 28), .ref (a 29), .ref (a 30), .int 0, .ref (a 31), .ref (a 32), .ref (a 33), .int 0, .ref (a 34), .ref (a 35), .ref (a 36), .int 2]))] sz) U U.heap)) (va_Qi (fun (r : Int32) (u : va_W × z_T) => r = 1 ∧ u = ([], [])) (z_F D (va_A [(a 0, .inr (10, [.ref (a 4), .ref (a 5), .ref (a 6), .ref (a 7), .ref (a 8), .ref (a 9), .ref (a 10), .ref (a 11), .ref (a 12), .int 0, .ref (a 13), .ref (a 102), .ref (a 14), .ref (a 15), .int (-1), .int (-1)])), (a 7, .inr (8, [.ref (a 28), .ref (a 29), .ref (a 30), .int 0, .ref (a 31), .ref (a 32), .ref (a 33), .int 0, .ref (a 34), .ref (a 35), .ref (a 36), .int 2]))] sz)) (va_A [(a 0, .inr (10, [.ref (a 4), .ref (a 5), .ref (a 6), .ref (a 7), .ref (a 8), .ref (a 9), .ref (a 10), .ref (a 11), .ref (a 12), .int 0, .ref (a 13), .ref (a 102), .ref (a 14), .ref (a 15), .int (-1), .int (-1)])), (a 7, .inr (8, [.ref (a 28), .ref (a 29), .ref (a 30), .int 0, .ref (a 31), .ref (a 32), .ref (a 33), .int 0, .ref (a 34), .ref (a 35), .ref (a 36), .int 2]))] sz)) 1 6 (va_A [(a 0, .inr (10, [.ref (a 4), .ref (a 5), .ref (a 6), .ref (a 7), .ref (a 8), .ref (a 9), .ref (a 10), .ref (a 11), .ref (a 12), .int 0, .ref (a 13), .ref (a 102), .ref (a 14), .ref (a 15), .int (-1), .int (-1)])), (a 7, .inr (8, [.ref (a 28), .ref (a 29), .ref (a 30), .int 0, .ref (a 31), .ref (a 32), .ref (a 33), .int 0, .ref (a 34), .ref (a 35), .ref (a 36), .int 2]))] sz) := by
  refine va_MetW (cc := cL_sorrow) (maxL := 5) (ret := some .int) (hh := [(0, 10, 13, 13)]) (by decide) rfl ?_
  intro p e s m args below meth c s₁ B hml hv
  obtain ⟨rfl, ⟨hsz, hP, hK, hD0, hE, hO⟩, hR9, hU9, hN9, hB9⟩ := hv
  subst hsz
  have hx := B.exec
  have hb := B.bytes
  have hr := B.returns
  have hts := atoms_spec (ws := wzL_sorrow) B.pre
  have hown : s.vm.findClass RL = some m.cls := findClass_of_methodNamed B.named
  have hlocks := B.notSynchronized
  have htab := vx_table (x := yL_law) B (hts _ List.mem_cons_self)
  have hD := hD0.self (sz := s.heap.size)
  generalize hAe : va_A [(a 0, .inr (10, [.ref (a 4), .ref (a 5), .ref (a 6), .ref (a 7), .ref (a 8), .ref (a 9), .ref (a 10), .ref (a 11), .ref (a 12), .int 0, .ref (a 13), .ref (a 102), .ref (a 14), .ref (a 15), .int (-1), .int (-1)])), (a 7, .inr (8, [.ref (a 28), .ref (a 29), .ref (a 30), .int 0, .ref (a 31), .ref (a 32), .ref (a 33), .int 0, .ref (a 34), .ref (a 35), .ref (a 36), .int 2]))] s.heap.size = A at hD hE hU9 hN9 ⊢
  have hA : ∀ q : Nat, s.heap.size ≤ q → A q := fun q h => by rw [← hAe]; exact Or.inr h
  have hS : va_S A s.heap s.heap [] := va_S.rf
  have hl := lv_entry ([.ref (a 0), .int p0, .int p1, .ref qo]) (n := 5) (Nat.le_of_ble_eq_true rfl)
  rw [lg_entry_eq]
  generalize (lg_sl ([.ref (a 0), .int p0, .int p1, .ref qo]) ++ List.replicate (5 - (lg_sl ([.ref (a 0), .int p0, .int p1, .ref qo])).length) Slot.unset).toArray = ls at hl ⊢
  have hl : lv_has ls 5 [(0, .ref (a 0)), (1, .int p0), (2, .int p1), (3, .ref qo)] := hl
  have hF := va_free (wc := [(a 0, .inr (10, [.ref (a 4), .ref (a 5), .ref (a 6), .ref (a 7), .ref (a 8), .ref (a 9), .ref (a 10), .ref (a 11), .ref (a 12), .int 0, .ref (a 13), .ref (a 102), .ref (a 14), .ref (a 15), .int (-1), .int (-1)])), (a 7, .inr (8, [.ref (a 28), .ref (a 29), .ref (a 30), .int 0, .ref (a 31), .ref (a 32), .ref (a 33), .int 0, .ref (a 34), .ref (a 35), .ref (a 36), .int 2]))]) hD hS hA [0, 1] rfl
  refine lv_aload_n hx hb dL_sorrow_0 rfl (lv_at hl 3 rfl) ?_
  refine lv_iconst (v := 0) hx hb dL_sorrow_1 (by decide) ?_
  refine lv_aload_n hx hb dL_sorrow_2 rfl (lv_at hl 0 rfl) ?_
  refine lv_iload_n hx hb dL_sorrow_3 rfl (lv_at hl 1 rfl) ?_
  refine lv_iload_n hx hb dL_sorrow_4 rfl (lv_at hl 2 rfl) ?_
  have hc9 := kx_sorrow l hst D ad a p0 p1 sa s.heap.size
  refine vx_calli (vx_runV (As := [.int p0, .int p1]) (rest := [.int 0, .ref qo]) ⟨hx, hb, hml, hown, hts⟩ hc9 (cwV 2 hts zgL_sorrow_X11_sorrow rfl rfl rfl (by decide +kernel) ⟨Nat.le_of_ble_eq_true rfl, Nat.le_of_ble_eq_true rfl⟩) ⟨z_blindX, va_recv hK hP (ci := 10) (q0 := 0) rfl rfl, z_preX hP hD hK hS hA hE hO ⟨hR9, hU9, hN9, hB9⟩ [0, 1] [] rfl (by decide) rfl⟩ rfl rfl hl.1 rfl (lv_room (Nat.le_of_ble_eq_true rfl)) dL_sorrow_5 ⟨Nat.le_of_ble_eq_true rfl, Nat.le_of_ble_eq_true rfl⟩) hS (fun q _ h => hF q h) hF (fun q _ h => hF q h) (fun E ce q9 u t H1 locs1 ht hvm hpx hBX hz9 hk9 hS1 hcell hv9 hcl => ?_) (fun r u t H1 locs1 ht hvm hw => hw.elim)
  obtain rfl := hBX
  refine vx_catch hown [] { startPc := 0, endPc := 10, handlerPc := 13, catchType := 13 } [] (htab.trans rfl) (fun z hz => nomatch hz) (by decide) (by decide) (hts _ (List.mem_of_getElem? (i := 1) rfl)) (va_tabs rfl rfl (hB9 (Cond.castable "java/util/NoSuchElementException" "java/util/NoSuchElementException") (by decide +kernel))) hcell hv9 hcl ?_
  refine lv_astore (lv' := [(4, .ref q9), (0, .ref (a 0)), (1, .int p0), (2, .int p1), (3, .ref qo)]) hx hb dL_sorrow_13 hl (by decide) rfl (fun ls hl => ?_)
  refine lv_iconst (v := 1) hx hb dL_sorrow_15 (by decide) ?_
  refine W.widen (k := 1) (n := 6) (by decide) (by decide) ?_
  exact W.iret hx hb hr (fun t1 ht1 hW => ⟨⟨1, ([], []), rfl, ⟨rfl, rfl⟩, (fun k q h => by simp at h), va_K.moved hW.alike (hK.sub [] rfl), (⟨fun i j p q h => by simp at h, fun k q h => by simp at h⟩)⟩, hS1.F ht1⟩) hS1.2.2 dL_sorrow_16

set_option maxHeartbeats 8000000 in
set_option maxRecDepth 100000 in
theorem lc_4 {p : Program} {l : Launch} {e : Env} {s : State} {m : MethodId} {below : List Frame} {meth : Method} {c : Code} {D : va_G} {ad : Nat → Nat} {A : Nat → Prop} {b : Nat} {xs : Nat → Int32} (hst : l.stackTraces = false) (hZ : z_Y A s) (hzt : ∀ w ∈ wzL_law, w.before #[Value.ref b] s = true) (G : z_G p s m meth c ad A b xs) {a am : Nat → Nat} {t tm : Nat → ClassId} {qo : Nat} {to : ClassId} {H : Heap} {locs : List Loc} {ls : Array Slot} (hP : va_P D vwCl ((gF ad a t ++ gM ad am tm) ++ [(qo, .inl (to, 1, .inr (.inl (fun _ => 0))))]) H) (hD : va_D A ((gF ad a t ++ gM ad am tm) ++ [(qo, .inl (to, 1, .inr (.inl (fun _ => 0))))])) (hK : va_K D vwCl ((gFt t ++ gMt tm) ++ [(to, .long)]) s) (hS : va_S A s.heap H locs) (hl : lv_has ls 7 [(4, .int 0), (3, .ref qo), (2, .ref (am 18)), (1, .ref (a 0)), (0, .ref b)]) : W p l e room_1 s m #[Value.ref b] below meth c H locs 212 5680 (lw_Z below #[Value.ref b] s) (F0 m 344 ls []) := by
  have G0 := G
  obtain ⟨hx, hb, hr, hml, hown, hts, hX, hbl, hbA, hA, hAl, hlocks, hE, hO⟩ := G
  obtain ⟨sa, hZ9⟩ := hZ.1
  have hts := hzt
  have hP := hP.sub (ws' := [(a 0, .inr (10, [.ref (a 4), .ref (a 5), .ref (a 6), .ref (a 7), .ref (a 8), .ref (a 9), .ref (a 10), .ref (a 11), .ref (a 12), .int 0, .ref (a 13), .ref (a 102), .ref (a 14), .ref (a 15), .int (-1), .int (-1)])), (a 7, .inr (8, [.ref (a 28), .ref (a 29), .ref (a 30), .int 0, .ref (a 31), .ref (a 32), .ref (a 33), .int 0, .ref (a 34), .ref (a 35), .ref (a 36), .int 2])), (a 29, .inr (2, [.ref (a 78), .int 0])), (am 1, .inl (tm 1, 283, .inl (upd (fun _ => 0) 4 2))), (am 18, .inr (11, [.int 0, .ref (am 0), .int 0, .int 0, .int 0, .int 0, .ref (am 1), .ref (am 19), .ref (am 2), .ref (am 3), .ref (am 20), .int 0, .int 0, .int 0, .int 0, .int 0, .int 0, .long 0, .int 0, .int 0, .int 0, .ref (am 4), .ref (am 5), .int 0, .int 0, .int 0, .int 0, .ref (am 6), .int (-1), .ref (am 7), .int 0, .int 0, .ref (am 8), .int (-1), .ref (am 9), .ref (am 10), .int 0, .int 0, .ref (am 11), .int 0, .int 0, .int 0, .ref (am 12), .int 0, .ref (am 13), .int 0, .int 0, .int 0, .int 0, .int 0, .ref (am 14), .ref (am 15), .ref (am 16), .ref (am 17)]))]) [0, 7, 29, 103, 120] rfl
  have hD := hD.sub (ws' := [(a 0, .inr (10, [.ref (a 4), .ref (a 5), .ref (a 6), .ref (a 7), .ref (a 8), .ref (a 9), .ref (a 10), .ref (a 11), .ref (a 12), .int 0, .ref (a 13), .ref (a 102), .ref (a 14), .ref (a 15), .int (-1), .int (-1)])), (a 7, .inr (8, [.ref (a 28), .ref (a 29), .ref (a 30), .int 0, .ref (a 31), .ref (a 32), .ref (a 33), .int 0, .ref (a 34), .ref (a 35), .ref (a 36), .int 2])), (a 29, .inr (2, [.ref (a 78), .int 0])), (am 1, .inl (tm 1, 283, .inl (upd (fun _ => 0) 4 2))), (am 18, .inr (11, [.int 0, .ref (am 0), .int 0, .int 0, .int 0, .int 0, .ref (am 1), .ref (am 19), .ref (am 2), .ref (am 3), .ref (am 20), .int 0, .int 0, .int 0, .int 0, .int 0, .int 0, .long 0, .int 0, .int 0, .int 0, .ref (am 4), .ref (am 5), .int 0, .int 0, .int 0, .int 0, .ref (am 6), .int (-1), .ref (am 7), .int 0, .int 0, .ref (am 8), .int (-1), .ref (am 9), .ref (am 10), .int 0, .int 0, .ref (am 11), .int 0, .int 0, .int 0, .ref (am 12), .int 0, .ref (am 13), .int 0, .int 0, .int 0, .int 0, .int 0, .ref (am 14), .ref (am 15), .ref (am 16), .ref (am 17)]))]) [0, 7, 29, 103, 120] (by decide) rfl
  refine lv_aload_n hx hb dL_law_344 rfl (lv_at hl 3 rfl) ?_
  refine lv_aload_n hx hb dL_law_345 rfl (lv_at hl 4 rfl) ?_
  refine lv_iload hx hb dL_law_346 (lv_at hl 0 rfl) ?_
  refine lv_iconst (v := 1) hx hb dL_law_348 (by decide) ?_
  refine lv_iadd hx hb dL_law_349 ?_
  refine lv_topi (fun y_1 ey_1 => ?_)
  obtain rfl : y_1 = 1 := ey_1.trans (by decide)
  refine va_sld hx hb hX hbl hbA hS (show ¬ (_ ∨ _) by decide) dL_law_350 ?_
  refine W.eq (g2 := F0 m 351 ls (.int (xs 1) :: [.ref (a 0)])) rfl ?_
  refine lv_aload_n hx hb dL_law_351 rfl (lv_at hl 4 rfl) ?_
  refine lv_iload hx hb dL_law_352 (lv_at hl 0 rfl) ?_
  refine lv_iconst (v := 2) hx hb dL_law_354 (by decide) ?_
  refine lv_iadd hx hb dL_law_355 ?_
  refine lv_topi (fun y_2 ey_2 => ?_)
  obtain rfl : y_2 = 2 := ey_2.trans (by decide)
  refine va_sld hx hb hX hbl hbA hS (show ¬ (_ ∨ _) by decide) dL_law_356 ?_
  refine W.eq (g2 := F0 m 357 ls (.int (xs 2) :: [.int (xs 1), .ref (a 0)])) rfl ?_
  refine lv_aload_n hx hb dL_law_357 rfl (lv_at hl 1 rfl) ?_
  have hc9 := kl_person l hst D ad a (xs 1) (xs 2) qo sa
  refine z_calli (w0 := [(a 0, .inr (10, [.ref (a 4), .ref (a 5), .ref (a 6), .ref (a 7), .ref (a 8), .ref (a 9), .ref (a 10), .ref (a 11), .ref (a 12), .int 0, .ref (a 13), .ref (a 102), .ref (a 14), .ref (a 15), .int (-1), .int (-1)])), (a 7, .inr (8, [.ref (a 28), .ref (a 29), .ref (a 30), .int 0, .ref (a 31), .ref (a 32), .ref (a 33), .int 0, .ref (a 34), .ref (a 35), .ref (a 36), .int 2])), (a 29, .inr (2, [.ref (a 78), .int 0]))]) (wr := [(am 1, .inl (tm 1, 283, .inl (upd (fun _ => 0) 4 2))), (am 18, .inr (11, [.int 0, .ref (am 0), .int 0, .int 0, .int 0, .int 0, .ref (am 1), .ref (am 19), .ref (am 2), .ref (am 3), .ref (am 20), .int 0, .int 0, .int 0, .int 0, .int 0, .int 0, .long 0, .int 0, .int 0, .int 0, .ref (am 4), .ref (am 5), .int 0, .int 0, .int 0, .int 0, .ref (am 6), .int (-1), .ref (am 7), .int 0, .int 0, .ref (am 8), .int (-1), .ref (am 9), .ref (am 10), .int 0, .int 0, .ref (am 11), .int 0, .int 0, .int 0, .ref (am 12), .int 0, .ref (am 13), .int 0, .int 0, .int 0, .int 0, .int 0, .ref (am 14), .ref (am 15), .ref (am 16), .ref (am 17)]))]) (vx_runSW (hh := [(0, 10, 13, 13)]) (As := [.ref (a 0), .int (xs 1), .int (xs 2), .ref qo]) (rest := []) ⟨hx, hb, hml, hown, hts⟩ (hc9 _) (vx_cwSW 4 hts zgL_law_L_person rfl rfl rfl (by decide +kernel) ⟨Nat.le_of_ble_eq_true rfl, Nat.le_of_ble_eq_true rfl⟩) ⟨z_blindX, z_preX hP hD hK hS hA hE hO hZ9 [0, 1, 2] [] rfl (by decide) rfl⟩ rfl rfl hl.1 rfl (lv_room (Nat.le_of_ble_eq_true rfl)) dL_law_358 ⟨Nat.le_of_ble_eq_true rfl, Nat.le_of_ble_eq_true rfl⟩) hP hD hK hS hA [0, 1, 2] [3, 4] rfl rfl (by decide +kernel) (by decide +kernel) (fun r9 u9 H locs hw hP hD hK hS => ?_)
  obtain ⟨rfl, rfl⟩ := hw
  have hP : va_P D vwCl [(am 1, .inl (tm 1, 283, .inl (upd (fun _ => 0) 4 2))), (am 18, .inr (11, [.int 0, .ref (am 0), .int 0, .int 0, .int 0, .int 0, .ref (am 1), .ref (am 19), .ref (am 2), .ref (am 3), .ref (am 20), .int 0, .int 0, .int 0, .int 0, .int 0, .int 0, .long 0, .int 0, .int 0, .int 0, .ref (am 4), .ref (am 5), .int 0, .int 0, .int 0, .int 0, .ref (am 6), .int (-1), .ref (am 7), .int 0, .int 0, .ref (am 8), .int (-1), .ref (am 9), .ref (am 10), .int 0, .int 0, .ref (am 11), .int 0, .int 0, .int 0, .ref (am 12), .int 0, .ref (am 13), .int 0, .int 0, .int 0, .int 0, .int 0, .ref (am 14), .ref (am 15), .ref (am 16), .ref (am 17)]))] H := hP
  have hD : va_D A [(am 1, .inl (tm 1, 283, .inl (upd (fun _ => 0) 4 2))), (am 18, .inr (11, [.int 0, .ref (am 0), .int 0, .int 0, .int 0, .int 0, .ref (am 1), .ref (am 19), .ref (am 2), .ref (am 3), .ref (am 20), .int 0, .int 0, .int 0, .int 0, .int 0, .int 0, .long 0, .int 0, .int 0, .int 0, .ref (am 4), .ref (am 5), .int 0, .int 0, .int 0, .int 0, .ref (am 6), .int (-1), .ref (am 7), .int 0, .int 0, .ref (am 8), .int (-1), .ref (am 9), .ref (am 10), .int 0, .int 0, .ref (am 11), .int 0, .int 0, .int 0, .ref (am 12), .int 0, .ref (am 13), .int 0, .int 0, .int 0, .int 0, .int 0, .ref (am 14), .ref (am 15), .ref (am 16), .ref (am 17)]))] := hD
  have hK : va_K D vwCl (((gFt t ++ gMt tm) ++ [(to, .long)]) ++ []) s := hK
  have hK := hK.sub (tys' := [(t 6, .byte), (t 44, .long), (t 45, .long), (t 46, .long), (t 7, .int), (t 8, .int), (t 9, .int), (t 10, .int), (t 11, .int), (t 12, .int), (t 13, .int), (t 14, .int), (t 15, .int), (t 16, .int), (t 63, .long), (t 64, .long), (t 65, .long), (t 47, .int), (t 48, .int), (t 49, .int), (t 50, .int), (t 51, .int), (t 52, .int), (t 53, .int), (t 54, .int), (t 55, .int), (t 56, .int), (t 0, .object "FuneralUmbrellas$World"), (t 57, .long), (t 58, .long), (t 59, .long), (t 24, .int), (t 25, .int), (t 26, .int), (t 27, .int), (t 28, .int), (t 29, .int), (t 30, .int), (t 31, .int), (t 32, .int), (t 33, .int), (t 60, .long), (t 61, .long), (t 62, .long), (t 34, .int), (t 35, .int), (t 36, .int), (t 37, .int), (t 38, .int), (t 39, .int), (t 40, .int), (t 41, .int), (t 42, .int), (t 43, .int), (t 17, .int), (t 18, .int), (t 19, .int), (t 20, .int), (t 1, .object "FuneralUmbrellas$Scene"), (t 21, .int), (t 22, .int), (t 23, .byte), (t 2, .int), (t 3, .int), (t 4, .int), (t 5, .int), (tm 0, .byte), (tm 1, .int), (tm 18, .int), (tm 2, .int), (tm 3, .long), (tm 4, .int), (tm 5, .int), (tm 6, .int), (tm 7, .int), (tm 8, .int), (tm 9, .boolean), (tm 10, .boolean), (tm 11, .byte), (tm 12, .int), (tm 13, .int), (tm 14, .boolean), (tm 15, .int), (tm 16, .long), (tm 17, .boolean), (to, .long)]) (List.range 86) rfl
  refine W.cs (cells' := 213) (slots' := 5686) rfl rfl ?_
  refine lv_istore (lv' := [(5, .int 1), (4, .int 0), (3, .ref qo), (2, .ref (am 18)), (1, .ref (a 0)), (0, .ref b)]) hx hb dL_law_361 hl (by decide) rfl (fun ls hl => ?_)
  refine lv_aload_n hx hb dL_law_363 rfl (lv_at hl 3 rfl) ?_
  refine lv_aload_n hx hb dL_law_364 rfl (lv_at hl 5 rfl) ?_
  refine lv_iload hx hb dL_law_365 (lv_at hl 1 rfl) ?_
  refine lv_iconst (v := 1) hx hb dL_law_367 (by decide) ?_
  refine lv_iadd hx hb dL_law_368 ?_
  refine lv_topi (fun y_3 ey_3 => ?_)
  obtain rfl : y_3 = 1 := ey_3.trans (by decide)
  refine va_sld hx hb hX hbl hbA hS (show ¬ (_ ∨ _) by decide) dL_law_369 ?_
  refine W.eq (g2 := F0 m 370 ls (.int (xs 1) :: [.ref (am 18)])) rfl ?_
  refine lv_aload_n hx hb dL_law_370 rfl (lv_at hl 5 rfl) ?_
  refine lv_iload hx hb dL_law_371 (lv_at hl 1 rfl) ?_
  refine lv_iconst (v := 2) hx hb dL_law_373 (by decide) ?_
  refine lv_iadd hx hb dL_law_374 ?_
  refine lv_topi (fun y_4 ey_4 => ?_)
  obtain rfl : y_4 = 2 := ey_4.trans (by decide)
  refine va_sld hx hb hX hbl hbA hS (show ¬ (_ ∨ _) by decide) dL_law_375 ?_
  refine W.eq (g2 := F0 m 376 ls (.int (xs 2) :: [.int (xs 1), .ref (am 18)])) rfl ?_
  have hc9 := (k_X12_person l D ad am tm (xs 1) (xs 2) (am 0) 0 0 0 0 (am 19) (am 2) (am 3) (am 20) 0 0 0 0 0 0 0 0 0 0 (am 4) (am 5) 0 0 0 0 (am 6) (-1) (am 7) 0 0 (am 8) (-1) (am 9) (am 10) 0 0 (am 11) 0 0 0 (am 12) 0 (am 13) 0 0 0 0 0 (am 14) (am 15) (am 16) (am 17) )
  refine z_calli (w0 := [(am 1, .inl (tm 1, 283, .inl (upd (fun _ => 0) 4 2))), (am 18, .inr (11, [.int 0, .ref (am 0), .int 0, .int 0, .int 0, .int 0, .ref (am 1), .ref (am 19), .ref (am 2), .ref (am 3), .ref (am 20), .int 0, .int 0, .int 0, .int 0, .int 0, .int 0, .long 0, .int 0, .int 0, .int 0, .ref (am 4), .ref (am 5), .int 0, .int 0, .int 0, .int 0, .ref (am 6), .int (-1), .ref (am 7), .int 0, .int 0, .ref (am 8), .int (-1), .ref (am 9), .ref (am 10), .int 0, .int 0, .ref (am 11), .int 0, .int 0, .int 0, .ref (am 12), .int 0, .ref (am 13), .int 0, .int 0, .int 0, .int 0, .int 0, .ref (am 14), .ref (am 15), .ref (am 16), .ref (am 17)]))]) (wr := []) (va_runV (As := [.int (xs 1), .int (xs 2)]) (rest := []) ⟨hx, hb, hml, hown, hts⟩ (hc9 _) (cwV 2 hts zgL_law_X12_person rfl rfl rfl (by decide +kernel) ⟨Nat.le_of_ble_eq_true rfl, Nat.le_of_ble_eq_true rfl⟩) (z_preV hP hD hK hS hA hE hO [0, 1] [67] rfl (by decide +kernel) rfl 1 11 rfl rfl rfl) rfl rfl hl.1 rfl (lv_room (Nat.le_of_ble_eq_true rfl)) dL_law_376 ⟨Nat.le_of_ble_eq_true rfl, Nat.le_of_ble_eq_true rfl⟩) hP hD hK hS hA [0, 1] [] rfl rfl (by decide +kernel) (by decide +kernel) (fun r9 u9 H locs hw hP hD hK hS => ?_)
  obtain ⟨er9, rfl⟩ := hw
  have hP : va_P D vwCl [(am 1, .inl (tm 1, 283, .inl (upd (fun _ => 0) 4 2))), (am 18, .inr (11, [.int 1, .ref (am 0), .int 0, .int 0, .int 0, .int 0, .ref (am 1), .ref (am 19), .ref (am 2), .ref (am 3), .ref (am 20), .int 0, .int 0, .int 0, .int 0, .int 0, .int 0, .long 0, .int 0, .int 0, .int 0, .ref (am 4), .ref (am 5), .int 0, .int 0, .int 0, .int 0, .ref (am 6), .int (-1), .ref (am 7), .int 0, .int 0, .ref (am 8), .int (-1), .ref (am 9), .ref (am 10), .int 0, .int 0, .ref (am 11), .int 0, .int 0, .int 0, .ref (am 12), .int 0, .ref (am 13), .int 0, .int 0, .int 0, .int 0, .int 0, .ref (am 14), .ref (am 15), .ref (am 16), .ref (am 17)]))] H := hP
  have hD : va_D A [(am 1, .inl (tm 1, 283, .inl (upd (fun _ => 0) 4 2))), (am 18, .inr (11, [.int 1, .ref (am 0), .int 0, .int 0, .int 0, .int 0, .ref (am 1), .ref (am 19), .ref (am 2), .ref (am 3), .ref (am 20), .int 0, .int 0, .int 0, .int 0, .int 0, .int 0, .long 0, .int 0, .int 0, .int 0, .ref (am 4), .ref (am 5), .int 0, .int 0, .int 0, .int 0, .ref (am 6), .int (-1), .ref (am 7), .int 0, .int 0, .ref (am 8), .int (-1), .ref (am 9), .ref (am 10), .int 0, .int 0, .ref (am 11), .int 0, .int 0, .int 0, .ref (am 12), .int 0, .ref (am 13), .int 0, .int 0, .int 0, .int 0, .int 0, .ref (am 14), .ref (am 15), .ref (am 16), .ref (am 17)]))] := hD
  have hK : va_K D vwCl [(t 6, .byte), (t 44, .long), (t 45, .long), (t 46, .long), (t 7, .int), (t 8, .int), (t 9, .int), (t 10, .int), (t 11, .int), (t 12, .int), (t 13, .int), (t 14, .int), (t 15, .int), (t 16, .int), (t 63, .long), (t 64, .long), (t 65, .long), (t 47, .int), (t 48, .int), (t 49, .int), (t 50, .int), (t 51, .int), (t 52, .int), (t 53, .int), (t 54, .int), (t 55, .int), (t 56, .int), (t 0, .object "FuneralUmbrellas$World"), (t 57, .long), (t 58, .long), (t 59, .long), (t 24, .int), (t 25, .int), (t 26, .int), (t 27, .int), (t 28, .int), (t 29, .int), (t 30, .int), (t 31, .int), (t 32, .int), (t 33, .int), (t 60, .long), (t 61, .long), (t 62, .long), (t 34, .int), (t 35, .int), (t 36, .int), (t 37, .int), (t 38, .int), (t 39, .int), (t 40, .int), (t 41, .int), (t 42, .int), (t 43, .int), (t 17, .int), (t 18, .int), (t 19, .int), (t 20, .int), (t 1, .object "FuneralUmbrellas$Scene"), (t 21, .int), (t 22, .int), (t 23, .byte), (t 2, .int), (t 3, .int), (t 4, .int), (t 5, .int), (tm 0, .byte), (tm 1, .int), (tm 18, .int), (tm 2, .int), (tm 3, .long), (tm 4, .int), (tm 5, .int), (tm 6, .int), (tm 7, .int), (tm 8, .int), (tm 9, .boolean), (tm 10, .boolean), (tm 11, .byte), (tm 12, .int), (tm 13, .int), (tm 14, .boolean), (tm 15, .int), (tm 16, .long), (tm 17, .boolean), (to, .long)] s := hK
  refine W.cs (cells' := 213) (slots' := 5686) rfl rfl ?_
  obtain rfl := er9
  refine W.eq (g2 := F0 m 379 ls (.int 0 :: [])) rfl ?_
  refine lv_istore (lv' := [(6, .int 0), (5, .int 1), (4, .int 0), (3, .ref qo), (2, .ref (am 18)), (1, .ref (a 0)), (0, .ref b)]) hx hb dL_law_379 hl (by decide) rfl (fun ls hl => ?_)
  refine lv_aload_n hx hb dL_law_381 rfl (lv_at hl 4 rfl) ?_
  have hc9 := (k_X12_thrown l D ad am 1 (am 0) 0 0 0 0 (am 1) (am 19) (am 2) (am 3) (am 20) 0 0 0 0 0 0 0 0 0 0 (am 4) (am 5) 0 0 0 0 (am 6) (-1) (am 7) 0 0 (am 8) (-1) (am 9) (am 10) 0 0 (am 11) 0 0 0 (am 12) 0 (am 13) 0 0 0 0 0 (am 14) (am 15) (am 16) (am 17) )
  refine z_calli (w0 := [(am 18, .inr (11, [.int 1, .ref (am 0), .int 0, .int 0, .int 0, .int 0, .ref (am 1), .ref (am 19), .ref (am 2), .ref (am 3), .ref (am 20), .int 0, .int 0, .int 0, .int 0, .int 0, .int 0, .long 0, .int 0, .int 0, .int 0, .ref (am 4), .ref (am 5), .int 0, .int 0, .int 0, .int 0, .ref (am 6), .int (-1), .ref (am 7), .int 0, .int 0, .ref (am 8), .int (-1), .ref (am 9), .ref (am 10), .int 0, .int 0, .ref (am 11), .int 0, .int 0, .int 0, .ref (am 12), .int 0, .ref (am 13), .int 0, .int 0, .int 0, .int 0, .int 0, .ref (am 14), .ref (am 15), .ref (am 16), .ref (am 17)]))]) (wr := [(am 1, .inl (tm 1, 283, .inl (upd (fun _ => 0) 4 2)))]) (va_runV (As := []) (rest := []) ⟨hx, hb, hml, hown, hts⟩ (hc9 _) (cwV 0 hts zgL_law_X12_thrown rfl rfl rfl (by decide +kernel) ⟨Nat.le_of_ble_eq_true rfl, Nat.le_of_ble_eq_true rfl⟩) (z_preV hP hD hK hS hA hE hO [1] [] rfl (by decide +kernel) rfl 1 11 rfl rfl rfl) rfl rfl hl.1 rfl (lv_room (Nat.le_of_ble_eq_true rfl)) dL_law_382 ⟨Nat.le_of_ble_eq_true rfl, Nat.le_of_ble_eq_true rfl⟩) hP hD hK hS hA [1] [0] rfl rfl (by decide +kernel) (by decide +kernel) (fun r9 u9 H locs hw hP hD hK hS => ?_)
  obtain ⟨er9, rfl⟩ := hw
  have hP : va_P D vwCl [(am 1, .inl (tm 1, 283, .inl (upd (fun _ => 0) 4 2))), (am 18, .inr (11, [.int 1, .ref (am 0), .int 0, .int 0, .int 0, .int 0, .ref (am 1), .ref (am 19), .ref (am 2), .ref (am 3), .ref (am 20), .int 0, .int 0, .int 0, .int 0, .int 0, .int 0, .long 0, .int 0, .int 0, .int 0, .ref (am 4), .ref (am 5), .int 0, .int 0, .int 0, .int 0, .ref (am 6), .int (-1), .ref (am 7), .int 0, .int 0, .ref (am 8), .int (-1), .ref (am 9), .ref (am 10), .int 0, .int 0, .ref (am 11), .int 0, .int 0, .int 0, .ref (am 12), .int 0, .ref (am 13), .int 0, .int 0, .int 0, .int 0, .int 0, .ref (am 14), .ref (am 15), .ref (am 16), .ref (am 17)]))] H := hP
  have hD : va_D A [(am 1, .inl (tm 1, 283, .inl (upd (fun _ => 0) 4 2))), (am 18, .inr (11, [.int 1, .ref (am 0), .int 0, .int 0, .int 0, .int 0, .ref (am 1), .ref (am 19), .ref (am 2), .ref (am 3), .ref (am 20), .int 0, .int 0, .int 0, .int 0, .int 0, .int 0, .long 0, .int 0, .int 0, .int 0, .ref (am 4), .ref (am 5), .int 0, .int 0, .int 0, .int 0, .ref (am 6), .int (-1), .ref (am 7), .int 0, .int 0, .ref (am 8), .int (-1), .ref (am 9), .ref (am 10), .int 0, .int 0, .ref (am 11), .int 0, .int 0, .int 0, .ref (am 12), .int 0, .ref (am 13), .int 0, .int 0, .int 0, .int 0, .int 0, .ref (am 14), .ref (am 15), .ref (am 16), .ref (am 17)]))] := hD
  have hK : va_K D vwCl [(t 6, .byte), (t 44, .long), (t 45, .long), (t 46, .long), (t 7, .int), (t 8, .int), (t 9, .int), (t 10, .int), (t 11, .int), (t 12, .int), (t 13, .int), (t 14, .int), (t 15, .int), (t 16, .int), (t 63, .long), (t 64, .long), (t 65, .long), (t 47, .int), (t 48, .int), (t 49, .int), (t 50, .int), (t 51, .int), (t 52, .int), (t 53, .int), (t 54, .int), (t 55, .int), (t 56, .int), (t 0, .object "FuneralUmbrellas$World"), (t 57, .long), (t 58, .long), (t 59, .long), (t 24, .int), (t 25, .int), (t 26, .int), (t 27, .int), (t 28, .int), (t 29, .int), (t 30, .int), (t 31, .int), (t 32, .int), (t 33, .int), (t 60, .long), (t 61, .long), (t 62, .long), (t 34, .int), (t 35, .int), (t 36, .int), (t 37, .int), (t 38, .int), (t 39, .int), (t 40, .int), (t 41, .int), (t 42, .int), (t 43, .int), (t 17, .int), (t 18, .int), (t 19, .int), (t 20, .int), (t 1, .object "FuneralUmbrellas$Scene"), (t 21, .int), (t 22, .int), (t 23, .byte), (t 2, .int), (t 3, .int), (t 4, .int), (t 5, .int), (tm 0, .byte), (tm 1, .int), (tm 18, .int), (tm 2, .int), (tm 3, .long), (tm 4, .int), (tm 5, .int), (tm 6, .int), (tm 7, .int), (tm 8, .int), (tm 9, .boolean), (tm 10, .boolean), (tm 11, .byte), (tm 12, .int), (tm 13, .int), (tm 14, .boolean), (tm 15, .int), (tm 16, .long), (tm 17, .boolean), (to, .long)] s := hK
  refine W.cs (cells' := 213) (slots' := 5686) rfl rfl ?_
  obtain rfl := er9
  refine W.eq (g2 := F0 m 385 ls (.int 1 :: [])) rfl ?_
  refine lv_iload hx hb dL_law_385 (lv_at hl 1 rfl) ?_
  refine lv_icmp_eq (tgt := 392) hx hb dL_law_387 (by decide) (fun _ => ?_) (fun h9 => absurd (by decide) h9)
  refine lv_iload hx hb dL_law_392 (lv_at hl 1 rfl) ?_
  refine lv_if_ne (tgt := 409) hx hb dL_law_394 (by decide) (fun _ => ?_) (fun h9 => absurd h9 (by decide))
  refine lv_goto (tgt := 1398) hx hb dL_law_409 (by decide) ?_
  exact law_end G0 hS (by decide) (by decide) (lv_sub hl [2, 6] rfl)

set_option maxHeartbeats 8000000 in
set_option maxRecDepth 100000 in
theorem lc_5 {p : Program} {l : Launch} {e : Env} {s : State} {m : MethodId} {below : List Frame} {meth : Method} {c : Code} {D : va_G} {ad : Nat → Nat} {A : Nat → Prop} {b : Nat} {xs : Nat → Int32} (hst : l.stackTraces = false) (hZ : z_Y A s) (hzt : ∀ w ∈ wzL_law, w.before #[Value.ref b] s = true) (G : z_G p s m meth c ad A b xs) {a am : Nat → Nat} {t tm : Nat → ClassId} {qo : Nat} {to : ClassId} {H : Heap} {locs : List Loc} {ls : Array Slot} (hP : va_P D vwCl ((gF ad a t ++ gM ad am tm) ++ [(qo, .inl (to, 1, .inr (.inl (fun _ => 0))))]) H) (hD : va_D A ((gF ad a t ++ gM ad am tm) ++ [(qo, .inl (to, 1, .inr (.inl (fun _ => 0))))])) (hK : va_K D vwCl ((gFt t ++ gMt tm) ++ [(to, .long)]) s) (hS : va_S A s.heap H locs) (hl : lv_has ls 7 [(4, .int 0), (3, .ref qo), (2, .ref (am 18)), (1, .ref (a 0)), (0, .ref b)]) : W p l e room_1 s m #[Value.ref b] below meth c H locs 212 5680 (lw_Z below #[Value.ref b] s) (F0 m 412 ls []) := by
  have G0 := G
  obtain ⟨hx, hb, hr, hml, hown, hts, hX, hbl, hbA, hA, hAl, hlocks, hE, hO⟩ := G
  obtain ⟨sa, hZ9⟩ := hZ.2.1
  have hts := hzt
  have hP := hP.sub (ws' := [(a 0, .inr (10, [.ref (a 4), .ref (a 5), .ref (a 6), .ref (a 7), .ref (a 8), .ref (a 9), .ref (a 10), .ref (a 11), .ref (a 12), .int 0, .ref (a 13), .ref (a 102), .ref (a 14), .ref (a 15), .int (-1), .int (-1)])), (a 7, .inr (8, [.ref (a 28), .ref (a 29), .ref (a 30), .int 0, .ref (a 31), .ref (a 32), .ref (a 33), .int 0, .ref (a 34), .ref (a 35), .ref (a 36), .int 2])), (a 30, .inr (2, [.ref (a 79), .int 0])), (am 1, .inl (tm 1, 283, .inl (upd (fun _ => 0) 4 2))), (am 18, .inr (11, [.int 0, .ref (am 0), .int 0, .int 0, .int 0, .int 0, .ref (am 1), .ref (am 19), .ref (am 2), .ref (am 3), .ref (am 20), .int 0, .int 0, .int 0, .int 0, .int 0, .int 0, .long 0, .int 0, .int 0, .int 0, .ref (am 4), .ref (am 5), .int 0, .int 0, .int 0, .int 0, .ref (am 6), .int (-1), .ref (am 7), .int 0, .int 0, .ref (am 8), .int (-1), .ref (am 9), .ref (am 10), .int 0, .int 0, .ref (am 11), .int 0, .int 0, .int 0, .ref (am 12), .int 0, .ref (am 13), .int 0, .int 0, .int 0, .int 0, .int 0, .ref (am 14), .ref (am 15), .ref (am 16), .ref (am 17)]))]) [0, 7, 30, 103, 120] rfl
  have hD := hD.sub (ws' := [(a 0, .inr (10, [.ref (a 4), .ref (a 5), .ref (a 6), .ref (a 7), .ref (a 8), .ref (a 9), .ref (a 10), .ref (a 11), .ref (a 12), .int 0, .ref (a 13), .ref (a 102), .ref (a 14), .ref (a 15), .int (-1), .int (-1)])), (a 7, .inr (8, [.ref (a 28), .ref (a 29), .ref (a 30), .int 0, .ref (a 31), .ref (a 32), .ref (a 33), .int 0, .ref (a 34), .ref (a 35), .ref (a 36), .int 2])), (a 30, .inr (2, [.ref (a 79), .int 0])), (am 1, .inl (tm 1, 283, .inl (upd (fun _ => 0) 4 2))), (am 18, .inr (11, [.int 0, .ref (am 0), .int 0, .int 0, .int 0, .int 0, .ref (am 1), .ref (am 19), .ref (am 2), .ref (am 3), .ref (am 20), .int 0, .int 0, .int 0, .int 0, .int 0, .int 0, .long 0, .int 0, .int 0, .int 0, .ref (am 4), .ref (am 5), .int 0, .int 0, .int 0, .int 0, .ref (am 6), .int (-1), .ref (am 7), .int 0, .int 0, .ref (am 8), .int (-1), .ref (am 9), .ref (am 10), .int 0, .int 0, .ref (am 11), .int 0, .int 0, .int 0, .ref (am 12), .int 0, .ref (am 13), .int 0, .int 0, .int 0, .int 0, .int 0, .ref (am 14), .ref (am 15), .ref (am 16), .ref (am 17)]))]) [0, 7, 30, 103, 120] (by decide) rfl
  refine lv_aload_n hx hb dL_law_412 rfl (lv_at hl 3 rfl) ?_
  refine lv_aload_n hx hb dL_law_413 rfl (lv_at hl 4 rfl) ?_
  refine lv_iload hx hb dL_law_414 (lv_at hl 0 rfl) ?_
  refine lv_iconst (v := 1) hx hb dL_law_416 (by decide) ?_
  refine lv_iadd hx hb dL_law_417 ?_
  refine lv_topi (fun y_1 ey_1 => ?_)
  obtain rfl : y_1 = 1 := ey_1.trans (by decide)
  refine va_sld hx hb hX hbl hbA hS (show ¬ (_ ∨ _) by decide) dL_law_418 ?_
  refine W.eq (g2 := F0 m 419 ls (.int (xs 1) :: [.ref (a 0)])) rfl ?_
  refine lv_aload_n hx hb dL_law_419 rfl (lv_at hl 4 rfl) ?_
  refine lv_iload hx hb dL_law_420 (lv_at hl 0 rfl) ?_
  refine lv_iconst (v := 2) hx hb dL_law_422 (by decide) ?_
  refine lv_iadd hx hb dL_law_423 ?_
  refine lv_topi (fun y_2 ey_2 => ?_)
  obtain rfl : y_2 = 2 := ey_2.trans (by decide)
  refine va_sld hx hb hX hbl hbA hS (show ¬ (_ ∨ _) by decide) dL_law_424 ?_
  refine W.eq (g2 := F0 m 425 ls (.int (xs 2) :: [.int (xs 1), .ref (a 0)])) rfl ?_
  refine lv_aload_n hx hb dL_law_425 rfl (lv_at hl 1 rfl) ?_
  have hc9 := kl_umbrella l hst D ad a (xs 1) (xs 2) qo sa
  refine z_calli (w0 := [(a 0, .inr (10, [.ref (a 4), .ref (a 5), .ref (a 6), .ref (a 7), .ref (a 8), .ref (a 9), .ref (a 10), .ref (a 11), .ref (a 12), .int 0, .ref (a 13), .ref (a 102), .ref (a 14), .ref (a 15), .int (-1), .int (-1)])), (a 7, .inr (8, [.ref (a 28), .ref (a 29), .ref (a 30), .int 0, .ref (a 31), .ref (a 32), .ref (a 33), .int 0, .ref (a 34), .ref (a 35), .ref (a 36), .int 2])), (a 30, .inr (2, [.ref (a 79), .int 0]))]) (wr := [(am 1, .inl (tm 1, 283, .inl (upd (fun _ => 0) 4 2))), (am 18, .inr (11, [.int 0, .ref (am 0), .int 0, .int 0, .int 0, .int 0, .ref (am 1), .ref (am 19), .ref (am 2), .ref (am 3), .ref (am 20), .int 0, .int 0, .int 0, .int 0, .int 0, .int 0, .long 0, .int 0, .int 0, .int 0, .ref (am 4), .ref (am 5), .int 0, .int 0, .int 0, .int 0, .ref (am 6), .int (-1), .ref (am 7), .int 0, .int 0, .ref (am 8), .int (-1), .ref (am 9), .ref (am 10), .int 0, .int 0, .ref (am 11), .int 0, .int 0, .int 0, .ref (am 12), .int 0, .ref (am 13), .int 0, .int 0, .int 0, .int 0, .int 0, .ref (am 14), .ref (am 15), .ref (am 16), .ref (am 17)]))]) (vx_runSW (hh := [(0, 10, 13, 13)]) (As := [.ref (a 0), .int (xs 1), .int (xs 2), .ref qo]) (rest := []) ⟨hx, hb, hml, hown, hts⟩ (hc9 _) (vx_cwSW 4 hts zgL_law_L_umbrella rfl rfl rfl (by decide +kernel) ⟨Nat.le_of_ble_eq_true rfl, Nat.le_of_ble_eq_true rfl⟩) ⟨z_blindX, z_preX hP hD hK hS hA hE hO hZ9 [0, 1, 2] [] rfl (by decide) rfl⟩ rfl rfl hl.1 rfl (lv_room (Nat.le_of_ble_eq_true rfl)) dL_law_426 ⟨Nat.le_of_ble_eq_true rfl, Nat.le_of_ble_eq_true rfl⟩) hP hD hK hS hA [0, 1, 2] [3, 4] rfl rfl (by decide +kernel) (by decide +kernel) (fun r9 u9 H locs hw hP hD hK hS => ?_)
  obtain ⟨rfl, rfl⟩ := hw
  have hP : va_P D vwCl [(am 1, .inl (tm 1, 283, .inl (upd (fun _ => 0) 4 2))), (am 18, .inr (11, [.int 0, .ref (am 0), .int 0, .int 0, .int 0, .int 0, .ref (am 1), .ref (am 19), .ref (am 2), .ref (am 3), .ref (am 20), .int 0, .int 0, .int 0, .int 0, .int 0, .int 0, .long 0, .int 0, .int 0, .int 0, .ref (am 4), .ref (am 5), .int 0, .int 0, .int 0, .int 0, .ref (am 6), .int (-1), .ref (am 7), .int 0, .int 0, .ref (am 8), .int (-1), .ref (am 9), .ref (am 10), .int 0, .int 0, .ref (am 11), .int 0, .int 0, .int 0, .ref (am 12), .int 0, .ref (am 13), .int 0, .int 0, .int 0, .int 0, .int 0, .ref (am 14), .ref (am 15), .ref (am 16), .ref (am 17)]))] H := hP
  have hD : va_D A [(am 1, .inl (tm 1, 283, .inl (upd (fun _ => 0) 4 2))), (am 18, .inr (11, [.int 0, .ref (am 0), .int 0, .int 0, .int 0, .int 0, .ref (am 1), .ref (am 19), .ref (am 2), .ref (am 3), .ref (am 20), .int 0, .int 0, .int 0, .int 0, .int 0, .int 0, .long 0, .int 0, .int 0, .int 0, .ref (am 4), .ref (am 5), .int 0, .int 0, .int 0, .int 0, .ref (am 6), .int (-1), .ref (am 7), .int 0, .int 0, .ref (am 8), .int (-1), .ref (am 9), .ref (am 10), .int 0, .int 0, .ref (am 11), .int 0, .int 0, .int 0, .ref (am 12), .int 0, .ref (am 13), .int 0, .int 0, .int 0, .int 0, .int 0, .ref (am 14), .ref (am 15), .ref (am 16), .ref (am 17)]))] := hD
  have hK : va_K D vwCl (((gFt t ++ gMt tm) ++ [(to, .long)]) ++ []) s := hK
  have hK := hK.sub (tys' := [(t 6, .byte), (t 44, .long), (t 45, .long), (t 46, .long), (t 7, .int), (t 8, .int), (t 9, .int), (t 10, .int), (t 11, .int), (t 12, .int), (t 13, .int), (t 14, .int), (t 15, .int), (t 16, .int), (t 63, .long), (t 64, .long), (t 65, .long), (t 47, .int), (t 48, .int), (t 49, .int), (t 50, .int), (t 51, .int), (t 52, .int), (t 53, .int), (t 54, .int), (t 55, .int), (t 56, .int), (t 0, .object "FuneralUmbrellas$World"), (t 57, .long), (t 58, .long), (t 59, .long), (t 24, .int), (t 25, .int), (t 26, .int), (t 27, .int), (t 28, .int), (t 29, .int), (t 30, .int), (t 31, .int), (t 32, .int), (t 33, .int), (t 60, .long), (t 61, .long), (t 62, .long), (t 34, .int), (t 35, .int), (t 36, .int), (t 37, .int), (t 38, .int), (t 39, .int), (t 40, .int), (t 41, .int), (t 42, .int), (t 43, .int), (t 17, .int), (t 18, .int), (t 19, .int), (t 20, .int), (t 1, .object "FuneralUmbrellas$Scene"), (t 21, .int), (t 22, .int), (t 23, .byte), (t 2, .int), (t 3, .int), (t 4, .int), (t 5, .int), (tm 0, .byte), (tm 1, .int), (tm 18, .int), (tm 2, .int), (tm 3, .long), (tm 4, .int), (tm 5, .int), (tm 6, .int), (tm 7, .int), (tm 8, .int), (tm 9, .boolean), (tm 10, .boolean), (tm 11, .byte), (tm 12, .int), (tm 13, .int), (tm 14, .boolean), (tm 15, .int), (tm 16, .long), (tm 17, .boolean), (to, .long)]) (List.range 86) rfl
  refine W.cs (cells' := 213) (slots' := 5686) rfl rfl ?_
  refine lv_istore (lv' := [(5, .int 1), (4, .int 0), (3, .ref qo), (2, .ref (am 18)), (1, .ref (a 0)), (0, .ref b)]) hx hb dL_law_429 hl (by decide) rfl (fun ls hl => ?_)
  refine lv_aload_n hx hb dL_law_431 rfl (lv_at hl 3 rfl) ?_
  refine lv_aload_n hx hb dL_law_432 rfl (lv_at hl 5 rfl) ?_
  refine lv_iload hx hb dL_law_433 (lv_at hl 1 rfl) ?_
  refine lv_iconst (v := 1) hx hb dL_law_435 (by decide) ?_
  refine lv_iadd hx hb dL_law_436 ?_
  refine lv_topi (fun y_3 ey_3 => ?_)
  obtain rfl : y_3 = 1 := ey_3.trans (by decide)
  refine va_sld hx hb hX hbl hbA hS (show ¬ (_ ∨ _) by decide) dL_law_437 ?_
  refine W.eq (g2 := F0 m 438 ls (.int (xs 1) :: [.ref (am 18)])) rfl ?_
  refine lv_aload_n hx hb dL_law_438 rfl (lv_at hl 5 rfl) ?_
  refine lv_iload hx hb dL_law_439 (lv_at hl 1 rfl) ?_
  refine lv_iconst (v := 2) hx hb dL_law_441 (by decide) ?_
  refine lv_iadd hx hb dL_law_442 ?_
  refine lv_topi (fun y_4 ey_4 => ?_)
  obtain rfl : y_4 = 2 := ey_4.trans (by decide)
  refine va_sld hx hb hX hbl hbA hS (show ¬ (_ ∨ _) by decide) dL_law_443 ?_
  refine W.eq (g2 := F0 m 444 ls (.int (xs 2) :: [.int (xs 1), .ref (am 18)])) rfl ?_
  have hc9 := (k_X12_umbrella l D ad am tm (xs 1) (xs 2) (am 0) 0 0 0 0 (am 19) (am 2) (am 3) (am 20) 0 0 0 0 0 0 0 0 0 0 (am 4) (am 5) 0 0 0 0 (am 6) (-1) (am 7) 0 0 (am 8) (-1) (am 9) (am 10) 0 0 (am 11) 0 0 0 (am 12) 0 (am 13) 0 0 0 0 0 (am 14) (am 15) (am 16) (am 17) )
  refine z_calli (w0 := [(am 1, .inl (tm 1, 283, .inl (upd (fun _ => 0) 4 2))), (am 18, .inr (11, [.int 0, .ref (am 0), .int 0, .int 0, .int 0, .int 0, .ref (am 1), .ref (am 19), .ref (am 2), .ref (am 3), .ref (am 20), .int 0, .int 0, .int 0, .int 0, .int 0, .int 0, .long 0, .int 0, .int 0, .int 0, .ref (am 4), .ref (am 5), .int 0, .int 0, .int 0, .int 0, .ref (am 6), .int (-1), .ref (am 7), .int 0, .int 0, .ref (am 8), .int (-1), .ref (am 9), .ref (am 10), .int 0, .int 0, .ref (am 11), .int 0, .int 0, .int 0, .ref (am 12), .int 0, .ref (am 13), .int 0, .int 0, .int 0, .int 0, .int 0, .ref (am 14), .ref (am 15), .ref (am 16), .ref (am 17)]))]) (wr := []) (va_runV (As := [.int (xs 1), .int (xs 2)]) (rest := []) ⟨hx, hb, hml, hown, hts⟩ (hc9 _) (cwV 2 hts zgL_law_X12_umbrella rfl rfl rfl (by decide +kernel) ⟨Nat.le_of_ble_eq_true rfl, Nat.le_of_ble_eq_true rfl⟩) (z_preV hP hD hK hS hA hE hO [0, 1] [67] rfl (by decide +kernel) rfl 1 11 rfl rfl rfl) rfl rfl hl.1 rfl (lv_room (Nat.le_of_ble_eq_true rfl)) dL_law_444 ⟨Nat.le_of_ble_eq_true rfl, Nat.le_of_ble_eq_true rfl⟩) hP hD hK hS hA [0, 1] [] rfl rfl (by decide +kernel) (by decide +kernel) (fun r9 u9 H locs hw hP hD hK hS => ?_)
  obtain ⟨er9, rfl⟩ := hw
  have hP : va_P D vwCl [(am 1, .inl (tm 1, 283, .inl (upd (fun _ => 0) 4 2))), (am 18, .inr (11, [.int 1, .ref (am 0), .int 0, .int 0, .int 0, .int 0, .ref (am 1), .ref (am 19), .ref (am 2), .ref (am 3), .ref (am 20), .int 0, .int 0, .int 0, .int 0, .int 0, .int 0, .long 0, .int 0, .int 0, .int 0, .ref (am 4), .ref (am 5), .int 0, .int 0, .int 0, .int 0, .ref (am 6), .int (-1), .ref (am 7), .int 0, .int 0, .ref (am 8), .int (-1), .ref (am 9), .ref (am 10), .int 0, .int 0, .ref (am 11), .int 0, .int 0, .int 0, .ref (am 12), .int 0, .ref (am 13), .int 0, .int 0, .int 0, .int 0, .int 0, .ref (am 14), .ref (am 15), .ref (am 16), .ref (am 17)]))] H := hP
  have hD : va_D A [(am 1, .inl (tm 1, 283, .inl (upd (fun _ => 0) 4 2))), (am 18, .inr (11, [.int 1, .ref (am 0), .int 0, .int 0, .int 0, .int 0, .ref (am 1), .ref (am 19), .ref (am 2), .ref (am 3), .ref (am 20), .int 0, .int 0, .int 0, .int 0, .int 0, .int 0, .long 0, .int 0, .int 0, .int 0, .ref (am 4), .ref (am 5), .int 0, .int 0, .int 0, .int 0, .ref (am 6), .int (-1), .ref (am 7), .int 0, .int 0, .ref (am 8), .int (-1), .ref (am 9), .ref (am 10), .int 0, .int 0, .ref (am 11), .int 0, .int 0, .int 0, .ref (am 12), .int 0, .ref (am 13), .int 0, .int 0, .int 0, .int 0, .int 0, .ref (am 14), .ref (am 15), .ref (am 16), .ref (am 17)]))] := hD
  have hK : va_K D vwCl [(t 6, .byte), (t 44, .long), (t 45, .long), (t 46, .long), (t 7, .int), (t 8, .int), (t 9, .int), (t 10, .int), (t 11, .int), (t 12, .int), (t 13, .int), (t 14, .int), (t 15, .int), (t 16, .int), (t 63, .long), (t 64, .long), (t 65, .long), (t 47, .int), (t 48, .int), (t 49, .int), (t 50, .int), (t 51, .int), (t 52, .int), (t 53, .int), (t 54, .int), (t 55, .int), (t 56, .int), (t 0, .object "FuneralUmbrellas$World"), (t 57, .long), (t 58, .long), (t 59, .long), (t 24, .int), (t 25, .int), (t 26, .int), (t 27, .int), (t 28, .int), (t 29, .int), (t 30, .int), (t 31, .int), (t 32, .int), (t 33, .int), (t 60, .long), (t 61, .long), (t 62, .long), (t 34, .int), (t 35, .int), (t 36, .int), (t 37, .int), (t 38, .int), (t 39, .int), (t 40, .int), (t 41, .int), (t 42, .int), (t 43, .int), (t 17, .int), (t 18, .int), (t 19, .int), (t 20, .int), (t 1, .object "FuneralUmbrellas$Scene"), (t 21, .int), (t 22, .int), (t 23, .byte), (t 2, .int), (t 3, .int), (t 4, .int), (t 5, .int), (tm 0, .byte), (tm 1, .int), (tm 18, .int), (tm 2, .int), (tm 3, .long), (tm 4, .int), (tm 5, .int), (tm 6, .int), (tm 7, .int), (tm 8, .int), (tm 9, .boolean), (tm 10, .boolean), (tm 11, .byte), (tm 12, .int), (tm 13, .int), (tm 14, .boolean), (tm 15, .int), (tm 16, .long), (tm 17, .boolean), (to, .long)] s := hK
  refine W.cs (cells' := 213) (slots' := 5686) rfl rfl ?_
  obtain rfl := er9
  refine W.eq (g2 := F0 m 447 ls (.int 0 :: [])) rfl ?_
  refine lv_istore (lv' := [(6, .int 0), (5, .int 1), (4, .int 0), (3, .ref qo), (2, .ref (am 18)), (1, .ref (a 0)), (0, .ref b)]) hx hb dL_law_447 hl (by decide) rfl (fun ls hl => ?_)
  refine lv_aload_n hx hb dL_law_449 rfl (lv_at hl 4 rfl) ?_
  have hc9 := (k_X12_thrown l D ad am 1 (am 0) 0 0 0 0 (am 1) (am 19) (am 2) (am 3) (am 20) 0 0 0 0 0 0 0 0 0 0 (am 4) (am 5) 0 0 0 0 (am 6) (-1) (am 7) 0 0 (am 8) (-1) (am 9) (am 10) 0 0 (am 11) 0 0 0 (am 12) 0 (am 13) 0 0 0 0 0 (am 14) (am 15) (am 16) (am 17) )
  refine z_calli (w0 := [(am 18, .inr (11, [.int 1, .ref (am 0), .int 0, .int 0, .int 0, .int 0, .ref (am 1), .ref (am 19), .ref (am 2), .ref (am 3), .ref (am 20), .int 0, .int 0, .int 0, .int 0, .int 0, .int 0, .long 0, .int 0, .int 0, .int 0, .ref (am 4), .ref (am 5), .int 0, .int 0, .int 0, .int 0, .ref (am 6), .int (-1), .ref (am 7), .int 0, .int 0, .ref (am 8), .int (-1), .ref (am 9), .ref (am 10), .int 0, .int 0, .ref (am 11), .int 0, .int 0, .int 0, .ref (am 12), .int 0, .ref (am 13), .int 0, .int 0, .int 0, .int 0, .int 0, .ref (am 14), .ref (am 15), .ref (am 16), .ref (am 17)]))]) (wr := [(am 1, .inl (tm 1, 283, .inl (upd (fun _ => 0) 4 2)))]) (va_runV (As := []) (rest := []) ⟨hx, hb, hml, hown, hts⟩ (hc9 _) (cwV 0 hts zgL_law_X12_thrown rfl rfl rfl (by decide +kernel) ⟨Nat.le_of_ble_eq_true rfl, Nat.le_of_ble_eq_true rfl⟩) (z_preV hP hD hK hS hA hE hO [1] [] rfl (by decide +kernel) rfl 1 11 rfl rfl rfl) rfl rfl hl.1 rfl (lv_room (Nat.le_of_ble_eq_true rfl)) dL_law_450 ⟨Nat.le_of_ble_eq_true rfl, Nat.le_of_ble_eq_true rfl⟩) hP hD hK hS hA [1] [0] rfl rfl (by decide +kernel) (by decide +kernel) (fun r9 u9 H locs hw hP hD hK hS => ?_)
  obtain ⟨er9, rfl⟩ := hw
  have hP : va_P D vwCl [(am 1, .inl (tm 1, 283, .inl (upd (fun _ => 0) 4 2))), (am 18, .inr (11, [.int 1, .ref (am 0), .int 0, .int 0, .int 0, .int 0, .ref (am 1), .ref (am 19), .ref (am 2), .ref (am 3), .ref (am 20), .int 0, .int 0, .int 0, .int 0, .int 0, .int 0, .long 0, .int 0, .int 0, .int 0, .ref (am 4), .ref (am 5), .int 0, .int 0, .int 0, .int 0, .ref (am 6), .int (-1), .ref (am 7), .int 0, .int 0, .ref (am 8), .int (-1), .ref (am 9), .ref (am 10), .int 0, .int 0, .ref (am 11), .int 0, .int 0, .int 0, .ref (am 12), .int 0, .ref (am 13), .int 0, .int 0, .int 0, .int 0, .int 0, .ref (am 14), .ref (am 15), .ref (am 16), .ref (am 17)]))] H := hP
  have hD : va_D A [(am 1, .inl (tm 1, 283, .inl (upd (fun _ => 0) 4 2))), (am 18, .inr (11, [.int 1, .ref (am 0), .int 0, .int 0, .int 0, .int 0, .ref (am 1), .ref (am 19), .ref (am 2), .ref (am 3), .ref (am 20), .int 0, .int 0, .int 0, .int 0, .int 0, .int 0, .long 0, .int 0, .int 0, .int 0, .ref (am 4), .ref (am 5), .int 0, .int 0, .int 0, .int 0, .ref (am 6), .int (-1), .ref (am 7), .int 0, .int 0, .ref (am 8), .int (-1), .ref (am 9), .ref (am 10), .int 0, .int 0, .ref (am 11), .int 0, .int 0, .int 0, .ref (am 12), .int 0, .ref (am 13), .int 0, .int 0, .int 0, .int 0, .int 0, .ref (am 14), .ref (am 15), .ref (am 16), .ref (am 17)]))] := hD
  have hK : va_K D vwCl [(t 6, .byte), (t 44, .long), (t 45, .long), (t 46, .long), (t 7, .int), (t 8, .int), (t 9, .int), (t 10, .int), (t 11, .int), (t 12, .int), (t 13, .int), (t 14, .int), (t 15, .int), (t 16, .int), (t 63, .long), (t 64, .long), (t 65, .long), (t 47, .int), (t 48, .int), (t 49, .int), (t 50, .int), (t 51, .int), (t 52, .int), (t 53, .int), (t 54, .int), (t 55, .int), (t 56, .int), (t 0, .object "FuneralUmbrellas$World"), (t 57, .long), (t 58, .long), (t 59, .long), (t 24, .int), (t 25, .int), (t 26, .int), (t 27, .int), (t 28, .int), (t 29, .int), (t 30, .int), (t 31, .int), (t 32, .int), (t 33, .int), (t 60, .long), (t 61, .long), (t 62, .long), (t 34, .int), (t 35, .int), (t 36, .int), (t 37, .int), (t 38, .int), (t 39, .int), (t 40, .int), (t 41, .int), (t 42, .int), (t 43, .int), (t 17, .int), (t 18, .int), (t 19, .int), (t 20, .int), (t 1, .object "FuneralUmbrellas$Scene"), (t 21, .int), (t 22, .int), (t 23, .byte), (t 2, .int), (t 3, .int), (t 4, .int), (t 5, .int), (tm 0, .byte), (tm 1, .int), (tm 18, .int), (tm 2, .int), (tm 3, .long), (tm 4, .int), (tm 5, .int), (tm 6, .int), (tm 7, .int), (tm 8, .int), (tm 9, .boolean), (tm 10, .boolean), (tm 11, .byte), (tm 12, .int), (tm 13, .int), (tm 14, .boolean), (tm 15, .int), (tm 16, .long), (tm 17, .boolean), (to, .long)] s := hK
  refine W.cs (cells' := 213) (slots' := 5686) rfl rfl ?_
  obtain rfl := er9
  refine W.eq (g2 := F0 m 453 ls (.int 1 :: [])) rfl ?_
  refine lv_iload hx hb dL_law_453 (lv_at hl 1 rfl) ?_
  refine lv_icmp_eq (tgt := 460) hx hb dL_law_455 (by decide) (fun _ => ?_) (fun h9 => absurd (by decide) h9)
  refine lv_iload hx hb dL_law_460 (lv_at hl 1 rfl) ?_
  refine lv_if_ne (tgt := 477) hx hb dL_law_462 (by decide) (fun _ => ?_) (fun h9 => absurd h9 (by decide))
  refine lv_goto (tgt := 1398) hx hb dL_law_477 (by decide) ?_
  exact law_end G0 hS (by decide) (by decide) (lv_sub hl [2, 6] rfl)

set_option maxHeartbeats 8000000 in
set_option maxRecDepth 100000 in
theorem lc_6 {p : Program} {l : Launch} {e : Env} {s : State} {m : MethodId} {below : List Frame} {meth : Method} {c : Code} {D : va_G} {ad : Nat → Nat} {A : Nat → Prop} {b : Nat} {xs : Nat → Int32} (hst : l.stackTraces = false) (hZ : z_Y A s) (hzt : ∀ w ∈ wzL_law, w.before #[Value.ref b] s = true) (G : z_G p s m meth c ad A b xs) {a am : Nat → Nat} {t tm : Nat → ClassId} {qo : Nat} {to : ClassId} {H : Heap} {locs : List Loc} {ls : Array Slot} (hP : va_P D vwCl ((gF ad a t ++ gM ad am tm) ++ [(qo, .inl (to, 1, .inr (.inl (fun _ => 0))))]) H) (hD : va_D A ((gF ad a t ++ gM ad am tm) ++ [(qo, .inl (to, 1, .inr (.inl (fun _ => 0))))])) (hK : va_K D vwCl ((gFt t ++ gMt tm) ++ [(to, .long)]) s) (hS : va_S A s.heap H locs) (hl : lv_has ls 7 [(4, .int 0), (3, .ref qo), (2, .ref (am 18)), (1, .ref (a 0)), (0, .ref b)]) : W p l e room_1 s m #[Value.ref b] below meth c H locs 212 5680 (lw_Z below #[Value.ref b] s) (F0 m 480 ls []) := by
  have G0 := G
  obtain ⟨hx, hb, hr, hml, hown, hts, hX, hbl, hbA, hA, hAl, hlocks, hE, hO⟩ := G
  obtain ⟨sa, hZ9⟩ := hZ.2.2
  have hts := hzt
  have hP := hP.sub (ws' := [(a 0, .inr (10, [.ref (a 4), .ref (a 5), .ref (a 6), .ref (a 7), .ref (a 8), .ref (a 9), .ref (a 10), .ref (a 11), .ref (a 12), .int 0, .ref (a 13), .ref (a 102), .ref (a 14), .ref (a 15), .int (-1), .int (-1)])), (a 7, .inr (8, [.ref (a 28), .ref (a 29), .ref (a 30), .int 0, .ref (a 31), .ref (a 32), .ref (a 33), .int 0, .ref (a 34), .ref (a 35), .ref (a 36), .int 2])), (am 1, .inl (tm 1, 283, .inl (upd (fun _ => 0) 4 2))), (am 18, .inr (11, [.int 0, .ref (am 0), .int 0, .int 0, .int 0, .int 0, .ref (am 1), .ref (am 19), .ref (am 2), .ref (am 3), .ref (am 20), .int 0, .int 0, .int 0, .int 0, .int 0, .int 0, .long 0, .int 0, .int 0, .int 0, .ref (am 4), .ref (am 5), .int 0, .int 0, .int 0, .int 0, .ref (am 6), .int (-1), .ref (am 7), .int 0, .int 0, .ref (am 8), .int (-1), .ref (am 9), .ref (am 10), .int 0, .int 0, .ref (am 11), .int 0, .int 0, .int 0, .ref (am 12), .int 0, .ref (am 13), .int 0, .int 0, .int 0, .int 0, .int 0, .ref (am 14), .ref (am 15), .ref (am 16), .ref (am 17)]))]) [0, 7, 103, 120] rfl
  have hD := hD.sub (ws' := [(a 0, .inr (10, [.ref (a 4), .ref (a 5), .ref (a 6), .ref (a 7), .ref (a 8), .ref (a 9), .ref (a 10), .ref (a 11), .ref (a 12), .int 0, .ref (a 13), .ref (a 102), .ref (a 14), .ref (a 15), .int (-1), .int (-1)])), (a 7, .inr (8, [.ref (a 28), .ref (a 29), .ref (a 30), .int 0, .ref (a 31), .ref (a 32), .ref (a 33), .int 0, .ref (a 34), .ref (a 35), .ref (a 36), .int 2])), (am 1, .inl (tm 1, 283, .inl (upd (fun _ => 0) 4 2))), (am 18, .inr (11, [.int 0, .ref (am 0), .int 0, .int 0, .int 0, .int 0, .ref (am 1), .ref (am 19), .ref (am 2), .ref (am 3), .ref (am 20), .int 0, .int 0, .int 0, .int 0, .int 0, .int 0, .long 0, .int 0, .int 0, .int 0, .ref (am 4), .ref (am 5), .int 0, .int 0, .int 0, .int 0, .ref (am 6), .int (-1), .ref (am 7), .int 0, .int 0, .ref (am 8), .int (-1), .ref (am 9), .ref (am 10), .int 0, .int 0, .ref (am 11), .int 0, .int 0, .int 0, .ref (am 12), .int 0, .ref (am 13), .int 0, .int 0, .int 0, .int 0, .int 0, .ref (am 14), .ref (am 15), .ref (am 16), .ref (am 17)]))]) [0, 7, 103, 120] (by decide) rfl
  refine lv_aload_n hx hb dL_law_480 rfl (lv_at hl 3 rfl) ?_
  refine lv_aload_n hx hb dL_law_481 rfl (lv_at hl 4 rfl) ?_
  refine lv_iload hx hb dL_law_482 (lv_at hl 0 rfl) ?_
  refine lv_iconst (v := 1) hx hb dL_law_484 (by decide) ?_
  refine lv_iadd hx hb dL_law_485 ?_
  refine lv_topi (fun y_1 ey_1 => ?_)
  obtain rfl : y_1 = 1 := ey_1.trans (by decide)
  refine va_sld hx hb hX hbl hbA hS (show ¬ (_ ∨ _) by decide) dL_law_486 ?_
  refine W.eq (g2 := F0 m 487 ls (.int (xs 1) :: [.ref (a 0)])) rfl ?_
  refine lv_aload_n hx hb dL_law_487 rfl (lv_at hl 4 rfl) ?_
  refine lv_iload hx hb dL_law_488 (lv_at hl 0 rfl) ?_
  refine lv_iconst (v := 2) hx hb dL_law_490 (by decide) ?_
  refine lv_iadd hx hb dL_law_491 ?_
  refine lv_topi (fun y_2 ey_2 => ?_)
  obtain rfl : y_2 = 2 := ey_2.trans (by decide)
  refine va_sld hx hb hX hbl hbA hS (show ¬ (_ ∨ _) by decide) dL_law_492 ?_
  refine W.eq (g2 := F0 m 493 ls (.int (xs 2) :: [.int (xs 1), .ref (a 0)])) rfl ?_
  refine lv_aload_n hx hb dL_law_493 rfl (lv_at hl 1 rfl) ?_
  have hc9 := kl_sorrow l hst D ad a (xs 1) (xs 2) qo sa
  refine z_calli (w0 := [(a 0, .inr (10, [.ref (a 4), .ref (a 5), .ref (a 6), .ref (a 7), .ref (a 8), .ref (a 9), .ref (a 10), .ref (a 11), .ref (a 12), .int 0, .ref (a 13), .ref (a 102), .ref (a 14), .ref (a 15), .int (-1), .int (-1)])), (a 7, .inr (8, [.ref (a 28), .ref (a 29), .ref (a 30), .int 0, .ref (a 31), .ref (a 32), .ref (a 33), .int 0, .ref (a 34), .ref (a 35), .ref (a 36), .int 2]))]) (wr := [(am 1, .inl (tm 1, 283, .inl (upd (fun _ => 0) 4 2))), (am 18, .inr (11, [.int 0, .ref (am 0), .int 0, .int 0, .int 0, .int 0, .ref (am 1), .ref (am 19), .ref (am 2), .ref (am 3), .ref (am 20), .int 0, .int 0, .int 0, .int 0, .int 0, .int 0, .long 0, .int 0, .int 0, .int 0, .ref (am 4), .ref (am 5), .int 0, .int 0, .int 0, .int 0, .ref (am 6), .int (-1), .ref (am 7), .int 0, .int 0, .ref (am 8), .int (-1), .ref (am 9), .ref (am 10), .int 0, .int 0, .ref (am 11), .int 0, .int 0, .int 0, .ref (am 12), .int 0, .ref (am 13), .int 0, .int 0, .int 0, .int 0, .int 0, .ref (am 14), .ref (am 15), .ref (am 16), .ref (am 17)]))]) (vx_runSW (hh := [(0, 10, 13, 13)]) (As := [.ref (a 0), .int (xs 1), .int (xs 2), .ref qo]) (rest := []) ⟨hx, hb, hml, hown, hts⟩ (hc9 _) (vx_cwSW 4 hts zgL_law_L_sorrow rfl rfl rfl (by decide +kernel) ⟨Nat.le_of_ble_eq_true rfl, Nat.le_of_ble_eq_true rfl⟩) ⟨z_blindX, z_preX hP hD hK hS hA hE hO hZ9 [0, 1] [] rfl (by decide) rfl⟩ rfl rfl hl.1 rfl (lv_room (Nat.le_of_ble_eq_true rfl)) dL_law_494 ⟨Nat.le_of_ble_eq_true rfl, Nat.le_of_ble_eq_true rfl⟩) hP hD hK hS hA [0, 1] [2, 3] rfl rfl (by decide +kernel) (by decide +kernel) (fun r9 u9 H locs hw hP hD hK hS => ?_)
  obtain ⟨rfl, rfl⟩ := hw
  have hP : va_P D vwCl [(am 1, .inl (tm 1, 283, .inl (upd (fun _ => 0) 4 2))), (am 18, .inr (11, [.int 0, .ref (am 0), .int 0, .int 0, .int 0, .int 0, .ref (am 1), .ref (am 19), .ref (am 2), .ref (am 3), .ref (am 20), .int 0, .int 0, .int 0, .int 0, .int 0, .int 0, .long 0, .int 0, .int 0, .int 0, .ref (am 4), .ref (am 5), .int 0, .int 0, .int 0, .int 0, .ref (am 6), .int (-1), .ref (am 7), .int 0, .int 0, .ref (am 8), .int (-1), .ref (am 9), .ref (am 10), .int 0, .int 0, .ref (am 11), .int 0, .int 0, .int 0, .ref (am 12), .int 0, .ref (am 13), .int 0, .int 0, .int 0, .int 0, .int 0, .ref (am 14), .ref (am 15), .ref (am 16), .ref (am 17)]))] H := hP
  have hD : va_D A [(am 1, .inl (tm 1, 283, .inl (upd (fun _ => 0) 4 2))), (am 18, .inr (11, [.int 0, .ref (am 0), .int 0, .int 0, .int 0, .int 0, .ref (am 1), .ref (am 19), .ref (am 2), .ref (am 3), .ref (am 20), .int 0, .int 0, .int 0, .int 0, .int 0, .int 0, .long 0, .int 0, .int 0, .int 0, .ref (am 4), .ref (am 5), .int 0, .int 0, .int 0, .int 0, .ref (am 6), .int (-1), .ref (am 7), .int 0, .int 0, .ref (am 8), .int (-1), .ref (am 9), .ref (am 10), .int 0, .int 0, .ref (am 11), .int 0, .int 0, .int 0, .ref (am 12), .int 0, .ref (am 13), .int 0, .int 0, .int 0, .int 0, .int 0, .ref (am 14), .ref (am 15), .ref (am 16), .ref (am 17)]))] := hD
  have hK : va_K D vwCl (((gFt t ++ gMt tm) ++ [(to, .long)]) ++ []) s := hK
  have hK := hK.sub (tys' := [(t 6, .byte), (t 44, .long), (t 45, .long), (t 46, .long), (t 7, .int), (t 8, .int), (t 9, .int), (t 10, .int), (t 11, .int), (t 12, .int), (t 13, .int), (t 14, .int), (t 15, .int), (t 16, .int), (t 63, .long), (t 64, .long), (t 65, .long), (t 47, .int), (t 48, .int), (t 49, .int), (t 50, .int), (t 51, .int), (t 52, .int), (t 53, .int), (t 54, .int), (t 55, .int), (t 56, .int), (t 0, .object "FuneralUmbrellas$World"), (t 57, .long), (t 58, .long), (t 59, .long), (t 24, .int), (t 25, .int), (t 26, .int), (t 27, .int), (t 28, .int), (t 29, .int), (t 30, .int), (t 31, .int), (t 32, .int), (t 33, .int), (t 60, .long), (t 61, .long), (t 62, .long), (t 34, .int), (t 35, .int), (t 36, .int), (t 37, .int), (t 38, .int), (t 39, .int), (t 40, .int), (t 41, .int), (t 42, .int), (t 43, .int), (t 17, .int), (t 18, .int), (t 19, .int), (t 20, .int), (t 1, .object "FuneralUmbrellas$Scene"), (t 21, .int), (t 22, .int), (t 23, .byte), (t 2, .int), (t 3, .int), (t 4, .int), (t 5, .int), (tm 0, .byte), (tm 1, .int), (tm 18, .int), (tm 2, .int), (tm 3, .long), (tm 4, .int), (tm 5, .int), (tm 6, .int), (tm 7, .int), (tm 8, .int), (tm 9, .boolean), (tm 10, .boolean), (tm 11, .byte), (tm 12, .int), (tm 13, .int), (tm 14, .boolean), (tm 15, .int), (tm 16, .long), (tm 17, .boolean), (to, .long)]) (List.range 86) rfl
  refine W.cs (cells' := 213) (slots' := 5686) rfl rfl ?_
  refine lv_istore (lv' := [(5, .int 1), (4, .int 0), (3, .ref qo), (2, .ref (am 18)), (1, .ref (a 0)), (0, .ref b)]) hx hb dL_law_497 hl (by decide) rfl (fun ls hl => ?_)
  refine lv_aload_n hx hb dL_law_499 rfl (lv_at hl 3 rfl) ?_
  refine lv_aload_n hx hb dL_law_500 rfl (lv_at hl 5 rfl) ?_
  refine lv_iload hx hb dL_law_501 (lv_at hl 1 rfl) ?_
  refine lv_iconst (v := 1) hx hb dL_law_503 (by decide) ?_
  refine lv_iadd hx hb dL_law_504 ?_
  refine lv_topi (fun y_3 ey_3 => ?_)
  obtain rfl : y_3 = 1 := ey_3.trans (by decide)
  refine va_sld hx hb hX hbl hbA hS (show ¬ (_ ∨ _) by decide) dL_law_505 ?_
  refine W.eq (g2 := F0 m 506 ls (.int (xs 1) :: [.ref (am 18)])) rfl ?_
  refine lv_aload_n hx hb dL_law_506 rfl (lv_at hl 5 rfl) ?_
  refine lv_iload hx hb dL_law_507 (lv_at hl 1 rfl) ?_
  refine lv_iconst (v := 2) hx hb dL_law_509 (by decide) ?_
  refine lv_iadd hx hb dL_law_510 ?_
  refine lv_topi (fun y_4 ey_4 => ?_)
  obtain rfl : y_4 = 2 := ey_4.trans (by decide)
  refine va_sld hx hb hX hbl hbA hS (show ¬ (_ ∨ _) by decide) dL_law_511 ?_
  refine W.eq (g2 := F0 m 512 ls (.int (xs 2) :: [.int (xs 1), .ref (am 18)])) rfl ?_
  have hc9 := (k_X12_sorrow l D ad am tm (xs 1) (xs 2) (am 0) 0 0 0 0 (am 19) (am 2) (am 3) (am 20) 0 0 0 0 0 0 0 0 0 0 (am 4) (am 5) 0 0 0 0 (am 6) (-1) (am 7) 0 0 (am 8) (-1) (am 9) (am 10) 0 0 (am 11) 0 0 0 (am 12) 0 (am 13) 0 0 0 0 0 (am 14) (am 15) (am 16) (am 17) )
  refine z_calli (w0 := [(am 1, .inl (tm 1, 283, .inl (upd (fun _ => 0) 4 2))), (am 18, .inr (11, [.int 0, .ref (am 0), .int 0, .int 0, .int 0, .int 0, .ref (am 1), .ref (am 19), .ref (am 2), .ref (am 3), .ref (am 20), .int 0, .int 0, .int 0, .int 0, .int 0, .int 0, .long 0, .int 0, .int 0, .int 0, .ref (am 4), .ref (am 5), .int 0, .int 0, .int 0, .int 0, .ref (am 6), .int (-1), .ref (am 7), .int 0, .int 0, .ref (am 8), .int (-1), .ref (am 9), .ref (am 10), .int 0, .int 0, .ref (am 11), .int 0, .int 0, .int 0, .ref (am 12), .int 0, .ref (am 13), .int 0, .int 0, .int 0, .int 0, .int 0, .ref (am 14), .ref (am 15), .ref (am 16), .ref (am 17)]))]) (wr := []) (va_runV (As := [.int (xs 1), .int (xs 2)]) (rest := []) ⟨hx, hb, hml, hown, hts⟩ (hc9 _) (cwV 2 hts zgL_law_X12_sorrow rfl rfl rfl (by decide +kernel) ⟨Nat.le_of_ble_eq_true rfl, Nat.le_of_ble_eq_true rfl⟩) (z_preV hP hD hK hS hA hE hO [0, 1] [67] rfl (by decide +kernel) rfl 1 11 rfl rfl rfl) rfl rfl hl.1 rfl (lv_room (Nat.le_of_ble_eq_true rfl)) dL_law_512 ⟨Nat.le_of_ble_eq_true rfl, Nat.le_of_ble_eq_true rfl⟩) hP hD hK hS hA [0, 1] [] rfl rfl (by decide +kernel) (by decide +kernel) (fun r9 u9 H locs hw hP hD hK hS => ?_)
  obtain ⟨er9, rfl⟩ := hw
  have hP : va_P D vwCl [(am 1, .inl (tm 1, 283, .inl (upd (fun _ => 0) 4 2))), (am 18, .inr (11, [.int 1, .ref (am 0), .int 0, .int 0, .int 0, .int 0, .ref (am 1), .ref (am 19), .ref (am 2), .ref (am 3), .ref (am 20), .int 0, .int 0, .int 0, .int 0, .int 0, .int 0, .long 0, .int 0, .int 0, .int 0, .ref (am 4), .ref (am 5), .int 0, .int 0, .int 0, .int 0, .ref (am 6), .int (-1), .ref (am 7), .int 0, .int 0, .ref (am 8), .int (-1), .ref (am 9), .ref (am 10), .int 0, .int 0, .ref (am 11), .int 0, .int 0, .int 0, .ref (am 12), .int 0, .ref (am 13), .int 0, .int 0, .int 0, .int 0, .int 0, .ref (am 14), .ref (am 15), .ref (am 16), .ref (am 17)]))] H := hP
  have hD : va_D A [(am 1, .inl (tm 1, 283, .inl (upd (fun _ => 0) 4 2))), (am 18, .inr (11, [.int 1, .ref (am 0), .int 0, .int 0, .int 0, .int 0, .ref (am 1), .ref (am 19), .ref (am 2), .ref (am 3), .ref (am 20), .int 0, .int 0, .int 0, .int 0, .int 0, .int 0, .long 0, .int 0, .int 0, .int 0, .ref (am 4), .ref (am 5), .int 0, .int 0, .int 0, .int 0, .ref (am 6), .int (-1), .ref (am 7), .int 0, .int 0, .ref (am 8), .int (-1), .ref (am 9), .ref (am 10), .int 0, .int 0, .ref (am 11), .int 0, .int 0, .int 0, .ref (am 12), .int 0, .ref (am 13), .int 0, .int 0, .int 0, .int 0, .int 0, .ref (am 14), .ref (am 15), .ref (am 16), .ref (am 17)]))] := hD
  have hK : va_K D vwCl [(t 6, .byte), (t 44, .long), (t 45, .long), (t 46, .long), (t 7, .int), (t 8, .int), (t 9, .int), (t 10, .int), (t 11, .int), (t 12, .int), (t 13, .int), (t 14, .int), (t 15, .int), (t 16, .int), (t 63, .long), (t 64, .long), (t 65, .long), (t 47, .int), (t 48, .int), (t 49, .int), (t 50, .int), (t 51, .int), (t 52, .int), (t 53, .int), (t 54, .int), (t 55, .int), (t 56, .int), (t 0, .object "FuneralUmbrellas$World"), (t 57, .long), (t 58, .long), (t 59, .long), (t 24, .int), (t 25, .int), (t 26, .int), (t 27, .int), (t 28, .int), (t 29, .int), (t 30, .int), (t 31, .int), (t 32, .int), (t 33, .int), (t 60, .long), (t 61, .long), (t 62, .long), (t 34, .int), (t 35, .int), (t 36, .int), (t 37, .int), (t 38, .int), (t 39, .int), (t 40, .int), (t 41, .int), (t 42, .int), (t 43, .int), (t 17, .int), (t 18, .int), (t 19, .int), (t 20, .int), (t 1, .object "FuneralUmbrellas$Scene"), (t 21, .int), (t 22, .int), (t 23, .byte), (t 2, .int), (t 3, .int), (t 4, .int), (t 5, .int), (tm 0, .byte), (tm 1, .int), (tm 18, .int), (tm 2, .int), (tm 3, .long), (tm 4, .int), (tm 5, .int), (tm 6, .int), (tm 7, .int), (tm 8, .int), (tm 9, .boolean), (tm 10, .boolean), (tm 11, .byte), (tm 12, .int), (tm 13, .int), (tm 14, .boolean), (tm 15, .int), (tm 16, .long), (tm 17, .boolean), (to, .long)] s := hK
  refine W.cs (cells' := 213) (slots' := 5686) rfl rfl ?_
  obtain rfl := er9
  refine W.eq (g2 := F0 m 515 ls (.int 0 :: [])) rfl ?_
  refine lv_istore (lv' := [(6, .int 0), (5, .int 1), (4, .int 0), (3, .ref qo), (2, .ref (am 18)), (1, .ref (a 0)), (0, .ref b)]) hx hb dL_law_515 hl (by decide) rfl (fun ls hl => ?_)
  refine lv_aload_n hx hb dL_law_517 rfl (lv_at hl 4 rfl) ?_
  have hc9 := (k_X12_thrown l D ad am 1 (am 0) 0 0 0 0 (am 1) (am 19) (am 2) (am 3) (am 20) 0 0 0 0 0 0 0 0 0 0 (am 4) (am 5) 0 0 0 0 (am 6) (-1) (am 7) 0 0 (am 8) (-1) (am 9) (am 10) 0 0 (am 11) 0 0 0 (am 12) 0 (am 13) 0 0 0 0 0 (am 14) (am 15) (am 16) (am 17) )
  refine z_calli (w0 := [(am 18, .inr (11, [.int 1, .ref (am 0), .int 0, .int 0, .int 0, .int 0, .ref (am 1), .ref (am 19), .ref (am 2), .ref (am 3), .ref (am 20), .int 0, .int 0, .int 0, .int 0, .int 0, .int 0, .long 0, .int 0, .int 0, .int 0, .ref (am 4), .ref (am 5), .int 0, .int 0, .int 0, .int 0, .ref (am 6), .int (-1), .ref (am 7), .int 0, .int 0, .ref (am 8), .int (-1), .ref (am 9), .ref (am 10), .int 0, .int 0, .ref (am 11), .int 0, .int 0, .int 0, .ref (am 12), .int 0, .ref (am 13), .int 0, .int 0, .int 0, .int 0, .int 0, .ref (am 14), .ref (am 15), .ref (am 16), .ref (am 17)]))]) (wr := [(am 1, .inl (tm 1, 283, .inl (upd (fun _ => 0) 4 2)))]) (va_runV (As := []) (rest := []) ⟨hx, hb, hml, hown, hts⟩ (hc9 _) (cwV 0 hts zgL_law_X12_thrown rfl rfl rfl (by decide +kernel) ⟨Nat.le_of_ble_eq_true rfl, Nat.le_of_ble_eq_true rfl⟩) (z_preV hP hD hK hS hA hE hO [1] [] rfl (by decide +kernel) rfl 1 11 rfl rfl rfl) rfl rfl hl.1 rfl (lv_room (Nat.le_of_ble_eq_true rfl)) dL_law_518 ⟨Nat.le_of_ble_eq_true rfl, Nat.le_of_ble_eq_true rfl⟩) hP hD hK hS hA [1] [0] rfl rfl (by decide +kernel) (by decide +kernel) (fun r9 u9 H locs hw hP hD hK hS => ?_)
  obtain ⟨er9, rfl⟩ := hw
  have hP : va_P D vwCl [(am 1, .inl (tm 1, 283, .inl (upd (fun _ => 0) 4 2))), (am 18, .inr (11, [.int 1, .ref (am 0), .int 0, .int 0, .int 0, .int 0, .ref (am 1), .ref (am 19), .ref (am 2), .ref (am 3), .ref (am 20), .int 0, .int 0, .int 0, .int 0, .int 0, .int 0, .long 0, .int 0, .int 0, .int 0, .ref (am 4), .ref (am 5), .int 0, .int 0, .int 0, .int 0, .ref (am 6), .int (-1), .ref (am 7), .int 0, .int 0, .ref (am 8), .int (-1), .ref (am 9), .ref (am 10), .int 0, .int 0, .ref (am 11), .int 0, .int 0, .int 0, .ref (am 12), .int 0, .ref (am 13), .int 0, .int 0, .int 0, .int 0, .int 0, .ref (am 14), .ref (am 15), .ref (am 16), .ref (am 17)]))] H := hP
  have hD : va_D A [(am 1, .inl (tm 1, 283, .inl (upd (fun _ => 0) 4 2))), (am 18, .inr (11, [.int 1, .ref (am 0), .int 0, .int 0, .int 0, .int 0, .ref (am 1), .ref (am 19), .ref (am 2), .ref (am 3), .ref (am 20), .int 0, .int 0, .int 0, .int 0, .int 0, .int 0, .long 0, .int 0, .int 0, .int 0, .ref (am 4), .ref (am 5), .int 0, .int 0, .int 0, .int 0, .ref (am 6), .int (-1), .ref (am 7), .int 0, .int 0, .ref (am 8), .int (-1), .ref (am 9), .ref (am 10), .int 0, .int 0, .ref (am 11), .int 0, .int 0, .int 0, .ref (am 12), .int 0, .ref (am 13), .int 0, .int 0, .int 0, .int 0, .int 0, .ref (am 14), .ref (am 15), .ref (am 16), .ref (am 17)]))] := hD
  have hK : va_K D vwCl [(t 6, .byte), (t 44, .long), (t 45, .long), (t 46, .long), (t 7, .int), (t 8, .int), (t 9, .int), (t 10, .int), (t 11, .int), (t 12, .int), (t 13, .int), (t 14, .int), (t 15, .int), (t 16, .int), (t 63, .long), (t 64, .long), (t 65, .long), (t 47, .int), (t 48, .int), (t 49, .int), (t 50, .int), (t 51, .int), (t 52, .int), (t 53, .int), (t 54, .int), (t 55, .int), (t 56, .int), (t 0, .object "FuneralUmbrellas$World"), (t 57, .long), (t 58, .long), (t 59, .long), (t 24, .int), (t 25, .int), (t 26, .int), (t 27, .int), (t 28, .int), (t 29, .int), (t 30, .int), (t 31, .int), (t 32, .int), (t 33, .int), (t 60, .long), (t 61, .long), (t 62, .long), (t 34, .int), (t 35, .int), (t 36, .int), (t 37, .int), (t 38, .int), (t 39, .int), (t 40, .int), (t 41, .int), (t 42, .int), (t 43, .int), (t 17, .int), (t 18, .int), (t 19, .int), (t 20, .int), (t 1, .object "FuneralUmbrellas$Scene"), (t 21, .int), (t 22, .int), (t 23, .byte), (t 2, .int), (t 3, .int), (t 4, .int), (t 5, .int), (tm 0, .byte), (tm 1, .int), (tm 18, .int), (tm 2, .int), (tm 3, .long), (tm 4, .int), (tm 5, .int), (tm 6, .int), (tm 7, .int), (tm 8, .int), (tm 9, .boolean), (tm 10, .boolean), (tm 11, .byte), (tm 12, .int), (tm 13, .int), (tm 14, .boolean), (tm 15, .int), (tm 16, .long), (tm 17, .boolean), (to, .long)] s := hK
  refine W.cs (cells' := 213) (slots' := 5686) rfl rfl ?_
  obtain rfl := er9
  refine W.eq (g2 := F0 m 521 ls (.int 1 :: [])) rfl ?_
  refine lv_iload hx hb dL_law_521 (lv_at hl 1 rfl) ?_
  refine lv_icmp_eq (tgt := 528) hx hb dL_law_523 (by decide) (fun _ => ?_) (fun h9 => absurd (by decide) h9)
  refine lv_iload hx hb dL_law_528 (lv_at hl 1 rfl) ?_
  refine lv_if_ne (tgt := 545) hx hb dL_law_530 (by decide) (fun _ => ?_) (fun h9 => absurd h9 (by decide))
  refine lv_goto (tgt := 1398) hx hb dL_law_545 (by decide) ?_
  exact law_end G0 hS (by decide) (by decide) (lv_sub hl [2, 6] rfl)
