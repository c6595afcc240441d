theorem dL_377 : decode code 377 = .ok (.iconst 3, 1) := by decide +kernel
theorem dL_378 : decode code 378 = .ok (.iadd, 1) := by decide +kernel
theorem dL_379 : decode code 379 = .ok (.iaload, 1) := by decide +kernel
theorem dL_380 : decode code 380 = .ok (.i2l, 1) := by decide +kernel
theorem dL_381 : decode code 381 = .ok (.ldc2_w 54, 3) := by decide +kernel
theorem dL_384 : decode code 384 = .ok (.land, 1) := by decide +kernel
theorem dL_385 : decode code 385 = .ok (.lor, 1) := by decide +kernel
theorem dL_386 : decode code 386 = .ok (.invokevirtual 56, 3) := by decide +kernel
theorem dL_389 : decode code 389 = .ok (.aload_n 2, 1) := by decide +kernel
theorem dL_390 : decode code 390 = .ok (.aload_n 0, 1) := by decide +kernel
theorem dL_391 : decode code 391 = .ok (.iload_n 3, 1) := by decide +kernel
theorem dL_392 : decode code 392 = .ok (.iconst 1, 1) := by decide +kernel
theorem dL_393 : decode code 393 = .ok (.iadd, 1) := by decide +kernel
theorem dL_394 : decode code 394 = .ok (.iaload, 1) := by decide +kernel
theorem dL_395 : decode code 395 = .ok (.aload_n 0, 1) := by decide +kernel
theorem dL_396 : decode code 396 = .ok (.iload_n 3, 1) := by decide +kernel
theorem dL_397 : decode code 397 = .ok (.iconst 2, 1) := by decide +kernel
theorem dL_398 : decode code 398 = .ok (.iadd, 1) := by decide +kernel
theorem dL_399 : decode code 399 = .ok (.iaload, 1) := by decide +kernel
theorem dL_400 : decode code 400 = .ok (.i2l, 1) := by decide +kernel
theorem dL_401 : decode code 401 = .ok (.bipush (32), 2) := by decide +kernel
theorem dL_403 : decode code 403 = .ok (.lshl, 1) := by decide +kernel
theorem dL_404 : decode code 404 = .ok (.aload_n 0, 1) := by decide +kernel
theorem dL_405 : decode code 405 = .ok (.iload_n 3, 1) := by decide +kernel
theorem dL_406 : decode code 406 = .ok (.iconst 3, 1) := by decide +kernel
theorem dL_407 : decode code 407 = .ok (.iadd, 1) := by decide +kernel
theorem dL_408 : decode code 408 = .ok (.iaload, 1) := by decide +kernel
theorem dL_409 : decode code 409 = .ok (.i2l, 1) := by decide +kernel
theorem dL_410 : decode code 410 = .ok (.ldc2_w 54, 3) := by decide +kernel
theorem dL_413 : decode code 413 = .ok (.land, 1) := by decide +kernel
theorem dL_414 : decode code 414 = .ok (.lor, 1) := by decide +kernel
theorem dL_415 : decode code 415 = .ok (.invokevirtual 60, 3) := by decide +kernel
theorem dL_418 : decode code 418 = .ok (.if_icmp .eq (477), 3) := by decide +kernel
theorem dL_421 : decode code 421 = .ok (.iconst 0, 1) := by decide +kernel
theorem dL_422 : decode code 422 = .ok (.ireturn, 1) := by decide +kernel
theorem dL_423 : decode code 423 = .ok (.aload_n 1, 1) := by decide +kernel
theorem dL_424 : decode code 424 = .ok (.aload_n 0, 1) := by decide +kernel
theorem dL_425 : decode code 425 = .ok (.iload_n 3, 1) := by decide +kernel
theorem dL_426 : decode code 426 = .ok (.iconst 1, 1) := by decide +kernel
theorem dL_427 : decode code 427 = .ok (.iadd, 1) := by decide +kernel
theorem dL_428 : decode code 428 = .ok (.iaload, 1) := by decide +kernel
theorem dL_429 : decode code 429 = .ok (.i2l, 1) := by decide +kernel
theorem dL_430 : decode code 430 = .ok (.bipush (32), 2) := by decide +kernel
theorem dL_432 : decode code 432 = .ok (.lshl, 1) := by decide +kernel
theorem dL_433 : decode code 433 = .ok (.aload_n 0, 1) := by decide +kernel
theorem dL_434 : decode code 434 = .ok (.iload_n 3, 1) := by decide +kernel
theorem dL_435 : decode code 435 = .ok (.iconst 2, 1) := by decide +kernel
theorem dL_436 : decode code 436 = .ok (.iadd, 1) := by decide +kernel
theorem dL_437 : decode code 437 = .ok (.iaload, 1) := by decide +kernel
theorem dL_438 : decode code 438 = .ok (.i2l, 1) := by decide +kernel
theorem dL_439 : decode code 439 = .ok (.ldc2_w 54, 3) := by decide +kernel
theorem dL_442 : decode code 442 = .ok (.land, 1) := by decide +kernel
theorem dL_443 : decode code 443 = .ok (.lor, 1) := by decide +kernel
theorem dL_444 : decode code 444 = .ok (.aload_n 0, 1) := by decide +kernel
theorem dL_445 : decode code 445 = .ok (.iload_n 3, 1) := by decide +kernel
theorem dL_446 : decode code 446 = .ok (.iconst 3, 1) := by decide +kernel
theorem dL_447 : decode code 447 = .ok (.iadd, 1) := by decide +kernel
theorem dL_448 : decode code 448 = .ok (.iaload, 1) := by decide +kernel
theorem dL_449 : decode code 449 = .ok (.aload_n 0, 1) := by decide +kernel
theorem dL_450 : decode code 450 = .ok (.iload_n 3, 1) := by decide +kernel
theorem dL_451 : decode code 451 = .ok (.iconst 4, 1) := by decide +kernel
theorem dL_452 : decode code 452 = .ok (.iadd, 1) := by decide +kernel
theorem dL_453 : decode code 453 = .ok (.iaload, 1) := by decide +kernel
theorem dL_454 : decode code 454 = .ok (.invokevirtual 61, 3) := by decide +kernel
theorem dL_457 : decode code 457 = .ok (.aload_n 2, 1) := by decide +kernel
theorem dL_458 : decode code 458 = .ok (.aload_n 0, 1) := by decide +kernel
theorem dL_459 : decode code 459 = .ok (.iload_n 3, 1) := by decide +kernel
theorem dL_460 : decode code 460 = .ok (.iconst 1, 1) := by decide +kernel
theorem dL_461 : decode code 461 = .ok (.iadd, 1) := by decide +kernel
theorem dL_462 : decode code 462 = .ok (.iaload, 1) := by decide +kernel
theorem dL_463 : decode code 463 = .ok (.i2l, 1) := by decide +kernel
theorem dL_464 : decode code 464 = .ok (.bipush (32), 2) := by decide +kernel
theorem dL_466 : decode code 466 = .ok (.lshl, 1) := by decide +kernel
theorem dL_467 : decode code 467 = .ok (.aload_n 0, 1) := by decide +kernel
theorem dL_468 : decode code 468 = .ok (.iload_n 3, 1) := by decide +kernel
theorem dL_469 : decode code 469 = .ok (.iconst 2, 1) := by decide +kernel
theorem dL_470 : decode code 470 = .ok (.iadd, 1) := by decide +kernel
theorem dL_471 : decode code 471 = .ok (.iaload, 1) := by decide +kernel
theorem dL_472 : decode code 472 = .ok (.i2l, 1) := by decide +kernel
theorem dL_473 : decode code 473 = .ok (.ldc2_w 54, 3) := by decide +kernel
theorem dL_476 : decode code 476 = .ok (.land, 1) := by decide +kernel
theorem dL_477 : decode code 477 = .ok (.lor, 1) := by decide +kernel
theorem dL_478 : decode code 478 = .ok (.aload_n 0, 1) := by decide +kernel
theorem dL_479 : decode code 479 = .ok (.iload_n 3, 1) := by decide +kernel
theorem dL_480 : decode code 480 = .ok (.iconst 3, 1) := by decide +kernel
theorem dL_481 : decode code 481 = .ok (.iadd, 1) := by decide +kernel
theorem dL_482 : decode code 482 = .ok (.iaload, 1) := by decide +kernel
theorem dL_483 : decode code 483 = .ok (.aload_n 0, 1) := by decide +kernel
theorem dL_484 : decode code 484 = .ok (.iload_n 3, 1) := by decide +kernel
theorem dL_485 : decode code 485 = .ok (.iconst 4, 1) := by decide +kernel
theorem dL_486 : decode code 486 = .ok (.iadd, 1) := by decide +kernel
theorem dL_487 : decode code 487 = .ok (.iaload, 1) := by decide +kernel
theorem dL_488 : decode code 488 = .ok (.invokevirtual 65, 3) := by decide +kernel
theorem dL_491 : decode code 491 = .ok (.lcmp, 1) := by decide +kernel
theorem dL_492 : decode code 492 = .ok (.ifCond .eq (403), 3) := by decide +kernel
theorem dL_495 : decode code 495 = .ok (.iconst 0, 1) := by decide +kernel
theorem dL_496 : decode code 496 = .ok (.ireturn, 1) := by decide +kernel
theorem dL_497 : decode code 497 = .ok (.aload_n 1, 1) := by decide +kernel
theorem dL_498 : decode code 498 = .ok (.aload_n 0, 1) := by decide +kernel
theorem dL_499 : decode code 499 = .ok (.iload_n 3, 1) := by decide +kernel
theorem dL_500 : decode code 500 = .ok (.iconst 1, 1) := by decide +kernel
theorem dL_501 : decode code 501 = .ok (.iadd, 1) := by decide +kernel
theorem dL_502 : decode code 502 = .ok (.iaload, 1) := by decide +kernel
theorem dL_503 : decode code 503 = .ok (.i2l, 1) := by decide +kernel
theorem dL_504 : decode code 504 = .ok (.bipush (32), 2) := by decide +kernel
theorem dL_506 : decode code 506 = .ok (.lshl, 1) := by decide +kernel
theorem dL_507 : decode code 507 = .ok (.aload_n 0, 1) := by decide +kernel
theorem dL_508 : decode code 508 = .ok (.iload_n 3, 1) := by decide +kernel
theorem dL_509 : decode code 509 = .ok (.iconst 2, 1) := by decide +kernel
theorem dL_510 : decode code 510 = .ok (.iadd, 1) := by decide +kernel
