theorem d_L_331 : decode code 331 = .ok (.aload_n 1, 1) := by decide +kernel
theorem d_L_332 : decode code 332 = .ok (.aload_n 0, 1) := by decide +kernel
theorem d_L_333 : decode code 333 = .ok (.iload_n 3, 1) := by decide +kernel
theorem d_L_334 : decode code 334 = .ok (.iconst 1, 1) := by decide +kernel
theorem d_L_335 : decode code 335 = .ok (.iadd, 1) := by decide +kernel
theorem d_L_336 : decode code 336 = .ok (.iaload, 1) := by decide +kernel
theorem d_L_337 : decode code 337 = .ok (.invokevirtual 55, 3) := by decide +kernel
theorem d_L_340 : decode code 340 = .ok (.aload_n 2, 1) := by decide +kernel
theorem d_L_341 : decode code 341 = .ok (.aload_n 0, 1) := by decide +kernel
theorem d_L_342 : decode code 342 = .ok (.iload_n 3, 1) := by decide +kernel
theorem d_L_343 : decode code 343 = .ok (.iconst 1, 1) := by decide +kernel
theorem d_L_344 : decode code 344 = .ok (.iadd, 1) := by decide +kernel
theorem d_L_345 : decode code 345 = .ok (.iaload, 1) := by decide +kernel
theorem d_L_346 : decode code 346 = .ok (.invokevirtual 58, 3) := by decide +kernel
theorem d_L_349 : decode code 349 = .ok (.if_icmp .eq 212, 3) := by decide +kernel
theorem d_L_352 : decode code 352 = .ok (.iconst 0, 1) := by decide +kernel
theorem d_L_353 : decode code 353 = .ok (.ireturn, 1) := by decide +kernel
theorem d_L_354 : decode code 354 = .ok (.aload_n 1, 1) := by decide +kernel
theorem d_L_355 : decode code 355 = .ok (.invokevirtual 59, 3) := by decide +kernel
theorem d_L_358 : decode code 358 = .ok (.aload_n 2, 1) := by decide +kernel
theorem d_L_359 : decode code 359 = .ok (.invokevirtual 62, 3) := by decide +kernel
theorem d_L_362 : decode code 362 = .ok (.if_icmp .eq 199, 3) := by decide +kernel
theorem d_L_365 : decode code 365 = .ok (.iconst 0, 1) := by decide +kernel
theorem d_L_366 : decode code 366 = .ok (.ireturn, 1) := by decide +kernel
theorem d_L_367 : decode code 367 = .ok (.aload_n 1, 1) := by decide +kernel
theorem d_L_368 : decode code 368 = .ok (.aload_n 0, 1) := by decide +kernel
theorem d_L_369 : decode code 369 = .ok (.iload_n 3, 1) := by decide +kernel
theorem d_L_370 : decode code 370 = .ok (.iconst 1, 1) := by decide +kernel
theorem d_L_371 : decode code 371 = .ok (.iadd, 1) := by decide +kernel
theorem d_L_372 : decode code 372 = .ok (.iaload, 1) := by decide +kernel
theorem d_L_373 : decode code 373 = .ok (.invokevirtual 63, 3) := by decide +kernel
theorem d_L_376 : decode code 376 = .ok (.aload_n 2, 1) := by decide +kernel
theorem d_L_377 : decode code 377 = .ok (.aload_n 0, 1) := by decide +kernel
theorem d_L_378 : decode code 378 = .ok (.iload_n 3, 1) := by decide +kernel
theorem d_L_379 : decode code 379 = .ok (.iconst 1, 1) := by decide +kernel
theorem d_L_380 : decode code 380 = .ok (.iadd, 1) := by decide +kernel
theorem d_L_381 : decode code 381 = .ok (.iaload, 1) := by decide +kernel
theorem d_L_382 : decode code 382 = .ok (.invokevirtual 66, 3) := by decide +kernel
theorem d_L_385 : decode code 385 = .ok (.if_icmp .eq 176, 3) := by decide +kernel
theorem d_L_388 : decode code 388 = .ok (.iconst 0, 1) := by decide +kernel
theorem d_L_389 : decode code 389 = .ok (.ireturn, 1) := by decide +kernel
theorem d_L_390 : decode code 390 = .ok (.aload_n 1, 1) := by decide +kernel
theorem d_L_391 : decode code 391 = .ok (.aload_n 0, 1) := by decide +kernel
theorem d_L_392 : decode code 392 = .ok (.iload_n 3, 1) := by decide +kernel
theorem d_L_393 : decode code 393 = .ok (.iconst 1, 1) := by decide +kernel
theorem d_L_394 : decode code 394 = .ok (.iadd, 1) := by decide +kernel
theorem d_L_395 : decode code 395 = .ok (.iaload, 1) := by decide +kernel
theorem d_L_396 : decode code 396 = .ok (.invokevirtual 67, 3) := by decide +kernel
theorem d_L_399 : decode code 399 = .ok (.aload_n 2, 1) := by decide +kernel
theorem d_L_400 : decode code 400 = .ok (.aload_n 0, 1) := by decide +kernel
theorem d_L_401 : decode code 401 = .ok (.iload_n 3, 1) := by decide +kernel
theorem d_L_402 : decode code 402 = .ok (.iconst 1, 1) := by decide +kernel
theorem d_L_403 : decode code 403 = .ok (.iadd, 1) := by decide +kernel
theorem d_L_404 : decode code 404 = .ok (.iaload, 1) := by decide +kernel
theorem d_L_405 : decode code 405 = .ok (.invokevirtual 70, 3) := by decide +kernel
theorem d_L_408 : decode code 408 = .ok (.if_icmp .eq 153, 3) := by decide +kernel
theorem d_L_411 : decode code 411 = .ok (.iconst 0, 1) := by decide +kernel
theorem d_L_412 : decode code 412 = .ok (.ireturn, 1) := by decide +kernel
theorem d_L_413 : decode code 413 = .ok (.aload_n 1, 1) := by decide +kernel
theorem d_L_414 : decode code 414 = .ok (.aload_n 0, 1) := by decide +kernel
theorem d_L_415 : decode code 415 = .ok (.iload_n 3, 1) := by decide +kernel
theorem d_L_416 : decode code 416 = .ok (.iconst 1, 1) := by decide +kernel
theorem d_L_417 : decode code 417 = .ok (.iadd, 1) := by decide +kernel
theorem d_L_418 : decode code 418 = .ok (.iaload, 1) := by decide +kernel
theorem d_L_419 : decode code 419 = .ok (.invokevirtual 71, 3) := by decide +kernel
theorem d_L_422 : decode code 422 = .ok (.aload_n 2, 1) := by decide +kernel
theorem d_L_423 : decode code 423 = .ok (.aload_n 0, 1) := by decide +kernel
theorem d_L_424 : decode code 424 = .ok (.iload_n 3, 1) := by decide +kernel
theorem d_L_425 : decode code 425 = .ok (.iconst 1, 1) := by decide +kernel
theorem d_L_426 : decode code 426 = .ok (.iadd, 1) := by decide +kernel
theorem d_L_427 : decode code 427 = .ok (.iaload, 1) := by decide +kernel
theorem d_L_428 : decode code 428 = .ok (.invokevirtual 74, 3) := by decide +kernel
theorem d_L_431 : decode code 431 = .ok (.if_icmp .eq 130, 3) := by decide +kernel
theorem d_L_434 : decode code 434 = .ok (.iconst 0, 1) := by decide +kernel
theorem d_L_435 : decode code 435 = .ok (.ireturn, 1) := by decide +kernel
theorem d_L_436 : decode code 436 = .ok (.aload_n 1, 1) := by decide +kernel
theorem d_L_437 : decode code 437 = .ok (.aload_n 0, 1) := by decide +kernel
theorem d_L_438 : decode code 438 = .ok (.iload_n 3, 1) := by decide +kernel
theorem d_L_439 : decode code 439 = .ok (.iconst 1, 1) := by decide +kernel
theorem d_L_440 : decode code 440 = .ok (.iadd, 1) := by decide +kernel
theorem d_L_441 : decode code 441 = .ok (.iaload, 1) := by decide +kernel
theorem d_L_442 : decode code 442 = .ok (.invokevirtual 75, 3) := by decide +kernel
theorem d_L_445 : decode code 445 = .ok (.aload_n 2, 1) := by decide +kernel
theorem d_L_446 : decode code 446 = .ok (.aload_n 0, 1) := by decide +kernel
theorem d_L_447 : decode code 447 = .ok (.iload_n 3, 1) := by decide +kernel
theorem d_L_448 : decode code 448 = .ok (.iconst 1, 1) := by decide +kernel
theorem d_L_449 : decode code 449 = .ok (.iadd, 1) := by decide +kernel
theorem d_L_450 : decode code 450 = .ok (.iaload, 1) := by decide +kernel
theorem d_L_451 : decode code 451 = .ok (.invokevirtual 78, 3) := by decide +kernel
theorem d_L_454 : decode code 454 = .ok (.if_icmp .eq 107, 3) := by decide +kernel
theorem d_L_457 : decode code 457 = .ok (.iconst 0, 1) := by decide +kernel
theorem d_L_458 : decode code 458 = .ok (.ireturn, 1) := by decide +kernel
theorem d_L_459 : decode code 459 = .ok (.aload_n 1, 1) := by decide +kernel
theorem d_L_460 : decode code 460 = .ok (.aload_n 0, 1) := by decide +kernel
theorem d_L_461 : decode code 461 = .ok (.iload_n 3, 1) := by decide +kernel
theorem d_L_462 : decode code 462 = .ok (.iconst 1, 1) := by decide +kernel
theorem d_L_463 : decode code 463 = .ok (.iadd, 1) := by decide +kernel
theorem d_L_464 : decode code 464 = .ok (.iaload, 1) := by decide +kernel
theorem d_L_465 : decode code 465 = .ok (.invokevirtual 79, 3) := by decide +kernel
theorem d_L_468 : decode code 468 = .ok (.aload_n 2, 1) := by decide +kernel
theorem d_L_469 : decode code 469 = .ok (.aload_n 0, 1) := by decide +kernel
theorem d_L_470 : decode code 470 = .ok (.iload_n 3, 1) := by decide +kernel
theorem d_L_471 : decode code 471 = .ok (.iconst 1, 1) := by decide +kernel
theorem d_L_472 : decode code 472 = .ok (.iadd, 1) := by decide +kernel
theorem d_L_473 : decode code 473 = .ok (.iaload, 1) := by decide +kernel
theorem d_L_474 : decode code 474 = .ok (.invokevirtual 82, 3) := by decide +kernel
theorem d_L_477 : decode code 477 = .ok (.if_icmp .eq 84, 3) := by decide +kernel
theorem d_L_480 : decode code 480 = .ok (.iconst 0, 1) := by decide +kernel
theorem d_L_481 : decode code 481 = .ok (.ireturn, 1) := by decide +kernel
theorem d_L_482 : decode code 482 = .ok (.aload_n 1, 1) := by decide +kernel
theorem d_L_483 : decode code 483 = .ok (.aload_n 0, 1) := by decide +kernel
theorem d_L_484 : decode code 484 = .ok (.iload_n 3, 1) := by decide +kernel
theorem d_L_485 : decode code 485 = .ok (.iconst 1, 1) := by decide +kernel
theorem d_L_486 : decode code 486 = .ok (.iadd, 1) := by decide +kernel
theorem d_L_487 : decode code 487 = .ok (.iaload, 1) := by decide +kernel
theorem d_L_488 : decode code 488 = .ok (.invokevirtual 83, 3) := by decide +kernel
theorem d_L_491 : decode code 491 = .ok (.aload_n 2, 1) := by decide +kernel
theorem d_L_492 : decode code 492 = .ok (.aload_n 0, 1) := by decide +kernel
theorem d_L_493 : decode code 493 = .ok (.iload_n 3, 1) := by decide +kernel
theorem d_L_494 : decode code 494 = .ok (.iconst 1, 1) := by decide +kernel
theorem d_L_495 : decode code 495 = .ok (.iadd, 1) := by decide +kernel
theorem d_L_496 : decode code 496 = .ok (.iaload, 1) := by decide +kernel
theorem d_L_497 : decode code 497 = .ok (.invokevirtual 86, 3) := by decide +kernel
theorem d_L_500 : decode code 500 = .ok (.if_icmp .eq 61, 3) := by decide +kernel
theorem d_L_503 : decode code 503 = .ok (.iconst 0, 1) := by decide +kernel
theorem d_L_504 : decode code 504 = .ok (.ireturn, 1) := by decide +kernel
theorem d_L_505 : decode code 505 = .ok (.aload_n 1, 1) := by decide +kernel
theorem d_L_506 : decode code 506 = .ok (.aload_n 0, 1) := by decide +kernel
theorem d_L_507 : decode code 507 = .ok (.iload_n 3, 1) := by decide +kernel
theorem d_L_508 : decode code 508 = .ok (.iconst 1, 1) := by decide +kernel
theorem d_L_509 : decode code 509 = .ok (.iadd, 1) := by decide +kernel
theorem d_L_510 : decode code 510 = .ok (.iaload, 1) := by decide +kernel
theorem d_L_511 : decode code 511 = .ok (.invokevirtual 87, 3) := by decide +kernel
theorem d_L_514 : decode code 514 = .ok (.aload_n 2, 1) := by decide +kernel
theorem d_L_515 : decode code 515 = .ok (.aload_n 0, 1) := by decide +kernel
theorem d_L_516 : decode code 516 = .ok (.iload_n 3, 1) := by decide +kernel
theorem d_L_517 : decode code 517 = .ok (.iconst 1, 1) := by decide +kernel
theorem d_L_518 : decode code 518 = .ok (.iadd, 1) := by decide +kernel
theorem d_L_519 : decode code 519 = .ok (.iaload, 1) := by decide +kernel
theorem d_L_520 : decode code 520 = .ok (.invokevirtual 90, 3) := by decide +kernel
theorem d_L_523 : decode code 523 = .ok (.if_icmp .eq 38, 3) := by decide +kernel
theorem d_L_526 : decode code 526 = .ok (.iconst 0, 1) := by decide +kernel
theorem d_L_527 : decode code 527 = .ok (.ireturn, 1) := by decide +kernel
theorem d_L_528 : decode code 528 = .ok (.aload_n 1, 1) := by decide +kernel
theorem d_L_529 : decode code 529 = .ok (.aload_n 0, 1) := by decide +kernel
theorem d_L_530 : decode code 530 = .ok (.iload_n 3, 1) := by decide +kernel
theorem d_L_531 : decode code 531 = .ok (.iconst 1, 1) := by decide +kernel
theorem d_L_532 : decode code 532 = .ok (.iadd, 1) := by decide +kernel
theorem d_L_533 : decode code 533 = .ok (.iaload, 1) := by decide +kernel
theorem d_L_534 : decode code 534 = .ok (.aload_n 0, 1) := by decide +kernel
theorem d_L_535 : decode code 535 = .ok (.iload_n 3, 1) := by decide +kernel
theorem d_L_536 : decode code 536 = .ok (.iconst 2, 1) := by decide +kernel
theorem d_L_537 : decode code 537 = .ok (.iadd, 1) := by decide +kernel
theorem d_L_538 : decode code 538 = .ok (.iaload, 1) := by decide +kernel
theorem d_L_539 : decode code 539 = .ok (.invokevirtual 91, 3) := by decide +kernel
theorem d_L_542 : decode code 542 = .ok (.aload_n 2, 1) := by decide +kernel
theorem d_L_543 : decode code 543 = .ok (.aload_n 0, 1) := by decide +kernel
theorem d_L_544 : decode code 544 = .ok (.iload_n 3, 1) := by decide +kernel
theorem d_L_545 : decode code 545 = .ok (.iconst 1, 1) := by decide +kernel
theorem d_L_546 : decode code 546 = .ok (.iadd, 1) := by decide +kernel
theorem d_L_547 : decode code 547 = .ok (.iaload, 1) := by decide +kernel
theorem d_L_548 : decode code 548 = .ok (.aload_n 0, 1) := by decide +kernel
theorem d_L_549 : decode code 549 = .ok (.iload_n 3, 1) := by decide +kernel
theorem d_L_550 : decode code 550 = .ok (.iconst 2, 1) := by decide +kernel
theorem d_L_551 : decode code 551 = .ok (.iadd, 1) := by decide +kernel
theorem d_L_552 : decode code 552 = .ok (.iaload, 1) := by decide +kernel
theorem d_L_553 : decode code 553 = .ok (.invokevirtual 94, 3) := by decide +kernel
theorem d_L_556 : decode code 556 = .ok (.if_icmp .eq 5, 3) := by decide +kernel
theorem d_L_559 : decode code 559 = .ok (.iconst 0, 1) := by decide +kernel
theorem d_L_560 : decode code 560 = .ok (.ireturn, 1) := by decide +kernel
theorem d_L_561 : decode code 561 = .ok (.iinc 3 4, 3) := by decide +kernel
theorem d_L_564 : decode code 564 = .ok (.goto (-546), 3) := by decide +kernel
theorem d_L_567 : decode code 567 = .ok (.iconst 1, 1) := by decide +kernel
theorem d_L_568 : decode code 568 = .ok (.ireturn, 1) := by decide +kernel

