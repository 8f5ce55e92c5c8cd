theorem dW_318 : decode code 318 = .ok (.iadd, 1) := by decide +kernel
theorem dW_319 : decode code 319 = .ok (.iaload, 1) := by decide +kernel
theorem dW_320 : decode code 320 = .ok (.i2l, 1) := by decide +kernel
theorem dW_321 : decode code 321 = .ok (.ldc2_w 13, 3) := by decide +kernel
theorem dW_324 : decode code 324 = .ok (.land, 1) := by decide +kernel
theorem dW_325 : decode code 325 = .ok (.lor, 1) := by decide +kernel
theorem dW_326 : decode code 326 = .ok (.aload_n 0, 1) := by decide +kernel
theorem dW_327 : decode code 327 = .ok (.iload_n 3, 1) := by decide +kernel
theorem dW_328 : decode code 328 = .ok (.iconst 4, 1) := by decide +kernel
theorem dW_329 : decode code 329 = .ok (.iadd, 1) := by decide +kernel
theorem dW_330 : decode code 330 = .ok (.iaload, 1) := by decide +kernel
theorem dW_331 : decode code 331 = .ok (.i2l, 1) := by decide +kernel
theorem dW_332 : decode code 332 = .ok (.bipush 32, 2) := by decide +kernel
theorem dW_334 : decode code 334 = .ok (.lshl, 1) := by decide +kernel
theorem dW_335 : decode code 335 = .ok (.aload_n 0, 1) := by decide +kernel
theorem dW_336 : decode code 336 = .ok (.iload_n 3, 1) := by decide +kernel
theorem dW_337 : decode code 337 = .ok (.iconst 5, 1) := by decide +kernel
theorem dW_338 : decode code 338 = .ok (.iadd, 1) := by decide +kernel
theorem dW_339 : decode code 339 = .ok (.iaload, 1) := by decide +kernel
theorem dW_340 : decode code 340 = .ok (.i2l, 1) := by decide +kernel
theorem dW_341 : decode code 341 = .ok (.ldc2_w 13, 3) := by decide +kernel
theorem dW_344 : decode code 344 = .ok (.land, 1) := by decide +kernel
theorem dW_345 : decode code 345 = .ok (.lor, 1) := by decide +kernel
theorem dW_346 : decode code 346 = .ok (.invokevirtual 25, 3) := by decide +kernel
theorem dW_349 : decode code 349 = .ok (.aload_n 2, 1) := by decide +kernel
theorem dW_350 : decode code 350 = .ok (.aload_n 0, 1) := by decide +kernel
theorem dW_351 : decode code 351 = .ok (.iload_n 3, 1) := by decide +kernel
theorem dW_352 : decode code 352 = .ok (.iconst 1, 1) := by decide +kernel
theorem dW_353 : decode code 353 = .ok (.iadd, 1) := by decide +kernel
theorem dW_354 : decode code 354 = .ok (.iaload, 1) := by decide +kernel
theorem dW_355 : decode code 355 = .ok (.aload_n 0, 1) := by decide +kernel
theorem dW_356 : decode code 356 = .ok (.iload_n 3, 1) := by decide +kernel
theorem dW_357 : decode code 357 = .ok (.iconst 2, 1) := by decide +kernel
theorem dW_358 : decode code 358 = .ok (.iadd, 1) := by decide +kernel
theorem dW_359 : decode code 359 = .ok (.iaload, 1) := by decide +kernel
theorem dW_360 : decode code 360 = .ok (.i2l, 1) := by decide +kernel
theorem dW_361 : decode code 361 = .ok (.bipush 32, 2) := by decide +kernel
theorem dW_363 : decode code 363 = .ok (.lshl, 1) := by decide +kernel
theorem dW_364 : decode code 364 = .ok (.aload_n 0, 1) := by decide +kernel
theorem dW_365 : decode code 365 = .ok (.iload_n 3, 1) := by decide +kernel
theorem dW_366 : decode code 366 = .ok (.iconst 3, 1) := by decide +kernel
theorem dW_367 : decode code 367 = .ok (.iadd, 1) := by decide +kernel
theorem dW_368 : decode code 368 = .ok (.iaload, 1) := by decide +kernel
theorem dW_369 : decode code 369 = .ok (.i2l, 1) := by decide +kernel
theorem dW_370 : decode code 370 = .ok (.ldc2_w 13, 3) := by decide +kernel
theorem dW_373 : decode code 373 = .ok (.land, 1) := by decide +kernel
theorem dW_374 : decode code 374 = .ok (.lor, 1) := by decide +kernel
theorem dW_375 : decode code 375 = .ok (.aload_n 0, 1) := by decide +kernel
theorem dW_376 : decode code 376 = .ok (.iload_n 3, 1) := by decide +kernel
theorem dW_377 : decode code 377 = .ok (.iconst 4, 1) := by decide +kernel
theorem dW_378 : decode code 378 = .ok (.iadd, 1) := by decide +kernel
theorem dW_379 : decode code 379 = .ok (.iaload, 1) := by decide +kernel
theorem dW_380 : decode code 380 = .ok (.i2l, 1) := by decide +kernel
theorem dW_381 : decode code 381 = .ok (.bipush 32, 2) := by decide +kernel
theorem dW_383 : decode code 383 = .ok (.lshl, 1) := by decide +kernel
theorem dW_384 : decode code 384 = .ok (.aload_n 0, 1) := by decide +kernel
theorem dW_385 : decode code 385 = .ok (.iload_n 3, 1) := by decide +kernel
theorem dW_386 : decode code 386 = .ok (.iconst 5, 1) := by decide +kernel
theorem dW_387 : decode code 387 = .ok (.iadd, 1) := by decide +kernel
theorem dW_388 : decode code 388 = .ok (.iaload, 1) := by decide +kernel
theorem dW_389 : decode code 389 = .ok (.i2l, 1) := by decide +kernel
theorem dW_390 : decode code 390 = .ok (.ldc2_w 13, 3) := by decide +kernel
theorem dW_393 : decode code 393 = .ok (.land, 1) := by decide +kernel
theorem dW_394 : decode code 394 = .ok (.lor, 1) := by decide +kernel
theorem dW_395 : decode code 395 = .ok (.invokevirtual 29, 3) := by decide +kernel
theorem dW_398 : decode code 398 = .ok (.if_icmp .eq 849, 3) := by decide +kernel
theorem dW_401 : decode code 401 = .ok (.iconst 0, 1) := by decide +kernel
theorem dW_402 : decode code 402 = .ok (.ireturn, 1) := by decide +kernel
theorem dW_403 : decode code 403 = .ok (.aload_n 1, 1) := by decide +kernel
theorem dW_404 : decode code 404 = .ok (.aload_n 0, 1) := by decide +kernel
theorem dW_405 : decode code 405 = .ok (.iload_n 3, 1) := by decide +kernel
theorem dW_406 : decode code 406 = .ok (.iconst 1, 1) := by decide +kernel
theorem dW_407 : decode code 407 = .ok (.iadd, 1) := by decide +kernel
theorem dW_408 : decode code 408 = .ok (.iaload, 1) := by decide +kernel
theorem dW_409 : decode code 409 = .ok (.aload_n 0, 1) := by decide +kernel
theorem dW_410 : decode code 410 = .ok (.iload_n 3, 1) := by decide +kernel
theorem dW_411 : decode code 411 = .ok (.iconst 2, 1) := by decide +kernel
theorem dW_412 : decode code 412 = .ok (.iadd, 1) := by decide +kernel
theorem dW_413 : decode code 413 = .ok (.iaload, 1) := by decide +kernel
theorem dW_414 : decode code 414 = .ok (.i2l, 1) := by decide +kernel
theorem dW_415 : decode code 415 = .ok (.bipush 32, 2) := by decide +kernel
theorem dW_417 : decode code 417 = .ok (.lshl, 1) := by decide +kernel
theorem dW_418 : decode code 418 = .ok (.aload_n 0, 1) := by decide +kernel
theorem dW_419 : decode code 419 = .ok (.iload_n 3, 1) := by decide +kernel
theorem dW_420 : decode code 420 = .ok (.iconst 3, 1) := by decide +kernel
theorem dW_421 : decode code 421 = .ok (.iadd, 1) := by decide +kernel
theorem dW_422 : decode code 422 = .ok (.iaload, 1) := by decide +kernel
theorem dW_423 : decode code 423 = .ok (.i2l, 1) := by decide +kernel
theorem dW_424 : decode code 424 = .ok (.ldc2_w 13, 3) := by decide +kernel
theorem dW_427 : decode code 427 = .ok (.land, 1) := by decide +kernel
theorem dW_428 : decode code 428 = .ok (.lor, 1) := by decide +kernel
theorem dW_429 : decode code 429 = .ok (.invokevirtual 30, 3) := by decide +kernel
theorem dW_432 : decode code 432 = .ok (.aload_n 2, 1) := by decide +kernel
theorem dW_433 : decode code 433 = .ok (.aload_n 0, 1) := by decide +kernel
theorem dW_434 : decode code 434 = .ok (.iload_n 3, 1) := by decide +kernel
theorem dW_435 : decode code 435 = .ok (.iconst 1, 1) := by decide +kernel
theorem dW_436 : decode code 436 = .ok (.iadd, 1) := by decide +kernel
theorem dW_437 : decode code 437 = .ok (.iaload, 1) := by decide +kernel
theorem dW_438 : decode code 438 = .ok (.aload_n 0, 1) := by decide +kernel
theorem dW_439 : decode code 439 = .ok (.iload_n 3, 1) := by decide +kernel
theorem dW_440 : decode code 440 = .ok (.iconst 2, 1) := by decide +kernel
theorem dW_441 : decode code 441 = .ok (.iadd, 1) := by decide +kernel
theorem dW_442 : decode code 442 = .ok (.iaload, 1) := by decide +kernel
theorem dW_443 : decode code 443 = .ok (.i2l, 1) := by decide +kernel
theorem dW_444 : decode code 444 = .ok (.bipush 32, 2) := by decide +kernel
theorem dW_446 : decode code 446 = .ok (.lshl, 1) := by decide +kernel
theorem dW_447 : decode code 447 = .ok (.aload_n 0, 1) := by decide +kernel
theorem dW_448 : decode code 448 = .ok (.iload_n 3, 1) := by decide +kernel
theorem dW_449 : decode code 449 = .ok (.iconst 3, 1) := by decide +kernel
theorem dW_450 : decode code 450 = .ok (.iadd, 1) := by decide +kernel
theorem dW_451 : decode code 451 = .ok (.iaload, 1) := by decide +kernel
theorem dW_452 : decode code 452 = .ok (.i2l, 1) := by decide +kernel
theorem dW_453 : decode code 453 = .ok (.ldc2_w 13, 3) := by decide +kernel
theorem dW_456 : decode code 456 = .ok (.land, 1) := by decide +kernel
theorem dW_457 : decode code 457 = .ok (.lor, 1) := by decide +kernel
theorem dW_458 : decode code 458 = .ok (.invokevirtual 33, 3) := by decide +kernel
theorem dW_461 : decode code 461 = .ok (.if_icmp .eq 786, 3) := by decide +kernel
theorem dW_464 : decode code 464 = .ok (.iconst 0, 1) := by decide +kernel
theorem dW_465 : decode code 465 = .ok (.ireturn, 1) := by decide +kernel
theorem dW_466 : decode code 466 = .ok (.aload_n 1, 1) := by decide +kernel
theorem dW_467 : decode code 467 = .ok (.aload_n 0, 1) := by decide +kernel
theorem dW_468 : decode code 468 = .ok (.iload_n 3, 1) := by decide +kernel
theorem dW_469 : decode code 469 = .ok (.iconst 1, 1) := by decide +kernel
theorem dW_470 : decode code 470 = .ok (.iadd, 1) := by decide +kernel
theorem dW_471 : decode code 471 = .ok (.iaload, 1) := by decide +kernel
theorem dW_472 : decode code 472 = .ok (.aload_n 0, 1) := by decide +kernel
theorem dW_473 : decode code 473 = .ok (.iload_n 3, 1) := by decide +kernel
theorem dW_474 : decode code 474 = .ok (.iconst 2, 1) := by decide +kernel
theorem dW_475 : decode code 475 = .ok (.iadd, 1) := by decide +kernel
theorem dW_476 : decode code 476 = .ok (.iaload, 1) := by decide +kernel
theorem dW_477 : decode code 477 = .ok (.i2l, 1) := by decide +kernel
theorem dW_478 : decode code 478 = .ok (.bipush 32, 2) := by decide +kernel
theorem dW_480 : decode code 480 = .ok (.lshl, 1) := by decide +kernel
theorem dW_481 : decode code 481 = .ok (.aload_n 0, 1) := by decide +kernel
theorem dW_482 : decode code 482 = .ok (.iload_n 3, 1) := by decide +kernel
theorem dW_483 : decode code 483 = .ok (.iconst 3, 1) := by decide +kernel
theorem dW_484 : decode code 484 = .ok (.iadd, 1) := by decide +kernel
theorem dW_485 : decode code 485 = .ok (.iaload, 1) := by decide +kernel
theorem dW_486 : decode code 486 = .ok (.i2l, 1) := by decide +kernel
theorem dW_487 : decode code 487 = .ok (.ldc2_w 13, 3) := by decide +kernel
theorem dW_490 : decode code 490 = .ok (.land, 1) := by decide +kernel
theorem dW_491 : decode code 491 = .ok (.lor, 1) := by decide +kernel
theorem dW_492 : decode code 492 = .ok (.invokevirtual 34, 3) := by decide +kernel
theorem dW_495 : decode code 495 = .ok (.aload_n 2, 1) := by decide +kernel
theorem dW_496 : decode code 496 = .ok (.aload_n 0, 1) := by decide +kernel
