theorem dL_law_0 : decode code 0 = .ok (.new 7, 3) := by decide +kernel
theorem dL_law_3 : decode code 3 = .ok (.dup, 1) := by decide +kernel
theorem dL_law_4 : decode code 4 = .ok (.invokespecial 9, 3) := by decide +kernel
theorem dL_law_7 : decode code 7 = .ok (.astore_n 1, 1) := by decide +kernel
theorem dL_law_8 : decode code 8 = .ok (.new 10, 3) := by decide +kernel
theorem dL_law_11 : decode code 11 = .ok (.dup, 1) := by decide +kernel
theorem dL_law_12 : decode code 12 = .ok (.invokespecial 12, 3) := by decide +kernel
theorem dL_law_15 : decode code 15 = .ok (.astore_n 2, 1) := by decide +kernel
theorem dL_law_16 : decode code 16 = .ok (.iconst 0, 1) := by decide +kernel
theorem dL_law_17 : decode code 17 = .ok (.istore_n 3, 1) := by decide +kernel
theorem dL_law_18 : decode code 18 = .ok (.iload_n 3, 1) := by decide +kernel
theorem dL_law_19 : decode code 19 = .ok (.aload_n 0, 1) := by decide +kernel
theorem dL_law_20 : decode code 20 = .ok (.arraylength, 1) := by decide +kernel
theorem dL_law_21 : decode code 21 = .ok (.bipush 6, 2) := by decide +kernel
theorem dL_law_23 : decode code 23 = .ok (.isub, 1) := by decide +kernel
theorem dL_law_24 : decode code 24 = .ok (.if_icmp .gt 2323, 3) := by decide +kernel
theorem dL_law_27 : decode code 27 = .ok (.aload_n 0, 1) := by decide +kernel
theorem dL_law_28 : decode code 28 = .ok (.iload_n 3, 1) := by decide +kernel
theorem dL_law_29 : decode code 29 = .ok (.iaload, 1) := by decide +kernel
theorem dL_law_30 : decode code 30 = .ok (.bipush 63, 2) := by decide +kernel
theorem dL_law_32 : decode code 32 = .ok (.iand, 1) := by decide +kernel
theorem dL_law_33 : decode code 33 = .ok (.tableswitch 2308 0 54 #[235, 278, 311, 354, 387, 410, 453, 496, 539, 572, 615, 668, 731, 774, 817, 870, 913, 956, 1009, 1062, 1125, 1148, 1171, 1204, 1227, 1260, 1313, 1336, 1359, 1382, 1415, 1438, 1481, 1504, 1563, 1632, 1665, 1708, 1751, 1794, 1827, 1886, 1909, 1942, 1975, 2008, 2051, 2084, 2107, 2140, 2183, 2216, 2259, 2272, 2285], 235) := by decide +kernel
theorem dL_law_268 : decode code 268 = .ok (.aload_n 1, 1) := by decide +kernel
theorem dL_law_269 : decode code 269 = .ok (.aload_n 0, 1) := by decide +kernel
theorem dL_law_270 : decode code 270 = .ok (.iload_n 3, 1) := by decide +kernel
theorem dL_law_271 : decode code 271 = .ok (.iconst 1, 1) := by decide +kernel
theorem dL_law_272 : decode code 272 = .ok (.iadd, 1) := by decide +kernel
theorem dL_law_273 : decode code 273 = .ok (.iaload, 1) := by decide +kernel
theorem dL_law_274 : decode code 274 = .ok (.aload_n 0, 1) := by decide +kernel
theorem dL_law_275 : decode code 275 = .ok (.iload_n 3, 1) := by decide +kernel
theorem dL_law_276 : decode code 276 = .ok (.iconst 2, 1) := by decide +kernel
theorem dL_law_277 : decode code 277 = .ok (.iadd, 1) := by decide +kernel
theorem dL_law_278 : decode code 278 = .ok (.iaload, 1) := by decide +kernel
theorem dL_law_279 : decode code 279 = .ok (.aload_n 0, 1) := by decide +kernel
theorem dL_law_280 : decode code 280 = .ok (.iload_n 3, 1) := by decide +kernel
theorem dL_law_281 : decode code 281 = .ok (.iconst 3, 1) := by decide +kernel
theorem dL_law_282 : decode code 282 = .ok (.iadd, 1) := by decide +kernel
theorem dL_law_283 : decode code 283 = .ok (.iaload, 1) := by decide +kernel
theorem dL_law_284 : decode code 284 = .ok (.invokevirtual 13, 3) := by decide +kernel
theorem dL_law_287 : decode code 287 = .ok (.aload_n 2, 1) := by decide +kernel
theorem dL_law_288 : decode code 288 = .ok (.aload_n 0, 1) := by decide +kernel
theorem dL_law_289 : decode code 289 = .ok (.iload_n 3, 1) := by decide +kernel
theorem dL_law_290 : decode code 290 = .ok (.iconst 1, 1) := by decide +kernel
theorem dL_law_291 : decode code 291 = .ok (.iadd, 1) := by decide +kernel
theorem dL_law_292 : decode code 292 = .ok (.iaload, 1) := by decide +kernel
theorem dL_law_293 : decode code 293 = .ok (.aload_n 0, 1) := by decide +kernel
theorem dL_law_294 : decode code 294 = .ok (.iload_n 3, 1) := by decide +kernel
theorem dL_law_295 : decode code 295 = .ok (.iconst 2, 1) := by decide +kernel
theorem dL_law_296 : decode code 296 = .ok (.iadd, 1) := by decide +kernel
theorem dL_law_297 : decode code 297 = .ok (.iaload, 1) := by decide +kernel
theorem dL_law_298 : decode code 298 = .ok (.aload_n 0, 1) := by decide +kernel
theorem dL_law_299 : decode code 299 = .ok (.iload_n 3, 1) := by decide +kernel
theorem dL_law_300 : decode code 300 = .ok (.iconst 3, 1) := by decide +kernel
theorem dL_law_301 : decode code 301 = .ok (.iadd, 1) := by decide +kernel
theorem dL_law_302 : decode code 302 = .ok (.iaload, 1) := by decide +kernel
theorem dL_law_303 : decode code 303 = .ok (.invokevirtual 17, 3) := by decide +kernel
theorem dL_law_306 : decode code 306 = .ok (.if_icmp .eq 2035, 3) := by decide +kernel
theorem dL_law_309 : decode code 309 = .ok (.iconst 0, 1) := by decide +kernel
theorem dL_law_310 : decode code 310 = .ok (.ireturn, 1) := by decide +kernel
theorem dL_law_311 : decode code 311 = .ok (.aload_n 1, 1) := by decide +kernel
theorem dL_law_312 : decode code 312 = .ok (.aload_n 0, 1) := by decide +kernel
theorem dL_law_313 : decode code 313 = .ok (.iload_n 3, 1) := by decide +kernel
theorem dL_law_314 : decode code 314 = .ok (.iconst 1, 1) := by decide +kernel
theorem dL_law_315 : decode code 315 = .ok (.iadd, 1) := by decide +kernel
theorem dL_law_316 : decode code 316 = .ok (.iaload, 1) := by decide +kernel
theorem dL_law_317 : decode code 317 = .ok (.aload_n 0, 1) := by decide +kernel
theorem dL_law_318 : decode code 318 = .ok (.iload_n 3, 1) := by decide +kernel
theorem dL_law_319 : decode code 319 = .ok (.iconst 2, 1) := by decide +kernel
theorem dL_law_320 : decode code 320 = .ok (.iadd, 1) := by decide +kernel
theorem dL_law_321 : decode code 321 = .ok (.iaload, 1) := by decide +kernel
theorem dL_law_322 : decode code 322 = .ok (.invokevirtual 18, 3) := by decide +kernel
theorem dL_law_325 : decode code 325 = .ok (.aload_n 2, 1) := by decide +kernel
theorem dL_law_326 : decode code 326 = .ok (.aload_n 0, 1) := by decide +kernel
theorem dL_law_327 : decode code 327 = .ok (.iload_n 3, 1) := by decide +kernel
theorem dL_law_328 : decode code 328 = .ok (.iconst 1, 1) := by decide +kernel
theorem dL_law_329 : decode code 329 = .ok (.iadd, 1) := by decide +kernel
theorem dL_law_330 : decode code 330 = .ok (.iaload, 1) := by decide +kernel
theorem dL_law_331 : decode code 331 = .ok (.aload_n 0, 1) := by decide +kernel
theorem dL_law_332 : decode code 332 = .ok (.iload_n 3, 1) := by decide +kernel
theorem dL_law_333 : decode code 333 = .ok (.iconst 2, 1) := by decide +kernel
theorem dL_law_334 : decode code 334 = .ok (.iadd, 1) := by decide +kernel
theorem dL_law_335 : decode code 335 = .ok (.iaload, 1) := by decide +kernel
theorem dL_law_336 : decode code 336 = .ok (.invokevirtual 22, 3) := by decide +kernel
theorem dL_law_339 : decode code 339 = .ok (.if_icmp .eq 2002, 3) := by decide +kernel
theorem dL_law_342 : decode code 342 = .ok (.iconst 0, 1) := by decide +kernel
theorem dL_law_343 : decode code 343 = .ok (.ireturn, 1) := by decide +kernel
theorem dL_law_344 : decode code 344 = .ok (.aload_n 1, 1) := by decide +kernel
theorem dL_law_345 : decode code 345 = .ok (.aload_n 0, 1) := by decide +kernel
theorem dL_law_346 : decode code 346 = .ok (.iload_n 3, 1) := by decide +kernel
theorem dL_law_347 : decode code 347 = .ok (.iconst 1, 1) := by decide +kernel
theorem dL_law_348 : decode code 348 = .ok (.iadd, 1) := by decide +kernel
theorem dL_law_349 : decode code 349 = .ok (.iaload, 1) := by decide +kernel
theorem dL_law_350 : decode code 350 = .ok (.aload_n 0, 1) := by decide +kernel
theorem dL_law_351 : decode code 351 = .ok (.iload_n 3, 1) := by decide +kernel
theorem dL_law_352 : decode code 352 = .ok (.iconst 2, 1) := by decide +kernel
theorem dL_law_353 : decode code 353 = .ok (.iadd, 1) := by decide +kernel
theorem dL_law_354 : decode code 354 = .ok (.iaload, 1) := by decide +kernel
theorem dL_law_355 : decode code 355 = .ok (.aload_n 0, 1) := by decide +kernel
theorem dL_law_356 : decode code 356 = .ok (.iload_n 3, 1) := by decide +kernel
theorem dL_law_357 : decode code 357 = .ok (.iconst 3, 1) := by decide +kernel
theorem dL_law_358 : decode code 358 = .ok (.iadd, 1) := by decide +kernel
theorem dL_law_359 : decode code 359 = .ok (.iaload, 1) := by decide +kernel
theorem dL_law_360 : decode code 360 = .ok (.invokevirtual 23, 3) := by decide +kernel
theorem dL_law_363 : decode code 363 = .ok (.aload_n 2, 1) := by decide +kernel
theorem dL_law_364 : decode code 364 = .ok (.aload_n 0, 1) := by decide +kernel
theorem dL_law_365 : decode code 365 = .ok (.iload_n 3, 1) := by decide +kernel
theorem dL_law_366 : decode code 366 = .ok (.iconst 1, 1) := by decide +kernel
theorem dL_law_367 : decode code 367 = .ok (.iadd, 1) := by decide +kernel
theorem dL_law_368 : decode code 368 = .ok (.iaload, 1) := by decide +kernel
theorem dL_law_369 : decode code 369 = .ok (.aload_n 0, 1) := by decide +kernel
theorem dL_law_370 : decode code 370 = .ok (.iload_n 3, 1) := by decide +kernel
theorem dL_law_371 : decode code 371 = .ok (.iconst 2, 1) := by decide +kernel
theorem dL_law_372 : decode code 372 = .ok (.iadd, 1) := by decide +kernel
theorem dL_law_373 : decode code 373 = .ok (.iaload, 1) := by decide +kernel
theorem dL_law_374 : decode code 374 = .ok (.aload_n 0, 1) := by decide +kernel
theorem dL_law_375 : decode code 375 = .ok (.iload_n 3, 1) := by decide +kernel
theorem dL_law_376 : decode code 376 = .ok (.iconst 3, 1) := by decide +kernel
theorem dL_law_377 : decode code 377 = .ok (.iadd, 1) := by decide +kernel
theorem dL_law_378 : decode code 378 = .ok (.iaload, 1) := by decide +kernel
theorem dL_law_379 : decode code 379 = .ok (.invokevirtual 26, 3) := by decide +kernel
theorem dL_law_382 : decode code 382 = .ok (.if_icmp .eq 1959, 3) := by decide +kernel
theorem dL_law_385 : decode code 385 = .ok (.iconst 0, 1) := by decide +kernel
theorem dL_law_386 : decode code 386 = .ok (.ireturn, 1) := by decide +kernel
theorem dL_law_387 : decode code 387 = .ok (.aload_n 1, 1) := by decide +kernel
theorem dL_law_388 : decode code 388 = .ok (.aload_n 0, 1) := by decide +kernel
theorem dL_law_389 : decode code 389 = .ok (.iload_n 3, 1) := by decide +kernel
theorem dL_law_390 : decode code 390 = .ok (.iconst 1, 1) := by decide +kernel
theorem dL_law_391 : decode code 391 = .ok (.iadd, 1) := by decide +kernel
theorem dL_law_392 : decode code 392 = .ok (.iaload, 1) := by decide +kernel
theorem dL_law_393 : decode code 393 = .ok (.aload_n 0, 1) := by decide +kernel
theorem dL_law_394 : decode code 394 = .ok (.iload_n 3, 1) := by decide +kernel
theorem dL_law_395 : decode code 395 = .ok (.iconst 2, 1) := by decide +kernel
theorem dL_law_396 : decode code 396 = .ok (.iadd, 1) := by decide +kernel
theorem dL_law_397 : decode code 397 = .ok (.iaload, 1) := by decide +kernel
theorem dL_law_398 : decode code 398 = .ok (.invokevirtual 27, 3) := by decide +kernel
theorem dL_law_401 : decode code 401 = .ok (.aload_n 2, 1) := by decide +kernel
theorem dL_law_402 : decode code 402 = .ok (.aload_n 0, 1) := by decide +kernel
theorem dL_law_403 : decode code 403 = .ok (.iload_n 3, 1) := by decide +kernel
theorem dL_law_404 : decode code 404 = .ok (.iconst 1, 1) := by decide +kernel
theorem dL_law_405 : decode code 405 = .ok (.iadd, 1) := by decide +kernel
theorem dL_law_406 : decode code 406 = .ok (.iaload, 1) := by decide +kernel
theorem dL_law_407 : decode code 407 = .ok (.aload_n 0, 1) := by decide +kernel
theorem dL_law_408 : decode code 408 = .ok (.iload_n 3, 1) := by decide +kernel
theorem dL_law_409 : decode code 409 = .ok (.iconst 2, 1) := by decide +kernel
theorem dL_law_410 : decode code 410 = .ok (.iadd, 1) := by decide +kernel
theorem dL_law_411 : decode code 411 = .ok (.iaload, 1) := by decide +kernel
theorem dL_law_412 : decode code 412 = .ok (.invokevirtual 30, 3) := by decide +kernel
theorem dL_law_415 : decode code 415 = .ok (.if_icmp .eq 1926, 3) := by decide +kernel
theorem dL_law_418 : decode code 418 = .ok (.iconst 0, 1) := by decide +kernel
theorem dL_law_419 : decode code 419 = .ok (.ireturn, 1) := by decide +kernel
theorem dL_law_420 : decode code 420 = .ok (.aload_n 1, 1) := by decide +kernel
theorem dL_law_421 : decode code 421 = .ok (.aload_n 0, 1) := by decide +kernel
theorem dL_law_422 : decode code 422 = .ok (.iload_n 3, 1) := by decide +kernel
theorem dL_law_423 : decode code 423 = .ok (.iconst 1, 1) := by decide +kernel
theorem dL_law_424 : decode code 424 = .ok (.iadd, 1) := by decide +kernel
theorem dL_law_425 : decode code 425 = .ok (.iaload, 1) := by decide +kernel
theorem dL_law_426 : decode code 426 = .ok (.invokevirtual 31, 3) := by decide +kernel
theorem dL_law_429 : decode code 429 = .ok (.aload_n 2, 1) := by decide +kernel
theorem dL_law_430 : decode code 430 = .ok (.aload_n 0, 1) := by decide +kernel
theorem dL_law_431 : decode code 431 = .ok (.iload_n 3, 1) := by decide +kernel
theorem dL_law_432 : decode code 432 = .ok (.iconst 1, 1) := by decide +kernel
theorem dL_law_433 : decode code 433 = .ok (.iadd, 1) := by decide +kernel
theorem dL_law_434 : decode code 434 = .ok (.iaload, 1) := by decide +kernel
theorem dL_law_435 : decode code 435 = .ok (.invokevirtual 35, 3) := by decide +kernel
theorem dL_law_438 : decode code 438 = .ok (.if_icmp .eq 1903, 3) := by decide +kernel
theorem dL_law_441 : decode code 441 = .ok (.iconst 0, 1) := by decide +kernel
theorem dL_law_442 : decode code 442 = .ok (.ireturn, 1) := by decide +kernel
theorem dL_law_443 : decode code 443 = .ok (.aload_n 1, 1) := by decide +kernel
theorem dL_law_444 : decode code 444 = .ok (.aload_n 0, 1) := by decide +kernel
theorem dL_law_445 : decode code 445 = .ok (.iload_n 3, 1) := by decide +kernel
theorem dL_law_446 : decode code 446 = .ok (.iconst 1, 1) := by decide +kernel
theorem dL_law_447 : decode code 447 = .ok (.iadd, 1) := by decide +kernel
theorem dL_law_448 : decode code 448 = .ok (.iaload, 1) := by decide +kernel
theorem dL_law_449 : decode code 449 = .ok (.aload_n 0, 1) := by decide +kernel
theorem dL_law_450 : decode code 450 = .ok (.iload_n 3, 1) := by decide +kernel
theorem dL_law_451 : decode code 451 = .ok (.iconst 2, 1) := by decide +kernel
theorem dL_law_452 : decode code 452 = .ok (.iadd, 1) := by decide +kernel
theorem dL_law_453 : decode code 453 = .ok (.iaload, 1) := by decide +kernel
theorem dL_law_454 : decode code 454 = .ok (.aload_n 0, 1) := by decide +kernel
theorem dL_law_455 : decode code 455 = .ok (.iload_n 3, 1) := by decide +kernel
theorem dL_law_456 : decode code 456 = .ok (.iconst 3, 1) := by decide +kernel
theorem dL_law_457 : decode code 457 = .ok (.iadd, 1) := by decide +kernel
theorem dL_law_458 : decode code 458 = .ok (.iaload, 1) := by decide +kernel
theorem dL_law_459 : decode code 459 = .ok (.invokevirtual 36, 3) := by decide +kernel
theorem dL_law_462 : decode code 462 = .ok (.aload_n 2, 1) := by decide +kernel
theorem dL_law_463 : decode code 463 = .ok (.aload_n 0, 1) := by decide +kernel
theorem dL_law_464 : decode code 464 = .ok (.iload_n 3, 1) := by decide +kernel
theorem dL_law_465 : decode code 465 = .ok (.iconst 1, 1) := by decide +kernel
theorem dL_law_466 : decode code 466 = .ok (.iadd, 1) := by decide +kernel
theorem dL_law_467 : decode code 467 = .ok (.iaload, 1) := by decide +kernel
theorem dL_law_468 : decode code 468 = .ok (.aload_n 0, 1) := by decide +kernel
theorem dL_law_469 : decode code 469 = .ok (.iload_n 3, 1) := by decide +kernel
theorem dL_law_470 : decode code 470 = .ok (.iconst 2, 1) := by decide +kernel
theorem dL_law_471 : decode code 471 = .ok (.iadd, 1) := by decide +kernel
theorem dL_law_472 : decode code 472 = .ok (.iaload, 1) := by decide +kernel
theorem dL_law_473 : decode code 473 = .ok (.aload_n 0, 1) := by decide +kernel
theorem dL_law_474 : decode code 474 = .ok (.iload_n 3, 1) := by decide +kernel
theorem dL_law_475 : decode code 475 = .ok (.iconst 3, 1) := by decide +kernel
theorem dL_law_476 : decode code 476 = .ok (.iadd, 1) := by decide +kernel
theorem dL_law_477 : decode code 477 = .ok (.iaload, 1) := by decide +kernel
theorem dL_law_478 : decode code 478 = .ok (.invokevirtual 40, 3) := by decide +kernel
theorem dL_law_481 : decode code 481 = .ok (.if_icmp .eq 1860, 3) := by decide +kernel
theorem dL_law_484 : decode code 484 = .ok (.iconst 0, 1) := by decide +kernel
theorem dL_law_485 : decode code 485 = .ok (.ireturn, 1) := by decide +kernel
theorem dL_law_486 : decode code 486 = .ok (.aload_n 1, 1) := by decide +kernel
theorem dL_law_487 : decode code 487 = .ok (.aload_n 0, 1) := by decide +kernel
theorem dL_law_488 : decode code 488 = .ok (.iload_n 3, 1) := by decide +kernel
theorem dL_law_489 : decode code 489 = .ok (.iconst 1, 1) := by decide +kernel
theorem dL_law_490 : decode code 490 = .ok (.iadd, 1) := by decide +kernel
theorem dL_law_491 : decode code 491 = .ok (.iaload, 1) := by decide +kernel
theorem dL_law_492 : decode code 492 = .ok (.aload_n 0, 1) := by decide +kernel
theorem dL_law_493 : decode code 493 = .ok (.iload_n 3, 1) := by decide +kernel
theorem dL_law_494 : decode code 494 = .ok (.iconst 2, 1) := by decide +kernel
theorem dL_law_495 : decode code 495 = .ok (.iadd, 1) := by decide +kernel
theorem dL_law_496 : decode code 496 = .ok (.iaload, 1) := by decide +kernel
theorem dL_law_497 : decode code 497 = .ok (.aload_n 0, 1) := by decide +kernel
theorem dL_law_498 : decode code 498 = .ok (.iload_n 3, 1) := by decide +kernel
theorem dL_law_499 : decode code 499 = .ok (.iconst 3, 1) := by decide +kernel
theorem dL_law_500 : decode code 500 = .ok (.iadd, 1) := by decide +kernel
theorem dL_law_501 : decode code 501 = .ok (.iaload, 1) := by decide +kernel
theorem dL_law_502 : decode code 502 = .ok (.invokevirtual 41, 3) := by decide +kernel
theorem dL_law_505 : decode code 505 = .ok (.aload_n 2, 1) := by decide +kernel
theorem dL_law_506 : decode code 506 = .ok (.aload_n 0, 1) := by decide +kernel
theorem dL_law_507 : decode code 507 = .ok (.iload_n 3, 1) := by decide +kernel
theorem dL_law_508 : decode code 508 = .ok (.iconst 1, 1) := by decide +kernel
theorem dL_law_509 : decode code 509 = .ok (.iadd, 1) := by decide +kernel
theorem dL_law_510 : decode code 510 = .ok (.iaload, 1) := by decide +kernel
theorem dL_law_511 : decode code 511 = .ok (.aload_n 0, 1) := by decide +kernel
theorem dL_law_512 : decode code 512 = .ok (.iload_n 3, 1) := by decide +kernel
theorem dL_law_513 : decode code 513 = .ok (.iconst 2, 1) := by decide +kernel
theorem dL_law_514 : decode code 514 = .ok (.iadd, 1) := by decide +kernel
theorem dL_law_515 : decode code 515 = .ok (.iaload, 1) := by decide +kernel
theorem dL_law_516 : decode code 516 = .ok (.aload_n 0, 1) := by decide +kernel
theorem dL_law_517 : decode code 517 = .ok (.iload_n 3, 1) := by decide +kernel
theorem dL_law_518 : decode code 518 = .ok (.iconst 3, 1) := by decide +kernel
theorem dL_law_519 : decode code 519 = .ok (.iadd, 1) := by decide +kernel
theorem dL_law_520 : decode code 520 = .ok (.iaload, 1) := by decide +kernel
theorem dL_law_521 : decode code 521 = .ok (.invokevirtual 44, 3) := by decide +kernel
theorem dL_law_524 : decode code 524 = .ok (.if_icmp .eq 1817, 3) := by decide +kernel
theorem dL_law_527 : decode code 527 = .ok (.iconst 0, 1) := by decide +kernel
theorem dL_law_528 : decode code 528 = .ok (.ireturn, 1) := by decide +kernel
theorem dL_law_529 : decode code 529 = .ok (.aload_n 1, 1) := by decide +kernel
theorem dL_law_530 : decode code 530 = .ok (.aload_n 0, 1) := by decide +kernel
theorem dL_law_531 : decode code 531 = .ok (.iload_n 3, 1) := by decide +kernel
theorem dL_law_532 : decode code 532 = .ok (.iconst 1, 1) := by decide +kernel
theorem dL_law_533 : decode code 533 = .ok (.iadd, 1) := by decide +kernel
theorem dL_law_534 : decode code 534 = .ok (.iaload, 1) := by decide +kernel
theorem dL_law_535 : decode code 535 = .ok (.aload_n 0, 1) := by decide +kernel
theorem dL_law_536 : decode code 536 = .ok (.iload_n 3, 1) := by decide +kernel
theorem dL_law_537 : decode code 537 = .ok (.iconst 2, 1) := by decide +kernel
theorem dL_law_538 : decode code 538 = .ok (.iadd, 1) := by decide +kernel
theorem dL_law_539 : decode code 539 = .ok (.iaload, 1) := by decide +kernel
theorem dL_law_540 : decode code 540 = .ok (.aload_n 0, 1) := by decide +kernel
theorem dL_law_541 : decode code 541 = .ok (.iload_n 3, 1) := by decide +kernel
theorem dL_law_542 : decode code 542 = .ok (.iconst 3, 1) := by decide +kernel
theorem dL_law_543 : decode code 543 = .ok (.iadd, 1) := by decide +kernel
theorem dL_law_544 : decode code 544 = .ok (.iaload, 1) := by decide +kernel
theorem dL_law_545 : decode code 545 = .ok (.invokevirtual 45, 3) := by decide +kernel
theorem dL_law_548 : decode code 548 = .ok (.aload_n 2, 1) := by decide +kernel
theorem dL_law_549 : decode code 549 = .ok (.aload_n 0, 1) := by decide +kernel
theorem dL_law_550 : decode code 550 = .ok (.iload_n 3, 1) := by decide +kernel
theorem dL_law_551 : decode code 551 = .ok (.iconst 1, 1) := by decide +kernel
theorem dL_law_552 : decode code 552 = .ok (.iadd, 1) := by decide +kernel
theorem dL_law_553 : decode code 553 = .ok (.iaload, 1) := by decide +kernel
theorem dL_law_554 : decode code 554 = .ok (.aload_n 0, 1) := by decide +kernel
theorem dL_law_555 : decode code 555 = .ok (.iload_n 3, 1) := by decide +kernel
theorem dL_law_556 : decode code 556 = .ok (.iconst 2, 1) := by decide +kernel
theorem dL_law_557 : decode code 557 = .ok (.iadd, 1) := by decide +kernel
theorem dL_law_558 : decode code 558 = .ok (.iaload, 1) := by decide +kernel
theorem dL_law_559 : decode code 559 = .ok (.aload_n 0, 1) := by decide +kernel
theorem dL_law_560 : decode code 560 = .ok (.iload_n 3, 1) := by decide +kernel
theorem dL_law_561 : decode code 561 = .ok (.iconst 3, 1) := by decide +kernel
theorem dL_law_562 : decode code 562 = .ok (.iadd, 1) := by decide +kernel
theorem dL_law_563 : decode code 563 = .ok (.iaload, 1) := by decide +kernel
theorem dL_law_564 : decode code 564 = .ok (.invokevirtual 48, 3) := by decide +kernel
theorem dL_law_567 : decode code 567 = .ok (.if_icmp .eq 1774, 3) := by decide +kernel
theorem dL_law_570 : decode code 570 = .ok (.iconst 0, 1) := by decide +kernel
theorem dL_law_571 : decode code 571 = .ok (.ireturn, 1) := by decide +kernel
theorem dL_law_572 : decode code 572 = .ok (.aload_n 1, 1) := by decide +kernel
theorem dL_law_573 : decode code 573 = .ok (.aload_n 0, 1) := by decide +kernel
theorem dL_law_574 : decode code 574 = .ok (.iload_n 3, 1) := by decide +kernel
theorem dL_law_575 : decode code 575 = .ok (.iconst 1, 1) := by decide +kernel
theorem dL_law_576 : decode code 576 = .ok (.iadd, 1) := by decide +kernel
theorem dL_law_577 : decode code 577 = .ok (.iaload, 1) := by decide +kernel
theorem dL_law_578 : decode code 578 = .ok (.aload_n 0, 1) := by decide +kernel
theorem dL_law_579 : decode code 579 = .ok (.iload_n 3, 1) := by decide +kernel
theorem dL_law_580 : decode code 580 = .ok (.iconst 2, 1) := by decide +kernel
theorem dL_law_581 : decode code 581 = .ok (.iadd, 1) := by decide +kernel
theorem dL_law_582 : decode code 582 = .ok (.iaload, 1) := by decide +kernel
theorem dL_law_583 : decode code 583 = .ok (.invokevirtual 49, 3) := by decide +kernel
theorem dL_law_586 : decode code 586 = .ok (.aload_n 2, 1) := by decide +kernel
theorem dL_law_587 : decode code 587 = .ok (.aload_n 0, 1) := by decide +kernel
theorem dL_law_588 : decode code 588 = .ok (.iload_n 3, 1) := by decide +kernel
theorem dL_law_589 : decode code 589 = .ok (.iconst 1, 1) := by decide +kernel
theorem dL_law_590 : decode code 590 = .ok (.iadd, 1) := by decide +kernel
theorem dL_law_591 : decode code 591 = .ok (.iaload, 1) := by decide +kernel
theorem dL_law_592 : decode code 592 = .ok (.aload_n 0, 1) := by decide +kernel
theorem dL_law_593 : decode code 593 = .ok (.iload_n 3, 1) := by decide +kernel
theorem dL_law_594 : decode code 594 = .ok (.iconst 2, 1) := by decide +kernel
theorem dL_law_595 : decode code 595 = .ok (.iadd, 1) := by decide +kernel
theorem dL_law_596 : decode code 596 = .ok (.iaload, 1) := by decide +kernel
theorem dL_law_597 : decode code 597 = .ok (.invokevirtual 53, 3) := by decide +kernel
theorem dL_law_600 : decode code 600 = .ok (.if_icmp .eq 1741, 3) := by decide +kernel
theorem dL_law_603 : decode code 603 = .ok (.iconst 0, 1) := by decide +kernel
theorem dL_law_604 : decode code 604 = .ok (.ireturn, 1) := by decide +kernel
theorem dL_law_605 : decode code 605 = .ok (.aload_n 1, 1) := by decide +kernel
theorem dL_law_606 : decode code 606 = .ok (.aload_n 0, 1) := by decide +kernel
theorem dL_law_607 : decode code 607 = .ok (.iload_n 3, 1) := by decide +kernel
theorem dL_law_608 : decode code 608 = .ok (.iconst 1, 1) := by decide +kernel
theorem dL_law_609 : decode code 609 = .ok (.iadd, 1) := by decide +kernel
theorem dL_law_610 : decode code 610 = .ok (.iaload, 1) := by decide +kernel
theorem dL_law_611 : decode code 611 = .ok (.aload_n 0, 1) := by decide +kernel
theorem dL_law_612 : decode code 612 = .ok (.iload_n 3, 1) := by decide +kernel
theorem dL_law_613 : decode code 613 = .ok (.iconst 2, 1) := by decide +kernel
theorem dL_law_614 : decode code 614 = .ok (.iadd, 1) := by decide +kernel
theorem dL_law_615 : decode code 615 = .ok (.iaload, 1) := by decide +kernel
theorem dL_law_616 : decode code 616 = .ok (.aload_n 0, 1) := by decide +kernel
theorem dL_law_617 : decode code 617 = .ok (.iload_n 3, 1) := by decide +kernel
theorem dL_law_618 : decode code 618 = .ok (.iconst 3, 1) := by decide +kernel
theorem dL_law_619 : decode code 619 = .ok (.iadd, 1) := by decide +kernel
theorem dL_law_620 : decode code 620 = .ok (.iaload, 1) := by decide +kernel
theorem dL_law_621 : decode code 621 = .ok (.invokevirtual 54, 3) := by decide +kernel
theorem dL_law_624 : decode code 624 = .ok (.aload_n 2, 1) := by decide +kernel
theorem dL_law_625 : decode code 625 = .ok (.aload_n 0, 1) := by decide +kernel
theorem dL_law_626 : decode code 626 = .ok (.iload_n 3, 1) := by decide +kernel
theorem dL_law_627 : decode code 627 = .ok (.iconst 1, 1) := by decide +kernel
theorem dL_law_628 : decode code 628 = .ok (.iadd, 1) := by decide +kernel
theorem dL_law_629 : decode code 629 = .ok (.iaload, 1) := by decide +kernel
theorem dL_law_630 : decode code 630 = .ok (.aload_n 0, 1) := by decide +kernel
theorem dL_law_631 : decode code 631 = .ok (.iload_n 3, 1) := by decide +kernel
theorem dL_law_632 : decode code 632 = .ok (.iconst 2, 1) := by decide +kernel
theorem dL_law_633 : decode code 633 = .ok (.iadd, 1) := by decide +kernel
theorem dL_law_634 : decode code 634 = .ok (.iaload, 1) := by decide +kernel
theorem dL_law_635 : decode code 635 = .ok (.aload_n 0, 1) := by decide +kernel
theorem dL_law_636 : decode code 636 = .ok (.iload_n 3, 1) := by decide +kernel
theorem dL_law_637 : decode code 637 = .ok (.iconst 3, 1) := by decide +kernel
theorem dL_law_638 : decode code 638 = .ok (.iadd, 1) := by decide +kernel
theorem dL_law_639 : decode code 639 = .ok (.iaload, 1) := by decide +kernel
theorem dL_law_640 : decode code 640 = .ok (.invokevirtual 57, 3) := by decide +kernel
theorem dL_law_643 : decode code 643 = .ok (.if_icmp .eq 1698, 3) := by decide +kernel
theorem dL_law_646 : decode code 646 = .ok (.iconst 0, 1) := by decide +kernel
theorem dL_law_647 : decode code 647 = .ok (.ireturn, 1) := by decide +kernel
theorem dL_law_648 : decode code 648 = .ok (.aload_n 1, 1) := by decide +kernel
theorem dL_law_649 : decode code 649 = .ok (.aload_n 0, 1) := by decide +kernel
theorem dL_law_650 : decode code 650 = .ok (.iload_n 3, 1) := by decide +kernel
theorem dL_law_651 : decode code 651 = .ok (.iconst 1, 1) := by decide +kernel
theorem dL_law_652 : decode code 652 = .ok (.iadd, 1) := by decide +kernel
theorem dL_law_653 : decode code 653 = .ok (.iaload, 1) := by decide +kernel
theorem dL_law_654 : decode code 654 = .ok (.aload_n 0, 1) := by decide +kernel
theorem dL_law_655 : decode code 655 = .ok (.iload_n 3, 1) := by decide +kernel
theorem dL_law_656 : decode code 656 = .ok (.iconst 2, 1) := by decide +kernel
theorem dL_law_657 : decode code 657 = .ok (.iadd, 1) := by decide +kernel
theorem dL_law_658 : decode code 658 = .ok (.iaload, 1) := by decide +kernel
theorem dL_law_659 : decode code 659 = .ok (.aload_n 0, 1) := by decide +kernel
theorem dL_law_660 : decode code 660 = .ok (.iload_n 3, 1) := by decide +kernel
theorem dL_law_661 : decode code 661 = .ok (.iconst 3, 1) := by decide +kernel
theorem dL_law_662 : decode code 662 = .ok (.iadd, 1) := by decide +kernel
theorem dL_law_663 : decode code 663 = .ok (.iaload, 1) := by decide +kernel
theorem dL_law_664 : decode code 664 = .ok (.aload_n 0, 1) := by decide +kernel
theorem dL_law_665 : decode code 665 = .ok (.iload_n 3, 1) := by decide +kernel
theorem dL_law_666 : decode code 666 = .ok (.iconst 4, 1) := by decide +kernel
theorem dL_law_667 : decode code 667 = .ok (.iadd, 1) := by decide +kernel
theorem dL_law_668 : decode code 668 = .ok (.iaload, 1) := by decide +kernel
theorem dL_law_669 : decode code 669 = .ok (.invokevirtual 58, 3) := by decide +kernel
theorem dL_law_672 : decode code 672 = .ok (.aload_n 2, 1) := by decide +kernel
theorem dL_law_673 : decode code 673 = .ok (.aload_n 0, 1) := by decide +kernel
theorem dL_law_674 : decode code 674 = .ok (.iload_n 3, 1) := by decide +kernel
theorem dL_law_675 : decode code 675 = .ok (.iconst 1, 1) := by decide +kernel
theorem dL_law_676 : decode code 676 = .ok (.iadd, 1) := by decide +kernel
theorem dL_law_677 : decode code 677 = .ok (.iaload, 1) := by decide +kernel
theorem dL_law_678 : decode code 678 = .ok (.aload_n 0, 1) := by decide +kernel
theorem dL_law_679 : decode code 679 = .ok (.iload_n 3, 1) := by decide +kernel
theorem dL_law_680 : decode code 680 = .ok (.iconst 2, 1) := by decide +kernel
theorem dL_law_681 : decode code 681 = .ok (.iadd, 1) := by decide +kernel
theorem dL_law_682 : decode code 682 = .ok (.iaload, 1) := by decide +kernel
theorem dL_law_683 : decode code 683 = .ok (.aload_n 0, 1) := by decide +kernel
theorem dL_law_684 : decode code 684 = .ok (.iload_n 3, 1) := by decide +kernel
theorem dL_law_685 : decode code 685 = .ok (.iconst 3, 1) := by decide +kernel
theorem dL_law_686 : decode code 686 = .ok (.iadd, 1) := by decide +kernel
theorem dL_law_687 : decode code 687 = .ok (.iaload, 1) := by decide +kernel
theorem dL_law_688 : decode code 688 = .ok (.aload_n 0, 1) := by decide +kernel
theorem dL_law_689 : decode code 689 = .ok (.iload_n 3, 1) := by decide +kernel
theorem dL_law_690 : decode code 690 = .ok (.iconst 4, 1) := by decide +kernel
theorem dL_law_691 : decode code 691 = .ok (.iadd, 1) := by decide +kernel
theorem dL_law_692 : decode code 692 = .ok (.iaload, 1) := by decide +kernel
theorem dL_law_693 : decode code 693 = .ok (.invokevirtual 62, 3) := by decide +kernel
theorem dL_law_696 : decode code 696 = .ok (.if_icmp .eq 1645, 3) := by decide +kernel
theorem dL_law_699 : decode code 699 = .ok (.iconst 0, 1) := by decide +kernel
theorem dL_law_700 : decode code 700 = .ok (.ireturn, 1) := by decide +kernel
theorem dL_law_701 : decode code 701 = .ok (.aload_n 1, 1) := by decide +kernel
theorem dL_law_702 : decode code 702 = .ok (.aload_n 0, 1) := by decide +kernel
theorem dL_law_703 : decode code 703 = .ok (.iload_n 3, 1) := by decide +kernel
theorem dL_law_704 : decode code 704 = .ok (.iconst 1, 1) := by decide +kernel
theorem dL_law_705 : decode code 705 = .ok (.iadd, 1) := by decide +kernel
theorem dL_law_706 : decode code 706 = .ok (.iaload, 1) := by decide +kernel
theorem dL_law_707 : decode code 707 = .ok (.aload_n 0, 1) := by decide +kernel
theorem dL_law_708 : decode code 708 = .ok (.iload_n 3, 1) := by decide +kernel
theorem dL_law_709 : decode code 709 = .ok (.iconst 2, 1) := by decide +kernel
theorem dL_law_710 : decode code 710 = .ok (.iadd, 1) := by decide +kernel
theorem dL_law_711 : decode code 711 = .ok (.iaload, 1) := by decide +kernel
theorem dL_law_712 : decode code 712 = .ok (.aload_n 0, 1) := by decide +kernel
theorem dL_law_713 : decode code 713 = .ok (.iload_n 3, 1) := by decide +kernel
theorem dL_law_714 : decode code 714 = .ok (.iconst 3, 1) := by decide +kernel
theorem dL_law_715 : decode code 715 = .ok (.iadd, 1) := by decide +kernel
theorem dL_law_716 : decode code 716 = .ok (.iaload, 1) := by decide +kernel
theorem dL_law_717 : decode code 717 = .ok (.aload_n 0, 1) := by decide +kernel
theorem dL_law_718 : decode code 718 = .ok (.iload_n 3, 1) := by decide +kernel
theorem dL_law_719 : decode code 719 = .ok (.iconst 4, 1) := by decide +kernel
theorem dL_law_720 : decode code 720 = .ok (.iadd, 1) := by decide +kernel
theorem dL_law_721 : decode code 721 = .ok (.iaload, 1) := by decide +kernel
theorem dL_law_722 : decode code 722 = .ok (.aload_n 0, 1) := by decide +kernel
theorem dL_law_723 : decode code 723 = .ok (.iload_n 3, 1) := by decide +kernel
theorem dL_law_724 : decode code 724 = .ok (.iconst 5, 1) := by decide +kernel
theorem dL_law_725 : decode code 725 = .ok (.iadd, 1) := by decide +kernel
theorem dL_law_726 : decode code 726 = .ok (.iaload, 1) := by decide +kernel
theorem dL_law_727 : decode code 727 = .ok (.invokevirtual 63, 3) := by decide +kernel
theorem dL_law_730 : decode code 730 = .ok (.aload_n 2, 1) := by decide +kernel
theorem dL_law_731 : decode code 731 = .ok (.aload_n 0, 1) := by decide +kernel
theorem dL_law_732 : decode code 732 = .ok (.iload_n 3, 1) := by decide +kernel
theorem dL_law_733 : decode code 733 = .ok (.iconst 1, 1) := by decide +kernel
theorem dL_law_734 : decode code 734 = .ok (.iadd, 1) := by decide +kernel
theorem dL_law_735 : decode code 735 = .ok (.iaload, 1) := by decide +kernel
theorem dL_law_736 : decode code 736 = .ok (.aload_n 0, 1) := by decide +kernel
theorem dL_law_737 : decode code 737 = .ok (.iload_n 3, 1) := by decide +kernel
theorem dL_law_738 : decode code 738 = .ok (.iconst 2, 1) := by decide +kernel
theorem dL_law_739 : decode code 739 = .ok (.iadd, 1) := by decide +kernel
theorem dL_law_740 : decode code 740 = .ok (.iaload, 1) := by decide +kernel
theorem dL_law_741 : decode code 741 = .ok (.aload_n 0, 1) := by decide +kernel
theorem dL_law_742 : decode code 742 = .ok (.iload_n 3, 1) := by decide +kernel
theorem dL_law_743 : decode code 743 = .ok (.iconst 3, 1) := by decide +kernel
theorem dL_law_744 : decode code 744 = .ok (.iadd, 1) := by decide +kernel
theorem dL_law_745 : decode code 745 = .ok (.iaload, 1) := by decide +kernel
theorem dL_law_746 : decode code 746 = .ok (.aload_n 0, 1) := by decide +kernel
theorem dL_law_747 : decode code 747 = .ok (.iload_n 3, 1) := by decide +kernel
theorem dL_law_748 : decode code 748 = .ok (.iconst 4, 1) := by decide +kernel
theorem dL_law_749 : decode code 749 = .ok (.iadd, 1) := by decide +kernel
theorem dL_law_750 : decode code 750 = .ok (.iaload, 1) := by decide +kernel
theorem dL_law_751 : decode code 751 = .ok (.aload_n 0, 1) := by decide +kernel
theorem dL_law_752 : decode code 752 = .ok (.iload_n 3, 1) := by decide +kernel
theorem dL_law_753 : decode code 753 = .ok (.iconst 5, 1) := by decide +kernel
theorem dL_law_754 : decode code 754 = .ok (.iadd, 1) := by decide +kernel
theorem dL_law_755 : decode code 755 = .ok (.iaload, 1) := by decide +kernel
theorem dL_law_756 : decode code 756 = .ok (.invokevirtual 67, 3) := by decide +kernel
theorem dL_law_759 : decode code 759 = .ok (.if_icmp .eq 1582, 3) := by decide +kernel
theorem dL_law_762 : decode code 762 = .ok (.iconst 0, 1) := by decide +kernel
theorem dL_law_763 : decode code 763 = .ok (.ireturn, 1) := by decide +kernel
theorem dL_law_764 : decode code 764 = .ok (.aload_n 1, 1) := by decide +kernel
theorem dL_law_765 : decode code 765 = .ok (.aload_n 0, 1) := by decide +kernel
theorem dL_law_766 : decode code 766 = .ok (.iload_n 3, 1) := by decide +kernel
theorem dL_law_767 : decode code 767 = .ok (.iconst 1, 1) := by decide +kernel
theorem dL_law_768 : decode code 768 = .ok (.iadd, 1) := by decide +kernel
theorem dL_law_769 : decode code 769 = .ok (.iaload, 1) := by decide +kernel
theorem dL_law_770 : decode code 770 = .ok (.aload_n 0, 1) := by decide +kernel
theorem dL_law_771 : decode code 771 = .ok (.iload_n 3, 1) := by decide +kernel
theorem dL_law_772 : decode code 772 = .ok (.iconst 2, 1) := by decide +kernel
theorem dL_law_773 : decode code 773 = .ok (.iadd, 1) := by decide +kernel
theorem dL_law_774 : decode code 774 = .ok (.iaload, 1) := by decide +kernel
theorem dL_law_775 : decode code 775 = .ok (.aload_n 0, 1) := by decide +kernel
theorem dL_law_776 : decode code 776 = .ok (.iload_n 3, 1) := by decide +kernel
theorem dL_law_777 : decode code 777 = .ok (.iconst 3, 1) := by decide +kernel
theorem dL_law_778 : decode code 778 = .ok (.iadd, 1) := by decide +kernel
theorem dL_law_779 : decode code 779 = .ok (.iaload, 1) := by decide +kernel
theorem dL_law_780 : decode code 780 = .ok (.invokevirtual 68, 3) := by decide +kernel
theorem dL_law_783 : decode code 783 = .ok (.aload_n 2, 1) := by decide +kernel
theorem dL_law_784 : decode code 784 = .ok (.aload_n 0, 1) := by decide +kernel
theorem dL_law_785 : decode code 785 = .ok (.iload_n 3, 1) := by decide +kernel
theorem dL_law_786 : decode code 786 = .ok (.iconst 1, 1) := by decide +kernel
theorem dL_law_787 : decode code 787 = .ok (.iadd, 1) := by decide +kernel
theorem dL_law_788 : decode code 788 = .ok (.iaload, 1) := by decide +kernel
theorem dL_law_789 : decode code 789 = .ok (.aload_n 0, 1) := by decide +kernel
theorem dL_law_790 : decode code 790 = .ok (.iload_n 3, 1) := by decide +kernel
theorem dL_law_791 : decode code 791 = .ok (.iconst 2, 1) := by decide +kernel
theorem dL_law_792 : decode code 792 = .ok (.iadd, 1) := by decide +kernel
theorem dL_law_793 : decode code 793 = .ok (.iaload, 1) := by decide +kernel
theorem dL_law_794 : decode code 794 = .ok (.aload_n 0, 1) := by decide +kernel
theorem dL_law_795 : decode code 795 = .ok (.iload_n 3, 1) := by decide +kernel
theorem dL_law_796 : decode code 796 = .ok (.iconst 3, 1) := by decide +kernel
theorem dL_law_797 : decode code 797 = .ok (.iadd, 1) := by decide +kernel
theorem dL_law_798 : decode code 798 = .ok (.iaload, 1) := by decide +kernel
theorem dL_law_799 : decode code 799 = .ok (.invokevirtual 71, 3) := by decide +kernel
theorem dL_law_802 : decode code 802 = .ok (.if_icmp .eq 1539, 3) := by decide +kernel
theorem dL_law_805 : decode code 805 = .ok (.iconst 0, 1) := by decide +kernel
theorem dL_law_806 : decode code 806 = .ok (.ireturn, 1) := by decide +kernel
theorem dL_law_807 : decode code 807 = .ok (.aload_n 1, 1) := by decide +kernel
theorem dL_law_808 : decode code 808 = .ok (.aload_n 0, 1) := by decide +kernel
theorem dL_law_809 : decode code 809 = .ok (.iload_n 3, 1) := by decide +kernel
theorem dL_law_810 : decode code 810 = .ok (.iconst 1, 1) := by decide +kernel
theorem dL_law_811 : decode code 811 = .ok (.iadd, 1) := by decide +kernel
theorem dL_law_812 : decode code 812 = .ok (.iaload, 1) := by decide +kernel
theorem dL_law_813 : decode code 813 = .ok (.aload_n 0, 1) := by decide +kernel
theorem dL_law_814 : decode code 814 = .ok (.iload_n 3, 1) := by decide +kernel
theorem dL_law_815 : decode code 815 = .ok (.iconst 2, 1) := by decide +kernel
theorem dL_law_816 : decode code 816 = .ok (.iadd, 1) := by decide +kernel
theorem dL_law_817 : decode code 817 = .ok (.iaload, 1) := by decide +kernel
theorem dL_law_818 : decode code 818 = .ok (.aload_n 0, 1) := by decide +kernel
theorem dL_law_819 : decode code 819 = .ok (.iload_n 3, 1) := by decide +kernel
theorem dL_law_820 : decode code 820 = .ok (.iconst 3, 1) := by decide +kernel
theorem dL_law_821 : decode code 821 = .ok (.iadd, 1) := by decide +kernel
theorem dL_law_822 : decode code 822 = .ok (.iaload, 1) := by decide +kernel
theorem dL_law_823 : decode code 823 = .ok (.invokevirtual 72, 3) := by decide +kernel
theorem dL_law_826 : decode code 826 = .ok (.aload_n 2, 1) := by decide +kernel
theorem dL_law_827 : decode code 827 = .ok (.aload_n 0, 1) := by decide +kernel
theorem dL_law_828 : decode code 828 = .ok (.iload_n 3, 1) := by decide +kernel
theorem dL_law_829 : decode code 829 = .ok (.iconst 1, 1) := by decide +kernel
theorem dL_law_830 : decode code 830 = .ok (.iadd, 1) := by decide +kernel
theorem dL_law_831 : decode code 831 = .ok (.iaload, 1) := by decide +kernel
theorem dL_law_832 : decode code 832 = .ok (.aload_n 0, 1) := by decide +kernel
theorem dL_law_833 : decode code 833 = .ok (.iload_n 3, 1) := by decide +kernel
theorem dL_law_834 : decode code 834 = .ok (.iconst 2, 1) := by decide +kernel
theorem dL_law_835 : decode code 835 = .ok (.iadd, 1) := by decide +kernel
theorem dL_law_836 : decode code 836 = .ok (.iaload, 1) := by decide +kernel
theorem dL_law_837 : decode code 837 = .ok (.aload_n 0, 1) := by decide +kernel
theorem dL_law_838 : decode code 838 = .ok (.iload_n 3, 1) := by decide +kernel
theorem dL_law_839 : decode code 839 = .ok (.iconst 3, 1) := by decide +kernel
theorem dL_law_840 : decode code 840 = .ok (.iadd, 1) := by decide +kernel
theorem dL_law_841 : decode code 841 = .ok (.iaload, 1) := by decide +kernel
theorem dL_law_842 : decode code 842 = .ok (.invokevirtual 75, 3) := by decide +kernel
theorem dL_law_845 : decode code 845 = .ok (.if_icmp .eq 1496, 3) := by decide +kernel
theorem dL_law_848 : decode code 848 = .ok (.iconst 0, 1) := by decide +kernel
theorem dL_law_849 : decode code 849 = .ok (.ireturn, 1) := by decide +kernel
theorem dL_law_850 : decode code 850 = .ok (.aload_n 1, 1) := by decide +kernel
theorem dL_law_851 : decode code 851 = .ok (.aload_n 0, 1) := by decide +kernel
theorem dL_law_852 : decode code 852 = .ok (.iload_n 3, 1) := by decide +kernel
theorem dL_law_853 : decode code 853 = .ok (.iconst 1, 1) := by decide +kernel
theorem dL_law_854 : decode code 854 = .ok (.iadd, 1) := by decide +kernel
theorem dL_law_855 : decode code 855 = .ok (.iaload, 1) := by decide +kernel
theorem dL_law_856 : decode code 856 = .ok (.aload_n 0, 1) := by decide +kernel
theorem dL_law_857 : decode code 857 = .ok (.iload_n 3, 1) := by decide +kernel
theorem dL_law_858 : decode code 858 = .ok (.iconst 2, 1) := by decide +kernel
theorem dL_law_859 : decode code 859 = .ok (.iadd, 1) := by decide +kernel
theorem dL_law_860 : decode code 860 = .ok (.iaload, 1) := by decide +kernel
theorem dL_law_861 : decode code 861 = .ok (.aload_n 0, 1) := by decide +kernel
theorem dL_law_862 : decode code 862 = .ok (.iload_n 3, 1) := by decide +kernel
theorem dL_law_863 : decode code 863 = .ok (.iconst 3, 1) := by decide +kernel
theorem dL_law_864 : decode code 864 = .ok (.iadd, 1) := by decide +kernel
theorem dL_law_865 : decode code 865 = .ok (.iaload, 1) := by decide +kernel
theorem dL_law_866 : decode code 866 = .ok (.aload_n 0, 1) := by decide +kernel
theorem dL_law_867 : decode code 867 = .ok (.iload_n 3, 1) := by decide +kernel
theorem dL_law_868 : decode code 868 = .ok (.iconst 4, 1) := by decide +kernel
theorem dL_law_869 : decode code 869 = .ok (.iadd, 1) := by decide +kernel
theorem dL_law_870 : decode code 870 = .ok (.iaload, 1) := by decide +kernel
theorem dL_law_871 : decode code 871 = .ok (.invokevirtual 76, 3) := by decide +kernel
theorem dL_law_874 : decode code 874 = .ok (.aload_n 2, 1) := by decide +kernel
theorem dL_law_875 : decode code 875 = .ok (.aload_n 0, 1) := by decide +kernel
theorem dL_law_876 : decode code 876 = .ok (.iload_n 3, 1) := by decide +kernel
theorem dL_law_877 : decode code 877 = .ok (.iconst 1, 1) := by decide +kernel
theorem dL_law_878 : decode code 878 = .ok (.iadd, 1) := by decide +kernel
theorem dL_law_879 : decode code 879 = .ok (.iaload, 1) := by decide +kernel
theorem dL_law_880 : decode code 880 = .ok (.aload_n 0, 1) := by decide +kernel
theorem dL_law_881 : decode code 881 = .ok (.iload_n 3, 1) := by decide +kernel
theorem dL_law_882 : decode code 882 = .ok (.iconst 2, 1) := by decide +kernel
theorem dL_law_883 : decode code 883 = .ok (.iadd, 1) := by decide +kernel
theorem dL_law_884 : decode code 884 = .ok (.iaload, 1) := by decide +kernel
theorem dL_law_885 : decode code 885 = .ok (.aload_n 0, 1) := by decide +kernel
theorem dL_law_886 : decode code 886 = .ok (.iload_n 3, 1) := by decide +kernel
theorem dL_law_887 : decode code 887 = .ok (.iconst 3, 1) := by decide +kernel
theorem dL_law_888 : decode code 888 = .ok (.iadd, 1) := by decide +kernel
theorem dL_law_889 : decode code 889 = .ok (.iaload, 1) := by decide +kernel
theorem dL_law_890 : decode code 890 = .ok (.aload_n 0, 1) := by decide +kernel
theorem dL_law_891 : decode code 891 = .ok (.iload_n 3, 1) := by decide +kernel
theorem dL_law_892 : decode code 892 = .ok (.iconst 4, 1) := by decide +kernel
theorem dL_law_893 : decode code 893 = .ok (.iadd, 1) := by decide +kernel
theorem dL_law_894 : decode code 894 = .ok (.iaload, 1) := by decide +kernel
theorem dL_law_895 : decode code 895 = .ok (.invokevirtual 79, 3) := by decide +kernel
theorem dL_law_898 : decode code 898 = .ok (.if_icmp .eq 1443, 3) := by decide +kernel
theorem dL_law_901 : decode code 901 = .ok (.iconst 0, 1) := by decide +kernel
theorem dL_law_902 : decode code 902 = .ok (.ireturn, 1) := by decide +kernel
theorem dL_law_903 : decode code 903 = .ok (.aload_n 1, 1) := by decide +kernel
theorem dL_law_904 : decode code 904 = .ok (.aload_n 0, 1) := by decide +kernel
theorem dL_law_905 : decode code 905 = .ok (.iload_n 3, 1) := by decide +kernel
theorem dL_law_906 : decode code 906 = .ok (.iconst 1, 1) := by decide +kernel
theorem dL_law_907 : decode code 907 = .ok (.iadd, 1) := by decide +kernel
theorem dL_law_908 : decode code 908 = .ok (.iaload, 1) := by decide +kernel
theorem dL_law_909 : decode code 909 = .ok (.aload_n 0, 1) := by decide +kernel
theorem dL_law_910 : decode code 910 = .ok (.iload_n 3, 1) := by decide +kernel
theorem dL_law_911 : decode code 911 = .ok (.iconst 2, 1) := by decide +kernel
theorem dL_law_912 : decode code 912 = .ok (.iadd, 1) := by decide +kernel
theorem dL_law_913 : decode code 913 = .ok (.iaload, 1) := by decide +kernel
theorem dL_law_914 : decode code 914 = .ok (.aload_n 0, 1) := by decide +kernel
theorem dL_law_915 : decode code 915 = .ok (.iload_n 3, 1) := by decide +kernel
theorem dL_law_916 : decode code 916 = .ok (.iconst 3, 1) := by decide +kernel
theorem dL_law_917 : decode code 917 = .ok (.iadd, 1) := by decide +kernel
theorem dL_law_918 : decode code 918 = .ok (.iaload, 1) := by decide +kernel
theorem dL_law_919 : decode code 919 = .ok (.invokevirtual 80, 3) := by decide +kernel
theorem dL_law_922 : decode code 922 = .ok (.aload_n 2, 1) := by decide +kernel
theorem dL_law_923 : decode code 923 = .ok (.aload_n 0, 1) := by decide +kernel
theorem dL_law_924 : decode code 924 = .ok (.iload_n 3, 1) := by decide +kernel
theorem dL_law_925 : decode code 925 = .ok (.iconst 1, 1) := by decide +kernel
theorem dL_law_926 : decode code 926 = .ok (.iadd, 1) := by decide +kernel
theorem dL_law_927 : decode code 927 = .ok (.iaload, 1) := by decide +kernel
theorem dL_law_928 : decode code 928 = .ok (.aload_n 0, 1) := by decide +kernel
theorem dL_law_929 : decode code 929 = .ok (.iload_n 3, 1) := by decide +kernel
theorem dL_law_930 : decode code 930 = .ok (.iconst 2, 1) := by decide +kernel
theorem dL_law_931 : decode code 931 = .ok (.iadd, 1) := by decide +kernel
theorem dL_law_932 : decode code 932 = .ok (.iaload, 1) := by decide +kernel
theorem dL_law_933 : decode code 933 = .ok (.aload_n 0, 1) := by decide +kernel
theorem dL_law_934 : decode code 934 = .ok (.iload_n 3, 1) := by decide +kernel
theorem dL_law_935 : decode code 935 = .ok (.iconst 3, 1) := by decide +kernel
theorem dL_law_936 : decode code 936 = .ok (.iadd, 1) := by decide +kernel
theorem dL_law_937 : decode code 937 = .ok (.iaload, 1) := by decide +kernel
theorem dL_law_938 : decode code 938 = .ok (.invokevirtual 83, 3) := by decide +kernel
theorem dL_law_941 : decode code 941 = .ok (.if_icmp .eq 1400, 3) := by decide +kernel
theorem dL_law_944 : decode code 944 = .ok (.iconst 0, 1) := by decide +kernel
theorem dL_law_945 : decode code 945 = .ok (.ireturn, 1) := by decide +kernel
theorem dL_law_946 : decode code 946 = .ok (.aload_n 1, 1) := by decide +kernel
theorem dL_law_947 : decode code 947 = .ok (.aload_n 0, 1) := by decide +kernel
theorem dL_law_948 : decode code 948 = .ok (.iload_n 3, 1) := by decide +kernel
theorem dL_law_949 : decode code 949 = .ok (.iconst 1, 1) := by decide +kernel
theorem dL_law_950 : decode code 950 = .ok (.iadd, 1) := by decide +kernel
theorem dL_law_951 : decode code 951 = .ok (.iaload, 1) := by decide +kernel
theorem dL_law_952 : decode code 952 = .ok (.aload_n 0, 1) := by decide +kernel
theorem dL_law_953 : decode code 953 = .ok (.iload_n 3, 1) := by decide +kernel
theorem dL_law_954 : decode code 954 = .ok (.iconst 2, 1) := by decide +kernel
theorem dL_law_955 : decode code 955 = .ok (.iadd, 1) := by decide +kernel
theorem dL_law_956 : decode code 956 = .ok (.iaload, 1) := by decide +kernel
theorem dL_law_957 : decode code 957 = .ok (.aload_n 0, 1) := by decide +kernel
theorem dL_law_958 : decode code 958 = .ok (.iload_n 3, 1) := by decide +kernel
theorem dL_law_959 : decode code 959 = .ok (.iconst 3, 1) := by decide +kernel
theorem dL_law_960 : decode code 960 = .ok (.iadd, 1) := by decide +kernel
theorem dL_law_961 : decode code 961 = .ok (.iaload, 1) := by decide +kernel
theorem dL_law_962 : decode code 962 = .ok (.invokevirtual 84, 3) := by decide +kernel
theorem dL_law_965 : decode code 965 = .ok (.aload_n 2, 1) := by decide +kernel
theorem dL_law_966 : decode code 966 = .ok (.aload_n 0, 1) := by decide +kernel
theorem dL_law_967 : decode code 967 = .ok (.iload_n 3, 1) := by decide +kernel
theorem dL_law_968 : decode code 968 = .ok (.iconst 1, 1) := by decide +kernel
theorem dL_law_969 : decode code 969 = .ok (.iadd, 1) := by decide +kernel
theorem dL_law_970 : decode code 970 = .ok (.iaload, 1) := by decide +kernel
theorem dL_law_971 : decode code 971 = .ok (.aload_n 0, 1) := by decide +kernel
theorem dL_law_972 : decode code 972 = .ok (.iload_n 3, 1) := by decide +kernel
theorem dL_law_973 : decode code 973 = .ok (.iconst 2, 1) := by decide +kernel
theorem dL_law_974 : decode code 974 = .ok (.iadd, 1) := by decide +kernel
theorem dL_law_975 : decode code 975 = .ok (.iaload, 1) := by decide +kernel
theorem dL_law_976 : decode code 976 = .ok (.aload_n 0, 1) := by decide +kernel
theorem dL_law_977 : decode code 977 = .ok (.iload_n 3, 1) := by decide +kernel
theorem dL_law_978 : decode code 978 = .ok (.iconst 3, 1) := by decide +kernel
theorem dL_law_979 : decode code 979 = .ok (.iadd, 1) := by decide +kernel
theorem dL_law_980 : decode code 980 = .ok (.iaload, 1) := by decide +kernel
theorem dL_law_981 : decode code 981 = .ok (.invokevirtual 87, 3) := by decide +kernel
theorem dL_law_984 : decode code 984 = .ok (.if_icmp .eq 1357, 3) := by decide +kernel
theorem dL_law_987 : decode code 987 = .ok (.iconst 0, 1) := by decide +kernel
theorem dL_law_988 : decode code 988 = .ok (.ireturn, 1) := by decide +kernel
theorem dL_law_989 : decode code 989 = .ok (.aload_n 1, 1) := by decide +kernel
theorem dL_law_990 : decode code 990 = .ok (.aload_n 0, 1) := by decide +kernel
theorem dL_law_991 : decode code 991 = .ok (.iload_n 3, 1) := by decide +kernel
theorem dL_law_992 : decode code 992 = .ok (.iconst 1, 1) := by decide +kernel
theorem dL_law_993 : decode code 993 = .ok (.iadd, 1) := by decide +kernel
theorem dL_law_994 : decode code 994 = .ok (.iaload, 1) := by decide +kernel
theorem dL_law_995 : decode code 995 = .ok (.aload_n 0, 1) := by decide +kernel
theorem dL_law_996 : decode code 996 = .ok (.iload_n 3, 1) := by decide +kernel
theorem dL_law_997 : decode code 997 = .ok (.iconst 2, 1) := by decide +kernel
theorem dL_law_998 : decode code 998 = .ok (.iadd, 1) := by decide +kernel
theorem dL_law_999 : decode code 999 = .ok (.iaload, 1) := by decide +kernel
theorem dL_law_1000 : decode code 1000 = .ok (.aload_n 0, 1) := by decide +kernel
theorem dL_law_1001 : decode code 1001 = .ok (.iload_n 3, 1) := by decide +kernel
theorem dL_law_1002 : decode code 1002 = .ok (.iconst 3, 1) := by decide +kernel
theorem dL_law_1003 : decode code 1003 = .ok (.iadd, 1) := by decide +kernel
theorem dL_law_1004 : decode code 1004 = .ok (.iaload, 1) := by decide +kernel
theorem dL_law_1005 : decode code 1005 = .ok (.aload_n 0, 1) := by decide +kernel
theorem dL_law_1006 : decode code 1006 = .ok (.iload_n 3, 1) := by decide +kernel
theorem dL_law_1007 : decode code 1007 = .ok (.iconst 4, 1) := by decide +kernel
theorem dL_law_1008 : decode code 1008 = .ok (.iadd, 1) := by decide +kernel
theorem dL_law_1009 : decode code 1009 = .ok (.iaload, 1) := by decide +kernel
theorem dL_law_1010 : decode code 1010 = .ok (.invokevirtual 88, 3) := by decide +kernel
theorem dL_law_1013 : decode code 1013 = .ok (.aload_n 2, 1) := by decide +kernel
theorem dL_law_1014 : decode code 1014 = .ok (.aload_n 0, 1) := by decide +kernel
theorem dL_law_1015 : decode code 1015 = .ok (.iload_n 3, 1) := by decide +kernel
theorem dL_law_1016 : decode code 1016 = .ok (.iconst 1, 1) := by decide +kernel
theorem dL_law_1017 : decode code 1017 = .ok (.iadd, 1) := by decide +kernel
theorem dL_law_1018 : decode code 1018 = .ok (.iaload, 1) := by decide +kernel
theorem dL_law_1019 : decode code 1019 = .ok (.aload_n 0, 1) := by decide +kernel
theorem dL_law_1020 : decode code 1020 = .ok (.iload_n 3, 1) := by decide +kernel
theorem dL_law_1021 : decode code 1021 = .ok (.iconst 2, 1) := by decide +kernel
theorem dL_law_1022 : decode code 1022 = .ok (.iadd, 1) := by decide +kernel
theorem dL_law_1023 : decode code 1023 = .ok (.iaload, 1) := by decide +kernel
theorem dL_law_1024 : decode code 1024 = .ok (.aload_n 0, 1) := by decide +kernel
theorem dL_law_1025 : decode code 1025 = .ok (.iload_n 3, 1) := by decide +kernel
theorem dL_law_1026 : decode code 1026 = .ok (.iconst 3, 1) := by decide +kernel
theorem dL_law_1027 : decode code 1027 = .ok (.iadd, 1) := by decide +kernel
theorem dL_law_1028 : decode code 1028 = .ok (.iaload, 1) := by decide +kernel
theorem dL_law_1029 : decode code 1029 = .ok (.aload_n 0, 1) := by decide +kernel
theorem dL_law_1030 : decode code 1030 = .ok (.iload_n 3, 1) := by decide +kernel
theorem dL_law_1031 : decode code 1031 = .ok (.iconst 4, 1) := by decide +kernel
theorem dL_law_1032 : decode code 1032 = .ok (.iadd, 1) := by decide +kernel
theorem dL_law_1033 : decode code 1033 = .ok (.iaload, 1) := by decide +kernel
theorem dL_law_1034 : decode code 1034 = .ok (.invokevirtual 91, 3) := by decide +kernel
theorem dL_law_1037 : decode code 1037 = .ok (.if_icmp .eq 1304, 3) := by decide +kernel
theorem dL_law_1040 : decode code 1040 = .ok (.iconst 0, 1) := by decide +kernel
theorem dL_law_1041 : decode code 1041 = .ok (.ireturn, 1) := by decide +kernel
theorem dL_law_1042 : decode code 1042 = .ok (.aload_n 1, 1) := by decide +kernel
theorem dL_law_1043 : decode code 1043 = .ok (.aload_n 0, 1) := by decide +kernel
theorem dL_law_1044 : decode code 1044 = .ok (.iload_n 3, 1) := by decide +kernel
theorem dL_law_1045 : decode code 1045 = .ok (.iconst 1, 1) := by decide +kernel
theorem dL_law_1046 : decode code 1046 = .ok (.iadd, 1) := by decide +kernel
theorem dL_law_1047 : decode code 1047 = .ok (.iaload, 1) := by decide +kernel
theorem dL_law_1048 : decode code 1048 = .ok (.aload_n 0, 1) := by decide +kernel
theorem dL_law_1049 : decode code 1049 = .ok (.iload_n 3, 1) := by decide +kernel
theorem dL_law_1050 : decode code 1050 = .ok (.iconst 2, 1) := by decide +kernel
theorem dL_law_1051 : decode code 1051 = .ok (.iadd, 1) := by decide +kernel
theorem dL_law_1052 : decode code 1052 = .ok (.iaload, 1) := by decide +kernel
theorem dL_law_1053 : decode code 1053 = .ok (.aload_n 0, 1) := by decide +kernel
theorem dL_law_1054 : decode code 1054 = .ok (.iload_n 3, 1) := by decide +kernel
theorem dL_law_1055 : decode code 1055 = .ok (.iconst 3, 1) := by decide +kernel
theorem dL_law_1056 : decode code 1056 = .ok (.iadd, 1) := by decide +kernel
theorem dL_law_1057 : decode code 1057 = .ok (.iaload, 1) := by decide +kernel
theorem dL_law_1058 : decode code 1058 = .ok (.aload_n 0, 1) := by decide +kernel
theorem dL_law_1059 : decode code 1059 = .ok (.iload_n 3, 1) := by decide +kernel
theorem dL_law_1060 : decode code 1060 = .ok (.iconst 4, 1) := by decide +kernel
theorem dL_law_1061 : decode code 1061 = .ok (.iadd, 1) := by decide +kernel
theorem dL_law_1062 : decode code 1062 = .ok (.iaload, 1) := by decide +kernel
theorem dL_law_1063 : decode code 1063 = .ok (.invokevirtual 92, 3) := by decide +kernel
theorem dL_law_1066 : decode code 1066 = .ok (.aload_n 2, 1) := by decide +kernel
theorem dL_law_1067 : decode code 1067 = .ok (.aload_n 0, 1) := by decide +kernel
theorem dL_law_1068 : decode code 1068 = .ok (.iload_n 3, 1) := by decide +kernel
theorem dL_law_1069 : decode code 1069 = .ok (.iconst 1, 1) := by decide +kernel
theorem dL_law_1070 : decode code 1070 = .ok (.iadd, 1) := by decide +kernel
theorem dL_law_1071 : decode code 1071 = .ok (.iaload, 1) := by decide +kernel
theorem dL_law_1072 : decode code 1072 = .ok (.aload_n 0, 1) := by decide +kernel
theorem dL_law_1073 : decode code 1073 = .ok (.iload_n 3, 1) := by decide +kernel
theorem dL_law_1074 : decode code 1074 = .ok (.iconst 2, 1) := by decide +kernel
theorem dL_law_1075 : decode code 1075 = .ok (.iadd, 1) := by decide +kernel
theorem dL_law_1076 : decode code 1076 = .ok (.iaload, 1) := by decide +kernel
theorem dL_law_1077 : decode code 1077 = .ok (.aload_n 0, 1) := by decide +kernel
theorem dL_law_1078 : decode code 1078 = .ok (.iload_n 3, 1) := by decide +kernel
theorem dL_law_1079 : decode code 1079 = .ok (.iconst 3, 1) := by decide +kernel
theorem dL_law_1080 : decode code 1080 = .ok (.iadd, 1) := by decide +kernel
theorem dL_law_1081 : decode code 1081 = .ok (.iaload, 1) := by decide +kernel
theorem dL_law_1082 : decode code 1082 = .ok (.aload_n 0, 1) := by decide +kernel
theorem dL_law_1083 : decode code 1083 = .ok (.iload_n 3, 1) := by decide +kernel
theorem dL_law_1084 : decode code 1084 = .ok (.iconst 4, 1) := by decide +kernel
theorem dL_law_1085 : decode code 1085 = .ok (.iadd, 1) := by decide +kernel
theorem dL_law_1086 : decode code 1086 = .ok (.iaload, 1) := by decide +kernel
theorem dL_law_1087 : decode code 1087 = .ok (.invokevirtual 95, 3) := by decide +kernel
theorem dL_law_1090 : decode code 1090 = .ok (.if_icmp .eq 1251, 3) := by decide +kernel
theorem dL_law_1093 : decode code 1093 = .ok (.iconst 0, 1) := by decide +kernel
theorem dL_law_1094 : decode code 1094 = .ok (.ireturn, 1) := by decide +kernel
theorem dL_law_1095 : decode code 1095 = .ok (.aload_n 1, 1) := by decide +kernel
theorem dL_law_1096 : decode code 1096 = .ok (.aload_n 0, 1) := by decide +kernel
theorem dL_law_1097 : decode code 1097 = .ok (.iload_n 3, 1) := by decide +kernel
theorem dL_law_1098 : decode code 1098 = .ok (.iconst 1, 1) := by decide +kernel
theorem dL_law_1099 : decode code 1099 = .ok (.iadd, 1) := by decide +kernel
theorem dL_law_1100 : decode code 1100 = .ok (.iaload, 1) := by decide +kernel
theorem dL_law_1101 : decode code 1101 = .ok (.aload_n 0, 1) := by decide +kernel
theorem dL_law_1102 : decode code 1102 = .ok (.iload_n 3, 1) := by decide +kernel
theorem dL_law_1103 : decode code 1103 = .ok (.iconst 2, 1) := by decide +kernel
theorem dL_law_1104 : decode code 1104 = .ok (.iadd, 1) := by decide +kernel
theorem dL_law_1105 : decode code 1105 = .ok (.iaload, 1) := by decide +kernel
theorem dL_law_1106 : decode code 1106 = .ok (.aload_n 0, 1) := by decide +kernel
theorem dL_law_1107 : decode code 1107 = .ok (.iload_n 3, 1) := by decide +kernel
theorem dL_law_1108 : decode code 1108 = .ok (.iconst 3, 1) := by decide +kernel
theorem dL_law_1109 : decode code 1109 = .ok (.iadd, 1) := by decide +kernel
theorem dL_law_1110 : decode code 1110 = .ok (.iaload, 1) := by decide +kernel
theorem dL_law_1111 : decode code 1111 = .ok (.aload_n 0, 1) := by decide +kernel
theorem dL_law_1112 : decode code 1112 = .ok (.iload_n 3, 1) := by decide +kernel
theorem dL_law_1113 : decode code 1113 = .ok (.iconst 4, 1) := by decide +kernel
theorem dL_law_1114 : decode code 1114 = .ok (.iadd, 1) := by decide +kernel
theorem dL_law_1115 : decode code 1115 = .ok (.iaload, 1) := by decide +kernel
theorem dL_law_1116 : decode code 1116 = .ok (.aload_n 0, 1) := by decide +kernel
theorem dL_law_1117 : decode code 1117 = .ok (.iload_n 3, 1) := by decide +kernel
theorem dL_law_1118 : decode code 1118 = .ok (.iconst 5, 1) := by decide +kernel
theorem dL_law_1119 : decode code 1119 = .ok (.iadd, 1) := by decide +kernel
theorem dL_law_1120 : decode code 1120 = .ok (.iaload, 1) := by decide +kernel
theorem dL_law_1121 : decode code 1121 = .ok (.invokevirtual 96, 3) := by decide +kernel
theorem dL_law_1124 : decode code 1124 = .ok (.aload_n 2, 1) := by decide +kernel
theorem dL_law_1125 : decode code 1125 = .ok (.aload_n 0, 1) := by decide +kernel
theorem dL_law_1126 : decode code 1126 = .ok (.iload_n 3, 1) := by decide +kernel
theorem dL_law_1127 : decode code 1127 = .ok (.iconst 1, 1) := by decide +kernel
theorem dL_law_1128 : decode code 1128 = .ok (.iadd, 1) := by decide +kernel
theorem dL_law_1129 : decode code 1129 = .ok (.iaload, 1) := by decide +kernel
theorem dL_law_1130 : decode code 1130 = .ok (.aload_n 0, 1) := by decide +kernel
theorem dL_law_1131 : decode code 1131 = .ok (.iload_n 3, 1) := by decide +kernel
theorem dL_law_1132 : decode code 1132 = .ok (.iconst 2, 1) := by decide +kernel
theorem dL_law_1133 : decode code 1133 = .ok (.iadd, 1) := by decide +kernel
theorem dL_law_1134 : decode code 1134 = .ok (.iaload, 1) := by decide +kernel
theorem dL_law_1135 : decode code 1135 = .ok (.aload_n 0, 1) := by decide +kernel
theorem dL_law_1136 : decode code 1136 = .ok (.iload_n 3, 1) := by decide +kernel
theorem dL_law_1137 : decode code 1137 = .ok (.iconst 3, 1) := by decide +kernel
theorem dL_law_1138 : decode code 1138 = .ok (.iadd, 1) := by decide +kernel
theorem dL_law_1139 : decode code 1139 = .ok (.iaload, 1) := by decide +kernel
theorem dL_law_1140 : decode code 1140 = .ok (.aload_n 0, 1) := by decide +kernel
theorem dL_law_1141 : decode code 1141 = .ok (.iload_n 3, 1) := by decide +kernel
theorem dL_law_1142 : decode code 1142 = .ok (.iconst 4, 1) := by decide +kernel
theorem dL_law_1143 : decode code 1143 = .ok (.iadd, 1) := by decide +kernel
theorem dL_law_1144 : decode code 1144 = .ok (.iaload, 1) := by decide +kernel
theorem dL_law_1145 : decode code 1145 = .ok (.aload_n 0, 1) := by decide +kernel
theorem dL_law_1146 : decode code 1146 = .ok (.iload_n 3, 1) := by decide +kernel
theorem dL_law_1147 : decode code 1147 = .ok (.iconst 5, 1) := by decide +kernel
theorem dL_law_1148 : decode code 1148 = .ok (.iadd, 1) := by decide +kernel
theorem dL_law_1149 : decode code 1149 = .ok (.iaload, 1) := by decide +kernel
theorem dL_law_1150 : decode code 1150 = .ok (.invokevirtual 99, 3) := by decide +kernel
theorem dL_law_1153 : decode code 1153 = .ok (.if_icmp .eq 1188, 3) := by decide +kernel
theorem dL_law_1156 : decode code 1156 = .ok (.iconst 0, 1) := by decide +kernel
theorem dL_law_1157 : decode code 1157 = .ok (.ireturn, 1) := by decide +kernel
theorem dL_law_1158 : decode code 1158 = .ok (.aload_n 1, 1) := by decide +kernel
theorem dL_law_1159 : decode code 1159 = .ok (.aload_n 0, 1) := by decide +kernel
theorem dL_law_1160 : decode code 1160 = .ok (.iload_n 3, 1) := by decide +kernel
theorem dL_law_1161 : decode code 1161 = .ok (.iconst 1, 1) := by decide +kernel
theorem dL_law_1162 : decode code 1162 = .ok (.iadd, 1) := by decide +kernel
theorem dL_law_1163 : decode code 1163 = .ok (.iaload, 1) := by decide +kernel
theorem dL_law_1164 : decode code 1164 = .ok (.invokevirtual 100, 3) := by decide +kernel
theorem dL_law_1167 : decode code 1167 = .ok (.aload_n 2, 1) := by decide +kernel
theorem dL_law_1168 : decode code 1168 = .ok (.aload_n 0, 1) := by decide +kernel
theorem dL_law_1169 : decode code 1169 = .ok (.iload_n 3, 1) := by decide +kernel
theorem dL_law_1170 : decode code 1170 = .ok (.iconst 1, 1) := by decide +kernel
theorem dL_law_1171 : decode code 1171 = .ok (.iadd, 1) := by decide +kernel
theorem dL_law_1172 : decode code 1172 = .ok (.iaload, 1) := by decide +kernel
theorem dL_law_1173 : decode code 1173 = .ok (.invokevirtual 103, 3) := by decide +kernel
theorem dL_law_1176 : decode code 1176 = .ok (.if_icmp .eq 1165, 3) := by decide +kernel
theorem dL_law_1179 : decode code 1179 = .ok (.iconst 0, 1) := by decide +kernel
theorem dL_law_1180 : decode code 1180 = .ok (.ireturn, 1) := by decide +kernel
theorem dL_law_1181 : decode code 1181 = .ok (.aload_n 1, 1) := by decide +kernel
theorem dL_law_1182 : decode code 1182 = .ok (.aload_n 0, 1) := by decide +kernel
theorem dL_law_1183 : decode code 1183 = .ok (.iload_n 3, 1) := by decide +kernel
theorem dL_law_1184 : decode code 1184 = .ok (.iconst 1, 1) := by decide +kernel
theorem dL_law_1185 : decode code 1185 = .ok (.iadd, 1) := by decide +kernel
theorem dL_law_1186 : decode code 1186 = .ok (.iaload, 1) := by decide +kernel
theorem dL_law_1187 : decode code 1187 = .ok (.invokevirtual 104, 3) := by decide +kernel
theorem dL_law_1190 : decode code 1190 = .ok (.aload_n 2, 1) := by decide +kernel
theorem dL_law_1191 : decode code 1191 = .ok (.aload_n 0, 1) := by decide +kernel
theorem dL_law_1192 : decode code 1192 = .ok (.iload_n 3, 1) := by decide +kernel
theorem dL_law_1193 : decode code 1193 = .ok (.iconst 1, 1) := by decide +kernel
theorem dL_law_1194 : decode code 1194 = .ok (.iadd, 1) := by decide +kernel
theorem dL_law_1195 : decode code 1195 = .ok (.iaload, 1) := by decide +kernel
theorem dL_law_1196 : decode code 1196 = .ok (.invokevirtual 107, 3) := by decide +kernel
theorem dL_law_1199 : decode code 1199 = .ok (.if_icmp .eq 1142, 3) := by decide +kernel
theorem dL_law_1202 : decode code 1202 = .ok (.iconst 0, 1) := by decide +kernel
theorem dL_law_1203 : decode code 1203 = .ok (.ireturn, 1) := by decide +kernel
theorem dL_law_1204 : decode code 1204 = .ok (.aload_n 1, 1) := by decide +kernel
theorem dL_law_1205 : decode code 1205 = .ok (.aload_n 0, 1) := by decide +kernel
theorem dL_law_1206 : decode code 1206 = .ok (.iload_n 3, 1) := by decide +kernel
theorem dL_law_1207 : decode code 1207 = .ok (.iconst 1, 1) := by decide +kernel
theorem dL_law_1208 : decode code 1208 = .ok (.iadd, 1) := by decide +kernel
theorem dL_law_1209 : decode code 1209 = .ok (.iaload, 1) := by decide +kernel
theorem dL_law_1210 : decode code 1210 = .ok (.aload_n 0, 1) := by decide +kernel
theorem dL_law_1211 : decode code 1211 = .ok (.iload_n 3, 1) := by decide +kernel
theorem dL_law_1212 : decode code 1212 = .ok (.iconst 2, 1) := by decide +kernel
theorem dL_law_1213 : decode code 1213 = .ok (.iadd, 1) := by decide +kernel
theorem dL_law_1214 : decode code 1214 = .ok (.iaload, 1) := by decide +kernel
theorem dL_law_1215 : decode code 1215 = .ok (.invokevirtual 108, 3) := by decide +kernel
theorem dL_law_1218 : decode code 1218 = .ok (.aload_n 2, 1) := by decide +kernel
theorem dL_law_1219 : decode code 1219 = .ok (.aload_n 0, 1) := by decide +kernel
theorem dL_law_1220 : decode code 1220 = .ok (.iload_n 3, 1) := by decide +kernel
theorem dL_law_1221 : decode code 1221 = .ok (.iconst 1, 1) := by decide +kernel
theorem dL_law_1222 : decode code 1222 = .ok (.iadd, 1) := by decide +kernel
theorem dL_law_1223 : decode code 1223 = .ok (.iaload, 1) := by decide +kernel
theorem dL_law_1224 : decode code 1224 = .ok (.aload_n 0, 1) := by decide +kernel
theorem dL_law_1225 : decode code 1225 = .ok (.iload_n 3, 1) := by decide +kernel
theorem dL_law_1226 : decode code 1226 = .ok (.iconst 2, 1) := by decide +kernel
theorem dL_law_1227 : decode code 1227 = .ok (.iadd, 1) := by decide +kernel
theorem dL_law_1228 : decode code 1228 = .ok (.iaload, 1) := by decide +kernel
theorem dL_law_1229 : decode code 1229 = .ok (.invokevirtual 111, 3) := by decide +kernel
theorem dL_law_1232 : decode code 1232 = .ok (.if_icmp .eq 1109, 3) := by decide +kernel
theorem dL_law_1235 : decode code 1235 = .ok (.iconst 0, 1) := by decide +kernel
theorem dL_law_1236 : decode code 1236 = .ok (.ireturn, 1) := by decide +kernel
theorem dL_law_1237 : decode code 1237 = .ok (.aload_n 1, 1) := by decide +kernel
theorem dL_law_1238 : decode code 1238 = .ok (.aload_n 0, 1) := by decide +kernel
theorem dL_law_1239 : decode code 1239 = .ok (.iload_n 3, 1) := by decide +kernel
theorem dL_law_1240 : decode code 1240 = .ok (.iconst 1, 1) := by decide +kernel
theorem dL_law_1241 : decode code 1241 = .ok (.iadd, 1) := by decide +kernel
theorem dL_law_1242 : decode code 1242 = .ok (.iaload, 1) := by decide +kernel
theorem dL_law_1243 : decode code 1243 = .ok (.invokevirtual 112, 3) := by decide +kernel
theorem dL_law_1246 : decode code 1246 = .ok (.aload_n 2, 1) := by decide +kernel
theorem dL_law_1247 : decode code 1247 = .ok (.aload_n 0, 1) := by decide +kernel
theorem dL_law_1248 : decode code 1248 = .ok (.iload_n 3, 1) := by decide +kernel
theorem dL_law_1249 : decode code 1249 = .ok (.iconst 1, 1) := by decide +kernel
theorem dL_law_1250 : decode code 1250 = .ok (.iadd, 1) := by decide +kernel
theorem dL_law_1251 : decode code 1251 = .ok (.iaload, 1) := by decide +kernel
theorem dL_law_1252 : decode code 1252 = .ok (.invokevirtual 115, 3) := by decide +kernel
theorem dL_law_1255 : decode code 1255 = .ok (.if_icmp .eq 1086, 3) := by decide +kernel
theorem dL_law_1258 : decode code 1258 = .ok (.iconst 0, 1) := by decide +kernel
theorem dL_law_1259 : decode code 1259 = .ok (.ireturn, 1) := by decide +kernel
theorem dL_law_1260 : decode code 1260 = .ok (.aload_n 1, 1) := by decide +kernel
theorem dL_law_1261 : decode code 1261 = .ok (.aload_n 0, 1) := by decide +kernel
theorem dL_law_1262 : decode code 1262 = .ok (.iload_n 3, 1) := by decide +kernel
theorem dL_law_1263 : decode code 1263 = .ok (.iconst 1, 1) := by decide +kernel
theorem dL_law_1264 : decode code 1264 = .ok (.iadd, 1) := by decide +kernel
theorem dL_law_1265 : decode code 1265 = .ok (.iaload, 1) := by decide +kernel
theorem dL_law_1266 : decode code 1266 = .ok (.aload_n 0, 1) := by decide +kernel
theorem dL_law_1267 : decode code 1267 = .ok (.iload_n 3, 1) := by decide +kernel
theorem dL_law_1268 : decode code 1268 = .ok (.iconst 2, 1) := by decide +kernel
theorem dL_law_1269 : decode code 1269 = .ok (.iadd, 1) := by decide +kernel
theorem dL_law_1270 : decode code 1270 = .ok (.iaload, 1) := by decide +kernel
theorem dL_law_1271 : decode code 1271 = .ok (.invokevirtual 116, 3) := by decide +kernel
theorem dL_law_1274 : decode code 1274 = .ok (.aload_n 2, 1) := by decide +kernel
theorem dL_law_1275 : decode code 1275 = .ok (.aload_n 0, 1) := by decide +kernel
theorem dL_law_1276 : decode code 1276 = .ok (.iload_n 3, 1) := by decide +kernel
theorem dL_law_1277 : decode code 1277 = .ok (.iconst 1, 1) := by decide +kernel
theorem dL_law_1278 : decode code 1278 = .ok (.iadd, 1) := by decide +kernel
theorem dL_law_1279 : decode code 1279 = .ok (.iaload, 1) := by decide +kernel
theorem dL_law_1280 : decode code 1280 = .ok (.aload_n 0, 1) := by decide +kernel
theorem dL_law_1281 : decode code 1281 = .ok (.iload_n 3, 1) := by decide +kernel
theorem dL_law_1282 : decode code 1282 = .ok (.iconst 2, 1) := by decide +kernel
theorem dL_law_1283 : decode code 1283 = .ok (.iadd, 1) := by decide +kernel
theorem dL_law_1284 : decode code 1284 = .ok (.iaload, 1) := by decide +kernel
theorem dL_law_1285 : decode code 1285 = .ok (.invokevirtual 119, 3) := by decide +kernel
theorem dL_law_1288 : decode code 1288 = .ok (.if_icmp .eq 1053, 3) := by decide +kernel
theorem dL_law_1291 : decode code 1291 = .ok (.iconst 0, 1) := by decide +kernel
theorem dL_law_1292 : decode code 1292 = .ok (.ireturn, 1) := by decide +kernel
theorem dL_law_1293 : decode code 1293 = .ok (.aload_n 1, 1) := by decide +kernel
theorem dL_law_1294 : decode code 1294 = .ok (.aload_n 0, 1) := by decide +kernel
theorem dL_law_1295 : decode code 1295 = .ok (.iload_n 3, 1) := by decide +kernel
theorem dL_law_1296 : decode code 1296 = .ok (.iconst 1, 1) := by decide +kernel
theorem dL_law_1297 : decode code 1297 = .ok (.iadd, 1) := by decide +kernel
theorem dL_law_1298 : decode code 1298 = .ok (.iaload, 1) := by decide +kernel
theorem dL_law_1299 : decode code 1299 = .ok (.aload_n 0, 1) := by decide +kernel
theorem dL_law_1300 : decode code 1300 = .ok (.iload_n 3, 1) := by decide +kernel
theorem dL_law_1301 : decode code 1301 = .ok (.iconst 2, 1) := by decide +kernel
theorem dL_law_1302 : decode code 1302 = .ok (.iadd, 1) := by decide +kernel
theorem dL_law_1303 : decode code 1303 = .ok (.iaload, 1) := by decide +kernel
theorem dL_law_1304 : decode code 1304 = .ok (.aload_n 0, 1) := by decide +kernel
theorem dL_law_1305 : decode code 1305 = .ok (.iload_n 3, 1) := by decide +kernel
theorem dL_law_1306 : decode code 1306 = .ok (.iconst 3, 1) := by decide +kernel
theorem dL_law_1307 : decode code 1307 = .ok (.iadd, 1) := by decide +kernel
theorem dL_law_1308 : decode code 1308 = .ok (.iaload, 1) := by decide +kernel
theorem dL_law_1309 : decode code 1309 = .ok (.aload_n 0, 1) := by decide +kernel
theorem dL_law_1310 : decode code 1310 = .ok (.iload_n 3, 1) := by decide +kernel
theorem dL_law_1311 : decode code 1311 = .ok (.iconst 4, 1) := by decide +kernel
theorem dL_law_1312 : decode code 1312 = .ok (.iadd, 1) := by decide +kernel
theorem dL_law_1313 : decode code 1313 = .ok (.iaload, 1) := by decide +kernel
theorem dL_law_1314 : decode code 1314 = .ok (.invokevirtual 120, 3) := by decide +kernel
theorem dL_law_1317 : decode code 1317 = .ok (.aload_n 2, 1) := by decide +kernel
theorem dL_law_1318 : decode code 1318 = .ok (.aload_n 0, 1) := by decide +kernel
theorem dL_law_1319 : decode code 1319 = .ok (.iload_n 3, 1) := by decide +kernel
theorem dL_law_1320 : decode code 1320 = .ok (.iconst 1, 1) := by decide +kernel
theorem dL_law_1321 : decode code 1321 = .ok (.iadd, 1) := by decide +kernel
theorem dL_law_1322 : decode code 1322 = .ok (.iaload, 1) := by decide +kernel
theorem dL_law_1323 : decode code 1323 = .ok (.aload_n 0, 1) := by decide +kernel
theorem dL_law_1324 : decode code 1324 = .ok (.iload_n 3, 1) := by decide +kernel
theorem dL_law_1325 : decode code 1325 = .ok (.iconst 2, 1) := by decide +kernel
theorem dL_law_1326 : decode code 1326 = .ok (.iadd, 1) := by decide +kernel
theorem dL_law_1327 : decode code 1327 = .ok (.iaload, 1) := by decide +kernel
theorem dL_law_1328 : decode code 1328 = .ok (.aload_n 0, 1) := by decide +kernel
theorem dL_law_1329 : decode code 1329 = .ok (.iload_n 3, 1) := by decide +kernel
theorem dL_law_1330 : decode code 1330 = .ok (.iconst 3, 1) := by decide +kernel
theorem dL_law_1331 : decode code 1331 = .ok (.iadd, 1) := by decide +kernel
theorem dL_law_1332 : decode code 1332 = .ok (.iaload, 1) := by decide +kernel
theorem dL_law_1333 : decode code 1333 = .ok (.aload_n 0, 1) := by decide +kernel
theorem dL_law_1334 : decode code 1334 = .ok (.iload_n 3, 1) := by decide +kernel
theorem dL_law_1335 : decode code 1335 = .ok (.iconst 4, 1) := by decide +kernel
theorem dL_law_1336 : decode code 1336 = .ok (.iadd, 1) := by decide +kernel
theorem dL_law_1337 : decode code 1337 = .ok (.iaload, 1) := by decide +kernel
theorem dL_law_1338 : decode code 1338 = .ok (.invokevirtual 123, 3) := by decide +kernel
theorem dL_law_1341 : decode code 1341 = .ok (.if_icmp .eq 1000, 3) := by decide +kernel
theorem dL_law_1344 : decode code 1344 = .ok (.iconst 0, 1) := by decide +kernel
theorem dL_law_1345 : decode code 1345 = .ok (.ireturn, 1) := by decide +kernel
theorem dL_law_1346 : decode code 1346 = .ok (.aload_n 1, 1) := by decide +kernel
theorem dL_law_1347 : decode code 1347 = .ok (.aload_n 0, 1) := by decide +kernel
theorem dL_law_1348 : decode code 1348 = .ok (.iload_n 3, 1) := by decide +kernel
theorem dL_law_1349 : decode code 1349 = .ok (.iconst 1, 1) := by decide +kernel
theorem dL_law_1350 : decode code 1350 = .ok (.iadd, 1) := by decide +kernel
theorem dL_law_1351 : decode code 1351 = .ok (.iaload, 1) := by decide +kernel
theorem dL_law_1352 : decode code 1352 = .ok (.invokevirtual 124, 3) := by decide +kernel
theorem dL_law_1355 : decode code 1355 = .ok (.aload_n 2, 1) := by decide +kernel
theorem dL_law_1356 : decode code 1356 = .ok (.aload_n 0, 1) := by decide +kernel
theorem dL_law_1357 : decode code 1357 = .ok (.iload_n 3, 1) := by decide +kernel
theorem dL_law_1358 : decode code 1358 = .ok (.iconst 1, 1) := by decide +kernel
theorem dL_law_1359 : decode code 1359 = .ok (.iadd, 1) := by decide +kernel
theorem dL_law_1360 : decode code 1360 = .ok (.iaload, 1) := by decide +kernel
theorem dL_law_1361 : decode code 1361 = .ok (.invokevirtual 127, 3) := by decide +kernel
theorem dL_law_1364 : decode code 1364 = .ok (.if_icmp .eq 977, 3) := by decide +kernel
theorem dL_law_1367 : decode code 1367 = .ok (.iconst 0, 1) := by decide +kernel
theorem dL_law_1368 : decode code 1368 = .ok (.ireturn, 1) := by decide +kernel
theorem dL_law_1369 : decode code 1369 = .ok (.aload_n 1, 1) := by decide +kernel
theorem dL_law_1370 : decode code 1370 = .ok (.aload_n 0, 1) := by decide +kernel
theorem dL_law_1371 : decode code 1371 = .ok (.iload_n 3, 1) := by decide +kernel
theorem dL_law_1372 : decode code 1372 = .ok (.iconst 1, 1) := by decide +kernel
theorem dL_law_1373 : decode code 1373 = .ok (.iadd, 1) := by decide +kernel
theorem dL_law_1374 : decode code 1374 = .ok (.iaload, 1) := by decide +kernel
theorem dL_law_1375 : decode code 1375 = .ok (.invokevirtual 128, 3) := by decide +kernel
theorem dL_law_1378 : decode code 1378 = .ok (.aload_n 2, 1) := by decide +kernel
theorem dL_law_1379 : decode code 1379 = .ok (.aload_n 0, 1) := by decide +kernel
theorem dL_law_1380 : decode code 1380 = .ok (.iload_n 3, 1) := by decide +kernel
theorem dL_law_1381 : decode code 1381 = .ok (.iconst 1, 1) := by decide +kernel
theorem dL_law_1382 : decode code 1382 = .ok (.iadd, 1) := by decide +kernel
theorem dL_law_1383 : decode code 1383 = .ok (.iaload, 1) := by decide +kernel
theorem dL_law_1384 : decode code 1384 = .ok (.invokevirtual 131, 3) := by decide +kernel
theorem dL_law_1387 : decode code 1387 = .ok (.if_icmp .eq 954, 3) := by decide +kernel
theorem dL_law_1390 : decode code 1390 = .ok (.iconst 0, 1) := by decide +kernel
theorem dL_law_1391 : decode code 1391 = .ok (.ireturn, 1) := by decide +kernel
theorem dL_law_1392 : decode code 1392 = .ok (.aload_n 1, 1) := by decide +kernel
theorem dL_law_1393 : decode code 1393 = .ok (.aload_n 0, 1) := by decide +kernel
theorem dL_law_1394 : decode code 1394 = .ok (.iload_n 3, 1) := by decide +kernel
theorem dL_law_1395 : decode code 1395 = .ok (.iconst 1, 1) := by decide +kernel
theorem dL_law_1396 : decode code 1396 = .ok (.iadd, 1) := by decide +kernel
theorem dL_law_1397 : decode code 1397 = .ok (.iaload, 1) := by decide +kernel
theorem dL_law_1398 : decode code 1398 = .ok (.invokevirtual 132, 3) := by decide +kernel
theorem dL_law_1401 : decode code 1401 = .ok (.aload_n 2, 1) := by decide +kernel
theorem dL_law_1402 : decode code 1402 = .ok (.aload_n 0, 1) := by decide +kernel
theorem dL_law_1403 : decode code 1403 = .ok (.iload_n 3, 1) := by decide +kernel
theorem dL_law_1404 : decode code 1404 = .ok (.iconst 1, 1) := by decide +kernel
theorem dL_law_1405 : decode code 1405 = .ok (.iadd, 1) := by decide +kernel
theorem dL_law_1406 : decode code 1406 = .ok (.iaload, 1) := by decide +kernel
theorem dL_law_1407 : decode code 1407 = .ok (.invokevirtual 135, 3) := by decide +kernel
theorem dL_law_1410 : decode code 1410 = .ok (.if_icmp .eq 931, 3) := by decide +kernel
theorem dL_law_1413 : decode code 1413 = .ok (.iconst 0, 1) := by decide +kernel
theorem dL_law_1414 : decode code 1414 = .ok (.ireturn, 1) := by decide +kernel
theorem dL_law_1415 : decode code 1415 = .ok (.aload_n 1, 1) := by decide +kernel
theorem dL_law_1416 : decode code 1416 = .ok (.aload_n 0, 1) := by decide +kernel
theorem dL_law_1417 : decode code 1417 = .ok (.iload_n 3, 1) := by decide +kernel
theorem dL_law_1418 : decode code 1418 = .ok (.iconst 1, 1) := by decide +kernel
theorem dL_law_1419 : decode code 1419 = .ok (.iadd, 1) := by decide +kernel
theorem dL_law_1420 : decode code 1420 = .ok (.iaload, 1) := by decide +kernel
theorem dL_law_1421 : decode code 1421 = .ok (.aload_n 0, 1) := by decide +kernel
theorem dL_law_1422 : decode code 1422 = .ok (.iload_n 3, 1) := by decide +kernel
theorem dL_law_1423 : decode code 1423 = .ok (.iconst 2, 1) := by decide +kernel
theorem dL_law_1424 : decode code 1424 = .ok (.iadd, 1) := by decide +kernel
theorem dL_law_1425 : decode code 1425 = .ok (.iaload, 1) := by decide +kernel
theorem dL_law_1426 : decode code 1426 = .ok (.invokevirtual 136, 3) := by decide +kernel
theorem dL_law_1429 : decode code 1429 = .ok (.aload_n 2, 1) := by decide +kernel
theorem dL_law_1430 : decode code 1430 = .ok (.aload_n 0, 1) := by decide +kernel
theorem dL_law_1431 : decode code 1431 = .ok (.iload_n 3, 1) := by decide +kernel
theorem dL_law_1432 : decode code 1432 = .ok (.iconst 1, 1) := by decide +kernel
theorem dL_law_1433 : decode code 1433 = .ok (.iadd, 1) := by decide +kernel
theorem dL_law_1434 : decode code 1434 = .ok (.iaload, 1) := by decide +kernel
theorem dL_law_1435 : decode code 1435 = .ok (.aload_n 0, 1) := by decide +kernel
theorem dL_law_1436 : decode code 1436 = .ok (.iload_n 3, 1) := by decide +kernel
theorem dL_law_1437 : decode code 1437 = .ok (.iconst 2, 1) := by decide +kernel
theorem dL_law_1438 : decode code 1438 = .ok (.iadd, 1) := by decide +kernel
theorem dL_law_1439 : decode code 1439 = .ok (.iaload, 1) := by decide +kernel
theorem dL_law_1440 : decode code 1440 = .ok (.invokevirtual 139, 3) := by decide +kernel
theorem dL_law_1443 : decode code 1443 = .ok (.if_icmp .eq 898, 3) := by decide +kernel
theorem dL_law_1446 : decode code 1446 = .ok (.iconst 0, 1) := by decide +kernel
theorem dL_law_1447 : decode code 1447 = .ok (.ireturn, 1) := by decide +kernel
theorem dL_law_1448 : decode code 1448 = .ok (.aload_n 1, 1) := by decide +kernel
theorem dL_law_1449 : decode code 1449 = .ok (.aload_n 0, 1) := by decide +kernel
theorem dL_law_1450 : decode code 1450 = .ok (.iload_n 3, 1) := by decide +kernel
theorem dL_law_1451 : decode code 1451 = .ok (.iconst 1, 1) := by decide +kernel
theorem dL_law_1452 : decode code 1452 = .ok (.iadd, 1) := by decide +kernel
theorem dL_law_1453 : decode code 1453 = .ok (.iaload, 1) := by decide +kernel
theorem dL_law_1454 : decode code 1454 = .ok (.invokevirtual 140, 3) := by decide +kernel
theorem dL_law_1457 : decode code 1457 = .ok (.aload_n 2, 1) := by decide +kernel
theorem dL_law_1458 : decode code 1458 = .ok (.aload_n 0, 1) := by decide +kernel
theorem dL_law_1459 : decode code 1459 = .ok (.iload_n 3, 1) := by decide +kernel
theorem dL_law_1460 : decode code 1460 = .ok (.iconst 1, 1) := by decide +kernel
theorem dL_law_1461 : decode code 1461 = .ok (.iadd, 1) := by decide +kernel
theorem dL_law_1462 : decode code 1462 = .ok (.iaload, 1) := by decide +kernel
theorem dL_law_1463 : decode code 1463 = .ok (.invokevirtual 143, 3) := by decide +kernel
theorem dL_law_1466 : decode code 1466 = .ok (.if_icmp .eq 875, 3) := by decide +kernel
theorem dL_law_1469 : decode code 1469 = .ok (.iconst 0, 1) := by decide +kernel
theorem dL_law_1470 : decode code 1470 = .ok (.ireturn, 1) := by decide +kernel
theorem dL_law_1471 : decode code 1471 = .ok (.aload_n 1, 1) := by decide +kernel
theorem dL_law_1472 : decode code 1472 = .ok (.aload_n 0, 1) := by decide +kernel
theorem dL_law_1473 : decode code 1473 = .ok (.iload_n 3, 1) := by decide +kernel
theorem dL_law_1474 : decode code 1474 = .ok (.iconst 1, 1) := by decide +kernel
theorem dL_law_1475 : decode code 1475 = .ok (.iadd, 1) := by decide +kernel
theorem dL_law_1476 : decode code 1476 = .ok (.iaload, 1) := by decide +kernel
theorem dL_law_1477 : decode code 1477 = .ok (.aload_n 0, 1) := by decide +kernel
theorem dL_law_1478 : decode code 1478 = .ok (.iload_n 3, 1) := by decide +kernel
theorem dL_law_1479 : decode code 1479 = .ok (.iconst 2, 1) := by decide +kernel
theorem dL_law_1480 : decode code 1480 = .ok (.iadd, 1) := by decide +kernel
theorem dL_law_1481 : decode code 1481 = .ok (.iaload, 1) := by decide +kernel
theorem dL_law_1482 : decode code 1482 = .ok (.aload_n 0, 1) := by decide +kernel
theorem dL_law_1483 : decode code 1483 = .ok (.iload_n 3, 1) := by decide +kernel
theorem dL_law_1484 : decode code 1484 = .ok (.iconst 3, 1) := by decide +kernel
theorem dL_law_1485 : decode code 1485 = .ok (.iadd, 1) := by decide +kernel
theorem dL_law_1486 : decode code 1486 = .ok (.iaload, 1) := by decide +kernel
theorem dL_law_1487 : decode code 1487 = .ok (.invokevirtual 144, 3) := by decide +kernel
theorem dL_law_1490 : decode code 1490 = .ok (.aload_n 2, 1) := by decide +kernel
theorem dL_law_1491 : decode code 1491 = .ok (.aload_n 0, 1) := by decide +kernel
theorem dL_law_1492 : decode code 1492 = .ok (.iload_n 3, 1) := by decide +kernel
theorem dL_law_1493 : decode code 1493 = .ok (.iconst 1, 1) := by decide +kernel
theorem dL_law_1494 : decode code 1494 = .ok (.iadd, 1) := by decide +kernel
theorem dL_law_1495 : decode code 1495 = .ok (.iaload, 1) := by decide +kernel
theorem dL_law_1496 : decode code 1496 = .ok (.aload_n 0, 1) := by decide +kernel
theorem dL_law_1497 : decode code 1497 = .ok (.iload_n 3, 1) := by decide +kernel
theorem dL_law_1498 : decode code 1498 = .ok (.iconst 2, 1) := by decide +kernel
theorem dL_law_1499 : decode code 1499 = .ok (.iadd, 1) := by decide +kernel
theorem dL_law_1500 : decode code 1500 = .ok (.iaload, 1) := by decide +kernel
theorem dL_law_1501 : decode code 1501 = .ok (.aload_n 0, 1) := by decide +kernel
theorem dL_law_1502 : decode code 1502 = .ok (.iload_n 3, 1) := by decide +kernel
theorem dL_law_1503 : decode code 1503 = .ok (.iconst 3, 1) := by decide +kernel
theorem dL_law_1504 : decode code 1504 = .ok (.iadd, 1) := by decide +kernel
theorem dL_law_1505 : decode code 1505 = .ok (.iaload, 1) := by decide +kernel
theorem dL_law_1506 : decode code 1506 = .ok (.invokevirtual 147, 3) := by decide +kernel
theorem dL_law_1509 : decode code 1509 = .ok (.if_icmp .eq 832, 3) := by decide +kernel
theorem dL_law_1512 : decode code 1512 = .ok (.iconst 0, 1) := by decide +kernel
theorem dL_law_1513 : decode code 1513 = .ok (.ireturn, 1) := by decide +kernel
theorem dL_law_1514 : decode code 1514 = .ok (.aload_n 1, 1) := by decide +kernel
theorem dL_law_1515 : decode code 1515 = .ok (.aload_n 0, 1) := by decide +kernel
theorem dL_law_1516 : decode code 1516 = .ok (.iload_n 3, 1) := by decide +kernel
theorem dL_law_1517 : decode code 1517 = .ok (.iconst 1, 1) := by decide +kernel
theorem dL_law_1518 : decode code 1518 = .ok (.iadd, 1) := by decide +kernel
theorem dL_law_1519 : decode code 1519 = .ok (.iaload, 1) := by decide +kernel
theorem dL_law_1520 : decode code 1520 = .ok (.invokevirtual 148, 3) := by decide +kernel
theorem dL_law_1523 : decode code 1523 = .ok (.aload_n 2, 1) := by decide +kernel
theorem dL_law_1524 : decode code 1524 = .ok (.aload_n 0, 1) := by decide +kernel
theorem dL_law_1525 : decode code 1525 = .ok (.iload_n 3, 1) := by decide +kernel
theorem dL_law_1526 : decode code 1526 = .ok (.iconst 1, 1) := by decide +kernel
theorem dL_law_1527 : decode code 1527 = .ok (.iadd, 1) := by decide +kernel
theorem dL_law_1528 : decode code 1528 = .ok (.iaload, 1) := by decide +kernel
theorem dL_law_1529 : decode code 1529 = .ok (.invokevirtual 151, 3) := by decide +kernel
theorem dL_law_1532 : decode code 1532 = .ok (.if_icmp .eq 809, 3) := by decide +kernel
theorem dL_law_1535 : decode code 1535 = .ok (.iconst 0, 1) := by decide +kernel
theorem dL_law_1536 : decode code 1536 = .ok (.ireturn, 1) := by decide +kernel
theorem dL_law_1537 : decode code 1537 = .ok (.aload_n 1, 1) := by decide +kernel
theorem dL_law_1538 : decode code 1538 = .ok (.aload_n 0, 1) := by decide +kernel
theorem dL_law_1539 : decode code 1539 = .ok (.iload_n 3, 1) := by decide +kernel
theorem dL_law_1540 : decode code 1540 = .ok (.iconst 1, 1) := by decide +kernel
theorem dL_law_1541 : decode code 1541 = .ok (.iadd, 1) := by decide +kernel
theorem dL_law_1542 : decode code 1542 = .ok (.iaload, 1) := by decide +kernel
theorem dL_law_1543 : decode code 1543 = .ok (.aload_n 0, 1) := by decide +kernel
theorem dL_law_1544 : decode code 1544 = .ok (.iload_n 3, 1) := by decide +kernel
theorem dL_law_1545 : decode code 1545 = .ok (.iconst 2, 1) := by decide +kernel
theorem dL_law_1546 : decode code 1546 = .ok (.iadd, 1) := by decide +kernel
theorem dL_law_1547 : decode code 1547 = .ok (.iaload, 1) := by decide +kernel
theorem dL_law_1548 : decode code 1548 = .ok (.aload_n 0, 1) := by decide +kernel
theorem dL_law_1549 : decode code 1549 = .ok (.iload_n 3, 1) := by decide +kernel
theorem dL_law_1550 : decode code 1550 = .ok (.iconst 3, 1) := by decide +kernel
theorem dL_law_1551 : decode code 1551 = .ok (.iadd, 1) := by decide +kernel
theorem dL_law_1552 : decode code 1552 = .ok (.iaload, 1) := by decide +kernel
theorem dL_law_1553 : decode code 1553 = .ok (.ifCond .eq 7, 3) := by decide +kernel
theorem dL_law_1556 : decode code 1556 = .ok (.iconst 1, 1) := by decide +kernel
theorem dL_law_1557 : decode code 1557 = .ok (.goto 4, 3) := by decide +kernel
theorem dL_law_1560 : decode code 1560 = .ok (.iconst 0, 1) := by decide +kernel
theorem dL_law_1561 : decode code 1561 = .ok (.invokevirtual 152, 3) := by decide +kernel
theorem dL_law_1564 : decode code 1564 = .ok (.aload_n 2, 1) := by decide +kernel
theorem dL_law_1565 : decode code 1565 = .ok (.aload_n 0, 1) := by decide +kernel
theorem dL_law_1566 : decode code 1566 = .ok (.iload_n 3, 1) := by decide +kernel
theorem dL_law_1567 : decode code 1567 = .ok (.iconst 1, 1) := by decide +kernel
theorem dL_law_1568 : decode code 1568 = .ok (.iadd, 1) := by decide +kernel
theorem dL_law_1569 : decode code 1569 = .ok (.iaload, 1) := by decide +kernel
theorem dL_law_1570 : decode code 1570 = .ok (.aload_n 0, 1) := by decide +kernel
theorem dL_law_1571 : decode code 1571 = .ok (.iload_n 3, 1) := by decide +kernel
theorem dL_law_1572 : decode code 1572 = .ok (.iconst 2, 1) := by decide +kernel
theorem dL_law_1573 : decode code 1573 = .ok (.iadd, 1) := by decide +kernel
theorem dL_law_1574 : decode code 1574 = .ok (.iaload, 1) := by decide +kernel
theorem dL_law_1575 : decode code 1575 = .ok (.aload_n 0, 1) := by decide +kernel
theorem dL_law_1576 : decode code 1576 = .ok (.iload_n 3, 1) := by decide +kernel
theorem dL_law_1577 : decode code 1577 = .ok (.iconst 3, 1) := by decide +kernel
theorem dL_law_1578 : decode code 1578 = .ok (.iadd, 1) := by decide +kernel
theorem dL_law_1579 : decode code 1579 = .ok (.iaload, 1) := by decide +kernel
theorem dL_law_1580 : decode code 1580 = .ok (.ifCond .eq 7, 3) := by decide +kernel
theorem dL_law_1583 : decode code 1583 = .ok (.iconst 1, 1) := by decide +kernel
theorem dL_law_1584 : decode code 1584 = .ok (.goto 4, 3) := by decide +kernel
theorem dL_law_1587 : decode code 1587 = .ok (.iconst 0, 1) := by decide +kernel
theorem dL_law_1588 : decode code 1588 = .ok (.invokevirtual 156, 3) := by decide +kernel
theorem dL_law_1591 : decode code 1591 = .ok (.if_icmp .eq 750, 3) := by decide +kernel
theorem dL_law_1594 : decode code 1594 = .ok (.iconst 0, 1) := by decide +kernel
theorem dL_law_1595 : decode code 1595 = .ok (.ireturn, 1) := by decide +kernel
theorem dL_law_1596 : decode code 1596 = .ok (.aload_n 1, 1) := by decide +kernel
theorem dL_law_1597 : decode code 1597 = .ok (.aload_n 0, 1) := by decide +kernel
theorem dL_law_1598 : decode code 1598 = .ok (.iload_n 3, 1) := by decide +kernel
theorem dL_law_1599 : decode code 1599 = .ok (.iconst 1, 1) := by decide +kernel
theorem dL_law_1600 : decode code 1600 = .ok (.iadd, 1) := by decide +kernel
theorem dL_law_1601 : decode code 1601 = .ok (.iaload, 1) := by decide +kernel
theorem dL_law_1602 : decode code 1602 = .ok (.aload_n 0, 1) := by decide +kernel
theorem dL_law_1603 : decode code 1603 = .ok (.iload_n 3, 1) := by decide +kernel
theorem dL_law_1604 : decode code 1604 = .ok (.iconst 2, 1) := by decide +kernel
theorem dL_law_1605 : decode code 1605 = .ok (.iadd, 1) := by decide +kernel
theorem dL_law_1606 : decode code 1606 = .ok (.iaload, 1) := by decide +kernel
theorem dL_law_1607 : decode code 1607 = .ok (.aload_n 0, 1) := by decide +kernel
theorem dL_law_1608 : decode code 1608 = .ok (.iload_n 3, 1) := by decide +kernel
theorem dL_law_1609 : decode code 1609 = .ok (.iconst 3, 1) := by decide +kernel
theorem dL_law_1610 : decode code 1610 = .ok (.iadd, 1) := by decide +kernel
theorem dL_law_1611 : decode code 1611 = .ok (.iaload, 1) := by decide +kernel
theorem dL_law_1612 : decode code 1612 = .ok (.ifCond .eq 7, 3) := by decide +kernel
theorem dL_law_1615 : decode code 1615 = .ok (.iconst 1, 1) := by decide +kernel
theorem dL_law_1616 : decode code 1616 = .ok (.goto 4, 3) := by decide +kernel
theorem dL_law_1619 : decode code 1619 = .ok (.iconst 0, 1) := by decide +kernel
theorem dL_law_1620 : decode code 1620 = .ok (.aload_n 0, 1) := by decide +kernel
theorem dL_law_1621 : decode code 1621 = .ok (.iload_n 3, 1) := by decide +kernel
theorem dL_law_1622 : decode code 1622 = .ok (.iconst 4, 1) := by decide +kernel
theorem dL_law_1623 : decode code 1623 = .ok (.iadd, 1) := by decide +kernel
theorem dL_law_1624 : decode code 1624 = .ok (.iaload, 1) := by decide +kernel
theorem dL_law_1625 : decode code 1625 = .ok (.invokevirtual 157, 3) := by decide +kernel
theorem dL_law_1628 : decode code 1628 = .ok (.aload_n 2, 1) := by decide +kernel
theorem dL_law_1629 : decode code 1629 = .ok (.aload_n 0, 1) := by decide +kernel
theorem dL_law_1630 : decode code 1630 = .ok (.iload_n 3, 1) := by decide +kernel
theorem dL_law_1631 : decode code 1631 = .ok (.iconst 1, 1) := by decide +kernel
theorem dL_law_1632 : decode code 1632 = .ok (.iadd, 1) := by decide +kernel
theorem dL_law_1633 : decode code 1633 = .ok (.iaload, 1) := by decide +kernel
theorem dL_law_1634 : decode code 1634 = .ok (.aload_n 0, 1) := by decide +kernel
theorem dL_law_1635 : decode code 1635 = .ok (.iload_n 3, 1) := by decide +kernel
theorem dL_law_1636 : decode code 1636 = .ok (.iconst 2, 1) := by decide +kernel
theorem dL_law_1637 : decode code 1637 = .ok (.iadd, 1) := by decide +kernel
theorem dL_law_1638 : decode code 1638 = .ok (.iaload, 1) := by decide +kernel
theorem dL_law_1639 : decode code 1639 = .ok (.aload_n 0, 1) := by decide +kernel
theorem dL_law_1640 : decode code 1640 = .ok (.iload_n 3, 1) := by decide +kernel
theorem dL_law_1641 : decode code 1641 = .ok (.iconst 3, 1) := by decide +kernel
theorem dL_law_1642 : decode code 1642 = .ok (.iadd, 1) := by decide +kernel
theorem dL_law_1643 : decode code 1643 = .ok (.iaload, 1) := by decide +kernel
theorem dL_law_1644 : decode code 1644 = .ok (.ifCond .eq 7, 3) := by decide +kernel
theorem dL_law_1647 : decode code 1647 = .ok (.iconst 1, 1) := by decide +kernel
theorem dL_law_1648 : decode code 1648 = .ok (.goto 4, 3) := by decide +kernel
theorem dL_law_1651 : decode code 1651 = .ok (.iconst 0, 1) := by decide +kernel
theorem dL_law_1652 : decode code 1652 = .ok (.aload_n 0, 1) := by decide +kernel
theorem dL_law_1653 : decode code 1653 = .ok (.iload_n 3, 1) := by decide +kernel
theorem dL_law_1654 : decode code 1654 = .ok (.iconst 4, 1) := by decide +kernel
theorem dL_law_1655 : decode code 1655 = .ok (.iadd, 1) := by decide +kernel
theorem dL_law_1656 : decode code 1656 = .ok (.iaload, 1) := by decide +kernel
theorem dL_law_1657 : decode code 1657 = .ok (.invokevirtual 161, 3) := by decide +kernel
theorem dL_law_1660 : decode code 1660 = .ok (.if_icmp .eq 681, 3) := by decide +kernel
theorem dL_law_1663 : decode code 1663 = .ok (.iconst 0, 1) := by decide +kernel
theorem dL_law_1664 : decode code 1664 = .ok (.ireturn, 1) := by decide +kernel
theorem dL_law_1665 : decode code 1665 = .ok (.aload_n 1, 1) := by decide +kernel
theorem dL_law_1666 : decode code 1666 = .ok (.aload_n 0, 1) := by decide +kernel
theorem dL_law_1667 : decode code 1667 = .ok (.iload_n 3, 1) := by decide +kernel
theorem dL_law_1668 : decode code 1668 = .ok (.iconst 1, 1) := by decide +kernel
theorem dL_law_1669 : decode code 1669 = .ok (.iadd, 1) := by decide +kernel
theorem dL_law_1670 : decode code 1670 = .ok (.iaload, 1) := by decide +kernel
theorem dL_law_1671 : decode code 1671 = .ok (.aload_n 0, 1) := by decide +kernel
theorem dL_law_1672 : decode code 1672 = .ok (.iload_n 3, 1) := by decide +kernel
theorem dL_law_1673 : decode code 1673 = .ok (.iconst 2, 1) := by decide +kernel
theorem dL_law_1674 : decode code 1674 = .ok (.iadd, 1) := by decide +kernel
theorem dL_law_1675 : decode code 1675 = .ok (.iaload, 1) := by decide +kernel
theorem dL_law_1676 : decode code 1676 = .ok (.invokevirtual 162, 3) := by decide +kernel
theorem dL_law_1679 : decode code 1679 = .ok (.aload_n 2, 1) := by decide +kernel
theorem dL_law_1680 : decode code 1680 = .ok (.aload_n 0, 1) := by decide +kernel
theorem dL_law_1681 : decode code 1681 = .ok (.iload_n 3, 1) := by decide +kernel
theorem dL_law_1682 : decode code 1682 = .ok (.iconst 1, 1) := by decide +kernel
theorem dL_law_1683 : decode code 1683 = .ok (.iadd, 1) := by decide +kernel
theorem dL_law_1684 : decode code 1684 = .ok (.iaload, 1) := by decide +kernel
theorem dL_law_1685 : decode code 1685 = .ok (.aload_n 0, 1) := by decide +kernel
theorem dL_law_1686 : decode code 1686 = .ok (.iload_n 3, 1) := by decide +kernel
theorem dL_law_1687 : decode code 1687 = .ok (.iconst 2, 1) := by decide +kernel
theorem dL_law_1688 : decode code 1688 = .ok (.iadd, 1) := by decide +kernel
theorem dL_law_1689 : decode code 1689 = .ok (.iaload, 1) := by decide +kernel
theorem dL_law_1690 : decode code 1690 = .ok (.invokevirtual 165, 3) := by decide +kernel
theorem dL_law_1693 : decode code 1693 = .ok (.if_icmp .eq 648, 3) := by decide +kernel
theorem dL_law_1696 : decode code 1696 = .ok (.iconst 0, 1) := by decide +kernel
theorem dL_law_1697 : decode code 1697 = .ok (.ireturn, 1) := by decide +kernel
theorem dL_law_1698 : decode code 1698 = .ok (.aload_n 1, 1) := by decide +kernel
theorem dL_law_1699 : decode code 1699 = .ok (.aload_n 0, 1) := by decide +kernel
theorem dL_law_1700 : decode code 1700 = .ok (.iload_n 3, 1) := by decide +kernel
theorem dL_law_1701 : decode code 1701 = .ok (.iconst 1, 1) := by decide +kernel
theorem dL_law_1702 : decode code 1702 = .ok (.iadd, 1) := by decide +kernel
theorem dL_law_1703 : decode code 1703 = .ok (.iaload, 1) := by decide +kernel
theorem dL_law_1704 : decode code 1704 = .ok (.aload_n 0, 1) := by decide +kernel
theorem dL_law_1705 : decode code 1705 = .ok (.iload_n 3, 1) := by decide +kernel
theorem dL_law_1706 : decode code 1706 = .ok (.iconst 2, 1) := by decide +kernel
theorem dL_law_1707 : decode code 1707 = .ok (.iadd, 1) := by decide +kernel
theorem dL_law_1708 : decode code 1708 = .ok (.iaload, 1) := by decide +kernel
theorem dL_law_1709 : decode code 1709 = .ok (.aload_n 0, 1) := by decide +kernel
theorem dL_law_1710 : decode code 1710 = .ok (.iload_n 3, 1) := by decide +kernel
theorem dL_law_1711 : decode code 1711 = .ok (.iconst 3, 1) := by decide +kernel
theorem dL_law_1712 : decode code 1712 = .ok (.iadd, 1) := by decide +kernel
theorem dL_law_1713 : decode code 1713 = .ok (.iaload, 1) := by decide +kernel
theorem dL_law_1714 : decode code 1714 = .ok (.invokevirtual 166, 3) := by decide +kernel
theorem dL_law_1717 : decode code 1717 = .ok (.aload_n 2, 1) := by decide +kernel
theorem dL_law_1718 : decode code 1718 = .ok (.aload_n 0, 1) := by decide +kernel
theorem dL_law_1719 : decode code 1719 = .ok (.iload_n 3, 1) := by decide +kernel
theorem dL_law_1720 : decode code 1720 = .ok (.iconst 1, 1) := by decide +kernel
theorem dL_law_1721 : decode code 1721 = .ok (.iadd, 1) := by decide +kernel
theorem dL_law_1722 : decode code 1722 = .ok (.iaload, 1) := by decide +kernel
theorem dL_law_1723 : decode code 1723 = .ok (.aload_n 0, 1) := by decide +kernel
theorem dL_law_1724 : decode code 1724 = .ok (.iload_n 3, 1) := by decide +kernel
theorem dL_law_1725 : decode code 1725 = .ok (.iconst 2, 1) := by decide +kernel
theorem dL_law_1726 : decode code 1726 = .ok (.iadd, 1) := by decide +kernel
theorem dL_law_1727 : decode code 1727 = .ok (.iaload, 1) := by decide +kernel
theorem dL_law_1728 : decode code 1728 = .ok (.aload_n 0, 1) := by decide +kernel
theorem dL_law_1729 : decode code 1729 = .ok (.iload_n 3, 1) := by decide +kernel
theorem dL_law_1730 : decode code 1730 = .ok (.iconst 3, 1) := by decide +kernel
theorem dL_law_1731 : decode code 1731 = .ok (.iadd, 1) := by decide +kernel
theorem dL_law_1732 : decode code 1732 = .ok (.iaload, 1) := by decide +kernel
theorem dL_law_1733 : decode code 1733 = .ok (.invokevirtual 169, 3) := by decide +kernel
theorem dL_law_1736 : decode code 1736 = .ok (.if_icmp .eq 605, 3) := by decide +kernel
theorem dL_law_1739 : decode code 1739 = .ok (.iconst 0, 1) := by decide +kernel
theorem dL_law_1740 : decode code 1740 = .ok (.ireturn, 1) := by decide +kernel
theorem dL_law_1741 : decode code 1741 = .ok (.aload_n 1, 1) := by decide +kernel
theorem dL_law_1742 : decode code 1742 = .ok (.aload_n 0, 1) := by decide +kernel
theorem dL_law_1743 : decode code 1743 = .ok (.iload_n 3, 1) := by decide +kernel
theorem dL_law_1744 : decode code 1744 = .ok (.iconst 1, 1) := by decide +kernel
theorem dL_law_1745 : decode code 1745 = .ok (.iadd, 1) := by decide +kernel
theorem dL_law_1746 : decode code 1746 = .ok (.iaload, 1) := by decide +kernel
theorem dL_law_1747 : decode code 1747 = .ok (.aload_n 0, 1) := by decide +kernel
theorem dL_law_1748 : decode code 1748 = .ok (.iload_n 3, 1) := by decide +kernel
theorem dL_law_1749 : decode code 1749 = .ok (.iconst 2, 1) := by decide +kernel
theorem dL_law_1750 : decode code 1750 = .ok (.iadd, 1) := by decide +kernel
theorem dL_law_1751 : decode code 1751 = .ok (.iaload, 1) := by decide +kernel
theorem dL_law_1752 : decode code 1752 = .ok (.aload_n 0, 1) := by decide +kernel
theorem dL_law_1753 : decode code 1753 = .ok (.iload_n 3, 1) := by decide +kernel
theorem dL_law_1754 : decode code 1754 = .ok (.iconst 3, 1) := by decide +kernel
theorem dL_law_1755 : decode code 1755 = .ok (.iadd, 1) := by decide +kernel
theorem dL_law_1756 : decode code 1756 = .ok (.iaload, 1) := by decide +kernel
theorem dL_law_1757 : decode code 1757 = .ok (.invokevirtual 170, 3) := by decide +kernel
theorem dL_law_1760 : decode code 1760 = .ok (.aload_n 2, 1) := by decide +kernel
theorem dL_law_1761 : decode code 1761 = .ok (.aload_n 0, 1) := by decide +kernel
theorem dL_law_1762 : decode code 1762 = .ok (.iload_n 3, 1) := by decide +kernel
theorem dL_law_1763 : decode code 1763 = .ok (.iconst 1, 1) := by decide +kernel
theorem dL_law_1764 : decode code 1764 = .ok (.iadd, 1) := by decide +kernel
theorem dL_law_1765 : decode code 1765 = .ok (.iaload, 1) := by decide +kernel
theorem dL_law_1766 : decode code 1766 = .ok (.aload_n 0, 1) := by decide +kernel
theorem dL_law_1767 : decode code 1767 = .ok (.iload_n 3, 1) := by decide +kernel
theorem dL_law_1768 : decode code 1768 = .ok (.iconst 2, 1) := by decide +kernel
theorem dL_law_1769 : decode code 1769 = .ok (.iadd, 1) := by decide +kernel
theorem dL_law_1770 : decode code 1770 = .ok (.iaload, 1) := by decide +kernel
theorem dL_law_1771 : decode code 1771 = .ok (.aload_n 0, 1) := by decide +kernel
theorem dL_law_1772 : decode code 1772 = .ok (.iload_n 3, 1) := by decide +kernel
theorem dL_law_1773 : decode code 1773 = .ok (.iconst 3, 1) := by decide +kernel
theorem dL_law_1774 : decode code 1774 = .ok (.iadd, 1) := by decide +kernel
theorem dL_law_1775 : decode code 1775 = .ok (.iaload, 1) := by decide +kernel
theorem dL_law_1776 : decode code 1776 = .ok (.invokevirtual 173, 3) := by decide +kernel
theorem dL_law_1779 : decode code 1779 = .ok (.if_icmp .eq 562, 3) := by decide +kernel
theorem dL_law_1782 : decode code 1782 = .ok (.iconst 0, 1) := by decide +kernel
theorem dL_law_1783 : decode code 1783 = .ok (.ireturn, 1) := by decide +kernel
theorem dL_law_1784 : decode code 1784 = .ok (.aload_n 1, 1) := by decide +kernel
theorem dL_law_1785 : decode code 1785 = .ok (.aload_n 0, 1) := by decide +kernel
theorem dL_law_1786 : decode code 1786 = .ok (.iload_n 3, 1) := by decide +kernel
theorem dL_law_1787 : decode code 1787 = .ok (.iconst 1, 1) := by decide +kernel
theorem dL_law_1788 : decode code 1788 = .ok (.iadd, 1) := by decide +kernel
theorem dL_law_1789 : decode code 1789 = .ok (.iaload, 1) := by decide +kernel
theorem dL_law_1790 : decode code 1790 = .ok (.aload_n 0, 1) := by decide +kernel
theorem dL_law_1791 : decode code 1791 = .ok (.iload_n 3, 1) := by decide +kernel
theorem dL_law_1792 : decode code 1792 = .ok (.iconst 2, 1) := by decide +kernel
theorem dL_law_1793 : decode code 1793 = .ok (.iadd, 1) := by decide +kernel
theorem dL_law_1794 : decode code 1794 = .ok (.iaload, 1) := by decide +kernel
theorem dL_law_1795 : decode code 1795 = .ok (.aload_n 0, 1) := by decide +kernel
theorem dL_law_1796 : decode code 1796 = .ok (.iload_n 3, 1) := by decide +kernel
theorem dL_law_1797 : decode code 1797 = .ok (.iconst 3, 1) := by decide +kernel
theorem dL_law_1798 : decode code 1798 = .ok (.iadd, 1) := by decide +kernel
theorem dL_law_1799 : decode code 1799 = .ok (.iaload, 1) := by decide +kernel
theorem dL_law_1800 : decode code 1800 = .ok (.invokevirtual 174, 3) := by decide +kernel
theorem dL_law_1803 : decode code 1803 = .ok (.aload_n 2, 1) := by decide +kernel
theorem dL_law_1804 : decode code 1804 = .ok (.aload_n 0, 1) := by decide +kernel
theorem dL_law_1805 : decode code 1805 = .ok (.iload_n 3, 1) := by decide +kernel
theorem dL_law_1806 : decode code 1806 = .ok (.iconst 1, 1) := by decide +kernel
theorem dL_law_1807 : decode code 1807 = .ok (.iadd, 1) := by decide +kernel
theorem dL_law_1808 : decode code 1808 = .ok (.iaload, 1) := by decide +kernel
theorem dL_law_1809 : decode code 1809 = .ok (.aload_n 0, 1) := by decide +kernel
theorem dL_law_1810 : decode code 1810 = .ok (.iload_n 3, 1) := by decide +kernel
theorem dL_law_1811 : decode code 1811 = .ok (.iconst 2, 1) := by decide +kernel
theorem dL_law_1812 : decode code 1812 = .ok (.iadd, 1) := by decide +kernel
theorem dL_law_1813 : decode code 1813 = .ok (.iaload, 1) := by decide +kernel
theorem dL_law_1814 : decode code 1814 = .ok (.aload_n 0, 1) := by decide +kernel
theorem dL_law_1815 : decode code 1815 = .ok (.iload_n 3, 1) := by decide +kernel
theorem dL_law_1816 : decode code 1816 = .ok (.iconst 3, 1) := by decide +kernel
theorem dL_law_1817 : decode code 1817 = .ok (.iadd, 1) := by decide +kernel
theorem dL_law_1818 : decode code 1818 = .ok (.iaload, 1) := by decide +kernel
theorem dL_law_1819 : decode code 1819 = .ok (.invokevirtual 177, 3) := by decide +kernel
theorem dL_law_1822 : decode code 1822 = .ok (.if_icmp .eq 519, 3) := by decide +kernel
theorem dL_law_1825 : decode code 1825 = .ok (.iconst 0, 1) := by decide +kernel
theorem dL_law_1826 : decode code 1826 = .ok (.ireturn, 1) := by decide +kernel
theorem dL_law_1827 : decode code 1827 = .ok (.aload_n 1, 1) := by decide +kernel
theorem dL_law_1828 : decode code 1828 = .ok (.aload_n 0, 1) := by decide +kernel
theorem dL_law_1829 : decode code 1829 = .ok (.iload_n 3, 1) := by decide +kernel
theorem dL_law_1830 : decode code 1830 = .ok (.iconst 1, 1) := by decide +kernel
theorem dL_law_1831 : decode code 1831 = .ok (.iadd, 1) := by decide +kernel
theorem dL_law_1832 : decode code 1832 = .ok (.iaload, 1) := by decide +kernel
theorem dL_law_1833 : decode code 1833 = .ok (.aload_n 0, 1) := by decide +kernel
theorem dL_law_1834 : decode code 1834 = .ok (.iload_n 3, 1) := by decide +kernel
theorem dL_law_1835 : decode code 1835 = .ok (.iconst 2, 1) := by decide +kernel
theorem dL_law_1836 : decode code 1836 = .ok (.iadd, 1) := by decide +kernel
theorem dL_law_1837 : decode code 1837 = .ok (.iaload, 1) := by decide +kernel
theorem dL_law_1838 : decode code 1838 = .ok (.invokevirtual 178, 3) := by decide +kernel
theorem dL_law_1841 : decode code 1841 = .ok (.aload_n 2, 1) := by decide +kernel
theorem dL_law_1842 : decode code 1842 = .ok (.aload_n 0, 1) := by decide +kernel
theorem dL_law_1843 : decode code 1843 = .ok (.iload_n 3, 1) := by decide +kernel
theorem dL_law_1844 : decode code 1844 = .ok (.iconst 1, 1) := by decide +kernel
theorem dL_law_1845 : decode code 1845 = .ok (.iadd, 1) := by decide +kernel
theorem dL_law_1846 : decode code 1846 = .ok (.iaload, 1) := by decide +kernel
theorem dL_law_1847 : decode code 1847 = .ok (.aload_n 0, 1) := by decide +kernel
theorem dL_law_1848 : decode code 1848 = .ok (.iload_n 3, 1) := by decide +kernel
theorem dL_law_1849 : decode code 1849 = .ok (.iconst 2, 1) := by decide +kernel
theorem dL_law_1850 : decode code 1850 = .ok (.iadd, 1) := by decide +kernel
theorem dL_law_1851 : decode code 1851 = .ok (.iaload, 1) := by decide +kernel
theorem dL_law_1852 : decode code 1852 = .ok (.invokevirtual 181, 3) := by decide +kernel
theorem dL_law_1855 : decode code 1855 = .ok (.if_icmp .eq 486, 3) := by decide +kernel
theorem dL_law_1858 : decode code 1858 = .ok (.iconst 0, 1) := by decide +kernel
theorem dL_law_1859 : decode code 1859 = .ok (.ireturn, 1) := by decide +kernel
theorem dL_law_1860 : decode code 1860 = .ok (.aload_n 1, 1) := by decide +kernel
theorem dL_law_1861 : decode code 1861 = .ok (.aload_n 0, 1) := by decide +kernel
theorem dL_law_1862 : decode code 1862 = .ok (.iload_n 3, 1) := by decide +kernel
theorem dL_law_1863 : decode code 1863 = .ok (.iconst 1, 1) := by decide +kernel
theorem dL_law_1864 : decode code 1864 = .ok (.iadd, 1) := by decide +kernel
theorem dL_law_1865 : decode code 1865 = .ok (.iaload, 1) := by decide +kernel
theorem dL_law_1866 : decode code 1866 = .ok (.aload_n 0, 1) := by decide +kernel
theorem dL_law_1867 : decode code 1867 = .ok (.iload_n 3, 1) := by decide +kernel
theorem dL_law_1868 : decode code 1868 = .ok (.iconst 2, 1) := by decide +kernel
theorem dL_law_1869 : decode code 1869 = .ok (.iadd, 1) := by decide +kernel
theorem dL_law_1870 : decode code 1870 = .ok (.iaload, 1) := by decide +kernel
theorem dL_law_1871 : decode code 1871 = .ok (.aload_n 0, 1) := by decide +kernel
theorem dL_law_1872 : decode code 1872 = .ok (.iload_n 3, 1) := by decide +kernel
theorem dL_law_1873 : decode code 1873 = .ok (.iconst 3, 1) := by decide +kernel
theorem dL_law_1874 : decode code 1874 = .ok (.iadd, 1) := by decide +kernel
theorem dL_law_1875 : decode code 1875 = .ok (.iaload, 1) := by decide +kernel
theorem dL_law_1876 : decode code 1876 = .ok (.ifCond .eq 7, 3) := by decide +kernel
theorem dL_law_1879 : decode code 1879 = .ok (.iconst 1, 1) := by decide +kernel
theorem dL_law_1880 : decode code 1880 = .ok (.goto 4, 3) := by decide +kernel
theorem dL_law_1883 : decode code 1883 = .ok (.iconst 0, 1) := by decide +kernel
theorem dL_law_1884 : decode code 1884 = .ok (.invokevirtual 182, 3) := by decide +kernel
theorem dL_law_1887 : decode code 1887 = .ok (.aload_n 2, 1) := by decide +kernel
theorem dL_law_1888 : decode code 1888 = .ok (.aload_n 0, 1) := by decide +kernel
theorem dL_law_1889 : decode code 1889 = .ok (.iload_n 3, 1) := by decide +kernel
theorem dL_law_1890 : decode code 1890 = .ok (.iconst 1, 1) := by decide +kernel
theorem dL_law_1891 : decode code 1891 = .ok (.iadd, 1) := by decide +kernel
theorem dL_law_1892 : decode code 1892 = .ok (.iaload, 1) := by decide +kernel
theorem dL_law_1893 : decode code 1893 = .ok (.aload_n 0, 1) := by decide +kernel
theorem dL_law_1894 : decode code 1894 = .ok (.iload_n 3, 1) := by decide +kernel
theorem dL_law_1895 : decode code 1895 = .ok (.iconst 2, 1) := by decide +kernel
theorem dL_law_1896 : decode code 1896 = .ok (.iadd, 1) := by decide +kernel
theorem dL_law_1897 : decode code 1897 = .ok (.iaload, 1) := by decide +kernel
theorem dL_law_1898 : decode code 1898 = .ok (.aload_n 0, 1) := by decide +kernel
theorem dL_law_1899 : decode code 1899 = .ok (.iload_n 3, 1) := by decide +kernel
theorem dL_law_1900 : decode code 1900 = .ok (.iconst 3, 1) := by decide +kernel
theorem dL_law_1901 : decode code 1901 = .ok (.iadd, 1) := by decide +kernel
theorem dL_law_1902 : decode code 1902 = .ok (.iaload, 1) := by decide +kernel
theorem dL_law_1903 : decode code 1903 = .ok (.ifCond .eq 7, 3) := by decide +kernel
theorem dL_law_1906 : decode code 1906 = .ok (.iconst 1, 1) := by decide +kernel
theorem dL_law_1907 : decode code 1907 = .ok (.goto 4, 3) := by decide +kernel
theorem dL_law_1910 : decode code 1910 = .ok (.iconst 0, 1) := by decide +kernel
theorem dL_law_1911 : decode code 1911 = .ok (.invokevirtual 185, 3) := by decide +kernel
theorem dL_law_1914 : decode code 1914 = .ok (.if_icmp .eq 427, 3) := by decide +kernel
theorem dL_law_1917 : decode code 1917 = .ok (.iconst 0, 1) := by decide +kernel
theorem dL_law_1918 : decode code 1918 = .ok (.ireturn, 1) := by decide +kernel
theorem dL_law_1919 : decode code 1919 = .ok (.aload_n 1, 1) := by decide +kernel
theorem dL_law_1920 : decode code 1920 = .ok (.aload_n 0, 1) := by decide +kernel
theorem dL_law_1921 : decode code 1921 = .ok (.iload_n 3, 1) := by decide +kernel
theorem dL_law_1922 : decode code 1922 = .ok (.iconst 1, 1) := by decide +kernel
theorem dL_law_1923 : decode code 1923 = .ok (.iadd, 1) := by decide +kernel
theorem dL_law_1924 : decode code 1924 = .ok (.iaload, 1) := by decide +kernel
theorem dL_law_1925 : decode code 1925 = .ok (.invokevirtual 186, 3) := by decide +kernel
theorem dL_law_1928 : decode code 1928 = .ok (.aload_n 2, 1) := by decide +kernel
theorem dL_law_1929 : decode code 1929 = .ok (.aload_n 0, 1) := by decide +kernel
theorem dL_law_1930 : decode code 1930 = .ok (.iload_n 3, 1) := by decide +kernel
theorem dL_law_1931 : decode code 1931 = .ok (.iconst 1, 1) := by decide +kernel
theorem dL_law_1932 : decode code 1932 = .ok (.iadd, 1) := by decide +kernel
theorem dL_law_1933 : decode code 1933 = .ok (.iaload, 1) := by decide +kernel
theorem dL_law_1934 : decode code 1934 = .ok (.invokevirtual 189, 3) := by decide +kernel
theorem dL_law_1937 : decode code 1937 = .ok (.if_icmp .eq 404, 3) := by decide +kernel
theorem dL_law_1940 : decode code 1940 = .ok (.iconst 0, 1) := by decide +kernel
theorem dL_law_1941 : decode code 1941 = .ok (.ireturn, 1) := by decide +kernel
theorem dL_law_1942 : decode code 1942 = .ok (.aload_n 1, 1) := by decide +kernel
theorem dL_law_1943 : decode code 1943 = .ok (.aload_n 0, 1) := by decide +kernel
theorem dL_law_1944 : decode code 1944 = .ok (.iload_n 3, 1) := by decide +kernel
theorem dL_law_1945 : decode code 1945 = .ok (.iconst 1, 1) := by decide +kernel
theorem dL_law_1946 : decode code 1946 = .ok (.iadd, 1) := by decide +kernel
theorem dL_law_1947 : decode code 1947 = .ok (.iaload, 1) := by decide +kernel
theorem dL_law_1948 : decode code 1948 = .ok (.aload_n 0, 1) := by decide +kernel
theorem dL_law_1949 : decode code 1949 = .ok (.iload_n 3, 1) := by decide +kernel
theorem dL_law_1950 : decode code 1950 = .ok (.iconst 2, 1) := by decide +kernel
theorem dL_law_1951 : decode code 1951 = .ok (.iadd, 1) := by decide +kernel
theorem dL_law_1952 : decode code 1952 = .ok (.iaload, 1) := by decide +kernel
theorem dL_law_1953 : decode code 1953 = .ok (.invokevirtual 190, 3) := by decide +kernel
theorem dL_law_1956 : decode code 1956 = .ok (.aload_n 2, 1) := by decide +kernel
theorem dL_law_1957 : decode code 1957 = .ok (.aload_n 0, 1) := by decide +kernel
theorem dL_law_1958 : decode code 1958 = .ok (.iload_n 3, 1) := by decide +kernel
theorem dL_law_1959 : decode code 1959 = .ok (.iconst 1, 1) := by decide +kernel
theorem dL_law_1960 : decode code 1960 = .ok (.iadd, 1) := by decide +kernel
theorem dL_law_1961 : decode code 1961 = .ok (.iaload, 1) := by decide +kernel
theorem dL_law_1962 : decode code 1962 = .ok (.aload_n 0, 1) := by decide +kernel
theorem dL_law_1963 : decode code 1963 = .ok (.iload_n 3, 1) := by decide +kernel
theorem dL_law_1964 : decode code 1964 = .ok (.iconst 2, 1) := by decide +kernel
theorem dL_law_1965 : decode code 1965 = .ok (.iadd, 1) := by decide +kernel
theorem dL_law_1966 : decode code 1966 = .ok (.iaload, 1) := by decide +kernel
theorem dL_law_1967 : decode code 1967 = .ok (.invokevirtual 193, 3) := by decide +kernel
theorem dL_law_1970 : decode code 1970 = .ok (.if_icmp .eq 371, 3) := by decide +kernel
theorem dL_law_1973 : decode code 1973 = .ok (.iconst 0, 1) := by decide +kernel
theorem dL_law_1974 : decode code 1974 = .ok (.ireturn, 1) := by decide +kernel
theorem dL_law_1975 : decode code 1975 = .ok (.aload_n 1, 1) := by decide +kernel
theorem dL_law_1976 : decode code 1976 = .ok (.aload_n 0, 1) := by decide +kernel
theorem dL_law_1977 : decode code 1977 = .ok (.iload_n 3, 1) := by decide +kernel
theorem dL_law_1978 : decode code 1978 = .ok (.iconst 1, 1) := by decide +kernel
theorem dL_law_1979 : decode code 1979 = .ok (.iadd, 1) := by decide +kernel
theorem dL_law_1980 : decode code 1980 = .ok (.iaload, 1) := by decide +kernel
theorem dL_law_1981 : decode code 1981 = .ok (.aload_n 0, 1) := by decide +kernel
theorem dL_law_1982 : decode code 1982 = .ok (.iload_n 3, 1) := by decide +kernel
theorem dL_law_1983 : decode code 1983 = .ok (.iconst 2, 1) := by decide +kernel
theorem dL_law_1984 : decode code 1984 = .ok (.iadd, 1) := by decide +kernel
theorem dL_law_1985 : decode code 1985 = .ok (.iaload, 1) := by decide +kernel
theorem dL_law_1986 : decode code 1986 = .ok (.invokevirtual 194, 3) := by decide +kernel
theorem dL_law_1989 : decode code 1989 = .ok (.aload_n 2, 1) := by decide +kernel
theorem dL_law_1990 : decode code 1990 = .ok (.aload_n 0, 1) := by decide +kernel
theorem dL_law_1991 : decode code 1991 = .ok (.iload_n 3, 1) := by decide +kernel
theorem dL_law_1992 : decode code 1992 = .ok (.iconst 1, 1) := by decide +kernel
theorem dL_law_1993 : decode code 1993 = .ok (.iadd, 1) := by decide +kernel
theorem dL_law_1994 : decode code 1994 = .ok (.iaload, 1) := by decide +kernel
theorem dL_law_1995 : decode code 1995 = .ok (.aload_n 0, 1) := by decide +kernel
theorem dL_law_1996 : decode code 1996 = .ok (.iload_n 3, 1) := by decide +kernel
theorem dL_law_1997 : decode code 1997 = .ok (.iconst 2, 1) := by decide +kernel
theorem dL_law_1998 : decode code 1998 = .ok (.iadd, 1) := by decide +kernel
theorem dL_law_1999 : decode code 1999 = .ok (.iaload, 1) := by decide +kernel
theorem dL_law_2000 : decode code 2000 = .ok (.invokevirtual 197, 3) := by decide +kernel
theorem dL_law_2003 : decode code 2003 = .ok (.if_icmp .eq 338, 3) := by decide +kernel
theorem dL_law_2006 : decode code 2006 = .ok (.iconst 0, 1) := by decide +kernel
theorem dL_law_2007 : decode code 2007 = .ok (.ireturn, 1) := by decide +kernel
theorem dL_law_2008 : decode code 2008 = .ok (.aload_n 1, 1) := by decide +kernel
theorem dL_law_2009 : decode code 2009 = .ok (.aload_n 0, 1) := by decide +kernel
theorem dL_law_2010 : decode code 2010 = .ok (.iload_n 3, 1) := by decide +kernel
theorem dL_law_2011 : decode code 2011 = .ok (.iconst 1, 1) := by decide +kernel
theorem dL_law_2012 : decode code 2012 = .ok (.iadd, 1) := by decide +kernel
theorem dL_law_2013 : decode code 2013 = .ok (.iaload, 1) := by decide +kernel
theorem dL_law_2014 : decode code 2014 = .ok (.aload_n 0, 1) := by decide +kernel
theorem dL_law_2015 : decode code 2015 = .ok (.iload_n 3, 1) := by decide +kernel
theorem dL_law_2016 : decode code 2016 = .ok (.iconst 2, 1) := by decide +kernel
theorem dL_law_2017 : decode code 2017 = .ok (.iadd, 1) := by decide +kernel
theorem dL_law_2018 : decode code 2018 = .ok (.iaload, 1) := by decide +kernel
theorem dL_law_2019 : decode code 2019 = .ok (.invokevirtual 198, 3) := by decide +kernel
theorem dL_law_2022 : decode code 2022 = .ok (.aload_n 2, 1) := by decide +kernel
theorem dL_law_2023 : decode code 2023 = .ok (.aload_n 0, 1) := by decide +kernel
theorem dL_law_2024 : decode code 2024 = .ok (.iload_n 3, 1) := by decide +kernel
theorem dL_law_2025 : decode code 2025 = .ok (.iconst 1, 1) := by decide +kernel
theorem dL_law_2026 : decode code 2026 = .ok (.iadd, 1) := by decide +kernel
theorem dL_law_2027 : decode code 2027 = .ok (.iaload, 1) := by decide +kernel
theorem dL_law_2028 : decode code 2028 = .ok (.aload_n 0, 1) := by decide +kernel
theorem dL_law_2029 : decode code 2029 = .ok (.iload_n 3, 1) := by decide +kernel
theorem dL_law_2030 : decode code 2030 = .ok (.iconst 2, 1) := by decide +kernel
theorem dL_law_2031 : decode code 2031 = .ok (.iadd, 1) := by decide +kernel
theorem dL_law_2032 : decode code 2032 = .ok (.iaload, 1) := by decide +kernel
theorem dL_law_2033 : decode code 2033 = .ok (.invokevirtual 201, 3) := by decide +kernel
theorem dL_law_2036 : decode code 2036 = .ok (.if_icmp .eq 305, 3) := by decide +kernel
theorem dL_law_2039 : decode code 2039 = .ok (.iconst 0, 1) := by decide +kernel
theorem dL_law_2040 : decode code 2040 = .ok (.ireturn, 1) := by decide +kernel
theorem dL_law_2041 : decode code 2041 = .ok (.aload_n 1, 1) := by decide +kernel
theorem dL_law_2042 : decode code 2042 = .ok (.aload_n 0, 1) := by decide +kernel
theorem dL_law_2043 : decode code 2043 = .ok (.iload_n 3, 1) := by decide +kernel
theorem dL_law_2044 : decode code 2044 = .ok (.iconst 1, 1) := by decide +kernel
theorem dL_law_2045 : decode code 2045 = .ok (.iadd, 1) := by decide +kernel
theorem dL_law_2046 : decode code 2046 = .ok (.iaload, 1) := by decide +kernel
theorem dL_law_2047 : decode code 2047 = .ok (.aload_n 0, 1) := by decide +kernel
theorem dL_law_2048 : decode code 2048 = .ok (.iload_n 3, 1) := by decide +kernel
theorem dL_law_2049 : decode code 2049 = .ok (.iconst 2, 1) := by decide +kernel
theorem dL_law_2050 : decode code 2050 = .ok (.iadd, 1) := by decide +kernel
theorem dL_law_2051 : decode code 2051 = .ok (.iaload, 1) := by decide +kernel
theorem dL_law_2052 : decode code 2052 = .ok (.aload_n 0, 1) := by decide +kernel
theorem dL_law_2053 : decode code 2053 = .ok (.iload_n 3, 1) := by decide +kernel
theorem dL_law_2054 : decode code 2054 = .ok (.iconst 3, 1) := by decide +kernel
theorem dL_law_2055 : decode code 2055 = .ok (.iadd, 1) := by decide +kernel
theorem dL_law_2056 : decode code 2056 = .ok (.iaload, 1) := by decide +kernel
theorem dL_law_2057 : decode code 2057 = .ok (.invokevirtual 202, 3) := by decide +kernel
theorem dL_law_2060 : decode code 2060 = .ok (.aload_n 2, 1) := by decide +kernel
theorem dL_law_2061 : decode code 2061 = .ok (.aload_n 0, 1) := by decide +kernel
theorem dL_law_2062 : decode code 2062 = .ok (.iload_n 3, 1) := by decide +kernel
theorem dL_law_2063 : decode code 2063 = .ok (.iconst 1, 1) := by decide +kernel
theorem dL_law_2064 : decode code 2064 = .ok (.iadd, 1) := by decide +kernel
theorem dL_law_2065 : decode code 2065 = .ok (.iaload, 1) := by decide +kernel
theorem dL_law_2066 : decode code 2066 = .ok (.aload_n 0, 1) := by decide +kernel
theorem dL_law_2067 : decode code 2067 = .ok (.iload_n 3, 1) := by decide +kernel
theorem dL_law_2068 : decode code 2068 = .ok (.iconst 2, 1) := by decide +kernel
theorem dL_law_2069 : decode code 2069 = .ok (.iadd, 1) := by decide +kernel
theorem dL_law_2070 : decode code 2070 = .ok (.iaload, 1) := by decide +kernel
theorem dL_law_2071 : decode code 2071 = .ok (.aload_n 0, 1) := by decide +kernel
theorem dL_law_2072 : decode code 2072 = .ok (.iload_n 3, 1) := by decide +kernel
theorem dL_law_2073 : decode code 2073 = .ok (.iconst 3, 1) := by decide +kernel
theorem dL_law_2074 : decode code 2074 = .ok (.iadd, 1) := by decide +kernel
theorem dL_law_2075 : decode code 2075 = .ok (.iaload, 1) := by decide +kernel
theorem dL_law_2076 : decode code 2076 = .ok (.invokevirtual 205, 3) := by decide +kernel
theorem dL_law_2079 : decode code 2079 = .ok (.if_icmp .eq 262, 3) := by decide +kernel
theorem dL_law_2082 : decode code 2082 = .ok (.iconst 0, 1) := by decide +kernel
theorem dL_law_2083 : decode code 2083 = .ok (.ireturn, 1) := by decide +kernel
theorem dL_law_2084 : decode code 2084 = .ok (.aload_n 1, 1) := by decide +kernel
theorem dL_law_2085 : decode code 2085 = .ok (.aload_n 0, 1) := by decide +kernel
theorem dL_law_2086 : decode code 2086 = .ok (.iload_n 3, 1) := by decide +kernel
theorem dL_law_2087 : decode code 2087 = .ok (.iconst 1, 1) := by decide +kernel
theorem dL_law_2088 : decode code 2088 = .ok (.iadd, 1) := by decide +kernel
theorem dL_law_2089 : decode code 2089 = .ok (.iaload, 1) := by decide +kernel
theorem dL_law_2090 : decode code 2090 = .ok (.aload_n 0, 1) := by decide +kernel
theorem dL_law_2091 : decode code 2091 = .ok (.iload_n 3, 1) := by decide +kernel
theorem dL_law_2092 : decode code 2092 = .ok (.iconst 2, 1) := by decide +kernel
theorem dL_law_2093 : decode code 2093 = .ok (.iadd, 1) := by decide +kernel
theorem dL_law_2094 : decode code 2094 = .ok (.iaload, 1) := by decide +kernel
theorem dL_law_2095 : decode code 2095 = .ok (.invokevirtual 206, 3) := by decide +kernel
theorem dL_law_2098 : decode code 2098 = .ok (.aload_n 2, 1) := by decide +kernel
theorem dL_law_2099 : decode code 2099 = .ok (.aload_n 0, 1) := by decide +kernel
theorem dL_law_2100 : decode code 2100 = .ok (.iload_n 3, 1) := by decide +kernel
theorem dL_law_2101 : decode code 2101 = .ok (.iconst 1, 1) := by decide +kernel
theorem dL_law_2102 : decode code 2102 = .ok (.iadd, 1) := by decide +kernel
theorem dL_law_2103 : decode code 2103 = .ok (.iaload, 1) := by decide +kernel
theorem dL_law_2104 : decode code 2104 = .ok (.aload_n 0, 1) := by decide +kernel
theorem dL_law_2105 : decode code 2105 = .ok (.iload_n 3, 1) := by decide +kernel
theorem dL_law_2106 : decode code 2106 = .ok (.iconst 2, 1) := by decide +kernel
theorem dL_law_2107 : decode code 2107 = .ok (.iadd, 1) := by decide +kernel
theorem dL_law_2108 : decode code 2108 = .ok (.iaload, 1) := by decide +kernel
theorem dL_law_2109 : decode code 2109 = .ok (.invokevirtual 209, 3) := by decide +kernel
theorem dL_law_2112 : decode code 2112 = .ok (.if_icmp .eq 229, 3) := by decide +kernel
theorem dL_law_2115 : decode code 2115 = .ok (.iconst 0, 1) := by decide +kernel
theorem dL_law_2116 : decode code 2116 = .ok (.ireturn, 1) := by decide +kernel
theorem dL_law_2117 : decode code 2117 = .ok (.aload_n 1, 1) := by decide +kernel
theorem dL_law_2118 : decode code 2118 = .ok (.aload_n 0, 1) := by decide +kernel
theorem dL_law_2119 : decode code 2119 = .ok (.iload_n 3, 1) := by decide +kernel
theorem dL_law_2120 : decode code 2120 = .ok (.iconst 1, 1) := by decide +kernel
theorem dL_law_2121 : decode code 2121 = .ok (.iadd, 1) := by decide +kernel
theorem dL_law_2122 : decode code 2122 = .ok (.iaload, 1) := by decide +kernel
theorem dL_law_2123 : decode code 2123 = .ok (.invokevirtual 210, 3) := by decide +kernel
theorem dL_law_2126 : decode code 2126 = .ok (.aload_n 2, 1) := by decide +kernel
theorem dL_law_2127 : decode code 2127 = .ok (.aload_n 0, 1) := by decide +kernel
theorem dL_law_2128 : decode code 2128 = .ok (.iload_n 3, 1) := by decide +kernel
theorem dL_law_2129 : decode code 2129 = .ok (.iconst 1, 1) := by decide +kernel
theorem dL_law_2130 : decode code 2130 = .ok (.iadd, 1) := by decide +kernel
theorem dL_law_2131 : decode code 2131 = .ok (.iaload, 1) := by decide +kernel
theorem dL_law_2132 : decode code 2132 = .ok (.invokevirtual 213, 3) := by decide +kernel
theorem dL_law_2135 : decode code 2135 = .ok (.if_icmp .eq 206, 3) := by decide +kernel
theorem dL_law_2138 : decode code 2138 = .ok (.iconst 0, 1) := by decide +kernel
theorem dL_law_2139 : decode code 2139 = .ok (.ireturn, 1) := by decide +kernel
theorem dL_law_2140 : decode code 2140 = .ok (.aload_n 1, 1) := by decide +kernel
theorem dL_law_2141 : decode code 2141 = .ok (.aload_n 0, 1) := by decide +kernel
theorem dL_law_2142 : decode code 2142 = .ok (.iload_n 3, 1) := by decide +kernel
theorem dL_law_2143 : decode code 2143 = .ok (.iconst 1, 1) := by decide +kernel
theorem dL_law_2144 : decode code 2144 = .ok (.iadd, 1) := by decide +kernel
theorem dL_law_2145 : decode code 2145 = .ok (.iaload, 1) := by decide +kernel
theorem dL_law_2146 : decode code 2146 = .ok (.aload_n 0, 1) := by decide +kernel
theorem dL_law_2147 : decode code 2147 = .ok (.iload_n 3, 1) := by decide +kernel
theorem dL_law_2148 : decode code 2148 = .ok (.iconst 2, 1) := by decide +kernel
theorem dL_law_2149 : decode code 2149 = .ok (.iadd, 1) := by decide +kernel
theorem dL_law_2150 : decode code 2150 = .ok (.iaload, 1) := by decide +kernel
theorem dL_law_2151 : decode code 2151 = .ok (.invokevirtual 214, 3) := by decide +kernel
theorem dL_law_2154 : decode code 2154 = .ok (.aload_n 2, 1) := by decide +kernel
theorem dL_law_2155 : decode code 2155 = .ok (.aload_n 0, 1) := by decide +kernel
theorem dL_law_2156 : decode code 2156 = .ok (.iload_n 3, 1) := by decide +kernel
theorem dL_law_2157 : decode code 2157 = .ok (.iconst 1, 1) := by decide +kernel
theorem dL_law_2158 : decode code 2158 = .ok (.iadd, 1) := by decide +kernel
theorem dL_law_2159 : decode code 2159 = .ok (.iaload, 1) := by decide +kernel
theorem dL_law_2160 : decode code 2160 = .ok (.aload_n 0, 1) := by decide +kernel
theorem dL_law_2161 : decode code 2161 = .ok (.iload_n 3, 1) := by decide +kernel
theorem dL_law_2162 : decode code 2162 = .ok (.iconst 2, 1) := by decide +kernel
theorem dL_law_2163 : decode code 2163 = .ok (.iadd, 1) := by decide +kernel
theorem dL_law_2164 : decode code 2164 = .ok (.iaload, 1) := by decide +kernel
theorem dL_law_2165 : decode code 2165 = .ok (.invokevirtual 217, 3) := by decide +kernel
theorem dL_law_2168 : decode code 2168 = .ok (.if_icmp .eq 173, 3) := by decide +kernel
theorem dL_law_2171 : decode code 2171 = .ok (.iconst 0, 1) := by decide +kernel
theorem dL_law_2172 : decode code 2172 = .ok (.ireturn, 1) := by decide +kernel
theorem dL_law_2173 : decode code 2173 = .ok (.aload_n 1, 1) := by decide +kernel
theorem dL_law_2174 : decode code 2174 = .ok (.aload_n 0, 1) := by decide +kernel
theorem dL_law_2175 : decode code 2175 = .ok (.iload_n 3, 1) := by decide +kernel
theorem dL_law_2176 : decode code 2176 = .ok (.iconst 1, 1) := by decide +kernel
theorem dL_law_2177 : decode code 2177 = .ok (.iadd, 1) := by decide +kernel
theorem dL_law_2178 : decode code 2178 = .ok (.iaload, 1) := by decide +kernel
theorem dL_law_2179 : decode code 2179 = .ok (.aload_n 0, 1) := by decide +kernel
theorem dL_law_2180 : decode code 2180 = .ok (.iload_n 3, 1) := by decide +kernel
theorem dL_law_2181 : decode code 2181 = .ok (.iconst 2, 1) := by decide +kernel
theorem dL_law_2182 : decode code 2182 = .ok (.iadd, 1) := by decide +kernel
theorem dL_law_2183 : decode code 2183 = .ok (.iaload, 1) := by decide +kernel
theorem dL_law_2184 : decode code 2184 = .ok (.aload_n 0, 1) := by decide +kernel
theorem dL_law_2185 : decode code 2185 = .ok (.iload_n 3, 1) := by decide +kernel
theorem dL_law_2186 : decode code 2186 = .ok (.iconst 3, 1) := by decide +kernel
theorem dL_law_2187 : decode code 2187 = .ok (.iadd, 1) := by decide +kernel
theorem dL_law_2188 : decode code 2188 = .ok (.iaload, 1) := by decide +kernel
theorem dL_law_2189 : decode code 2189 = .ok (.invokevirtual 218, 3) := by decide +kernel
theorem dL_law_2192 : decode code 2192 = .ok (.aload_n 2, 1) := by decide +kernel
theorem dL_law_2193 : decode code 2193 = .ok (.aload_n 0, 1) := by decide +kernel
theorem dL_law_2194 : decode code 2194 = .ok (.iload_n 3, 1) := by decide +kernel
theorem dL_law_2195 : decode code 2195 = .ok (.iconst 1, 1) := by decide +kernel
theorem dL_law_2196 : decode code 2196 = .ok (.iadd, 1) := by decide +kernel
theorem dL_law_2197 : decode code 2197 = .ok (.iaload, 1) := by decide +kernel
theorem dL_law_2198 : decode code 2198 = .ok (.aload_n 0, 1) := by decide +kernel
theorem dL_law_2199 : decode code 2199 = .ok (.iload_n 3, 1) := by decide +kernel
theorem dL_law_2200 : decode code 2200 = .ok (.iconst 2, 1) := by decide +kernel
theorem dL_law_2201 : decode code 2201 = .ok (.iadd, 1) := by decide +kernel
theorem dL_law_2202 : decode code 2202 = .ok (.iaload, 1) := by decide +kernel
theorem dL_law_2203 : decode code 2203 = .ok (.aload_n 0, 1) := by decide +kernel
theorem dL_law_2204 : decode code 2204 = .ok (.iload_n 3, 1) := by decide +kernel
theorem dL_law_2205 : decode code 2205 = .ok (.iconst 3, 1) := by decide +kernel
theorem dL_law_2206 : decode code 2206 = .ok (.iadd, 1) := by decide +kernel
theorem dL_law_2207 : decode code 2207 = .ok (.iaload, 1) := by decide +kernel
theorem dL_law_2208 : decode code 2208 = .ok (.invokevirtual 221, 3) := by decide +kernel
theorem dL_law_2211 : decode code 2211 = .ok (.if_icmp .eq 130, 3) := by decide +kernel
theorem dL_law_2214 : decode code 2214 = .ok (.iconst 0, 1) := by decide +kernel
theorem dL_law_2215 : decode code 2215 = .ok (.ireturn, 1) := by decide +kernel
theorem dL_law_2216 : decode code 2216 = .ok (.aload_n 1, 1) := by decide +kernel
theorem dL_law_2217 : decode code 2217 = .ok (.aload_n 0, 1) := by decide +kernel
theorem dL_law_2218 : decode code 2218 = .ok (.iload_n 3, 1) := by decide +kernel
theorem dL_law_2219 : decode code 2219 = .ok (.iconst 1, 1) := by decide +kernel
theorem dL_law_2220 : decode code 2220 = .ok (.iadd, 1) := by decide +kernel
theorem dL_law_2221 : decode code 2221 = .ok (.iaload, 1) := by decide +kernel
theorem dL_law_2222 : decode code 2222 = .ok (.aload_n 0, 1) := by decide +kernel
theorem dL_law_2223 : decode code 2223 = .ok (.iload_n 3, 1) := by decide +kernel
theorem dL_law_2224 : decode code 2224 = .ok (.iconst 2, 1) := by decide +kernel
theorem dL_law_2225 : decode code 2225 = .ok (.iadd, 1) := by decide +kernel
theorem dL_law_2226 : decode code 2226 = .ok (.iaload, 1) := by decide +kernel
theorem dL_law_2227 : decode code 2227 = .ok (.invokevirtual 222, 3) := by decide +kernel
theorem dL_law_2230 : decode code 2230 = .ok (.aload_n 2, 1) := by decide +kernel
theorem dL_law_2231 : decode code 2231 = .ok (.aload_n 0, 1) := by decide +kernel
theorem dL_law_2232 : decode code 2232 = .ok (.iload_n 3, 1) := by decide +kernel
theorem dL_law_2233 : decode code 2233 = .ok (.iconst 1, 1) := by decide +kernel
theorem dL_law_2234 : decode code 2234 = .ok (.iadd, 1) := by decide +kernel
theorem dL_law_2235 : decode code 2235 = .ok (.iaload, 1) := by decide +kernel
theorem dL_law_2236 : decode code 2236 = .ok (.aload_n 0, 1) := by decide +kernel
theorem dL_law_2237 : decode code 2237 = .ok (.iload_n 3, 1) := by decide +kernel
theorem dL_law_2238 : decode code 2238 = .ok (.iconst 2, 1) := by decide +kernel
theorem dL_law_2239 : decode code 2239 = .ok (.iadd, 1) := by decide +kernel
theorem dL_law_2240 : decode code 2240 = .ok (.iaload, 1) := by decide +kernel
theorem dL_law_2241 : decode code 2241 = .ok (.invokevirtual 225, 3) := by decide +kernel
theorem dL_law_2244 : decode code 2244 = .ok (.if_icmp .eq 97, 3) := by decide +kernel
theorem dL_law_2247 : decode code 2247 = .ok (.iconst 0, 1) := by decide +kernel
theorem dL_law_2248 : decode code 2248 = .ok (.ireturn, 1) := by decide +kernel
theorem dL_law_2249 : decode code 2249 = .ok (.aload_n 1, 1) := by decide +kernel
theorem dL_law_2250 : decode code 2250 = .ok (.aload_n 0, 1) := by decide +kernel
theorem dL_law_2251 : decode code 2251 = .ok (.iload_n 3, 1) := by decide +kernel
theorem dL_law_2252 : decode code 2252 = .ok (.iconst 1, 1) := by decide +kernel
theorem dL_law_2253 : decode code 2253 = .ok (.iadd, 1) := by decide +kernel
theorem dL_law_2254 : decode code 2254 = .ok (.iaload, 1) := by decide +kernel
theorem dL_law_2255 : decode code 2255 = .ok (.aload_n 0, 1) := by decide +kernel
theorem dL_law_2256 : decode code 2256 = .ok (.iload_n 3, 1) := by decide +kernel
theorem dL_law_2257 : decode code 2257 = .ok (.iconst 2, 1) := by decide +kernel
theorem dL_law_2258 : decode code 2258 = .ok (.iadd, 1) := by decide +kernel
theorem dL_law_2259 : decode code 2259 = .ok (.iaload, 1) := by decide +kernel
theorem dL_law_2260 : decode code 2260 = .ok (.aload_n 0, 1) := by decide +kernel
theorem dL_law_2261 : decode code 2261 = .ok (.iload_n 3, 1) := by decide +kernel
theorem dL_law_2262 : decode code 2262 = .ok (.iconst 3, 1) := by decide +kernel
theorem dL_law_2263 : decode code 2263 = .ok (.iadd, 1) := by decide +kernel
theorem dL_law_2264 : decode code 2264 = .ok (.iaload, 1) := by decide +kernel
theorem dL_law_2265 : decode code 2265 = .ok (.invokevirtual 226, 3) := by decide +kernel
theorem dL_law_2268 : decode code 2268 = .ok (.aload_n 2, 1) := by decide +kernel
theorem dL_law_2269 : decode code 2269 = .ok (.aload_n 0, 1) := by decide +kernel
theorem dL_law_2270 : decode code 2270 = .ok (.iload_n 3, 1) := by decide +kernel
theorem dL_law_2271 : decode code 2271 = .ok (.iconst 1, 1) := by decide +kernel
theorem dL_law_2272 : decode code 2272 = .ok (.iadd, 1) := by decide +kernel
theorem dL_law_2273 : decode code 2273 = .ok (.iaload, 1) := by decide +kernel
theorem dL_law_2274 : decode code 2274 = .ok (.aload_n 0, 1) := by decide +kernel
theorem dL_law_2275 : decode code 2275 = .ok (.iload_n 3, 1) := by decide +kernel
theorem dL_law_2276 : decode code 2276 = .ok (.iconst 2, 1) := by decide +kernel
theorem dL_law_2277 : decode code 2277 = .ok (.iadd, 1) := by decide +kernel
theorem dL_law_2278 : decode code 2278 = .ok (.iaload, 1) := by decide +kernel
theorem dL_law_2279 : decode code 2279 = .ok (.aload_n 0, 1) := by decide +kernel
theorem dL_law_2280 : decode code 2280 = .ok (.iload_n 3, 1) := by decide +kernel
theorem dL_law_2281 : decode code 2281 = .ok (.iconst 3, 1) := by decide +kernel
theorem dL_law_2282 : decode code 2282 = .ok (.iadd, 1) := by decide +kernel
theorem dL_law_2283 : decode code 2283 = .ok (.iaload, 1) := by decide +kernel
theorem dL_law_2284 : decode code 2284 = .ok (.invokevirtual 229, 3) := by decide +kernel
theorem dL_law_2287 : decode code 2287 = .ok (.if_icmp .eq 54, 3) := by decide +kernel
theorem dL_law_2290 : decode code 2290 = .ok (.iconst 0, 1) := by decide +kernel
theorem dL_law_2291 : decode code 2291 = .ok (.ireturn, 1) := by decide +kernel
theorem dL_law_2292 : decode code 2292 = .ok (.aload_n 1, 1) := by decide +kernel
theorem dL_law_2293 : decode code 2293 = .ok (.invokevirtual 230, 3) := by decide +kernel
theorem dL_law_2296 : decode code 2296 = .ok (.aload_n 2, 1) := by decide +kernel
theorem dL_law_2297 : decode code 2297 = .ok (.invokevirtual 234, 3) := by decide +kernel
theorem dL_law_2300 : decode code 2300 = .ok (.if_icmp .eq 41, 3) := by decide +kernel
theorem dL_law_2303 : decode code 2303 = .ok (.iconst 0, 1) := by decide +kernel
theorem dL_law_2304 : decode code 2304 = .ok (.ireturn, 1) := by decide +kernel
theorem dL_law_2305 : decode code 2305 = .ok (.aload_n 1, 1) := by decide +kernel
theorem dL_law_2306 : decode code 2306 = .ok (.invokevirtual 235, 3) := by decide +kernel
theorem dL_law_2309 : decode code 2309 = .ok (.aload_n 2, 1) := by decide +kernel
theorem dL_law_2310 : decode code 2310 = .ok (.invokevirtual 238, 3) := by decide +kernel
theorem dL_law_2313 : decode code 2313 = .ok (.if_icmp .eq 28, 3) := by decide +kernel
theorem dL_law_2316 : decode code 2316 = .ok (.iconst 0, 1) := by decide +kernel
theorem dL_law_2317 : decode code 2317 = .ok (.ireturn, 1) := by decide +kernel
theorem dL_law_2318 : decode code 2318 = .ok (.aload_n 1, 1) := by decide +kernel
theorem dL_law_2319 : decode code 2319 = .ok (.aload_n 0, 1) := by decide +kernel
theorem dL_law_2320 : decode code 2320 = .ok (.iload_n 3, 1) := by decide +kernel
theorem dL_law_2321 : decode code 2321 = .ok (.iconst 1, 1) := by decide +kernel
theorem dL_law_2322 : decode code 2322 = .ok (.iadd, 1) := by decide +kernel
theorem dL_law_2323 : decode code 2323 = .ok (.iaload, 1) := by decide +kernel
theorem dL_law_2324 : decode code 2324 = .ok (.invokevirtual 239, 3) := by decide +kernel
theorem dL_law_2327 : decode code 2327 = .ok (.aload_n 2, 1) := by decide +kernel
theorem dL_law_2328 : decode code 2328 = .ok (.aload_n 0, 1) := by decide +kernel
theorem dL_law_2329 : decode code 2329 = .ok (.iload_n 3, 1) := by decide +kernel
theorem dL_law_2330 : decode code 2330 = .ok (.iconst 1, 1) := by decide +kernel
theorem dL_law_2331 : decode code 2331 = .ok (.iadd, 1) := by decide +kernel
theorem dL_law_2332 : decode code 2332 = .ok (.iaload, 1) := by decide +kernel
theorem dL_law_2333 : decode code 2333 = .ok (.invokevirtual 242, 3) := by decide +kernel
theorem dL_law_2336 : decode code 2336 = .ok (.if_icmp .eq 5, 3) := by decide +kernel
theorem dL_law_2339 : decode code 2339 = .ok (.iconst 0, 1) := by decide +kernel
theorem dL_law_2340 : decode code 2340 = .ok (.ireturn, 1) := by decide +kernel
theorem dL_law_2341 : decode code 2341 = .ok (.iinc 3 6, 3) := by decide +kernel
theorem dL_law_2344 : decode code 2344 = .ok (.goto (-2326), 3) := by decide +kernel
theorem dL_law_2347 : decode code 2347 = .ok (.iconst 1, 1) := by decide +kernel
theorem dL_law_2348 : decode code 2348 = .ok (.ireturn, 1) := by decide +kernel
