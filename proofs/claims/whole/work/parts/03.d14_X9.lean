theorem dX9_row_215 : decode cX9_row 215 = .ok (.iload_n 3, 1) := by decide +kernel
theorem dX9_row_216 : decode cX9_row 216 = .ok (.iconst 1, 1) := by decide +kernel
theorem dX9_row_217 : decode cX9_row 217 = .ok (.iadd, 1) := by decide +kernel
theorem dX9_row_218 : decode cX9_row 218 = .ok (.invokevirtual 126, 3) := by decide +kernel
theorem dX9_row_221 : decode cX9_row 221 = .ok (.ifCond .eq 7, 3) := by decide +kernel
theorem dX9_row_224 : decode cX9_row 224 = .ok (.iconst 1, 1) := by decide +kernel
theorem dX9_row_225 : decode cX9_row 225 = .ok (.goto 4, 3) := by decide +kernel
theorem dX9_row_228 : decode cX9_row 228 = .ok (.iconst 0, 1) := by decide +kernel
theorem dX9_row_229 : decode cX9_row 229 = .ok (.bastore, 1) := by decide +kernel
theorem dX9_row_230 : decode cX9_row 230 = .ok (.iinc 3 1, 3) := by decide +kernel
theorem dX9_row_233 : decode cX9_row 233 = .ok (.goto (-72), 3) := by decide +kernel
theorem dX9_row_236 : decode cX9_row 236 = .ok (.iconst 0, 1) := by decide +kernel
theorem dX9_row_237 : decode cX9_row 237 = .ok (.istore_n 3, 1) := by decide +kernel
theorem dX9_row_238 : decode cX9_row 238 = .ok (.iload_n 3, 1) := by decide +kernel
theorem dX9_row_239 : decode cX9_row 239 = .ok (.aload_n 0, 1) := by decide +kernel
theorem dX9_row_240 : decode cX9_row 240 = .ok (.getfield 119, 3) := by decide +kernel
theorem dX9_row_243 : decode cX9_row 243 = .ok (.if_icmp .ge 64, 3) := by decide +kernel
theorem dX9_row_246 : decode cX9_row 246 = .ok (.aload_n 0, 1) := by decide +kernel
theorem dX9_row_247 : decode cX9_row 247 = .ok (.getfield 38, 3) := by decide +kernel
theorem dX9_row_250 : decode cX9_row 250 = .ok (.aload_n 0, 1) := by decide +kernel
theorem dX9_row_251 : decode cX9_row 251 = .ok (.getfield 44, 3) := by decide +kernel
theorem dX9_row_254 : decode cX9_row 254 = .ok (.iload_n 3, 1) := by decide +kernel
theorem dX9_row_255 : decode cX9_row 255 = .ok (.iaload, 1) := by decide +kernel
theorem dX9_row_256 : decode cX9_row 256 = .ok (.iaload, 1) := by decide +kernel
theorem dX9_row_257 : decode cX9_row 257 = .ok (.iconst 3, 1) := by decide +kernel
theorem dX9_row_258 : decode cX9_row 258 = .ok (.if_icmp .eq 18, 3) := by decide +kernel
theorem dX9_row_261 : decode cX9_row 261 = .ok (.aload_n 0, 1) := by decide +kernel
theorem dX9_row_262 : decode cX9_row 262 = .ok (.getfield 38, 3) := by decide +kernel
theorem dX9_row_265 : decode cX9_row 265 = .ok (.aload_n 0, 1) := by decide +kernel
theorem dX9_row_266 : decode cX9_row 266 = .ok (.getfield 44, 3) := by decide +kernel
theorem dX9_row_269 : decode cX9_row 269 = .ok (.iload_n 3, 1) := by decide +kernel
theorem dX9_row_270 : decode cX9_row 270 = .ok (.iaload, 1) := by decide +kernel
theorem dX9_row_271 : decode cX9_row 271 = .ok (.iaload, 1) := by decide +kernel
theorem dX9_row_272 : decode cX9_row 272 = .ok (.iconst 4, 1) := by decide +kernel
theorem dX9_row_273 : decode cX9_row 273 = .ok (.if_icmp .ne 28, 3) := by decide +kernel
theorem dX9_row_276 : decode cX9_row 276 = .ok (.aload_n 0, 1) := by decide +kernel
theorem dX9_row_277 : decode cX9_row 277 = .ok (.getfield 38, 3) := by decide +kernel
theorem dX9_row_280 : decode cX9_row 280 = .ok (.aload_n 0, 1) := by decide +kernel
theorem dX9_row_281 : decode cX9_row 281 = .ok (.getfield 44, 3) := by decide +kernel
theorem dX9_row_284 : decode cX9_row 284 = .ok (.iload_n 3, 1) := by decide +kernel
theorem dX9_row_285 : decode cX9_row 285 = .ok (.iaload, 1) := by decide +kernel
theorem dX9_row_286 : decode cX9_row 286 = .ok (.aload_n 0, 1) := by decide +kernel
theorem dX9_row_287 : decode cX9_row 287 = .ok (.getfield 47, 3) := by decide +kernel
theorem dX9_row_290 : decode cX9_row 290 = .ok (.iload_n 3, 1) := by decide +kernel
theorem dX9_row_291 : decode cX9_row 291 = .ok (.baload, 1) := by decide +kernel
theorem dX9_row_292 : decode cX9_row 292 = .ok (.ifCond .eq 7, 3) := by decide +kernel
theorem dX9_row_295 : decode cX9_row 295 = .ok (.iconst 2, 1) := by decide +kernel
theorem dX9_row_296 : decode cX9_row 296 = .ok (.goto 4, 3) := by decide +kernel
theorem dX9_row_299 : decode cX9_row 299 = .ok (.iconst 5, 1) := by decide +kernel
theorem dX9_row_300 : decode cX9_row 300 = .ok (.iastore, 1) := by decide +kernel
theorem dX9_row_301 : decode cX9_row 301 = .ok (.iinc 3 1, 3) := by decide +kernel
theorem dX9_row_304 : decode cX9_row 304 = .ok (.goto (-66), 3) := by decide +kernel
theorem dX9_row_307 : decode cX9_row 307 = .ok (.iload_n 2, 1) := by decide +kernel
theorem dX9_row_308 : decode cX9_row 308 = .ok (.istore_n 3, 1) := by decide +kernel
theorem dX9_row_309 : decode cX9_row 309 = .ok (.iconst 0, 1) := by decide +kernel
theorem dX9_row_310 : decode cX9_row 310 = .ok (.istore 4, 2) := by decide +kernel
theorem dX9_row_312 : decode cX9_row 312 = .ok (.iload 4, 2) := by decide +kernel
theorem dX9_row_314 : decode cX9_row 314 = .ok (.aload_n 0, 1) := by decide +kernel
theorem dX9_row_315 : decode cX9_row 315 = .ok (.getfield 119, 3) := by decide +kernel
theorem dX9_row_318 : decode cX9_row 318 = .ok (.if_icmp .ge 73, 3) := by decide +kernel
theorem dX9_row_321 : decode cX9_row 321 = .ok (.aload_n 0, 1) := by decide +kernel
theorem dX9_row_322 : decode cX9_row 322 = .ok (.getfield 44, 3) := by decide +kernel
theorem dX9_row_325 : decode cX9_row 325 = .ok (.iload 4, 2) := by decide +kernel
theorem dX9_row_327 : decode cX9_row 327 = .ok (.iaload, 1) := by decide +kernel
theorem dX9_row_328 : decode cX9_row 328 = .ok (.istore 5, 2) := by decide +kernel
theorem dX9_row_330 : decode cX9_row 330 = .ok (.aload_n 0, 1) := by decide +kernel
theorem dX9_row_331 : decode cX9_row 331 = .ok (.getfield 38, 3) := by decide +kernel
theorem dX9_row_334 : decode cX9_row 334 = .ok (.iload 5, 2) := by decide +kernel
theorem dX9_row_336 : decode cX9_row 336 = .ok (.iaload, 1) := by decide +kernel
theorem dX9_row_337 : decode cX9_row 337 = .ok (.ifCond .eq 14, 3) := by decide +kernel
theorem dX9_row_340 : decode cX9_row 340 = .ok (.aload_n 0, 1) := by decide +kernel
theorem dX9_row_341 : decode cX9_row 341 = .ok (.getfield 38, 3) := by decide +kernel
theorem dX9_row_344 : decode cX9_row 344 = .ok (.iload 5, 2) := by decide +kernel
theorem dX9_row_346 : decode cX9_row 346 = .ok (.iaload, 1) := by decide +kernel
theorem dX9_row_347 : decode cX9_row 347 = .ok (.iconst 1, 1) := by decide +kernel
theorem dX9_row_348 : decode cX9_row 348 = .ok (.if_icmp .ne 14, 3) := by decide +kernel
theorem dX9_row_351 : decode cX9_row 351 = .ok (.aload_n 0, 1) := by decide +kernel
theorem dX9_row_352 : decode cX9_row 352 = .ok (.getfield 38, 3) := by decide +kernel
theorem dX9_row_355 : decode cX9_row 355 = .ok (.iload 5, 2) := by decide +kernel
theorem dX9_row_357 : decode cX9_row 357 = .ok (.iaload, 1) := by decide +kernel
theorem dX9_row_358 : decode cX9_row 358 = .ok (.istore_n 3, 1) := by decide +kernel
theorem dX9_row_359 : decode cX9_row 359 = .ok (.goto 26, 3) := by decide +kernel
theorem dX9_row_362 : decode cX9_row 362 = .ok (.aload_n 0, 1) := by decide +kernel
theorem dX9_row_363 : decode cX9_row 363 = .ok (.getfield 38, 3) := by decide +kernel
theorem dX9_row_366 : decode cX9_row 366 = .ok (.iload 5, 2) := by decide +kernel
theorem dX9_row_368 : decode cX9_row 368 = .ok (.iaload, 1) := by decide +kernel
theorem dX9_row_369 : decode cX9_row 369 = .ok (.iconst 2, 1) := by decide +kernel
theorem dX9_row_370 : decode cX9_row 370 = .ok (.if_icmp .ne 15, 3) := by decide +kernel
theorem dX9_row_373 : decode cX9_row 373 = .ok (.iload_n 3, 1) := by decide +kernel
theorem dX9_row_374 : decode cX9_row 374 = .ok (.ifCond .ne 11, 3) := by decide +kernel
theorem dX9_row_377 : decode cX9_row 377 = .ok (.aload_n 0, 1) := by decide +kernel
theorem dX9_row_378 : decode cX9_row 378 = .ok (.getfield 38, 3) := by decide +kernel
theorem dX9_row_381 : decode cX9_row 381 = .ok (.iload 5, 2) := by decide +kernel
theorem dX9_row_383 : decode cX9_row 383 = .ok (.iconst 0, 1) := by decide +kernel
theorem dX9_row_384 : decode cX9_row 384 = .ok (.iastore, 1) := by decide +kernel
theorem dX9_row_385 : decode cX9_row 385 = .ok (.iinc 4 1, 3) := by decide +kernel
theorem dX9_row_388 : decode cX9_row 388 = .ok (.goto (-76), 3) := by decide +kernel
theorem dX9_row_391 : decode cX9_row 391 = .ok (.iconst 0, 1) := by decide +kernel
theorem dX9_row_392 : decode cX9_row 392 = .ok (.istore 4, 2) := by decide +kernel
theorem dX9_row_394 : decode cX9_row 394 = .ok (.iload 4, 2) := by decide +kernel
theorem dX9_row_396 : decode cX9_row 396 = .ok (.aload_n 0, 1) := by decide +kernel
theorem dX9_row_397 : decode cX9_row 397 = .ok (.getfield 119, 3) := by decide +kernel
theorem dX9_row_400 : decode cX9_row 400 = .ok (.if_icmp .ge 179, 3) := by decide +kernel
theorem dX9_row_403 : decode cX9_row 403 = .ok (.aload_n 0, 1) := by decide +kernel
theorem dX9_row_404 : decode cX9_row 404 = .ok (.getfield 38, 3) := by decide +kernel
theorem dX9_row_407 : decode cX9_row 407 = .ok (.aload_n 0, 1) := by decide +kernel
theorem dX9_row_408 : decode cX9_row 408 = .ok (.getfield 44, 3) := by decide +kernel
theorem dX9_row_411 : decode cX9_row 411 = .ok (.iload 4, 2) := by decide +kernel
theorem dX9_row_413 : decode cX9_row 413 = .ok (.iaload, 1) := by decide +kernel
theorem dX9_row_414 : decode cX9_row 414 = .ok (.iaload, 1) := by decide +kernel
theorem dX9_row_415 : decode cX9_row 415 = .ok (.iconst 5, 1) := by decide +kernel
theorem dX9_row_416 : decode cX9_row 416 = .ok (.if_icmp .eq 6, 3) := by decide +kernel
theorem dX9_row_419 : decode cX9_row 419 = .ok (.goto 154, 3) := by decide +kernel
theorem dX9_row_422 : decode cX9_row 422 = .ok (.iload 4, 2) := by decide +kernel
theorem dX9_row_424 : decode cX9_row 424 = .ok (.istore 5, 2) := by decide +kernel
theorem dX9_row_426 : decode cX9_row 426 = .ok (.iload 5, 2) := by decide +kernel
theorem dX9_row_428 : decode cX9_row 428 = .ok (.aload_n 0, 1) := by decide +kernel
theorem dX9_row_429 : decode cX9_row 429 = .ok (.getfield 119, 3) := by decide +kernel
theorem dX9_row_432 : decode cX9_row 432 = .ok (.if_icmp .ge 25, 3) := by decide +kernel
theorem dX9_row_435 : decode cX9_row 435 = .ok (.aload_n 0, 1) := by decide +kernel
theorem dX9_row_436 : decode cX9_row 436 = .ok (.getfield 38, 3) := by decide +kernel
theorem dX9_row_439 : decode cX9_row 439 = .ok (.aload_n 0, 1) := by decide +kernel
theorem dX9_row_440 : decode cX9_row 440 = .ok (.getfield 44, 3) := by decide +kernel
theorem dX9_row_443 : decode cX9_row 443 = .ok (.iload 5, 2) := by decide +kernel
theorem dX9_row_445 : decode cX9_row 445 = .ok (.iaload, 1) := by decide +kernel
theorem dX9_row_446 : decode cX9_row 446 = .ok (.iaload, 1) := by decide +kernel
theorem dX9_row_447 : decode cX9_row 447 = .ok (.iconst 5, 1) := by decide +kernel
theorem dX9_row_448 : decode cX9_row 448 = .ok (.if_icmp .ne 9, 3) := by decide +kernel
theorem dX9_row_451 : decode cX9_row 451 = .ok (.iinc 5 1, 3) := by decide +kernel
theorem dX9_row_454 : decode cX9_row 454 = .ok (.goto (-28), 3) := by decide +kernel
theorem dX9_row_457 : decode cX9_row 457 = .ok (.iload 4, 2) := by decide +kernel
theorem dX9_row_459 : decode cX9_row 459 = .ok (.ifCond .ne 7, 3) := by decide +kernel
theorem dX9_row_462 : decode cX9_row 462 = .ok (.iload_n 2, 1) := by decide +kernel
theorem dX9_row_463 : decode cX9_row 463 = .ok (.goto 25, 3) := by decide +kernel
theorem dX9_row_466 : decode cX9_row 466 = .ok (.aload_n 0, 1) := by decide +kernel
theorem dX9_row_467 : decode cX9_row 467 = .ok (.getfield 38, 3) := by decide +kernel
theorem dX9_row_470 : decode cX9_row 470 = .ok (.aload_n 0, 1) := by decide +kernel
theorem dX9_row_471 : decode cX9_row 471 = .ok (.getfield 44, 3) := by decide +kernel
theorem dX9_row_474 : decode cX9_row 474 = .ok (.iload 4, 2) := by decide +kernel
theorem dX9_row_476 : decode cX9_row 476 = .ok (.iconst 1, 1) := by decide +kernel
theorem dX9_row_477 : decode cX9_row 477 = .ok (.isub, 1) := by decide +kernel
theorem dX9_row_478 : decode cX9_row 478 = .ok (.iaload, 1) := by decide +kernel
theorem dX9_row_479 : decode cX9_row 479 = .ok (.iaload, 1) := by decide +kernel
theorem dX9_row_480 : decode cX9_row 480 = .ok (.ifCond .ne 7, 3) := by decide +kernel
theorem dX9_row_483 : decode cX9_row 483 = .ok (.iconst 0, 1) := by decide +kernel
theorem dX9_row_484 : decode cX9_row 484 = .ok (.goto 4, 3) := by decide +kernel
theorem dX9_row_487 : decode cX9_row 487 = .ok (.iconst 1, 1) := by decide +kernel
theorem dX9_row_488 : decode cX9_row 488 = .ok (.istore 6, 2) := by decide +kernel
theorem dX9_row_490 : decode cX9_row 490 = .ok (.iload 5, 2) := by decide +kernel
theorem dX9_row_492 : decode cX9_row 492 = .ok (.aload_n 0, 1) := by decide +kernel
theorem dX9_row_493 : decode cX9_row 493 = .ok (.getfield 119, 3) := by decide +kernel
theorem dX9_row_496 : decode cX9_row 496 = .ok (.if_icmp .ne 7, 3) := by decide +kernel
theorem dX9_row_499 : decode cX9_row 499 = .ok (.iload_n 2, 1) := by decide +kernel
theorem dX9_row_500 : decode cX9_row 500 = .ok (.goto 23, 3) := by decide +kernel
theorem dX9_row_503 : decode cX9_row 503 = .ok (.aload_n 0, 1) := by decide +kernel
theorem dX9_row_504 : decode cX9_row 504 = .ok (.getfield 38, 3) := by decide +kernel
theorem dX9_row_507 : decode cX9_row 507 = .ok (.aload_n 0, 1) := by decide +kernel
theorem dX9_row_508 : decode cX9_row 508 = .ok (.getfield 44, 3) := by decide +kernel
theorem dX9_row_511 : decode cX9_row 511 = .ok (.iload 5, 2) := by decide +kernel
theorem dX9_row_513 : decode cX9_row 513 = .ok (.iaload, 1) := by decide +kernel
theorem dX9_row_514 : decode cX9_row 514 = .ok (.iaload, 1) := by decide +kernel
theorem dX9_row_515 : decode cX9_row 515 = .ok (.ifCond .ne 7, 3) := by decide +kernel
theorem dX9_row_518 : decode cX9_row 518 = .ok (.iconst 0, 1) := by decide +kernel
theorem dX9_row_519 : decode cX9_row 519 = .ok (.goto 4, 3) := by decide +kernel
theorem dX9_row_522 : decode cX9_row 522 = .ok (.iconst 1, 1) := by decide +kernel
theorem dX9_row_523 : decode cX9_row 523 = .ok (.istore 7, 2) := by decide +kernel
theorem dX9_row_525 : decode cX9_row 525 = .ok (.iload 4, 2) := by decide +kernel
theorem dX9_row_527 : decode cX9_row 527 = .ok (.istore 8, 2) := by decide +kernel
theorem dX9_row_529 : decode cX9_row 529 = .ok (.iload 8, 2) := by decide +kernel
theorem dX9_row_531 : decode cX9_row 531 = .ok (.iload 5, 2) := by decide +kernel
theorem dX9_row_533 : decode cX9_row 533 = .ok (.if_icmp .ge 34, 3) := by decide +kernel
theorem dX9_row_536 : decode cX9_row 536 = .ok (.aload_n 0, 1) := by decide +kernel
theorem dX9_row_537 : decode cX9_row 537 = .ok (.getfield 38, 3) := by decide +kernel
theorem dX9_row_540 : decode cX9_row 540 = .ok (.aload_n 0, 1) := by decide +kernel
theorem dX9_row_541 : decode cX9_row 541 = .ok (.getfield 44, 3) := by decide +kernel
theorem dX9_row_544 : decode cX9_row 544 = .ok (.iload 8, 2) := by decide +kernel
theorem dX9_row_546 : decode cX9_row 546 = .ok (.iaload, 1) := by decide +kernel
theorem dX9_row_547 : decode cX9_row 547 = .ok (.iload 6, 2) := by decide +kernel
theorem dX9_row_549 : decode cX9_row 549 = .ok (.iload 7, 2) := by decide +kernel
theorem dX9_row_551 : decode cX9_row 551 = .ok (.if_icmp .ne 8, 3) := by decide +kernel
theorem dX9_row_554 : decode cX9_row 554 = .ok (.iload 6, 2) := by decide +kernel
theorem dX9_row_556 : decode cX9_row 556 = .ok (.goto 4, 3) := by decide +kernel
theorem dX9_row_559 : decode cX9_row 559 = .ok (.iload_n 2, 1) := by decide +kernel
theorem dX9_row_560 : decode cX9_row 560 = .ok (.iastore, 1) := by decide +kernel
theorem dX9_row_561 : decode cX9_row 561 = .ok (.iinc 8 1, 3) := by decide +kernel
theorem dX9_row_564 : decode cX9_row 564 = .ok (.goto (-35), 3) := by decide +kernel
theorem dX9_row_567 : decode cX9_row 567 = .ok (.iload 5, 2) := by decide +kernel
theorem dX9_row_569 : decode cX9_row 569 = .ok (.iconst 1, 1) := by decide +kernel
theorem dX9_row_570 : decode cX9_row 570 = .ok (.isub, 1) := by decide +kernel
theorem dX9_row_571 : decode cX9_row 571 = .ok (.istore 4, 2) := by decide +kernel
theorem dX9_row_573 : decode cX9_row 573 = .ok (.iinc 4 1, 3) := by decide +kernel
theorem dX9_row_576 : decode cX9_row 576 = .ok (.goto (-182), 3) := by decide +kernel
theorem dX9_row_579 : decode cX9_row 579 = .ok (.iconst 0, 1) := by decide +kernel
theorem dX9_row_580 : decode cX9_row 580 = .ok (.istore 4, 2) := by decide +kernel
theorem dX9_row_582 : decode cX9_row 582 = .ok (.iload 4, 2) := by decide +kernel
theorem dX9_row_584 : decode cX9_row 584 = .ok (.aload_n 0, 1) := by decide +kernel
theorem dX9_row_585 : decode cX9_row 585 = .ok (.getfield 119, 3) := by decide +kernel
theorem dX9_row_588 : decode cX9_row 588 = .ok (.if_icmp .ge 79, 3) := by decide +kernel
theorem dX9_row_591 : decode cX9_row 591 = .ok (.aload_n 0, 1) := by decide +kernel
theorem dX9_row_592 : decode cX9_row 592 = .ok (.getfield 44, 3) := by decide +kernel
theorem dX9_row_595 : decode cX9_row 595 = .ok (.iload 4, 2) := by decide +kernel
theorem dX9_row_597 : decode cX9_row 597 = .ok (.iaload, 1) := by decide +kernel
theorem dX9_row_598 : decode cX9_row 598 = .ok (.istore 5, 2) := by decide +kernel
theorem dX9_row_600 : decode cX9_row 600 = .ok (.aload_n 0, 1) := by decide +kernel
theorem dX9_row_601 : decode cX9_row 601 = .ok (.getfield 38, 3) := by decide +kernel
theorem dX9_row_604 : decode cX9_row 604 = .ok (.iload 5, 2) := by decide +kernel
theorem dX9_row_606 : decode cX9_row 606 = .ok (.iaload, 1) := by decide +kernel
theorem dX9_row_607 : decode cX9_row 607 = .ok (.istore 6, 2) := by decide +kernel
theorem dX9_row_609 : decode cX9_row 609 = .ok (.aload_n 0, 1) := by decide +kernel
theorem dX9_row_610 : decode cX9_row 610 = .ok (.getfield 41, 3) := by decide +kernel
theorem dX9_row_613 : decode cX9_row 613 = .ok (.iload 5, 2) := by decide +kernel
theorem dX9_row_615 : decode cX9_row 615 = .ok (.aload_n 0, 1) := by decide +kernel
theorem dX9_row_616 : decode cX9_row 616 = .ok (.getfield 28, 3) := by decide +kernel
theorem dX9_row_619 : decode cX9_row 619 = .ok (.iload_n 1, 1) := by decide +kernel
theorem dX9_row_620 : decode cX9_row 620 = .ok (.iaload, 1) := by decide +kernel
theorem dX9_row_621 : decode cX9_row 621 = .ok (.iload_n 2, 1) := by decide +kernel
theorem dX9_row_622 : decode cX9_row 622 = .ok (.ifCond .ne 26, 3) := by decide +kernel
theorem dX9_row_625 : decode cX9_row 625 = .ok (.iload 6, 2) := by decide +kernel
theorem dX9_row_627 : decode cX9_row 627 = .ok (.ifCond .ne 7, 3) := by decide +kernel
theorem dX9_row_630 : decode cX9_row 630 = .ok (.iconst 0, 1) := by decide +kernel
theorem dX9_row_631 : decode cX9_row 631 = .ok (.goto 28, 3) := by decide +kernel
theorem dX9_row_634 : decode cX9_row 634 = .ok (.iload 6, 2) := by decide +kernel
theorem dX9_row_636 : decode cX9_row 636 = .ok (.iconst 1, 1) := by decide +kernel
theorem dX9_row_637 : decode cX9_row 637 = .ok (.if_icmp .ne 7, 3) := by decide +kernel
theorem dX9_row_640 : decode cX9_row 640 = .ok (.iconst 1, 1) := by decide +kernel
theorem dX9_row_641 : decode cX9_row 641 = .ok (.goto 18, 3) := by decide +kernel
theorem dX9_row_644 : decode cX9_row 644 = .ok (.iconst 2, 1) := by decide +kernel
theorem dX9_row_645 : decode cX9_row 645 = .ok (.goto 14, 3) := by decide +kernel
theorem dX9_row_648 : decode cX9_row 648 = .ok (.iload 6, 2) := by decide +kernel
theorem dX9_row_650 : decode cX9_row 650 = .ok (.iconst 1, 1) := by decide +kernel
theorem dX9_row_651 : decode cX9_row 651 = .ok (.if_icmp .ne 7, 3) := by decide +kernel
theorem dX9_row_654 : decode cX9_row 654 = .ok (.iconst 0, 1) := by decide +kernel
theorem dX9_row_655 : decode cX9_row 655 = .ok (.goto 4, 3) := by decide +kernel
theorem dX9_row_658 : decode cX9_row 658 = .ok (.iconst 1, 1) := by decide +kernel
theorem dX9_row_659 : decode cX9_row 659 = .ok (.iadd, 1) := by decide +kernel
theorem dX9_row_660 : decode cX9_row 660 = .ok (.iastore, 1) := by decide +kernel
theorem dX9_row_661 : decode cX9_row 661 = .ok (.iinc 4 1, 3) := by decide +kernel
theorem dX9_row_664 : decode cX9_row 664 = .ok (.goto (-82), 3) := by decide +kernel
theorem dX9_row_667 : decode cX9_row 667 = .ok (.return_, 1) := by decide +kernel
theorem dX9_widthOf_0 : decode cX9_widthOf 0 = .ok (.aload_n 0, 1) := by decide +kernel
theorem dX9_widthOf_1 : decode cX9_widthOf 1 = .ok (.getfield 7, 3) := by decide +kernel
theorem dX9_widthOf_4 : decode cX9_widthOf 4 = .ok (.aload_n 0, 1) := by decide +kernel
theorem dX9_widthOf_5 : decode cX9_widthOf 5 = .ok (.getfield 50, 3) := by decide +kernel
theorem dX9_widthOf_8 : decode cX9_widthOf 8 = .ok (.iload_n 1, 1) := by decide +kernel
theorem dX9_widthOf_9 : decode cX9_widthOf 9 = .ok (.iaload, 1) := by decide +kernel
theorem dX9_widthOf_10 : decode cX9_widthOf 10 = .ok (.iaload, 1) := by decide +kernel
theorem dX9_widthOf_11 : decode cX9_widthOf 11 = .ok (.istore_n 2, 1) := by decide +kernel
theorem dX9_widthOf_12 : decode cX9_widthOf 12 = .ok (.aload_n 0, 1) := by decide +kernel
theorem dX9_widthOf_13 : decode cX9_widthOf 13 = .ok (.getfield 56, 3) := by decide +kernel
theorem dX9_widthOf_16 : decode cX9_widthOf 16 = .ok (.iload_n 1, 1) := by decide +kernel
theorem dX9_widthOf_17 : decode cX9_widthOf 17 = .ok (.baload, 1) := by decide +kernel
theorem dX9_widthOf_18 : decode cX9_widthOf 18 = .ok (.ifCond .eq 8, 3) := by decide +kernel
theorem dX9_widthOf_21 : decode cX9_widthOf 21 = .ok (.bipush 16, 2) := by decide +kernel
theorem dX9_widthOf_23 : decode cX9_widthOf 23 = .ok (.goto 39, 3) := by decide +kernel
theorem dX9_widthOf_26 : decode cX9_widthOf 26 = .ok (.iload_n 2, 1) := by decide +kernel
theorem dX9_widthOf_27 : decode cX9_widthOf 27 = .ok (.invokestatic 97, 3) := by decide +kernel
theorem dX9_widthOf_30 : decode cX9_widthOf 30 = .ok (.ifCond .eq 8, 3) := by decide +kernel
theorem dX9_widthOf_33 : decode cX9_widthOf 33 = .ok (.bipush 10, 2) := by decide +kernel
theorem dX9_widthOf_35 : decode cX9_widthOf 35 = .ok (.goto 27, 3) := by decide +kernel
theorem dX9_widthOf_38 : decode cX9_widthOf 38 = .ok (.iload_n 2, 1) := by decide +kernel
theorem dX9_widthOf_39 : decode cX9_widthOf 39 = .ok (.invokestatic 100, 3) := by decide +kernel
theorem dX9_widthOf_42 : decode cX9_widthOf 42 = .ok (.ifCond .eq 8, 3) := by decide +kernel
theorem dX9_widthOf_45 : decode cX9_widthOf 45 = .ok (.bipush 8, 2) := by decide +kernel
theorem dX9_widthOf_47 : decode cX9_widthOf 47 = .ok (.goto 15, 3) := by decide +kernel
theorem dX9_widthOf_50 : decode cX9_widthOf 50 = .ok (.iload_n 2, 1) := by decide +kernel
theorem dX9_widthOf_51 : decode cX9_widthOf 51 = .ok (.bipush 32, 2) := by decide +kernel
theorem dX9_widthOf_53 : decode cX9_widthOf 53 = .ok (.if_icmp .ne 7, 3) := by decide +kernel
theorem dX9_widthOf_56 : decode cX9_widthOf 56 = .ok (.iconst 5, 1) := by decide +kernel
theorem dX9_widthOf_57 : decode cX9_widthOf 57 = .ok (.goto 5, 3) := by decide +kernel
theorem dX9_widthOf_60 : decode cX9_widthOf 60 = .ok (.bipush 6, 2) := by decide +kernel
theorem dX9_widthOf_62 : decode cX9_widthOf 62 = .ok (.ireturn, 1) := by decide +kernel
theorem dX9_clustersOf_0 : decode cX9_clustersOf 0 = .ok (.aload_n 0, 1) := by decide +kernel
theorem dX9_clustersOf_1 : decode cX9_clustersOf 1 = .ok (.iconst 0, 1) := by decide +kernel
theorem dX9_clustersOf_2 : decode cX9_clustersOf 2 = .ok (.putfield 129, 3) := by decide +kernel
theorem dX9_clustersOf_5 : decode cX9_clustersOf 5 = .ok (.iconst 0, 1) := by decide +kernel
theorem dX9_clustersOf_6 : decode cX9_clustersOf 6 = .ok (.istore_n 1, 1) := by decide +kernel
theorem dX9_clustersOf_7 : decode cX9_clustersOf 7 = .ok (.iconst 1, 1) := by decide +kernel
theorem dX9_clustersOf_8 : decode cX9_clustersOf 8 = .ok (.istore_n 2, 1) := by decide +kernel
theorem dX9_clustersOf_9 : decode cX9_clustersOf 9 = .ok (.iload_n 1, 1) := by decide +kernel
theorem dX9_clustersOf_10 : decode cX9_clustersOf 10 = .ok (.aload_n 0, 1) := by decide +kernel
theorem dX9_clustersOf_11 : decode cX9_clustersOf 11 = .ok (.getfield 81, 3) := by decide +kernel
theorem dX9_clustersOf_14 : decode cX9_clustersOf 14 = .ok (.if_icmp .ge 160, 3) := by decide +kernel
theorem dX9_clustersOf_17 : decode cX9_clustersOf 17 = .ok (.aload_n 0, 1) := by decide +kernel
theorem dX9_clustersOf_18 : decode cX9_clustersOf 18 = .ok (.getfield 50, 3) := by decide +kernel
theorem dX9_clustersOf_21 : decode cX9_clustersOf 21 = .ok (.aload_n 0, 1) := by decide +kernel
theorem dX9_clustersOf_22 : decode cX9_clustersOf 22 = .ok (.getfield 129, 3) := by decide +kernel
theorem dX9_clustersOf_25 : decode cX9_clustersOf 25 = .ok (.iload_n 1, 1) := by decide +kernel
theorem dX9_clustersOf_26 : decode cX9_clustersOf 26 = .ok (.iastore, 1) := by decide +kernel
theorem dX9_clustersOf_27 : decode cX9_clustersOf 27 = .ok (.aload_n 0, 1) := by decide +kernel
theorem dX9_clustersOf_28 : decode cX9_clustersOf 28 = .ok (.getfield 7, 3) := by decide +kernel
theorem dX9_clustersOf_31 : decode cX9_clustersOf 31 = .ok (.iload_n 1, 1) := by decide +kernel
theorem dX9_clustersOf_32 : decode cX9_clustersOf 32 = .ok (.iaload, 1) := by decide +kernel
theorem dX9_clustersOf_33 : decode cX9_clustersOf 33 = .ok (.invokestatic 103, 3) := by decide +kernel
theorem dX9_clustersOf_36 : decode cX9_clustersOf 36 = .ok (.ifCond .eq 11, 3) := by decide +kernel
theorem dX9_clustersOf_39 : decode cX9_clustersOf 39 = .ok (.iload_n 2, 1) := by decide +kernel
theorem dX9_clustersOf_40 : decode cX9_clustersOf 40 = .ok (.ifCond .eq 7, 3) := by decide +kernel
theorem dX9_clustersOf_43 : decode cX9_clustersOf 43 = .ok (.iconst 1, 1) := by decide +kernel
theorem dX9_clustersOf_44 : decode cX9_clustersOf 44 = .ok (.goto 4, 3) := by decide +kernel
theorem dX9_clustersOf_47 : decode cX9_clustersOf 47 = .ok (.iconst 0, 1) := by decide +kernel
theorem dX9_clustersOf_48 : decode cX9_clustersOf 48 = .ok (.istore_n 3, 1) := by decide +kernel
theorem dX9_clustersOf_49 : decode cX9_clustersOf 49 = .ok (.aload_n 0, 1) := by decide +kernel
theorem dX9_clustersOf_50 : decode cX9_clustersOf 50 = .ok (.getfield 56, 3) := by decide +kernel
theorem dX9_clustersOf_53 : decode cX9_clustersOf 53 = .ok (.aload_n 0, 1) := by decide +kernel
theorem dX9_clustersOf_54 : decode cX9_clustersOf 54 = .ok (.getfield 129, 3) := by decide +kernel
theorem dX9_clustersOf_57 : decode cX9_clustersOf 57 = .ok (.iload_n 1, 1) := by decide +kernel
theorem dX9_clustersOf_58 : decode cX9_clustersOf 58 = .ok (.iconst 1, 1) := by decide +kernel
theorem dX9_clustersOf_59 : decode cX9_clustersOf 59 = .ok (.iadd, 1) := by decide +kernel
theorem dX9_clustersOf_60 : decode cX9_clustersOf 60 = .ok (.aload_n 0, 1) := by decide +kernel
theorem dX9_clustersOf_61 : decode cX9_clustersOf 61 = .ok (.getfield 81, 3) := by decide +kernel
theorem dX9_clustersOf_64 : decode cX9_clustersOf 64 = .ok (.if_icmp .ge 18, 3) := by decide +kernel
theorem dX9_clustersOf_67 : decode cX9_clustersOf 67 = .ok (.aload_n 0, 1) := by decide +kernel
theorem dX9_clustersOf_68 : decode cX9_clustersOf 68 = .ok (.getfield 34, 3) := by decide +kernel
theorem dX9_clustersOf_71 : decode cX9_clustersOf 71 = .ok (.iload_n 1, 1) := by decide +kernel
theorem dX9_clustersOf_72 : decode cX9_clustersOf 72 = .ok (.iconst 1, 1) := by decide +kernel
theorem dX9_clustersOf_73 : decode cX9_clustersOf 73 = .ok (.iadd, 1) := by decide +kernel
theorem dX9_clustersOf_74 : decode cX9_clustersOf 74 = .ok (.baload, 1) := by decide +kernel
theorem dX9_clustersOf_75 : decode cX9_clustersOf 75 = .ok (.ifCond .eq 7, 3) := by decide +kernel
theorem dX9_clustersOf_78 : decode cX9_clustersOf 78 = .ok (.iconst 1, 1) := by decide +kernel
theorem dX9_clustersOf_79 : decode cX9_clustersOf 79 = .ok (.goto 4, 3) := by decide +kernel
theorem dX9_clustersOf_82 : decode cX9_clustersOf 82 = .ok (.iconst 0, 1) := by decide +kernel
theorem dX9_clustersOf_83 : decode cX9_clustersOf 83 = .ok (.bastore, 1) := by decide +kernel
theorem dX9_clustersOf_84 : decode cX9_clustersOf 84 = .ok (.aload_n 0, 1) := by decide +kernel
theorem dX9_clustersOf_85 : decode cX9_clustersOf 85 = .ok (.getfield 56, 3) := by decide +kernel
theorem dX9_clustersOf_88 : decode cX9_clustersOf 88 = .ok (.aload_n 0, 1) := by decide +kernel
theorem dX9_clustersOf_89 : decode cX9_clustersOf 89 = .ok (.getfield 129, 3) := by decide +kernel
theorem dX9_clustersOf_92 : decode cX9_clustersOf 92 = .ok (.baload, 1) := by decide +kernel
theorem dX9_clustersOf_93 : decode cX9_clustersOf 93 = .ok (.ifCond .eq 9, 3) := by decide +kernel
theorem dX9_clustersOf_96 : decode cX9_clustersOf 96 = .ok (.iload_n 1, 1) := by decide +kernel
theorem dX9_clustersOf_97 : decode cX9_clustersOf 97 = .ok (.iconst 3, 1) := by decide +kernel
theorem dX9_clustersOf_98 : decode cX9_clustersOf 98 = .ok (.iadd, 1) := by decide +kernel
theorem dX9_clustersOf_99 : decode cX9_clustersOf 99 = .ok (.goto 6, 3) := by decide +kernel
theorem dX9_clustersOf_102 : decode cX9_clustersOf 102 = .ok (.iload_n 1, 1) := by decide +kernel
theorem dX9_clustersOf_103 : decode cX9_clustersOf 103 = .ok (.iconst 1, 1) := by decide +kernel
theorem dX9_clustersOf_104 : decode cX9_clustersOf 104 = .ok (.iadd, 1) := by decide +kernel
theorem dX9_clustersOf_105 : decode cX9_clustersOf 105 = .ok (.istore 4, 2) := by decide +kernel
theorem dX9_clustersOf_107 : decode cX9_clustersOf 107 = .ok (.iload_n 3, 1) := by decide +kernel
theorem dX9_clustersOf_108 : decode cX9_clustersOf 108 = .ok (.ifCond .ne 31, 3) := by decide +kernel
theorem dX9_clustersOf_111 : decode cX9_clustersOf 111 = .ok (.iload 4, 2) := by decide +kernel
theorem dX9_clustersOf_113 : decode cX9_clustersOf 113 = .ok (.aload_n 0, 1) := by decide +kernel
theorem dX9_clustersOf_114 : decode cX9_clustersOf 114 = .ok (.getfield 81, 3) := by decide +kernel
theorem dX9_clustersOf_117 : decode cX9_clustersOf 117 = .ok (.if_icmp .ge 22, 3) := by decide +kernel
theorem dX9_clustersOf_120 : decode cX9_clustersOf 120 = .ok (.aload_n 0, 1) := by decide +kernel
theorem dX9_clustersOf_121 : decode cX9_clustersOf 121 = .ok (.getfield 7, 3) := by decide +kernel
theorem dX9_clustersOf_124 : decode cX9_clustersOf 124 = .ok (.iload 4, 2) := by decide +kernel
theorem dX9_clustersOf_126 : decode cX9_clustersOf 126 = .ok (.iaload, 1) := by decide +kernel
theorem dX9_clustersOf_127 : decode cX9_clustersOf 127 = .ok (.invokestatic 103, 3) := by decide +kernel
theorem dX9_clustersOf_130 : decode cX9_clustersOf 130 = .ok (.ifCond .eq 9, 3) := by decide +kernel
theorem dX9_clustersOf_133 : decode cX9_clustersOf 133 = .ok (.iinc 4 1, 3) := by decide +kernel
theorem dX9_clustersOf_136 : decode cX9_clustersOf 136 = .ok (.goto (-29), 3) := by decide +kernel
theorem dX9_clustersOf_139 : decode cX9_clustersOf 139 = .ok (.aload_n 0, 1) := by decide +kernel
theorem dX9_clustersOf_140 : decode cX9_clustersOf 140 = .ok (.getfield 53, 3) := by decide +kernel
theorem dX9_clustersOf_143 : decode cX9_clustersOf 143 = .ok (.aload_n 0, 1) := by decide +kernel
theorem dX9_clustersOf_144 : decode cX9_clustersOf 144 = .ok (.getfield 129, 3) := by decide +kernel
theorem dX9_clustersOf_147 : decode cX9_clustersOf 147 = .ok (.iload 4, 2) := by decide +kernel
theorem dX9_clustersOf_149 : decode cX9_clustersOf 149 = .ok (.iload_n 1, 1) := by decide +kernel
theorem dX9_clustersOf_150 : decode cX9_clustersOf 150 = .ok (.isub, 1) := by decide +kernel
theorem dX9_clustersOf_151 : decode cX9_clustersOf 151 = .ok (.iastore, 1) := by decide +kernel
theorem dX9_clustersOf_152 : decode cX9_clustersOf 152 = .ok (.iload_n 3, 1) := by decide +kernel
theorem dX9_clustersOf_153 : decode cX9_clustersOf 153 = .ok (.ifCond .ne 5, 3) := by decide +kernel
theorem dX9_clustersOf_156 : decode cX9_clustersOf 156 = .ok (.iconst 0, 1) := by decide +kernel
theorem dX9_clustersOf_157 : decode cX9_clustersOf 157 = .ok (.istore_n 2, 1) := by decide +kernel
theorem dX9_clustersOf_158 : decode cX9_clustersOf 158 = .ok (.iload 4, 2) := by decide +kernel
theorem dX9_clustersOf_160 : decode cX9_clustersOf 160 = .ok (.istore_n 1, 1) := by decide +kernel
theorem dX9_clustersOf_161 : decode cX9_clustersOf 161 = .ok (.aload_n 0, 1) := by decide +kernel
theorem dX9_clustersOf_162 : decode cX9_clustersOf 162 = .ok (.dup, 1) := by decide +kernel
theorem dX9_clustersOf_163 : decode cX9_clustersOf 163 = .ok (.getfield 129, 3) := by decide +kernel
theorem dX9_clustersOf_166 : decode cX9_clustersOf 166 = .ok (.iconst 1, 1) := by decide +kernel
theorem dX9_clustersOf_167 : decode cX9_clustersOf 167 = .ok (.iadd, 1) := by decide +kernel
theorem dX9_clustersOf_168 : decode cX9_clustersOf 168 = .ok (.putfield 129, 3) := by decide +kernel
theorem dX9_clustersOf_171 : decode cX9_clustersOf 171 = .ok (.goto (-162), 3) := by decide +kernel
theorem dX9_clustersOf_174 : decode cX9_clustersOf 174 = .ok (.return_, 1) := by decide +kernel
theorem dX9_looks_0 : decode cX9_looks 0 = .ok (.aload_n 0, 1) := by decide +kernel
theorem dX9_looks_1 : decode cX9_looks 1 = .ok (.invokevirtual 132, 3) := by decide +kernel
theorem dX9_looks_4 : decode cX9_looks 4 = .ok (.aload_n 0, 1) := by decide +kernel
theorem dX9_looks_5 : decode cX9_looks 5 = .ok (.invokevirtual 134, 3) := by decide +kernel
theorem dX9_looks_8 : decode cX9_looks 8 = .ok (.iconst 0, 1) := by decide +kernel
theorem dX9_looks_9 : decode cX9_looks 9 = .ok (.istore_n 1, 1) := by decide +kernel
theorem dX9_looks_10 : decode cX9_looks 10 = .ok (.iload_n 1, 1) := by decide +kernel
theorem dX9_looks_11 : decode cX9_looks 11 = .ok (.aload_n 0, 1) := by decide +kernel
theorem dX9_looks_12 : decode cX9_looks 12 = .ok (.getfield 112, 3) := by decide +kernel
theorem dX9_looks_15 : decode cX9_looks 15 = .ok (.if_icmp .ge 14, 3) := by decide +kernel
theorem dX9_looks_18 : decode cX9_looks 18 = .ok (.aload_n 0, 1) := by decide +kernel
theorem dX9_looks_19 : decode cX9_looks 19 = .ok (.iload_n 1, 1) := by decide +kernel
theorem dX9_looks_20 : decode cX9_looks 20 = .ok (.invokevirtual 137, 3) := by decide +kernel
theorem dX9_looks_23 : decode cX9_looks 23 = .ok (.iinc 1 1, 3) := by decide +kernel
theorem dX9_looks_26 : decode cX9_looks 26 = .ok (.goto (-16), 3) := by decide +kernel
theorem dX9_looks_29 : decode cX9_looks 29 = .ok (.aload_n 0, 1) := by decide +kernel
theorem dX9_looks_30 : decode cX9_looks 30 = .ok (.getfield 81, 3) := by decide +kernel
theorem dX9_looks_33 : decode cX9_looks 33 = .ok (.iconst 1, 1) := by decide +kernel
theorem dX9_looks_34 : decode cX9_looks 34 = .ok (.isub, 1) := by decide +kernel
theorem dX9_looks_35 : decode cX9_looks 35 = .ok (.istore_n 1, 1) := by decide +kernel
theorem dX9_looks_36 : decode cX9_looks 36 = .ok (.iload_n 1, 1) := by decide +kernel
theorem dX9_looks_37 : decode cX9_looks 37 = .ok (.ifCond .lt 42, 3) := by decide +kernel
theorem dX9_looks_40 : decode cX9_looks 40 = .ok (.aload_n 0, 1) := by decide +kernel
theorem dX9_looks_41 : decode cX9_looks 41 = .ok (.getfield 7, 3) := by decide +kernel
theorem dX9_looks_44 : decode cX9_looks 44 = .ok (.iload_n 1, 1) := by decide +kernel
theorem dX9_looks_45 : decode cX9_looks 45 = .ok (.iaload, 1) := by decide +kernel
theorem dX9_looks_46 : decode cX9_looks 46 = .ok (.bipush 32, 2) := by decide +kernel
theorem dX9_looks_48 : decode cX9_looks 48 = .ok (.if_icmp .eq 15, 3) := by decide +kernel
theorem dX9_looks_51 : decode cX9_looks 51 = .ok (.aload_n 0, 1) := by decide +kernel
theorem dX9_looks_52 : decode cX9_looks 52 = .ok (.getfield 7, 3) := by decide +kernel
theorem dX9_looks_55 : decode cX9_looks 55 = .ok (.iload_n 1, 1) := by decide +kernel
theorem dX9_looks_56 : decode cX9_looks 56 = .ok (.iaload, 1) := by decide +kernel
theorem dX9_looks_57 : decode cX9_looks 57 = .ok (.invokestatic 106, 3) := by decide +kernel
theorem dX9_looks_60 : decode cX9_looks 60 = .ok (.ifCond .eq 19, 3) := by decide +kernel
theorem dX9_looks_63 : decode cX9_looks 63 = .ok (.aload_n 0, 1) := by decide +kernel
theorem dX9_looks_64 : decode cX9_looks 64 = .ok (.getfield 41, 3) := by decide +kernel
theorem dX9_looks_67 : decode cX9_looks 67 = .ok (.iload_n 1, 1) := by decide +kernel
theorem dX9_looks_68 : decode cX9_looks 68 = .ok (.aload_n 0, 1) := by decide +kernel
theorem dX9_looks_69 : decode cX9_looks 69 = .ok (.getfield 109, 3) := by decide +kernel
theorem dX9_looks_72 : decode cX9_looks 72 = .ok (.iastore, 1) := by decide +kernel
theorem dX9_looks_73 : decode cX9_looks 73 = .ok (.iinc 1 (-1), 3) := by decide +kernel
theorem dX9_looks_76 : decode cX9_looks 76 = .ok (.goto (-40), 3) := by decide +kernel
theorem dX9_looks_79 : decode cX9_looks 79 = .ok (.aload_n 0, 1) := by decide +kernel
theorem dX9_looks_80 : decode cX9_looks 80 = .ok (.invokevirtual 141, 3) := by decide +kernel
theorem dX9_looks_83 : decode cX9_looks 83 = .ok (.iconst 0, 1) := by decide +kernel
theorem dX9_looks_84 : decode cX9_looks 84 = .ok (.istore_n 1, 1) := by decide +kernel
theorem dX9_looks_85 : decode cX9_looks 85 = .ok (.iconst 0, 1) := by decide +kernel
theorem dX9_looks_86 : decode cX9_looks 86 = .ok (.istore_n 2, 1) := by decide +kernel
theorem dX9_looks_87 : decode cX9_looks 87 = .ok (.iload_n 2, 1) := by decide +kernel
theorem dX9_looks_88 : decode cX9_looks 88 = .ok (.aload_n 0, 1) := by decide +kernel
theorem dX9_looks_89 : decode cX9_looks 89 = .ok (.getfield 129, 3) := by decide +kernel
theorem dX9_looks_92 : decode cX9_looks 92 = .ok (.if_icmp .ge 43, 3) := by decide +kernel
theorem dX9_looks_95 : decode cX9_looks 95 = .ok (.aload_n 0, 1) := by decide +kernel
theorem dX9_looks_96 : decode cX9_looks 96 = .ok (.getfield 68, 3) := by decide +kernel
theorem dX9_looks_99 : decode cX9_looks 99 = .ok (.iload_n 2, 1) := by decide +kernel
theorem dX9_looks_100 : decode cX9_looks 100 = .ok (.iload_n 2, 1) := by decide +kernel
theorem dX9_looks_101 : decode cX9_looks 101 = .ok (.iastore, 1) := by decide +kernel
theorem dX9_looks_102 : decode cX9_looks 102 = .ok (.aload_n 0, 1) := by decide +kernel
theorem dX9_looks_103 : decode cX9_looks 103 = .ok (.getfield 41, 3) := by decide +kernel
theorem dX9_looks_106 : decode cX9_looks 106 = .ok (.aload_n 0, 1) := by decide +kernel
theorem dX9_looks_107 : decode cX9_looks 107 = .ok (.getfield 50, 3) := by decide +kernel
theorem dX9_looks_110 : decode cX9_looks 110 = .ok (.iload_n 2, 1) := by decide +kernel
theorem dX9_looks_111 : decode cX9_looks 111 = .ok (.iaload, 1) := by decide +kernel
theorem dX9_looks_112 : decode cX9_looks 112 = .ok (.iaload, 1) := by decide +kernel
theorem dX9_looks_113 : decode cX9_looks 113 = .ok (.iload_n 1, 1) := by decide +kernel
theorem dX9_looks_114 : decode cX9_looks 114 = .ok (.if_icmp .le 15, 3) := by decide +kernel
theorem dX9_looks_117 : decode cX9_looks 117 = .ok (.aload_n 0, 1) := by decide +kernel
theorem dX9_looks_118 : decode cX9_looks 118 = .ok (.getfield 41, 3) := by decide +kernel
theorem dX9_looks_121 : decode cX9_looks 121 = .ok (.aload_n 0, 1) := by decide +kernel
theorem dX9_looks_122 : decode cX9_looks 122 = .ok (.getfield 50, 3) := by decide +kernel
theorem dX9_looks_125 : decode cX9_looks 125 = .ok (.iload_n 2, 1) := by decide +kernel
theorem dX9_looks_126 : decode cX9_looks 126 = .ok (.iaload, 1) := by decide +kernel
theorem dX9_looks_127 : decode cX9_looks 127 = .ok (.iaload, 1) := by decide +kernel
theorem dX9_looks_128 : decode cX9_looks 128 = .ok (.istore_n 1, 1) := by decide +kernel
theorem dX9_looks_129 : decode cX9_looks 129 = .ok (.iinc 2 1, 3) := by decide +kernel
theorem dX9_looks_132 : decode cX9_looks 132 = .ok (.goto (-45), 3) := by decide +kernel
theorem dX9_looks_135 : decode cX9_looks 135 = .ok (.iload_n 1, 1) := by decide +kernel
theorem dX9_looks_136 : decode cX9_looks 136 = .ok (.istore_n 2, 1) := by decide +kernel
theorem dX9_looks_137 : decode cX9_looks 137 = .ok (.iload_n 2, 1) := by decide +kernel
theorem dX9_looks_138 : decode cX9_looks 138 = .ok (.ifCond .le 14, 3) := by decide +kernel
theorem dX9_looks_141 : decode cX9_looks 141 = .ok (.aload_n 0, 1) := by decide +kernel
theorem dX9_looks_142 : decode cX9_looks 142 = .ok (.iload_n 2, 1) := by decide +kernel
theorem dX9_looks_143 : decode cX9_looks 143 = .ok (.invokevirtual 144, 3) := by decide +kernel
theorem dX9_looks_146 : decode cX9_looks 146 = .ok (.iinc 2 (-1), 3) := by decide +kernel
theorem dX9_looks_149 : decode cX9_looks 149 = .ok (.goto (-12), 3) := by decide +kernel
theorem dX9_looks_152 : decode cX9_looks 152 = .ok (.aload_n 0, 1) := by decide +kernel
theorem dX9_looks_153 : decode cX9_looks 153 = .ok (.iconst 0, 1) := by decide +kernel
theorem dX9_looks_154 : decode cX9_looks 154 = .ok (.putfield 147, 3) := by decide +kernel
theorem dX9_looks_157 : decode cX9_looks 157 = .ok (.iconst 0, 1) := by decide +kernel
theorem dX9_looks_158 : decode cX9_looks 158 = .ok (.istore_n 2, 1) := by decide +kernel
theorem dX9_looks_159 : decode cX9_looks 159 = .ok (.iload_n 2, 1) := by decide +kernel
theorem dX9_looks_160 : decode cX9_looks 160 = .ok (.aload_n 0, 1) := by decide +kernel
theorem dX9_looks_161 : decode cX9_looks 161 = .ok (.getfield 129, 3) := by decide +kernel
theorem dX9_looks_164 : decode cX9_looks 164 = .ok (.if_icmp .ge 59, 3) := by decide +kernel
theorem dX9_looks_167 : decode cX9_looks 167 = .ok (.aload_n 0, 1) := by decide +kernel
theorem dX9_looks_168 : decode cX9_looks 168 = .ok (.getfield 68, 3) := by decide +kernel
theorem dX9_looks_171 : decode cX9_looks 171 = .ok (.iload_n 2, 1) := by decide +kernel
theorem dX9_looks_172 : decode cX9_looks 172 = .ok (.iaload, 1) := by decide +kernel
theorem dX9_looks_173 : decode cX9_looks 173 = .ok (.istore_n 3, 1) := by decide +kernel
theorem dX9_looks_174 : decode cX9_looks 174 = .ok (.aload_n 0, 1) := by decide +kernel
theorem dX9_looks_175 : decode cX9_looks 175 = .ok (.getfield 65, 3) := by decide +kernel
theorem dX9_looks_178 : decode cX9_looks 178 = .ok (.iload_n 3, 1) := by decide +kernel
theorem dX9_looks_179 : decode cX9_looks 179 = .ok (.iload_n 2, 1) := by decide +kernel
theorem dX9_looks_180 : decode cX9_looks 180 = .ok (.iastore, 1) := by decide +kernel
theorem dX9_looks_181 : decode cX9_looks 181 = .ok (.aload_n 0, 1) := by decide +kernel
theorem dX9_looks_182 : decode cX9_looks 182 = .ok (.getfield 62, 3) := by decide +kernel
theorem dX9_looks_185 : decode cX9_looks 185 = .ok (.iload_n 3, 1) := by decide +kernel
theorem dX9_looks_186 : decode cX9_looks 186 = .ok (.aload_n 0, 1) := by decide +kernel
theorem dX9_looks_187 : decode cX9_looks 187 = .ok (.getfield 147, 3) := by decide +kernel
theorem dX9_looks_190 : decode cX9_looks 190 = .ok (.iastore, 1) := by decide +kernel
theorem dX9_looks_191 : decode cX9_looks 191 = .ok (.aload_n 0, 1) := by decide +kernel
theorem dX9_looks_192 : decode cX9_looks 192 = .ok (.getfield 59, 3) := by decide +kernel
theorem dX9_looks_195 : decode cX9_looks 195 = .ok (.iload_n 3, 1) := by decide +kernel
theorem dX9_looks_196 : decode cX9_looks 196 = .ok (.aload_n 0, 1) := by decide +kernel
theorem dX9_looks_197 : decode cX9_looks 197 = .ok (.iload_n 3, 1) := by decide +kernel
theorem dX9_looks_198 : decode cX9_looks 198 = .ok (.invokevirtual 150, 3) := by decide +kernel
theorem dX9_looks_201 : decode cX9_looks 201 = .ok (.iastore, 1) := by decide +kernel
theorem dX9_looks_202 : decode cX9_looks 202 = .ok (.aload_n 0, 1) := by decide +kernel
theorem dX9_looks_203 : decode cX9_looks 203 = .ok (.dup, 1) := by decide +kernel
theorem dX9_looks_204 : decode cX9_looks 204 = .ok (.getfield 147, 3) := by decide +kernel
theorem dX9_looks_207 : decode cX9_looks 207 = .ok (.aload_n 0, 1) := by decide +kernel
theorem dX9_looks_208 : decode cX9_looks 208 = .ok (.getfield 59, 3) := by decide +kernel
theorem dX9_looks_211 : decode cX9_looks 211 = .ok (.iload_n 3, 1) := by decide +kernel
theorem dX9_looks_212 : decode cX9_looks 212 = .ok (.iaload, 1) := by decide +kernel
theorem dX9_looks_213 : decode cX9_looks 213 = .ok (.iadd, 1) := by decide +kernel
theorem dX9_looks_214 : decode cX9_looks 214 = .ok (.putfield 147, 3) := by decide +kernel
theorem dX9_looks_217 : decode cX9_looks 217 = .ok (.iinc 2 1, 3) := by decide +kernel
theorem dX9_looks_220 : decode cX9_looks 220 = .ok (.goto (-61), 3) := by decide +kernel
theorem dX9_looks_223 : decode cX9_looks 223 = .ok (.return_, 1) := by decide +kernel
theorem dX9_turns_0 : decode cX9_turns 0 = .ok (.iconst 0, 1) := by decide +kernel
theorem dX9_turns_1 : decode cX9_turns 1 = .ok (.istore_n 2, 1) := by decide +kernel
theorem dX9_turns_2 : decode cX9_turns 2 = .ok (.iload_n 2, 1) := by decide +kernel
theorem dX9_turns_3 : decode cX9_turns 3 = .ok (.aload_n 0, 1) := by decide +kernel
theorem dX9_turns_4 : decode cX9_turns 4 = .ok (.getfield 129, 3) := by decide +kernel
theorem dX9_turns_7 : decode cX9_turns 7 = .ok (.if_icmp .ge 126, 3) := by decide +kernel
theorem dX9_turns_10 : decode cX9_turns 10 = .ok (.aload_n 0, 1) := by decide +kernel
theorem dX9_turns_11 : decode cX9_turns 11 = .ok (.getfield 41, 3) := by decide +kernel
theorem dX9_turns_14 : decode cX9_turns 14 = .ok (.aload_n 0, 1) := by decide +kernel
theorem dX9_turns_15 : decode cX9_turns 15 = .ok (.getfield 50, 3) := by decide +kernel
theorem dX9_turns_18 : decode cX9_turns 18 = .ok (.aload_n 0, 1) := by decide +kernel
theorem dX9_turns_19 : decode cX9_turns 19 = .ok (.getfield 68, 3) := by decide +kernel
theorem dX9_turns_22 : decode cX9_turns 22 = .ok (.iload_n 2, 1) := by decide +kernel
theorem dX9_turns_23 : decode cX9_turns 23 = .ok (.iaload, 1) := by decide +kernel
theorem dX9_turns_24 : decode cX9_turns 24 = .ok (.iaload, 1) := by decide +kernel
theorem dX9_turns_25 : decode cX9_turns 25 = .ok (.iaload, 1) := by decide +kernel
theorem dX9_turns_26 : decode cX9_turns 26 = .ok (.iload_n 1, 1) := by decide +kernel
theorem dX9_turns_27 : decode cX9_turns 27 = .ok (.if_icmp .ge 6, 3) := by decide +kernel
theorem dX9_turns_30 : decode cX9_turns 30 = .ok (.goto 97, 3) := by decide +kernel
theorem dX9_turns_33 : decode cX9_turns 33 = .ok (.iload_n 2, 1) := by decide +kernel
theorem dX9_turns_34 : decode cX9_turns 34 = .ok (.istore_n 3, 1) := by decide +kernel
theorem dX9_turns_35 : decode cX9_turns 35 = .ok (.iload_n 3, 1) := by decide +kernel
theorem dX9_turns_36 : decode cX9_turns 36 = .ok (.aload_n 0, 1) := by decide +kernel
theorem dX9_turns_37 : decode cX9_turns 37 = .ok (.getfield 129, 3) := by decide +kernel
theorem dX9_turns_40 : decode cX9_turns 40 = .ok (.if_icmp .ge 29, 3) := by decide +kernel
theorem dX9_turns_43 : decode cX9_turns 43 = .ok (.aload_n 0, 1) := by decide +kernel
theorem dX9_turns_44 : decode cX9_turns 44 = .ok (.getfield 41, 3) := by decide +kernel
theorem dX9_turns_47 : decode cX9_turns 47 = .ok (.aload_n 0, 1) := by decide +kernel
theorem dX9_turns_48 : decode cX9_turns 48 = .ok (.getfield 50, 3) := by decide +kernel
theorem dX9_turns_51 : decode cX9_turns 51 = .ok (.aload_n 0, 1) := by decide +kernel
theorem dX9_turns_52 : decode cX9_turns 52 = .ok (.getfield 68, 3) := by decide +kernel
theorem dX9_turns_55 : decode cX9_turns 55 = .ok (.iload_n 3, 1) := by decide +kernel
theorem dX9_turns_56 : decode cX9_turns 56 = .ok (.iaload, 1) := by decide +kernel
theorem dX9_turns_57 : decode cX9_turns 57 = .ok (.iaload, 1) := by decide +kernel
theorem dX9_turns_58 : decode cX9_turns 58 = .ok (.iaload, 1) := by decide +kernel
theorem dX9_turns_59 : decode cX9_turns 59 = .ok (.iload_n 1, 1) := by decide +kernel
theorem dX9_turns_60 : decode cX9_turns 60 = .ok (.if_icmp .lt 9, 3) := by decide +kernel
theorem dX9_turns_63 : decode cX9_turns 63 = .ok (.iinc 3 1, 3) := by decide +kernel
theorem dX9_turns_66 : decode cX9_turns 66 = .ok (.goto (-31), 3) := by decide +kernel
theorem dX9_turns_69 : decode cX9_turns 69 = .ok (.iload_n 2, 1) := by decide +kernel
theorem dX9_turns_70 : decode cX9_turns 70 = .ok (.istore 4, 2) := by decide +kernel
theorem dX9_turns_72 : decode cX9_turns 72 = .ok (.iload_n 3, 1) := by decide +kernel
theorem dX9_turns_73 : decode cX9_turns 73 = .ok (.iconst 1, 1) := by decide +kernel
theorem dX9_turns_74 : decode cX9_turns 74 = .ok (.isub, 1) := by decide +kernel
theorem dX9_turns_75 : decode cX9_turns 75 = .ok (.istore 5, 2) := by decide +kernel
theorem dX9_turns_77 : decode cX9_turns 77 = .ok (.iload 4, 2) := by decide +kernel
theorem dX9_turns_79 : decode cX9_turns 79 = .ok (.iload 5, 2) := by decide +kernel
theorem dX9_turns_81 : decode cX9_turns 81 = .ok (.if_icmp .ge 44, 3) := by decide +kernel
theorem dX9_turns_84 : decode cX9_turns 84 = .ok (.aload_n 0, 1) := by decide +kernel
theorem dX9_turns_85 : decode cX9_turns 85 = .ok (.getfield 68, 3) := by decide +kernel
theorem dX9_turns_88 : decode cX9_turns 88 = .ok (.iload 4, 2) := by decide +kernel
theorem dX9_turns_90 : decode cX9_turns 90 = .ok (.iaload, 1) := by decide +kernel
theorem dX9_turns_91 : decode cX9_turns 91 = .ok (.istore 6, 2) := by decide +kernel
theorem dX9_turns_93 : decode cX9_turns 93 = .ok (.aload_n 0, 1) := by decide +kernel
theorem dX9_turns_94 : decode cX9_turns 94 = .ok (.getfield 68, 3) := by decide +kernel
theorem dX9_turns_97 : decode cX9_turns 97 = .ok (.iload 4, 2) := by decide +kernel
theorem dX9_turns_99 : decode cX9_turns 99 = .ok (.aload_n 0, 1) := by decide +kernel
theorem dX9_turns_100 : decode cX9_turns 100 = .ok (.getfield 68, 3) := by decide +kernel
theorem dX9_turns_103 : decode cX9_turns 103 = .ok (.iload 5, 2) := by decide +kernel
theorem dX9_turns_105 : decode cX9_turns 105 = .ok (.iaload, 1) := by decide +kernel
theorem dX9_turns_106 : decode cX9_turns 106 = .ok (.iastore, 1) := by decide +kernel
theorem dX9_turns_107 : decode cX9_turns 107 = .ok (.aload_n 0, 1) := by decide +kernel
theorem dX9_turns_108 : decode cX9_turns 108 = .ok (.getfield 68, 3) := by decide +kernel
theorem dX9_turns_111 : decode cX9_turns 111 = .ok (.iload 5, 2) := by decide +kernel
theorem dX9_turns_113 : decode cX9_turns 113 = .ok (.iload 6, 2) := by decide +kernel
theorem dX9_turns_115 : decode cX9_turns 115 = .ok (.iastore, 1) := by decide +kernel
theorem dX9_turns_116 : decode cX9_turns 116 = .ok (.iinc 4 1, 3) := by decide +kernel
theorem dX9_turns_119 : decode cX9_turns 119 = .ok (.iinc 5 (-1), 3) := by decide +kernel
theorem dX9_turns_122 : decode cX9_turns 122 = .ok (.goto (-45), 3) := by decide +kernel
theorem dX9_turns_125 : decode cX9_turns 125 = .ok (.iload_n 3, 1) := by decide +kernel
theorem dX9_turns_126 : decode cX9_turns 126 = .ok (.istore_n 2, 1) := by decide +kernel
theorem dX9_turns_127 : decode cX9_turns 127 = .ok (.iinc 2 1, 3) := by decide +kernel
theorem dX9_turns_130 : decode cX9_turns 130 = .ok (.goto (-128), 3) := by decide +kernel
theorem dX9_turns_133 : decode cX9_turns 133 = .ok (.return_, 1) := by decide +kernel
theorem dX9_way_0 : decode cX9_way 0 = .ok (.iload_n 1, 1) := by decide +kernel
theorem dX9_way_1 : decode cX9_way 1 = .ok (.ifCond .eq 10, 3) := by decide +kernel
theorem dX9_way_4 : decode cX9_way 4 = .ok (.iload_n 1, 1) := by decide +kernel
theorem dX9_way_5 : decode cX9_way 5 = .ok (.iconst 1, 1) := by decide +kernel
theorem dX9_way_6 : decode cX9_way 6 = .ok (.if_icmp .eq 5, 3) := by decide +kernel
theorem dX9_way_9 : decode cX9_way 9 = .ok (.iconst (-1), 1) := by decide +kernel
theorem dX9_way_10 : decode cX9_way 10 = .ok (.ireturn, 1) := by decide +kernel
theorem dX9_way_11 : decode cX9_way 11 = .ok (.aload_n 0, 1) := by decide +kernel
theorem dX9_way_12 : decode cX9_way 12 = .ok (.getfield 109, 3) := by decide +kernel
theorem dX9_way_15 : decode cX9_way 15 = .ok (.istore_n 2, 1) := by decide +kernel
theorem dX9_way_16 : decode cX9_way 16 = .ok (.aload_n 0, 1) := by decide +kernel
theorem dX9_way_17 : decode cX9_way 17 = .ok (.iload_n 1, 1) := by decide +kernel
theorem dX9_way_18 : decode cX9_way 18 = .ok (.putfield 109, 3) := by decide +kernel
theorem dX9_way_21 : decode cX9_way 21 = .ok (.iload_n 2, 1) := by decide +kernel
theorem dX9_way_22 : decode cX9_way 22 = .ok (.ireturn, 1) := by decide +kernel
theorem dX9_beginsAt_0 : decode cX9_beginsAt 0 = .ok (.iconst 0, 1) := by decide +kernel
theorem dX9_beginsAt_1 : decode cX9_beginsAt 1 = .ok (.istore_n 2, 1) := by decide +kernel
theorem dX9_beginsAt_2 : decode cX9_beginsAt 2 = .ok (.iload_n 2, 1) := by decide +kernel
theorem dX9_beginsAt_3 : decode cX9_beginsAt 3 = .ok (.aload_n 0, 1) := by decide +kernel
theorem dX9_beginsAt_4 : decode cX9_beginsAt 4 = .ok (.getfield 129, 3) := by decide +kernel
theorem dX9_beginsAt_7 : decode cX9_beginsAt 7 = .ok (.if_icmp .ge 21, 3) := by decide +kernel
theorem dX9_beginsAt_10 : decode cX9_beginsAt 10 = .ok (.aload_n 0, 1) := by decide +kernel
theorem dX9_beginsAt_11 : decode cX9_beginsAt 11 = .ok (.getfield 50, 3) := by decide +kernel
theorem dX9_beginsAt_14 : decode cX9_beginsAt 14 = .ok (.iload_n 2, 1) := by decide +kernel
theorem dX9_beginsAt_15 : decode cX9_beginsAt 15 = .ok (.iaload, 1) := by decide +kernel
theorem dX9_beginsAt_16 : decode cX9_beginsAt 16 = .ok (.iload_n 1, 1) := by decide +kernel
theorem dX9_beginsAt_17 : decode cX9_beginsAt 17 = .ok (.if_icmp .ne 5, 3) := by decide +kernel
theorem dX9_beginsAt_20 : decode cX9_beginsAt 20 = .ok (.iload_n 2, 1) := by decide +kernel
theorem dX9_beginsAt_21 : decode cX9_beginsAt 21 = .ok (.ireturn, 1) := by decide +kernel
theorem dX9_beginsAt_22 : decode cX9_beginsAt 22 = .ok (.iinc 2 1, 3) := by decide +kernel
theorem dX9_beginsAt_25 : decode cX9_beginsAt 25 = .ok (.goto (-23), 3) := by decide +kernel
theorem dX9_beginsAt_28 : decode cX9_beginsAt 28 = .ok (.iconst (-1), 1) := by decide +kernel
theorem dX9_beginsAt_29 : decode cX9_beginsAt 29 = .ok (.ireturn, 1) := by decide +kernel
theorem dX9_endsAt_0 : decode cX9_endsAt 0 = .ok (.iconst 0, 1) := by decide +kernel
theorem dX9_endsAt_1 : decode cX9_endsAt 1 = .ok (.istore_n 2, 1) := by decide +kernel
theorem dX9_endsAt_2 : decode cX9_endsAt 2 = .ok (.iload_n 2, 1) := by decide +kernel
theorem dX9_endsAt_3 : decode cX9_endsAt 3 = .ok (.aload_n 0, 1) := by decide +kernel
theorem dX9_endsAt_4 : decode cX9_endsAt 4 = .ok (.getfield 129, 3) := by decide +kernel
theorem dX9_endsAt_7 : decode cX9_endsAt 7 = .ok (.if_icmp .ge 28, 3) := by decide +kernel
theorem dX9_endsAt_10 : decode cX9_endsAt 10 = .ok (.aload_n 0, 1) := by decide +kernel
theorem dX9_endsAt_11 : decode cX9_endsAt 11 = .ok (.getfield 50, 3) := by decide +kernel
theorem dX9_endsAt_14 : decode cX9_endsAt 14 = .ok (.iload_n 2, 1) := by decide +kernel
theorem dX9_endsAt_15 : decode cX9_endsAt 15 = .ok (.iaload, 1) := by decide +kernel
theorem dX9_endsAt_16 : decode cX9_endsAt 16 = .ok (.aload_n 0, 1) := by decide +kernel
theorem dX9_endsAt_17 : decode cX9_endsAt 17 = .ok (.getfield 53, 3) := by decide +kernel
theorem dX9_endsAt_20 : decode cX9_endsAt 20 = .ok (.iload_n 2, 1) := by decide +kernel
theorem dX9_endsAt_21 : decode cX9_endsAt 21 = .ok (.iaload, 1) := by decide +kernel
theorem dX9_endsAt_22 : decode cX9_endsAt 22 = .ok (.iadd, 1) := by decide +kernel
theorem dX9_endsAt_23 : decode cX9_endsAt 23 = .ok (.iload_n 1, 1) := by decide +kernel
theorem dX9_endsAt_24 : decode cX9_endsAt 24 = .ok (.if_icmp .ne 5, 3) := by decide +kernel
theorem dX9_endsAt_27 : decode cX9_endsAt 27 = .ok (.iload_n 2, 1) := by decide +kernel
theorem dX9_endsAt_28 : decode cX9_endsAt 28 = .ok (.ireturn, 1) := by decide +kernel
theorem dX9_endsAt_29 : decode cX9_endsAt 29 = .ok (.iinc 2 1, 3) := by decide +kernel
theorem dX9_endsAt_32 : decode cX9_endsAt 32 = .ok (.goto (-30), 3) := by decide +kernel
theorem dX9_endsAt_35 : decode cX9_endsAt 35 = .ok (.iconst (-1), 1) := by decide +kernel
theorem dX9_endsAt_36 : decode cX9_endsAt 36 = .ok (.ireturn, 1) := by decide +kernel
theorem dX9_holds_0 : decode cX9_holds 0 = .ok (.iconst 0, 1) := by decide +kernel
theorem dX9_holds_1 : decode cX9_holds 1 = .ok (.istore_n 2, 1) := by decide +kernel
theorem dX9_holds_2 : decode cX9_holds 2 = .ok (.iload_n 2, 1) := by decide +kernel
theorem dX9_holds_3 : decode cX9_holds 3 = .ok (.aload_n 0, 1) := by decide +kernel
theorem dX9_holds_4 : decode cX9_holds 4 = .ok (.getfield 129, 3) := by decide +kernel
theorem dX9_holds_7 : decode cX9_holds 7 = .ok (.if_icmp .ge 32, 3) := by decide +kernel
theorem dX9_holds_10 : decode cX9_holds 10 = .ok (.aload_n 0, 1) := by decide +kernel
theorem dX9_holds_11 : decode cX9_holds 11 = .ok (.getfield 56, 3) := by decide +kernel
theorem dX9_holds_14 : decode cX9_holds 14 = .ok (.iload_n 2, 1) := by decide +kernel
theorem dX9_holds_15 : decode cX9_holds 15 = .ok (.baload, 1) := by decide +kernel
theorem dX9_holds_16 : decode cX9_holds 16 = .ok (.ifCond .eq 17, 3) := by decide +kernel
theorem dX9_holds_19 : decode cX9_holds 19 = .ok (.aload_n 0, 1) := by decide +kernel
theorem dX9_holds_20 : decode cX9_holds 20 = .ok (.getfield 50, 3) := by decide +kernel
theorem dX9_holds_23 : decode cX9_holds 23 = .ok (.iload_n 2, 1) := by decide +kernel
theorem dX9_holds_24 : decode cX9_holds 24 = .ok (.iaload, 1) := by decide +kernel
theorem dX9_holds_25 : decode cX9_holds 25 = .ok (.iconst 2, 1) := by decide +kernel
theorem dX9_holds_26 : decode cX9_holds 26 = .ok (.iadd, 1) := by decide +kernel
theorem dX9_holds_27 : decode cX9_holds 27 = .ok (.iload_n 1, 1) := by decide +kernel
theorem dX9_holds_28 : decode cX9_holds 28 = .ok (.if_icmp .ne 5, 3) := by decide +kernel
theorem dX9_holds_31 : decode cX9_holds 31 = .ok (.iload_n 2, 1) := by decide +kernel
theorem dX9_holds_32 : decode cX9_holds 32 = .ok (.ireturn, 1) := by decide +kernel
theorem dX9_holds_33 : decode cX9_holds 33 = .ok (.iinc 2 1, 3) := by decide +kernel
theorem dX9_holds_36 : decode cX9_holds 36 = .ok (.goto (-34), 3) := by decide +kernel
theorem dX9_holds_39 : decode cX9_holds 39 = .ok (.iconst (-1), 1) := by decide +kernel
theorem dX9_holds_40 : decode cX9_holds 40 = .ok (.ireturn, 1) := by decide +kernel
theorem dX9_isBetween_0 : decode cX9_isBetween 0 = .ok (.iload_n 1, 1) := by decide +kernel
theorem dX9_isBetween_1 : decode cX9_isBetween 1 = .ok (.ifCond .eq 32, 3) := by decide +kernel
theorem dX9_isBetween_4 : decode cX9_isBetween 4 = .ok (.iload_n 1, 1) := by decide +kernel
theorem dX9_isBetween_5 : decode cX9_isBetween 5 = .ok (.aload_n 0, 1) := by decide +kernel
theorem dX9_isBetween_6 : decode cX9_isBetween 6 = .ok (.getfield 81, 3) := by decide +kernel
theorem dX9_isBetween_9 : decode cX9_isBetween 9 = .ok (.if_icmp .eq 24, 3) := by decide +kernel
theorem dX9_isBetween_12 : decode cX9_isBetween 12 = .ok (.iload_n 1, 1) := by decide +kernel
theorem dX9_isBetween_13 : decode cX9_isBetween 13 = .ok (.ifCond .le 24, 3) := by decide +kernel
theorem dX9_isBetween_16 : decode cX9_isBetween 16 = .ok (.iload_n 1, 1) := by decide +kernel
theorem dX9_isBetween_17 : decode cX9_isBetween 17 = .ok (.aload_n 0, 1) := by decide +kernel
theorem dX9_isBetween_18 : decode cX9_isBetween 18 = .ok (.getfield 81, 3) := by decide +kernel
theorem dX9_isBetween_21 : decode cX9_isBetween 21 = .ok (.if_icmp .ge 16, 3) := by decide +kernel
theorem dX9_isBetween_24 : decode cX9_isBetween 24 = .ok (.aload_n 0, 1) := by decide +kernel
theorem dX9_isBetween_25 : decode cX9_isBetween 25 = .ok (.iload_n 1, 1) := by decide +kernel
theorem dX9_isBetween_26 : decode cX9_isBetween 26 = .ok (.invokevirtual 153, 3) := by decide +kernel
theorem dX9_isBetween_29 : decode cX9_isBetween 29 = .ok (.iconst (-1), 1) := by decide +kernel
theorem dX9_isBetween_30 : decode cX9_isBetween 30 = .ok (.if_icmp .eq 7, 3) := by decide +kernel
theorem dX9_isBetween_33 : decode cX9_isBetween 33 = .ok (.iconst 1, 1) := by decide +kernel
theorem dX9_isBetween_34 : decode cX9_isBetween 34 = .ok (.goto 4, 3) := by decide +kernel
theorem dX9_isBetween_37 : decode cX9_isBetween 37 = .ok (.iconst 0, 1) := by decide +kernel
theorem dX9_isBetween_38 : decode cX9_isBetween 38 = .ok (.ireturn, 1) := by decide +kernel
theorem dX9_isStand_0 : decode cX9_isStand 0 = .ok (.aload_n 0, 1) := by decide +kernel
theorem dX9_isStand_1 : decode cX9_isStand 1 = .ok (.iload_n 1, 1) := by decide +kernel
theorem dX9_isStand_2 : decode cX9_isStand 2 = .ok (.invokevirtual 156, 3) := by decide +kernel
theorem dX9_isStand_5 : decode cX9_isStand 5 = .ok (.ifCond .ne 24, 3) := by decide +kernel
theorem dX9_isStand_8 : decode cX9_isStand 8 = .ok (.iload_n 1, 1) := by decide +kernel
theorem dX9_isStand_9 : decode cX9_isStand 9 = .ok (.ifCond .le 24, 3) := by decide +kernel
theorem dX9_isStand_12 : decode cX9_isStand 12 = .ok (.iload_n 1, 1) := by decide +kernel
theorem dX9_isStand_13 : decode cX9_isStand 13 = .ok (.aload_n 0, 1) := by decide +kernel
theorem dX9_isStand_14 : decode cX9_isStand 14 = .ok (.getfield 81, 3) := by decide +kernel
theorem dX9_isStand_17 : decode cX9_isStand 17 = .ok (.if_icmp .ge 16, 3) := by decide +kernel
theorem dX9_isStand_20 : decode cX9_isStand 20 = .ok (.aload_n 0, 1) := by decide +kernel
theorem dX9_isStand_21 : decode cX9_isStand 21 = .ok (.iload_n 1, 1) := by decide +kernel
theorem dX9_isStand_22 : decode cX9_isStand 22 = .ok (.invokevirtual 159, 3) := by decide +kernel
theorem dX9_isStand_25 : decode cX9_isStand 25 = .ok (.iconst (-1), 1) := by decide +kernel
theorem dX9_isStand_26 : decode cX9_isStand 26 = .ok (.if_icmp .eq 7, 3) := by decide +kernel
theorem dX9_isStand_29 : decode cX9_isStand 29 = .ok (.iconst 1, 1) := by decide +kernel
theorem dX9_isStand_30 : decode cX9_isStand 30 = .ok (.goto 4, 3) := by decide +kernel
theorem dX9_isStand_33 : decode cX9_isStand 33 = .ok (.iconst 0, 1) := by decide +kernel
theorem dX9_isStand_34 : decode cX9_isStand 34 = .ok (.ireturn, 1) := by decide +kernel
theorem dX9_settles_0 : decode cX9_settles 0 = .ok (.aload_n 0, 1) := by decide +kernel
theorem dX9_settles_1 : decode cX9_settles 1 = .ok (.invokevirtual 162, 3) := by decide +kernel
theorem dX9_settles_4 : decode cX9_settles 4 = .ok (.aload_n 0, 1) := by decide +kernel
theorem dX9_settles_5 : decode cX9_settles 5 = .ok (.aload_n 0, 1) := by decide +kernel
theorem dX9_settles_6 : decode cX9_settles 6 = .ok (.getfield 84, 3) := by decide +kernel
