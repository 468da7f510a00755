theorem dL_law_253 : decode cL_law 253 = .ok (.iinc 12 1, 3) := by decide +kernel
theorem dL_law_256 : decode cL_law 256 = .ok (.goto (-48), 3) := by decide +kernel
theorem dL_law_259 : decode cL_law 259 = .ok (.iload 4, 2) := by decide +kernel
theorem dL_law_261 : decode cL_law 261 = .ok (.ifCond .eq 14, 3) := by decide +kernel
theorem dL_law_264 : decode cL_law 264 = .ok (.aload_n 1, 1) := by decide +kernel
theorem dL_law_265 : decode cL_law 265 = .ok (.invokestatic 77, 3) := by decide +kernel
theorem dL_law_268 : decode cL_law 268 = .ok (.ifCond .eq 7, 3) := by decide +kernel
theorem dL_law_271 : decode cL_law 271 = .ok (.iconst 1, 1) := by decide +kernel
theorem dL_law_272 : decode cL_law 272 = .ok (.goto 4, 3) := by decide +kernel
theorem dL_law_275 : decode cL_law 275 = .ok (.iconst 0, 1) := by decide +kernel
theorem dL_law_276 : decode cL_law 276 = .ok (.istore 4, 2) := by decide +kernel
theorem dL_law_278 : decode cL_law 278 = .ok (.aload_n 1, 1) := by decide +kernel
theorem dL_law_279 : decode cL_law 279 = .ok (.invokevirtual 19, 3) := by decide +kernel
theorem dL_law_282 : decode cL_law 282 = .ok (.istore 12, 2) := by decide +kernel
theorem dL_law_284 : decode cL_law 284 = .ok (.iload 12, 2) := by decide +kernel
theorem dL_law_286 : decode cL_law 286 = .ok (.ifCond .ge 7, 3) := by decide +kernel
theorem dL_law_289 : decode cL_law 289 = .ok (.iconst (-1), 1) := by decide +kernel
theorem dL_law_290 : decode cL_law 290 = .ok (.goto 9, 3) := by decide +kernel
theorem dL_law_293 : decode cL_law 293 = .ok (.aload_n 1, 1) := by decide +kernel
theorem dL_law_294 : decode cL_law 294 = .ok (.iload 11, 2) := by decide +kernel
theorem dL_law_296 : decode cL_law 296 = .ok (.invokevirtual 81, 3) := by decide +kernel
theorem dL_law_299 : decode cL_law 299 = .ok (.istore 13, 2) := by decide +kernel
theorem dL_law_301 : decode cL_law 301 = .ok (.iload 13, 2) := by decide +kernel
theorem dL_law_303 : decode cL_law 303 = .ok (.ifCond .ge 7, 3) := by decide +kernel
theorem dL_law_306 : decode cL_law 306 = .ok (.iconst 0, 1) := by decide +kernel
theorem dL_law_307 : decode cL_law 307 = .ok (.goto 9, 3) := by decide +kernel
theorem dL_law_310 : decode cL_law 310 = .ok (.aload_n 1, 1) := by decide +kernel
theorem dL_law_311 : decode cL_law 311 = .ok (.iload 13, 2) := by decide +kernel
theorem dL_law_313 : decode cL_law 313 = .ok (.invokevirtual 71, 3) := by decide +kernel
theorem dL_law_316 : decode cL_law 316 = .ok (.istore 14, 2) := by decide +kernel
theorem dL_law_318 : decode cL_law 318 = .ok (.iload 13, 2) := by decide +kernel
theorem dL_law_320 : decode cL_law 320 = .ok (.ifCond .ge 7, 3) := by decide +kernel
theorem dL_law_323 : decode cL_law 323 = .ok (.iconst 0, 1) := by decide +kernel
theorem dL_law_324 : decode cL_law 324 = .ok (.goto 9, 3) := by decide +kernel
theorem dL_law_327 : decode cL_law 327 = .ok (.aload_n 1, 1) := by decide +kernel
theorem dL_law_328 : decode cL_law 328 = .ok (.iload 13, 2) := by decide +kernel
theorem dL_law_330 : decode cL_law 330 = .ok (.invokevirtual 32, 3) := by decide +kernel
theorem dL_law_333 : decode cL_law 333 = .ok (.istore 15, 2) := by decide +kernel
theorem dL_law_335 : decode cL_law 335 = .ok (.iload 13, 2) := by decide +kernel
theorem dL_law_337 : decode cL_law 337 = .ok (.ifCond .ge 7, 3) := by decide +kernel
theorem dL_law_340 : decode cL_law 340 = .ok (.iconst 0, 1) := by decide +kernel
theorem dL_law_341 : decode cL_law 341 = .ok (.goto 9, 3) := by decide +kernel
theorem dL_law_344 : decode cL_law 344 = .ok (.aload_n 1, 1) := by decide +kernel
theorem dL_law_345 : decode cL_law 345 = .ok (.iload 13, 2) := by decide +kernel
theorem dL_law_347 : decode cL_law 347 = .ok (.invokevirtual 29, 3) := by decide +kernel
theorem dL_law_350 : decode cL_law 350 = .ok (.istore 16, 2) := by decide +kernel
theorem dL_law_352 : decode cL_law 352 = .ok (.aload_n 1, 1) := by decide +kernel
theorem dL_law_353 : decode cL_law 353 = .ok (.invokevirtual 26, 3) := by decide +kernel
theorem dL_law_356 : decode cL_law 356 = .ok (.istore 17, 2) := by decide +kernel
theorem dL_law_358 : decode cL_law 358 = .ok (.iload 4, 2) := by decide +kernel
theorem dL_law_360 : decode cL_law 360 = .ok (.ifCond .eq 18, 3) := by decide +kernel
theorem dL_law_363 : decode cL_law 363 = .ok (.aload_n 1, 1) := by decide +kernel
theorem dL_law_364 : decode cL_law 364 = .ok (.iload 11, 2) := by decide +kernel
theorem dL_law_366 : decode cL_law 366 = .ok (.invokevirtual 84, 3) := by decide +kernel
theorem dL_law_369 : decode cL_law 369 = .ok (.iload 13, 2) := by decide +kernel
theorem dL_law_371 : decode cL_law 371 = .ok (.if_icmp .ne 7, 3) := by decide +kernel
theorem dL_law_374 : decode cL_law 374 = .ok (.iconst 1, 1) := by decide +kernel
theorem dL_law_375 : decode cL_law 375 = .ok (.goto 4, 3) := by decide +kernel
theorem dL_law_378 : decode cL_law 378 = .ok (.iconst 0, 1) := by decide +kernel
theorem dL_law_379 : decode cL_law 379 = .ok (.istore 4, 2) := by decide +kernel
theorem dL_law_381 : decode cL_law 381 = .ok (.iload 13, 2) := by decide +kernel
theorem dL_law_383 : decode cL_law 383 = .ok (.ifCond .ge 38, 3) := by decide +kernel
theorem dL_law_386 : decode cL_law 386 = .ok (.iload 4, 2) := by decide +kernel
theorem dL_law_388 : decode cL_law 388 = .ok (.ifCond .eq 27, 3) := by decide +kernel
theorem dL_law_391 : decode cL_law 391 = .ok (.aload_n 1, 1) := by decide +kernel
theorem dL_law_392 : decode cL_law 392 = .ok (.invokevirtual 19, 3) := by decide +kernel
theorem dL_law_395 : decode cL_law 395 = .ok (.iload 11, 2) := by decide +kernel
theorem dL_law_397 : decode cL_law 397 = .ok (.if_icmp .ne 18, 3) := by decide +kernel
theorem dL_law_400 : decode cL_law 400 = .ok (.aload_n 1, 1) := by decide +kernel
theorem dL_law_401 : decode cL_law 401 = .ok (.invokevirtual 39, 3) := by decide +kernel
theorem dL_law_404 : decode cL_law 404 = .ok (.iconst 1, 1) := by decide +kernel
theorem dL_law_405 : decode cL_law 405 = .ok (.iload 8, 2) := by decide +kernel
theorem dL_law_407 : decode cL_law 407 = .ok (.isub, 1) := by decide +kernel
theorem dL_law_408 : decode cL_law 408 = .ok (.if_icmp .ne 7, 3) := by decide +kernel
theorem dL_law_411 : decode cL_law 411 = .ok (.iconst 1, 1) := by decide +kernel
theorem dL_law_412 : decode cL_law 412 = .ok (.goto 4, 3) := by decide +kernel
theorem dL_law_415 : decode cL_law 415 = .ok (.iconst 0, 1) := by decide +kernel
theorem dL_law_416 : decode cL_law 416 = .ok (.istore 4, 2) := by decide +kernel
theorem dL_law_418 : decode cL_law 418 = .ok (.goto 190, 3) := by decide +kernel
theorem dL_law_421 : decode cL_law 421 = .ok (.iload 11, 2) := by decide +kernel
theorem dL_law_423 : decode cL_law 423 = .ok (.bipush 39, 2) := by decide +kernel
theorem dL_law_425 : decode cL_law 425 = .ok (.if_icmp .le 7, 3) := by decide +kernel
theorem dL_law_428 : decode cL_law 428 = .ok (.iconst 1, 1) := by decide +kernel
theorem dL_law_429 : decode cL_law 429 = .ok (.goto 4, 3) := by decide +kernel
theorem dL_law_432 : decode cL_law 432 = .ok (.iconst 0, 1) := by decide +kernel
theorem dL_law_433 : decode cL_law 433 = .ok (.iload 12, 2) := by decide +kernel
theorem dL_law_435 : decode cL_law 435 = .ok (.bipush 39, 2) := by decide +kernel
theorem dL_law_437 : decode cL_law 437 = .ok (.if_icmp .le 7, 3) := by decide +kernel
theorem dL_law_440 : decode cL_law 440 = .ok (.iconst 1, 1) := by decide +kernel
theorem dL_law_441 : decode cL_law 441 = .ok (.goto 4, 3) := by decide +kernel
theorem dL_law_444 : decode cL_law 444 = .ok (.iconst 0, 1) := by decide +kernel
theorem dL_law_445 : decode cL_law 445 = .ok (.iadd, 1) := by decide +kernel
theorem dL_law_446 : decode cL_law 446 = .ok (.istore 18, 2) := by decide +kernel
theorem dL_law_448 : decode cL_law 448 = .ok (.iload 7, 2) := by decide +kernel
theorem dL_law_450 : decode cL_law 450 = .ok (.iload 14, 2) := by decide +kernel
theorem dL_law_452 : decode cL_law 452 = .ok (.iconst 1, 1) := by decide +kernel
theorem dL_law_453 : decode cL_law 453 = .ok (.if_icmp .ne 8, 3) := by decide +kernel
theorem dL_law_456 : decode cL_law 456 = .ok (.iload 18, 2) := by decide +kernel
theorem dL_law_458 : decode cL_law 458 = .ok (.goto 4, 3) := by decide +kernel
theorem dL_law_461 : decode cL_law 461 = .ok (.iconst 0, 1) := by decide +kernel
theorem dL_law_462 : decode cL_law 462 = .ok (.iadd, 1) := by decide +kernel
theorem dL_law_463 : decode cL_law 463 = .ok (.istore 7, 2) := by decide +kernel
theorem dL_law_465 : decode cL_law 465 = .ok (.iload 4, 2) := by decide +kernel
theorem dL_law_467 : decode cL_law 467 = .ok (.ifCond .eq 138, 3) := by decide +kernel
theorem dL_law_470 : decode cL_law 470 = .ok (.aload_n 1, 1) := by decide +kernel
theorem dL_law_471 : decode cL_law 471 = .ok (.iload 13, 2) := by decide +kernel
theorem dL_law_473 : decode cL_law 473 = .ok (.invokevirtual 32, 3) := by decide +kernel
theorem dL_law_476 : decode cL_law 476 = .ok (.iload 15, 2) := by decide +kernel
theorem dL_law_478 : decode cL_law 478 = .ok (.iload 11, 2) := by decide +kernel
theorem dL_law_480 : decode cL_law 480 = .ok (.invokestatic 14, 3) := by decide +kernel
theorem dL_law_483 : decode cL_law 483 = .ok (.iadd, 1) := by decide +kernel
theorem dL_law_484 : decode cL_law 484 = .ok (.iload 12, 2) := by decide +kernel
theorem dL_law_486 : decode cL_law 486 = .ok (.invokestatic 14, 3) := by decide +kernel
theorem dL_law_489 : decode cL_law 489 = .ok (.iadd, 1) := by decide +kernel
theorem dL_law_490 : decode cL_law 490 = .ok (.iload 14, 2) := by decide +kernel
theorem dL_law_492 : decode cL_law 492 = .ok (.iconst 1, 1) := by decide +kernel
theorem dL_law_493 : decode cL_law 493 = .ok (.if_icmp .ne 10, 3) := by decide +kernel
theorem dL_law_496 : decode cL_law 496 = .ok (.iconst 5, 1) := by decide +kernel
theorem dL_law_497 : decode cL_law 497 = .ok (.iload 18, 2) := by decide +kernel
theorem dL_law_499 : decode cL_law 499 = .ok (.imul, 1) := by decide +kernel
theorem dL_law_500 : decode cL_law 500 = .ok (.goto 4, 3) := by decide +kernel
theorem dL_law_503 : decode cL_law 503 = .ok (.iconst 0, 1) := by decide +kernel
theorem dL_law_504 : decode cL_law 504 = .ok (.iadd, 1) := by decide +kernel
theorem dL_law_505 : decode cL_law 505 = .ok (.if_icmp .ne 100, 3) := by decide +kernel
theorem dL_law_508 : decode cL_law 508 = .ok (.aload_n 1, 1) := by decide +kernel
theorem dL_law_509 : decode cL_law 509 = .ok (.iload 13, 2) := by decide +kernel
theorem dL_law_511 : decode cL_law 511 = .ok (.invokevirtual 29, 3) := by decide +kernel
theorem dL_law_514 : decode cL_law 514 = .ok (.iload 16, 2) := by decide +kernel
theorem dL_law_516 : decode cL_law 516 = .ok (.iconst 1, 1) := by decide +kernel
theorem dL_law_517 : decode cL_law 517 = .ok (.iadd, 1) := by decide +kernel
theorem dL_law_518 : decode cL_law 518 = .ok (.if_icmp .ne 87, 3) := by decide +kernel
