set_option maxRecDepth 20000 in
theorem kw_337 : Cond.arrayClass .byte ∈ xG := xG_at 353 rfl rfl
set_option maxRecDepth 20000 in
theorem kw_338 : Cond.methodLink "RasterRows" 84 y_Ra_hasAllRows ∈ xG := xG_at 354 rfl rfl
set_option maxRecDepth 20000 in
theorem kw_339 : Cond.instanceMethod y_Ra_hasAllRows ∈ xG := xG_at 355 rfl rfl
set_option maxRecDepth 20000 in
theorem kw_340 : Cond.selects "RasterRows$Raster" y_Ra_hasAllRows y_Ra_hasAllRows ∈ xG := xG_at 356 rfl rfl
set_option maxRecDepth 20000 in
theorem kw_341 : Cond.code y_Ra_hasAllRows prog_4_method_6_code 1 (some .boolean) ∈ xG := xG_at 357 rfl rfl
set_option maxRecDepth 20000 in
theorem kw_342 : Cond.methodLink "RasterRows" 91 y_Pk_unpack ∈ xG := xG_at 358 rfl rfl
set_option maxRecDepth 20000 in
theorem kw_343 : Cond.instanceMethod y_Pk_unpack ∈ xG := xG_at 359 rfl rfl
set_option maxRecDepth 20000 in
theorem kw_344 : Cond.selects "RasterRows$Packed" y_Pk_unpack y_Pk_unpack ∈ xG := xG_at 360 rfl rfl
set_option maxRecDepth 20000 in
theorem kw_345 : Cond.code y_Pk_unpack prog_3_method_5_code 3 none ∈ xG := xG_at 361 rfl rfl
set_option maxRecDepth 20000 in
theorem kw_346 : Cond.methodLink "RasterRows$Packed" 19 y_Pk_unpackChanges ∈ xG := xG_at 362 rfl rfl
set_option maxRecDepth 20000 in
theorem kw_348 : Cond.instanceMethod y_Pk_unpackChanges ∈ xG := xG_at 364 rfl rfl
set_option maxRecDepth 20000 in
theorem kw_349 : Cond.code y_Pk_unpackChanges prog_3_method_9_code 7 none ∈ xG := xG_at 365 rfl rfl
set_option maxRecDepth 20000 in
theorem kw_350 : Cond.methodLink "RasterRows$Packed" 38 y_Pk_byteAt ∈ xG := xG_at 366 rfl rfl
set_option maxRecDepth 20000 in
theorem kw_351 : Cond.instanceMethod y_Pk_byteAt ∈ xG := xG_at 367 rfl rfl
set_option maxRecDepth 20000 in
theorem kw_352 : Cond.selects "RasterRows$Packed" y_Pk_byteAt y_Pk_byteAt ∈ xG := xG_at 368 rfl rfl
set_option maxRecDepth 20000 in
theorem kw_353 : Cond.code y_Pk_byteAt prog_3_method_4_code 2 (some .int) ∈ xG := xG_at 369 rfl rfl
set_option maxRecDepth 20000 in
theorem kw_354 : Cond.methodLink "RasterRows$Packed" 50 ⟨"java/lang/Math", "min", "(II)I"⟩ ∈ xG := xG_at 370 rfl rfl
set_option maxRecDepth 20000 in
theorem kw_355 : Cond.methodLink "RasterRows$Packed" 34 y_Pk_copy ∈ xG := xG_at 371 rfl rfl
set_option maxRecDepth 20000 in
theorem kw_357 : Cond.instanceMethod y_Pk_copy ∈ xG := xG_at 373 rfl rfl
set_option maxRecDepth 20000 in
theorem kw_358 : Cond.code y_Pk_copy prog_3_method_6_code 6 none ∈ xG := xG_at 374 rfl rfl
set_option maxRecDepth 20000 in
theorem kw_359 : Cond.methodLink "RasterRows$Packed" 42 y_Ra_put ∈ xG := xG_at 375 rfl rfl
set_option maxRecDepth 20000 in
theorem kw_360 : Cond.instanceMethod y_Ra_put ∈ xG := xG_at 376 rfl rfl
set_option maxRecDepth 20000 in
theorem kw_361 : Cond.selects "RasterRows$Raster" y_Ra_put y_Ra_put ∈ xG := xG_at 377 rfl rfl
set_option maxRecDepth 20000 in
theorem kw_362 : Cond.code y_Ra_put prog_4_method_10_code 3 none ∈ xG := xG_at 378 rfl rfl
set_option maxRecDepth 20000 in
theorem kw_363 : Cond.methodLink "RasterRows$Raster" 56 y_Ra_hasByte ∈ xG := xG_at 379 rfl rfl
set_option maxRecDepth 20000 in
theorem kw_364 : Cond.methodLink "RasterRows$Packed" 23 y_Ra_clearSeed ∈ xG := xG_at 380 rfl rfl
set_option maxRecDepth 20000 in
theorem kw_365 : Cond.methodLink "RasterRows$Packed" 28 y_Pk_unpackRuns ∈ xG := xG_at 381 rfl rfl
set_option maxRecDepth 20000 in
theorem kw_367 : Cond.instanceMethod y_Pk_unpackRuns ∈ xG := xG_at 383 rfl rfl
set_option maxRecDepth 20000 in
theorem kw_368 : Cond.code y_Pk_unpackRuns prog_3_method_8_code 6 none ∈ xG := xG_at 384 rfl rfl
set_option maxRecDepth 20000 in
theorem kw_369 : Cond.methodLink "RasterRows$Packed" 46 y_Ra_repeat ∈ xG := xG_at 385 rfl rfl
set_option maxRecDepth 20000 in
theorem kw_370 : Cond.instanceMethod y_Ra_repeat ∈ xG := xG_at 386 rfl rfl
set_option maxRecDepth 20000 in
theorem kw_371 : Cond.selects "RasterRows$Raster" y_Ra_repeat y_Ra_repeat ∈ xG := xG_at 387 rfl rfl
set_option maxRecDepth 20000 in
theorem kw_372 : Cond.code y_Ra_repeat prog_4_method_11_code 6 none ∈ xG := xG_at 388 rfl rfl
set_option maxRecDepth 20000 in
theorem kw_373 : Cond.methodLink "RasterRows$Raster" 60 y_Ra_put ∈ xG := xG_at 389 rfl rfl
set_option maxRecDepth 20000 in
theorem kw_374 : Cond.methodLink "RasterRows$Packed" 31 y_Pk_unpackPairs ∈ xG := xG_at 390 rfl rfl
set_option maxRecDepth 20000 in
theorem kw_376 : Cond.instanceMethod y_Pk_unpackPairs ∈ xG := xG_at 392 rfl rfl
set_option maxRecDepth 20000 in
theorem kw_377 : Cond.code y_Pk_unpackPairs prog_3_method_7_code 5 none ∈ xG := xG_at 393 rfl rfl
set_option maxRecDepth 20000 in
theorem kw_378 : Cond.methodLink "RasterRows" 95 y_Sh_take ∈ xG := xG_at 394 rfl rfl
set_option maxRecDepth 20000 in
theorem kw_379 : Cond.instanceMethod y_Sh_take ∈ xG := xG_at 395 rfl rfl
set_option maxRecDepth 20000 in
theorem kw_380 : Cond.selects "RasterRows$Sheet" y_Sh_take y_Sh_take ∈ xG := xG_at 396 rfl rfl
set_option maxRecDepth 20000 in
theorem kw_381 : Cond.code y_Sh_take prog_5_method_5_code 3 none ∈ xG := xG_at 397 rfl rfl
set_option maxRecDepth 20000 in
theorem kw_382 : Cond.methodLink "RasterRows$Sheet" 55 y_Ra_usedBytes ∈ xG := xG_at 398 rfl rfl
set_option maxRecDepth 20000 in
theorem kw_383 : Cond.instanceMethod y_Ra_usedBytes ∈ xG := xG_at 399 rfl rfl
set_option maxRecDepth 20000 in
theorem kw_384 : Cond.selects "RasterRows$Raster" y_Ra_usedBytes y_Ra_usedBytes ∈ xG := xG_at 400 rfl rfl
set_option maxRecDepth 20000 in
theorem kw_385 : Cond.code y_Ra_usedBytes prog_4_method_13_code 2 (some .int) ∈ xG := xG_at 401 rfl rfl
set_option maxRecDepth 20000 in
theorem kw_386 : Cond.methodLink "RasterRows$Raster" 64 y_Ra_shownByte ∈ xG := xG_at 402 rfl rfl
set_option maxRecDepth 20000 in
theorem kw_387 : Cond.instanceMethod y_Ra_shownByte ∈ xG := xG_at 403 rfl rfl
set_option maxRecDepth 20000 in
theorem kw_388 : Cond.selects "RasterRows$Raster" y_Ra_shownByte y_Ra_shownByte ∈ xG := xG_at 404 rfl rfl
set_option maxRecDepth 20000 in
theorem kw_389 : Cond.code y_Ra_shownByte prog_4_method_12_code 3 (some .int) ∈ xG := xG_at 405 rfl rfl
set_option maxRecDepth 20000 in
theorem kw_390 : Cond.constant "RasterRows$Sheet" 61 (65536 : Int32) ∈ xG := xG_at 406 rfl rfl
set_option maxRecDepth 20000 in
theorem kw_391 : Cond.methodLink "RasterRows$Sheet" 62 y_Sh_draw ∈ xG := xG_at 407 rfl rfl
set_option maxRecDepth 20000 in
theorem kw_393 : Cond.instanceMethod y_Sh_draw ∈ xG := xG_at 409 rfl rfl
set_option maxRecDepth 20000 in
theorem kw_394 : Cond.code y_Sh_draw prog_5_method_6_code 3 none ∈ xG := xG_at 410 rfl rfl
set_option maxRecDepth 20000 in
theorem kw_395 : Cond.methodLink "RasterRows$Sheet" 66 y_Ra_drawOn ∈ xG := xG_at 411 rfl rfl
set_option maxRecDepth 20000 in
theorem kw_396 : Cond.instanceMethod y_Ra_drawOn ∈ xG := xG_at 412 rfl rfl
set_option maxRecDepth 20000 in
theorem kw_397 : Cond.selects "RasterRows$Raster" y_Ra_drawOn y_Ra_drawOn ∈ xG := xG_at 413 rfl rfl
set_option maxRecDepth 20000 in
theorem kw_398 : Cond.code y_Ra_drawOn prog_4_method_14_code 5 none ∈ xG := xG_at 414 rfl rfl
set_option maxRecDepth 20000 in
theorem kw_399 : Cond.methodLink "RasterRows$Raster" 68 y_Ln_blacken ∈ xG := xG_at 415 rfl rfl
set_option maxRecDepth 20000 in
theorem kw_400 : Cond.instanceMethod y_Ln_blacken ∈ xG := xG_at 416 rfl rfl
set_option maxRecDepth 20000 in
theorem kw_401 : Cond.selects "RasterRows$Line" y_Ln_blacken y_Ln_blacken ∈ xG := xG_at 417 rfl rfl
set_option maxRecDepth 20000 in
theorem kw_402 : Cond.code y_Ln_blacken prog_2_method_5_code 6 none ∈ xG := xG_at 418 rfl rfl
set_option maxRecDepth 20000 in
theorem kw_403 : Cond.methodLink "RasterRows$Line" 29 ⟨"java/lang/Math", "min", "(II)I"⟩ ∈ xG := xG_at 419 rfl rfl
set_option maxRecDepth 20000 in
theorem kw_404 : Cond.methodLink "RasterRows$Line" 32 y_Ln_bitOf ∈ xG := xG_at 420 rfl rfl
set_option maxRecDepth 20000 in
theorem kw_405 : Cond.static y_Ln_bitOf ∈ xG := xG_at 421 rfl rfl
set_option maxRecDepth 20000 in
theorem kw_406 : Cond.code y_Ln_bitOf prog_2_method_2_code 1 (some .long) ∈ xG := xG_at 422 rfl rfl
set_option maxRecDepth 20000 in
theorem kw_407 : Cond.methodLink "RasterRows$Sheet" 73 y_Ra_top ∈ xG := xG_at 423 rfl rfl
set_option maxRecDepth 20000 in
theorem kw_408 : Cond.instanceMethod y_Ra_top ∈ xG := xG_at 424 rfl rfl
set_option maxRecDepth 20000 in
theorem kw_409 : Cond.selects "RasterRows$Raster" y_Ra_top y_Ra_top ∈ xG := xG_at 425 rfl rfl
set_option maxRecDepth 20000 in
theorem kw_410 : Cond.code y_Ra_top prog_4_method_8_code 1 (some .int) ∈ xG := xG_at 426 rfl rfl
set_option maxRecDepth 20000 in
theorem kw_411 : Cond.methodLink "RasterRows$Sheet" 76 y_Sh_drawStripe ∈ xG := xG_at 427 rfl rfl
set_option maxRecDepth 20000 in
theorem kw_413 : Cond.instanceMethod y_Sh_drawStripe ∈ xG := xG_at 429 rfl rfl
set_option maxRecDepth 20000 in
theorem kw_414 : Cond.code y_Sh_drawStripe prog_5_method_7_code 2 none ∈ xG := xG_at 430 rfl rfl
set_option maxRecDepth 20000 in
theorem kw_415 : Cond.methodLink "RasterRows$Sheet" 79 y_Ln_merge ∈ xG := xG_at 431 rfl rfl
set_option maxRecDepth 20000 in
theorem kw_416 : Cond.instanceMethod y_Ln_merge ∈ xG := xG_at 432 rfl rfl
set_option maxRecDepth 20000 in
theorem kw_417 : Cond.selects "RasterRows$Line" y_Ln_merge y_Ln_merge ∈ xG := xG_at 433 rfl rfl
set_option maxRecDepth 20000 in
theorem kw_418 : Cond.code y_Ln_merge prog_2_method_6_code 6 (some .int) ∈ xG := xG_at 434 rfl rfl
set_option maxRecDepth 20000 in
theorem kw_419 : Cond.methodLink "RasterRows$Line" 36 y_Ln_wordAt ∈ xG := xG_at 435 rfl rfl
set_option maxRecDepth 20000 in
theorem kw_420 : Cond.constantLong "RasterRows$Line" 39 (-1 : Int64) ∈ xG := xG_at 436 rfl rfl
set_option maxRecDepth 20000 in
theorem kw_421 : Cond.methodLink "RasterRows$Line" 41 y_Lo_bitCount ∈ xG := xG_at 437 rfl rfl
set_option maxRecDepth 20000 in
theorem kw_422 : Cond.static y_Lo_bitCount ∈ xG := xG_at 438 rfl rfl
set_option maxRecDepth 20000 in
theorem kw_423 : Cond.code y_Lo_bitCount prog_12_method_50_code 2 (some .int) ∈ xG := xG_at 439 rfl rfl
set_option maxRecDepth 20000 in
theorem kw_424 : Cond.constantLong "java/lang/Long" 314 (6148914691236517205 : Int64) ∈ xG := xG_at 440 rfl rfl
set_option maxRecDepth 20000 in
theorem kw_425 : Cond.constantLong "java/lang/Long" 316 (3689348814741910323 : Int64) ∈ xG := xG_at 441 rfl rfl
set_option maxRecDepth 20000 in
theorem kw_426 : Cond.constantLong "java/lang/Long" 318 (1085102592571150095 : Int64) ∈ xG := xG_at 442 rfl rfl
set_option maxRecDepth 20000 in
theorem kw_427 : Cond.methodLink "RasterRowsLaw" 74 y_La_skip ∈ xG := xG_at 443 rfl rfl
set_option maxRecDepth 20000 in
theorem kw_428 : Cond.static y_La_skip ∈ xG := xG_at 444 rfl rfl
set_option maxRecDepth 20000 in
theorem kw_430 : Cond.classLink "RasterRowsLaw" 19 "java/lang/IllegalArgumentException" ∈ xG := xG_at 446 rfl rfl
set_option maxRecDepth 20000 in
theorem kw_431 : Cond.methodLink "RasterRowsLaw" 15 y_RR_skip ∈ xG := xG_at 447 rfl rfl
set_option maxRecDepth 20000 in
theorem kw_432 : Cond.instanceMethod y_RR_skip ∈ xG := xG_at 448 rfl rfl
set_option maxRecDepth 20000 in
theorem kw_433 : Cond.selects "RasterRows" y_RR_skip y_RR_skip ∈ xG := xG_at 449 rfl rfl
set_option maxRecDepth 20000 in
theorem kw_434 : Cond.code y_RR_skip prog_1_method_8_code 2 (some .int) ∈ xG := xG_at 450 rfl rfl
set_option maxRecDepth 20000 in
theorem kw_435 : Cond.classLink "RasterRows" 102 "java/lang/IllegalArgumentException" ∈ xG := xG_at 451 rfl rfl
set_option maxRecDepth 20000 in
theorem kw_436 : Cond.instantiable "java/lang/IllegalArgumentException" 6 ∈ xG := xG_at 452 rfl rfl
set_option maxRecDepth 20000 in
theorem kw_438 : Cond.selects "java/lang/IllegalArgumentException" ⟨"java/lang/Throwable", "fillInStackTrace", "(I)Ljava/lang/Throwable;"⟩ ⟨"java/lang/Throwable", "fillInStackTrace", "(I)Ljava/lang/Throwable;"⟩ ∈ xG := xG_at 454 rfl rfl
set_option maxRecDepth 20000 in
theorem kw_439 : Cond.lays "java/lang/IllegalArgumentException" "java/lang/Throwable" "cause" "Ljava/lang/Throwable;" ∈ xG := xG_at 455 rfl rfl
set_option maxRecDepth 20000 in
theorem kw_440 : Cond.lays "java/lang/IllegalArgumentException" "java/lang/Throwable" "stackTrace" "[Ljava/lang/StackTraceElement;" ∈ xG := xG_at 456 rfl rfl
set_option maxRecDepth 20000 in
theorem kw_441 : Cond.lays "java/lang/IllegalArgumentException" "java/lang/Throwable" "suppressedExceptions" "Ljava/util/List;" ∈ xG := xG_at 457 rfl rfl
set_option maxRecDepth 20000 in
theorem kw_442 : Cond.lays "java/lang/IllegalArgumentException" "java/lang/Throwable" "detailMessage" "Ljava/lang/String;" ∈ xG := xG_at 458 rfl rfl
set_option maxRecDepth 20000 in
theorem kw_443 : Cond.lays "java/lang/IllegalArgumentException" "java/lang/Throwable" "backtrace" "Ljava/lang/Object;" ∈ xG := xG_at 459 rfl rfl
set_option maxRecDepth 20000 in
theorem kw_445 : Cond.methodLink "RasterRows" 106 ⟨"java/lang/IllegalArgumentException", "<init>", "(Ljava/lang/String;)V"⟩ ∈ xG := xG_at 461 rfl rfl
set_option maxRecDepth 20000 in
theorem kw_446 : Cond.instanceMethod ⟨"java/lang/IllegalArgumentException", "<init>", "(Ljava/lang/String;)V"⟩ ∈ xG := xG_at 462 rfl rfl
set_option maxRecDepth 20000 in
theorem kw_447 : Cond.code ⟨"java/lang/IllegalArgumentException", "<init>", "(Ljava/lang/String;)V"⟩ prog_9_method_2_code 2 none ∈ xG := xG_at 463 rfl rfl
set_option maxRecDepth 20000 in
theorem kw_448 : Cond.methodLink "java/lang/IllegalArgumentException" 7 ⟨"java/lang/RuntimeException", "<init>", "(Ljava/lang/String;)V"⟩ ∈ xG := xG_at 464 rfl rfl
set_option maxRecDepth 20000 in
theorem kw_449 : Cond.lays "java/lang/IllegalArgumentException" "java/lang/Throwable" "depth" "I" ∈ xG := xG_at 465 rfl rfl
set_option maxRecDepth 20000 in
theorem kw_451 : Cond.methodLink "RasterRows" 107 y_Ra_pass ∈ xG := xG_at 467 rfl rfl
set_option maxRecDepth 20000 in
theorem kw_452 : Cond.instanceMethod y_Ra_pass ∈ xG := xG_at 468 rfl rfl
set_option maxRecDepth 20000 in
theorem kw_453 : Cond.selects "RasterRows$Raster" y_Ra_pass y_Ra_pass ∈ xG := xG_at 469 rfl rfl
set_option maxRecDepth 20000 in
theorem kw_454 : Cond.code y_Ra_pass prog_4_method_7_code 2 none ∈ xG := xG_at 470 rfl rfl
set_option maxRecDepth 20000 in
theorem kw_455 : Cond.methodLink "RasterRows" 110 y_Ra_clearSeed ∈ xG := xG_at 471 rfl rfl
set_option maxRecDepth 20000 in
theorem kw_456 : Cond.methodLink "RasterRowsLaw" 78 y_La_shut ∈ xG := xG_at 472 rfl rfl
set_option maxRecDepth 20000 in
theorem kw_457 : Cond.static y_La_shut ∈ xG := xG_at 473 rfl rfl
set_option maxRecDepth 20000 in
theorem kw_459 : Cond.methodLink "RasterRowsLaw" 21 y_RR_shut ∈ xG := xG_at 475 rfl rfl
set_option maxRecDepth 20000 in
theorem kw_460 : Cond.instanceMethod y_RR_shut ∈ xG := xG_at 476 rfl rfl
set_option maxRecDepth 20000 in
theorem kw_461 : Cond.selects "RasterRows" y_RR_shut y_RR_shut ∈ xG := xG_at 477 rfl rfl
set_option maxRecDepth 20000 in
theorem kw_462 : Cond.code y_RR_shut prog_1_method_9_code 1 (some .int) ∈ xG := xG_at 478 rfl rfl
set_option maxRecDepth 20000 in
theorem kw_463 : Cond.methodLink "RasterRows" 113 y_Ra_end ∈ xG := xG_at 479 rfl rfl
set_option maxRecDepth 20000 in
theorem kw_464 : Cond.instanceMethod y_Ra_end ∈ xG := xG_at 480 rfl rfl
set_option maxRecDepth 20000 in
theorem kw_465 : Cond.selects "RasterRows$Raster" y_Ra_end y_Ra_end ∈ xG := xG_at 481 rfl rfl
set_option maxRecDepth 20000 in
theorem kw_466 : Cond.code y_Ra_end prog_4_method_4_code 1 none ∈ xG := xG_at 482 rfl rfl
set_option maxRecDepth 20000 in
theorem kw_467 : Cond.methodLink "RasterRows" 116 y_Ra_top ∈ xG := xG_at 483 rfl rfl
set_option maxRecDepth 20000 in
theorem kw_468 : Cond.methodLink "RasterRowsLaw" 90 y_La_black ∈ xG := xG_at 484 rfl rfl
set_option maxRecDepth 20000 in
theorem kw_469 : Cond.static y_La_black ∈ xG := xG_at 485 rfl rfl
set_option maxRecDepth 20000 in
theorem kw_471 : Cond.classLink "RasterRowsLaw" 28 "java/lang/IndexOutOfBoundsException" ∈ xG := xG_at 487 rfl rfl
set_option maxRecDepth 20000 in
theorem kw_472 : Cond.methodLink "RasterRowsLaw" 24 y_RR_black ∈ xG := xG_at 488 rfl rfl
set_option maxRecDepth 20000 in
theorem kw_473 : Cond.instanceMethod y_RR_black ∈ xG := xG_at 489 rfl rfl
set_option maxRecDepth 20000 in
theorem kw_474 : Cond.selects "RasterRows" y_RR_black y_RR_black ∈ xG := xG_at 490 rfl rfl
set_option maxRecDepth 20000 in
theorem kw_475 : Cond.code y_RR_black prog_1_method_12_code 3 (some .boolean) ∈ xG := xG_at 491 rfl rfl
set_option maxRecDepth 20000 in
theorem kw_476 : Cond.methodLink "RasterRows" 126 y_Sh_has ∈ xG := xG_at 492 rfl rfl
set_option maxRecDepth 20000 in
theorem kw_477 : Cond.instanceMethod y_Sh_has ∈ xG := xG_at 493 rfl rfl
set_option maxRecDepth 20000 in
theorem kw_478 : Cond.selects "RasterRows$Sheet" y_Sh_has y_Sh_has ∈ xG := xG_at 494 rfl rfl
set_option maxRecDepth 20000 in
theorem kw_479 : Cond.code y_Sh_has prog_5_method_2_code 3 (some .boolean) ∈ xG := xG_at 495 rfl rfl
set_option maxRecDepth 20000 in
theorem kw_480 : Cond.classLink "RasterRows" 130 "java/lang/IndexOutOfBoundsException" ∈ xG := xG_at 496 rfl rfl
set_option maxRecDepth 20000 in
theorem kw_481 : Cond.instantiable "java/lang/IndexOutOfBoundsException" 6 ∈ xG := xG_at 497 rfl rfl
set_option maxRecDepth 20000 in
theorem kw_483 : Cond.selects "java/lang/IndexOutOfBoundsException" ⟨"java/lang/Throwable", "fillInStackTrace", "(I)Ljava/lang/Throwable;"⟩ ⟨"java/lang/Throwable", "fillInStackTrace", "(I)Ljava/lang/Throwable;"⟩ ∈ xG := xG_at 499 rfl rfl
set_option maxRecDepth 20000 in
theorem kw_484 : Cond.lays "java/lang/IndexOutOfBoundsException" "java/lang/Throwable" "cause" "Ljava/lang/Throwable;" ∈ xG := xG_at 500 rfl rfl
set_option maxRecDepth 20000 in
theorem kw_485 : Cond.lays "java/lang/IndexOutOfBoundsException" "java/lang/Throwable" "stackTrace" "[Ljava/lang/StackTraceElement;" ∈ xG := xG_at 501 rfl rfl
set_option maxRecDepth 20000 in
theorem kw_486 : Cond.lays "java/lang/IndexOutOfBoundsException" "java/lang/Throwable" "suppressedExceptions" "Ljava/util/List;" ∈ xG := xG_at 502 rfl rfl
set_option maxRecDepth 20000 in
theorem kw_487 : Cond.lays "java/lang/IndexOutOfBoundsException" "java/lang/Throwable" "detailMessage" "Ljava/lang/String;" ∈ xG := xG_at 503 rfl rfl
set_option maxRecDepth 20000 in
theorem kw_488 : Cond.lays "java/lang/IndexOutOfBoundsException" "java/lang/Throwable" "backtrace" "Ljava/lang/Object;" ∈ xG := xG_at 504 rfl rfl
set_option maxRecDepth 20000 in
theorem kw_490 : Cond.methodLink "RasterRows" 134 ⟨"java/lang/IndexOutOfBoundsException", "<init>", "(Ljava/lang/String;)V"⟩ ∈ xG := xG_at 506 rfl rfl
set_option maxRecDepth 20000 in
theorem kw_491 : Cond.instanceMethod ⟨"java/lang/IndexOutOfBoundsException", "<init>", "(Ljava/lang/String;)V"⟩ ∈ xG := xG_at 507 rfl rfl
set_option maxRecDepth 20000 in
theorem kw_492 : Cond.code ⟨"java/lang/IndexOutOfBoundsException", "<init>", "(Ljava/lang/String;)V"⟩ prog_11_method_2_code 2 none ∈ xG := xG_at 508 rfl rfl
set_option maxRecDepth 20000 in
theorem kw_493 : Cond.methodLink "java/lang/IndexOutOfBoundsException" 7 ⟨"java/lang/RuntimeException", "<init>", "(Ljava/lang/String;)V"⟩ ∈ xG := xG_at 509 rfl rfl
set_option maxRecDepth 20000 in
theorem kw_494 : Cond.lays "java/lang/IndexOutOfBoundsException" "java/lang/Throwable" "depth" "I" ∈ xG := xG_at 510 rfl rfl
set_option maxRecDepth 20000 in
theorem kw_496 : Cond.methodLink "RasterRows" 135 y_Ln_bitOf ∈ xG := xG_at 512 rfl rfl
set_option maxRecDepth 20000 in
theorem kw_497 : Cond.classLink "RasterRowsLaw" 39 "RasterRowsModel" ∈ xG := xG_at 513 rfl rfl
set_option maxRecDepth 20000 in
theorem kw_498 : Cond.instantiable "RasterRowsModel" 25 ∈ xG := xG_at 514 rfl rfl
set_option maxRecDepth 20000 in
theorem kw_499 : Cond.methodLink "RasterRowsLaw" 41 y_Mo_init ∈ xG := xG_at 515 rfl rfl
set_option maxRecDepth 20000 in
theorem kw_500 : Cond.instanceMethod y_Mo_init ∈ xG := xG_at 516 rfl rfl
set_option maxRecDepth 20000 in
theorem kw_501 : Cond.code y_Mo_init prog_7_method_1_code 4 none ∈ xG := xG_at 517 rfl rfl
set_option maxRecDepth 20000 in
theorem kw_502 : Cond.methodLink "RasterRowsModel" 1 objectInit ∈ xG := xG_at 518 rfl rfl
set_option maxRecDepth 20000 in
theorem kw_503 : Cond.fieldLink "RasterRowsModel" 36 "RasterRowsModel" "thrown" "I" ∈ xG := xG_at 519 rfl rfl
set_option maxRecDepth 20000 in
theorem kw_504 : Cond.fieldLink "RasterRowsModel" 23 "RasterRowsModel" "wide" "I" ∈ xG := xG_at 520 rfl rfl
set_option maxRecDepth 20000 in
theorem kw_505 : Cond.fieldLink "RasterRowsModel" 26 "RasterRowsModel" "high" "I" ∈ xG := xG_at 521 rfl rfl
set_option maxRecDepth 20000 in
theorem kw_506 : Cond.fieldLink "RasterRowsModel" 33 "RasterRowsModel" "dpi" "I" ∈ xG := xG_at 522 rfl rfl
set_option maxRecDepth 20000 in
theorem kw_507 : Cond.fieldLink "RasterRowsModel" 29 "RasterRowsModel" "sheet" "[J" ∈ xG := xG_at 523 rfl rfl
set_option maxRecDepth 20000 in
theorem kw_508 : Cond.fieldLink "RasterRowsModel" 98 "RasterRowsModel" "blacks" "I" ∈ xG := xG_at 524 rfl rfl
set_option maxRecDepth 20000 in
theorem kw_509 : Cond.fieldLink "RasterRowsModel" 7 "RasterRowsModel" "resolution" "I" ∈ xG := xG_at 525 rfl rfl
set_option maxRecDepth 20000 in
theorem kw_510 : Cond.fieldLink "RasterRowsModel" 46 "RasterRowsModel" "nextWidth" "I" ∈ xG := xG_at 526 rfl rfl
set_option maxRecDepth 20000 in
theorem kw_511 : Cond.fieldLink "RasterRowsModel" 43 "RasterRowsModel" "nextHeight" "I" ∈ xG := xG_at 527 rfl rfl
set_option maxRecDepth 20000 in
theorem kw_512 : Cond.fieldLink "RasterRowsModel" 49 "RasterRowsModel" "method" "I" ∈ xG := xG_at 528 rfl rfl
set_option maxRecDepth 20000 in
theorem kw_513 : Cond.fieldLink "RasterRowsModel" 39 "RasterRowsModel" "open" "Z" ∈ xG := xG_at 529 rfl rfl
set_option maxRecDepth 20000 in
theorem kw_514 : Cond.fieldLink "RasterRowsModel" 56 "RasterRowsModel" "x" "I" ∈ xG := xG_at 530 rfl rfl
set_option maxRecDepth 20000 in
theorem kw_515 : Cond.fieldLink "RasterRowsModel" 59 "RasterRowsModel" "y" "I" ∈ xG := xG_at 531 rfl rfl
set_option maxRecDepth 20000 in
theorem kw_516 : Cond.fieldLink "RasterRowsModel" 62 "RasterRowsModel" "width" "I" ∈ xG := xG_at 532 rfl rfl
set_option maxRecDepth 20000 in
theorem kw_517 : Cond.fieldLink "RasterRowsModel" 65 "RasterRowsModel" "height" "I" ∈ xG := xG_at 533 rfl rfl
set_option maxRecDepth 20000 in
theorem kw_518 : Cond.fieldLink "RasterRowsModel" 68 "RasterRowsModel" "scale" "I" ∈ xG := xG_at 534 rfl rfl
set_option maxRecDepth 20000 in
theorem kw_519 : Cond.fieldLink "RasterRowsModel" 71 "RasterRowsModel" "row" "I" ∈ xG := xG_at 535 rfl rfl
set_option maxRecDepth 20000 in
theorem kw_520 : Cond.fieldLink "RasterRowsModel" 74 "RasterRowsModel" "length" "I" ∈ xG := xG_at 536 rfl rfl
set_option maxRecDepth 20000 in
theorem kw_521 : Cond.fieldLink "RasterRowsModel" 13 "RasterRowsModel" "seed" "[I" ∈ xG := xG_at 537 rfl rfl
set_option maxRecDepth 20000 in
theorem kw_522 : Cond.fieldLink "RasterRowsModel" 17 "RasterRowsModel" "fresh" "[I" ∈ xG := xG_at 538 rfl rfl
set_option maxRecDepth 20000 in
theorem kw_523 : Cond.fieldLink "RasterRowsModel" 20 "RasterRowsModel" "coming" "[I" ∈ xG := xG_at 539 rfl rfl
set_option maxRecDepth 20000 in
theorem kw_524 : Cond.fieldLink "RasterRowsModel" 80 "RasterRowsModel" "come" "I" ∈ xG := xG_at 540 rfl rfl
set_option maxRecDepth 20000 in
theorem kw_525 : Cond.fieldLink "RasterRowsModel" 107 "RasterRowsModel" "rows" "I" ∈ xG := xG_at 541 rfl rfl
set_option maxRecDepth 20000 in
theorem kw_526 : Cond.fieldLink "RasterRowsModel" 110 "RasterRowsModel" "bytes" "I" ∈ xG := xG_at 542 rfl rfl
set_option maxRecDepth 20000 in
theorem kw_527 : Cond.fieldLink "RasterRowsModel" 118 "RasterRowsModel" "overrun" "Z" ∈ xG := xG_at 543 rfl rfl
set_option maxRecDepth 20000 in
theorem kw_528 : Cond.lays "RasterRowsModel" "RasterRowsModel" "thrown" "I" ∈ xG := xG_at 544 rfl rfl
set_option maxRecDepth 20000 in
theorem kw_530 : Cond.laysFinal "RasterRowsModel" "RasterRowsModel" "wide" "I" ∈ xG := xG_at 546 rfl rfl
set_option maxRecDepth 20000 in
theorem kw_532 : Cond.laysFinal "RasterRowsModel" "RasterRowsModel" "high" "I" ∈ xG := xG_at 548 rfl rfl
set_option maxRecDepth 20000 in
theorem kw_534 : Cond.laysFinal "RasterRowsModel" "RasterRowsModel" "dpi" "I" ∈ xG := xG_at 550 rfl rfl
set_option maxRecDepth 20000 in
theorem kw_536 : Cond.laysFinal "RasterRowsModel" "RasterRowsModel" "sheet" "[J" ∈ xG := xG_at 552 rfl rfl
set_option maxRecDepth 20000 in
theorem kw_538 : Cond.lays "RasterRowsModel" "RasterRowsModel" "blacks" "I" ∈ xG := xG_at 554 rfl rfl
set_option maxRecDepth 20000 in
theorem kw_540 : Cond.lays "RasterRowsModel" "RasterRowsModel" "resolution" "I" ∈ xG := xG_at 556 rfl rfl
set_option maxRecDepth 20000 in
theorem kw_542 : Cond.lays "RasterRowsModel" "RasterRowsModel" "nextWidth" "I" ∈ xG := xG_at 558 rfl rfl
set_option maxRecDepth 20000 in
theorem kw_544 : Cond.lays "RasterRowsModel" "RasterRowsModel" "nextHeight" "I" ∈ xG := xG_at 560 rfl rfl
set_option maxRecDepth 20000 in
theorem kw_546 : Cond.lays "RasterRowsModel" "RasterRowsModel" "method" "I" ∈ xG := xG_at 562 rfl rfl
set_option maxRecDepth 20000 in
theorem kw_548 : Cond.lays "RasterRowsModel" "RasterRowsModel" "open" "Z" ∈ xG := xG_at 564 rfl rfl
set_option maxRecDepth 20000 in
theorem kw_550 : Cond.lays "RasterRowsModel" "RasterRowsModel" "x" "I" ∈ xG := xG_at 566 rfl rfl
set_option maxRecDepth 20000 in
theorem kw_552 : Cond.lays "RasterRowsModel" "RasterRowsModel" "y" "I" ∈ xG := xG_at 568 rfl rfl
set_option maxRecDepth 20000 in
theorem kw_554 : Cond.lays "RasterRowsModel" "RasterRowsModel" "width" "I" ∈ xG := xG_at 570 rfl rfl
set_option maxRecDepth 20000 in
theorem kw_556 : Cond.lays "RasterRowsModel" "RasterRowsModel" "height" "I" ∈ xG := xG_at 572 rfl rfl
set_option maxRecDepth 20000 in
theorem kw_558 : Cond.lays "RasterRowsModel" "RasterRowsModel" "scale" "I" ∈ xG := xG_at 574 rfl rfl
set_option maxRecDepth 20000 in
theorem kw_560 : Cond.lays "RasterRowsModel" "RasterRowsModel" "row" "I" ∈ xG := xG_at 576 rfl rfl
set_option maxRecDepth 20000 in
theorem kw_562 : Cond.lays "RasterRowsModel" "RasterRowsModel" "length" "I" ∈ xG := xG_at 578 rfl rfl
set_option maxRecDepth 20000 in
theorem kw_564 : Cond.laysFinal "RasterRowsModel" "RasterRowsModel" "seed" "[I" ∈ xG := xG_at 580 rfl rfl
set_option maxRecDepth 20000 in
theorem kw_566 : Cond.laysFinal "RasterRowsModel" "RasterRowsModel" "fresh" "[I" ∈ xG := xG_at 582 rfl rfl
set_option maxRecDepth 20000 in
theorem kw_568 : Cond.laysFinal "RasterRowsModel" "RasterRowsModel" "coming" "[I" ∈ xG := xG_at 584 rfl rfl
set_option maxRecDepth 20000 in
theorem kw_570 : Cond.lays "RasterRowsModel" "RasterRowsModel" "come" "I" ∈ xG := xG_at 586 rfl rfl
set_option maxRecDepth 20000 in
theorem kw_572 : Cond.lays "RasterRowsModel" "RasterRowsModel" "rows" "I" ∈ xG := xG_at 588 rfl rfl
set_option maxRecDepth 20000 in
theorem kw_574 : Cond.lays "RasterRowsModel" "RasterRowsModel" "bytes" "I" ∈ xG := xG_at 590 rfl rfl
set_option maxRecDepth 20000 in
theorem kw_576 : Cond.lays "RasterRowsModel" "RasterRowsModel" "overrun" "Z" ∈ xG := xG_at 592 rfl rfl
set_option maxRecDepth 20000 in
theorem kw_579 : Cond.methodLink "RasterRowsLaw" 71 y_Mo_thrown ∈ xG := xG_at 595 rfl rfl
set_option maxRecDepth 20000 in
theorem kw_580 : Cond.instanceMethod y_Mo_thrown ∈ xG := xG_at 596 rfl rfl
set_option maxRecDepth 20000 in
theorem kw_581 : Cond.selects "RasterRowsModel" y_Mo_thrown y_Mo_thrown ∈ xG := xG_at 597 rfl rfl
set_option maxRecDepth 20000 in
theorem kw_582 : Cond.code y_Mo_thrown prog_7_method_2_code 1 (some .int) ∈ xG := xG_at 598 rfl rfl
set_option maxRecDepth 20000 in
theorem kw_583 : Cond.methodLink "RasterRowsLaw" 46 y_Mo_resolution ∈ xG := xG_at 599 rfl rfl
set_option maxRecDepth 20000 in
theorem kw_584 : Cond.instanceMethod y_Mo_resolution ∈ xG := xG_at 600 rfl rfl
set_option maxRecDepth 20000 in
theorem kw_585 : Cond.selects "RasterRowsModel" y_Mo_resolution y_Mo_resolution ∈ xG := xG_at 601 rfl rfl
set_option maxRecDepth 20000 in
theorem kw_586 : Cond.code y_Mo_resolution prog_7_method_3_code 2 (some .boolean) ∈ xG := xG_at 602 rfl rfl
set_option maxRecDepth 20000 in
theorem kw_587 : Cond.methodLink "RasterRowsLaw" 51 y_Mo_size ∈ xG := xG_at 603 rfl rfl
set_option maxRecDepth 20000 in
theorem kw_588 : Cond.instanceMethod y_Mo_size ∈ xG := xG_at 604 rfl rfl
set_option maxRecDepth 20000 in
theorem kw_589 : Cond.selects "RasterRowsModel" y_Mo_size y_Mo_size ∈ xG := xG_at 605 rfl rfl
set_option maxRecDepth 20000 in
theorem kw_590 : Cond.code y_Mo_size prog_7_method_4_code 3 (some .boolean) ∈ xG := xG_at 606 rfl rfl
set_option maxRecDepth 20000 in
theorem kw_591 : Cond.methodLink "RasterRowsLaw" 55 y_Mo_method ∈ xG := xG_at 607 rfl rfl
set_option maxRecDepth 20000 in
theorem kw_592 : Cond.instanceMethod y_Mo_method ∈ xG := xG_at 608 rfl rfl
set_option maxRecDepth 20000 in
theorem kw_593 : Cond.selects "RasterRowsModel" y_Mo_method y_Mo_method ∈ xG := xG_at 609 rfl rfl
set_option maxRecDepth 20000 in
theorem kw_594 : Cond.code y_Mo_method prog_7_method_5_code 2 (some .boolean) ∈ xG := xG_at 610 rfl rfl
set_option maxRecDepth 20000 in
theorem kw_595 : Cond.methodLink "RasterRowsLaw" 59 y_Mo_open ∈ xG := xG_at 611 rfl rfl
set_option maxRecDepth 20000 in
theorem kw_596 : Cond.instanceMethod y_Mo_open ∈ xG := xG_at 612 rfl rfl
set_option maxRecDepth 20000 in
theorem kw_597 : Cond.selects "RasterRowsModel" y_Mo_open y_Mo_open ∈ xG := xG_at 613 rfl rfl
set_option maxRecDepth 20000 in
theorem kw_598 : Cond.code y_Mo_open prog_7_method_7_code 3 (some .boolean) ∈ xG := xG_at 614 rfl rfl
set_option maxRecDepth 20000 in
theorem kw_599 : Cond.methodLink "RasterRowsModel" 52 y_Mo_isPlace ∈ xG := xG_at 615 rfl rfl
set_option maxRecDepth 20000 in
theorem kw_600 : Cond.static y_Mo_isPlace ∈ xG := xG_at 616 rfl rfl
set_option maxRecDepth 20000 in
theorem kw_601 : Cond.code y_Mo_isPlace prog_7_method_6_code 1 (some .boolean) ∈ xG := xG_at 617 rfl rfl
set_option maxRecDepth 20000 in
theorem kw_602 : Cond.methodLink "RasterRowsModel" 77 y_Mo_blank ∈ xG := xG_at 618 rfl rfl
set_option maxRecDepth 20000 in
theorem kw_604 : Cond.instanceMethod y_Mo_blank ∈ xG := xG_at 620 rfl rfl
set_option maxRecDepth 20000 in
theorem kw_605 : Cond.code y_Mo_blank prog_7_method_8_code 2 none ∈ xG := xG_at 621 rfl rfl
set_option maxRecDepth 20000 in
theorem kw_606 : Cond.methodLink "RasterRowsLaw" 66 y_Mo_data ∈ xG := xG_at 622 rfl rfl
set_option maxRecDepth 20000 in
theorem kw_607 : Cond.instanceMethod y_Mo_data ∈ xG := xG_at 623 rfl rfl
set_option maxRecDepth 20000 in
theorem kw_608 : Cond.selects "RasterRowsModel" y_Mo_data y_Mo_data ∈ xG := xG_at 624 rfl rfl
set_option maxRecDepth 20000 in
theorem kw_609 : Cond.code y_Mo_data prog_7_method_9_code 5 (some .boolean) ∈ xG := xG_at 625 rfl rfl
set_option maxRecDepth 20000 in
theorem kw_610 : Cond.constantLong "RasterRowsModel" 83 (255 : Int64) ∈ xG := xG_at 626 rfl rfl
set_option maxRecDepth 20000 in
theorem kw_611 : Cond.methodLink "RasterRowsLaw" 70 y_Mo_row ∈ xG := xG_at 627 rfl rfl
set_option maxRecDepth 20000 in
theorem kw_612 : Cond.instanceMethod y_Mo_row ∈ xG := xG_at 628 rfl rfl
set_option maxRecDepth 20000 in
theorem kw_613 : Cond.selects "RasterRowsModel" y_Mo_row y_Mo_row ∈ xG := xG_at 629 rfl rfl
set_option maxRecDepth 20000 in
theorem kw_614 : Cond.code y_Mo_row prog_7_method_17_code 5 (some .int) ∈ xG := xG_at 630 rfl rfl
set_option maxRecDepth 20000 in
theorem kw_615 : Cond.methodLink "RasterRowsModel" 101 y_Mo_unpack ∈ xG := xG_at 631 rfl rfl
set_option maxRecDepth 20000 in
theorem kw_617 : Cond.instanceMethod y_Mo_unpack ∈ xG := xG_at 633 rfl rfl
set_option maxRecDepth 20000 in
theorem kw_618 : Cond.code y_Mo_unpack prog_7_method_14_code 2 none ∈ xG := xG_at 634 rfl rfl
set_option maxRecDepth 20000 in
theorem kw_619 : Cond.methodLink "RasterRowsModel" 85 y_Mo_put ∈ xG := xG_at 635 rfl rfl
set_option maxRecDepth 20000 in
theorem kw_621 : Cond.instanceMethod y_Mo_put ∈ xG := xG_at 637 rfl rfl
set_option maxRecDepth 20000 in
theorem kw_622 : Cond.code y_Mo_put prog_7_method_10_code 3 none ∈ xG := xG_at 638 rfl rfl
set_option maxRecDepth 20000 in
theorem kw_623 : Cond.methodLink "RasterRowsModel" 89 y_Mo_pairs ∈ xG := xG_at 639 rfl rfl
set_option maxRecDepth 20000 in
theorem kw_625 : Cond.instanceMethod y_Mo_pairs ∈ xG := xG_at 641 rfl rfl
set_option maxRecDepth 20000 in
theorem kw_626 : Cond.code y_Mo_pairs prog_7_method_11_code 4 none ∈ xG := xG_at 642 rfl rfl
set_option maxRecDepth 20000 in
theorem kw_627 : Cond.methodLink "RasterRowsModel" 92 y_Mo_packed ∈ xG := xG_at 643 rfl rfl
set_option maxRecDepth 20000 in
theorem kw_629 : Cond.instanceMethod y_Mo_packed ∈ xG := xG_at 645 rfl rfl
set_option maxRecDepth 20000 in
theorem kw_630 : Cond.code y_Mo_packed prog_7_method_12_code 5 none ∈ xG := xG_at 646 rfl rfl
set_option maxRecDepth 20000 in
theorem kw_631 : Cond.methodLink "RasterRowsModel" 95 y_Mo_changes ∈ xG := xG_at 647 rfl rfl
set_option maxRecDepth 20000 in
theorem kw_633 : Cond.instanceMethod y_Mo_changes ∈ xG := xG_at 649 rfl rfl
set_option maxRecDepth 20000 in
theorem kw_634 : Cond.code y_Mo_changes prog_7_method_13_code 7 none ∈ xG := xG_at 650 rfl rfl
set_option maxRecDepth 20000 in
theorem kw_635 : Cond.methodLink "RasterRowsModel" 104 y_Mo_isBlack ∈ xG := xG_at 651 rfl rfl
set_option maxRecDepth 20000 in
theorem kw_637 : Cond.instanceMethod y_Mo_isBlack ∈ xG := xG_at 653 rfl rfl
set_option maxRecDepth 20000 in
theorem kw_638 : Cond.code y_Mo_isBlack prog_7_method_15_code 2 (some .boolean) ∈ xG := xG_at 654 rfl rfl
set_option maxRecDepth 20000 in
theorem kw_639 : Cond.constant "RasterRowsModel" 113 (65536 : Int32) ∈ xG := xG_at 655 rfl rfl
set_option maxRecDepth 20000 in
theorem kw_640 : Cond.methodLink "RasterRowsModel" 114 y_Mo_blacken ∈ xG := xG_at 656 rfl rfl
set_option maxRecDepth 20000 in
theorem kw_642 : Cond.instanceMethod y_Mo_blacken ∈ xG := xG_at 658 rfl rfl
set_option maxRecDepth 20000 in
theorem kw_643 : Cond.code y_Mo_blacken prog_7_method_16_code 9 none ∈ xG := xG_at 659 rfl rfl
set_option maxRecDepth 20000 in
theorem kw_644 : Cond.methodLink "RasterRowsLaw" 77 y_Mo_skip ∈ xG := xG_at 660 rfl rfl
set_option maxRecDepth 20000 in
theorem kw_645 : Cond.instanceMethod y_Mo_skip ∈ xG := xG_at 661 rfl rfl
set_option maxRecDepth 20000 in
theorem kw_646 : Cond.selects "RasterRowsModel" y_Mo_skip y_Mo_skip ∈ xG := xG_at 662 rfl rfl
set_option maxRecDepth 20000 in
theorem kw_647 : Cond.code y_Mo_skip prog_7_method_18_code 2 (some .int) ∈ xG := xG_at 663 rfl rfl
set_option maxRecDepth 20000 in
theorem kw_648 : Cond.methodLink "RasterRowsLaw" 80 y_Mo_shut ∈ xG := xG_at 664 rfl rfl
set_option maxRecDepth 20000 in
theorem kw_649 : Cond.instanceMethod y_Mo_shut ∈ xG := xG_at 665 rfl rfl
set_option maxRecDepth 20000 in
theorem kw_650 : Cond.selects "RasterRowsModel" y_Mo_shut y_Mo_shut ∈ xG := xG_at 666 rfl rfl
set_option maxRecDepth 20000 in
theorem kw_651 : Cond.code y_Mo_shut prog_7_method_19_code 1 (some .int) ∈ xG := xG_at 667 rfl rfl
set_option maxRecDepth 20000 in
theorem kw_652 : Cond.methodLink "RasterRowsLaw" 84 y_Mo_eject ∈ xG := xG_at 668 rfl rfl
set_option maxRecDepth 20000 in
theorem kw_653 : Cond.instanceMethod y_Mo_eject ∈ xG := xG_at 669 rfl rfl
set_option maxRecDepth 20000 in
theorem kw_654 : Cond.selects "RasterRowsModel" y_Mo_eject y_Mo_eject ∈ xG := xG_at 670 rfl rfl
set_option maxRecDepth 20000 in
theorem kw_655 : Cond.code y_Mo_eject prog_7_method_20_code 2 none ∈ xG := xG_at 671 rfl rfl
set_option maxRecDepth 20000 in
theorem kw_656 : Cond.methodLink "RasterRowsLaw" 89 y_Mo_line ∈ xG := xG_at 672 rfl rfl
set_option maxRecDepth 20000 in
theorem kw_657 : Cond.instanceMethod y_Mo_line ∈ xG := xG_at 673 rfl rfl
set_option maxRecDepth 20000 in
theorem kw_658 : Cond.selects "RasterRowsModel" y_Mo_line y_Mo_line ∈ xG := xG_at 674 rfl rfl
set_option maxRecDepth 20000 in
theorem kw_659 : Cond.code y_Mo_line prog_7_method_21_code 3 (some .long) ∈ xG := xG_at 675 rfl rfl
set_option maxRecDepth 20000 in
theorem kw_660 : Cond.methodLink "RasterRowsLaw" 93 y_Mo_black ∈ xG := xG_at 676 rfl rfl
set_option maxRecDepth 20000 in
theorem kw_661 : Cond.instanceMethod y_Mo_black ∈ xG := xG_at 677 rfl rfl
set_option maxRecDepth 20000 in
theorem kw_662 : Cond.selects "RasterRowsModel" y_Mo_black y_Mo_black ∈ xG := xG_at 678 rfl rfl
set_option maxRecDepth 20000 in
theorem kw_663 : Cond.code y_Mo_black prog_7_method_22_code 3 (some .boolean) ∈ xG := xG_at 679 rfl rfl
set_option maxRecDepth 20000 in
theorem kw_664 : Cond.methodLink "RasterRowsLaw" 97 y_Mo_seed ∈ xG := xG_at 680 rfl rfl
set_option maxRecDepth 20000 in
theorem kw_665 : Cond.instanceMethod y_Mo_seed ∈ xG := xG_at 681 rfl rfl
set_option maxRecDepth 20000 in
theorem kw_666 : Cond.selects "RasterRowsModel" y_Mo_seed y_Mo_seed ∈ xG := xG_at 682 rfl rfl
set_option maxRecDepth 20000 in
theorem kw_667 : Cond.code y_Mo_seed prog_7_method_23_code 2 (some .int) ∈ xG := xG_at 683 rfl rfl
set_option maxRecDepth 20000 in
theorem kw_668 : Cond.methodLink "RasterRowsLaw" 101 y_Mo_look ∈ xG := xG_at 684 rfl rfl
set_option maxRecDepth 20000 in
theorem kw_669 : Cond.instanceMethod y_Mo_look ∈ xG := xG_at 685 rfl rfl
set_option maxRecDepth 20000 in
theorem kw_670 : Cond.selects "RasterRowsModel" y_Mo_look y_Mo_look ∈ xG := xG_at 686 rfl rfl
set_option maxRecDepth 20000 in
theorem kw_671 : Cond.code y_Mo_look prog_7_method_24_code 2 (some .int) ∈ xG := xG_at 687 rfl rfl
set_option maxRecDepth 20000 in
theorem kw_672 : Cond.constantLong "RasterRowsLaw" 60 (4294967295 : Int64) ∈ xG := xG_at 688 rfl rfl
theorem kp_0 : Cond.selects "RasterRows" y_RR_scaleNow y_RR_scaleNow ∈ xG := xG_at 0 rfl rfl
theorem kp_2 : Cond.selects "RasterRows$Packed" y_Pk_unpackChanges y_Pk_unpackChanges ∈ xG := xG_at 2 rfl rfl
theorem kp_3 : Cond.selects "RasterRows$Packed" y_Pk_copy y_Pk_copy ∈ xG := xG_at 3 rfl rfl
theorem kp_4 : Cond.selects "RasterRows$Packed" y_Pk_unpackRuns y_Pk_unpackRuns ∈ xG := xG_at 4 rfl rfl
theorem kp_5 : Cond.selects "RasterRows$Packed" y_Pk_unpackPairs y_Pk_unpackPairs ∈ xG := xG_at 5 rfl rfl
theorem kp_6 : Cond.selects "RasterRows$Sheet" y_Sh_draw y_Sh_draw ∈ xG := xG_at 6 rfl rfl
theorem kp_7 : Cond.selects "RasterRows$Sheet" y_Sh_drawStripe y_Sh_drawStripe ∈ xG := xG_at 7 rfl rfl
theorem kp_8 : Cond.selects "RasterRowsModel" y_Mo_blank y_Mo_blank ∈ xG := xG_at 8 rfl rfl
theorem kp_9 : Cond.selects "RasterRowsModel" y_Mo_unpack y_Mo_unpack ∈ xG := xG_at 9 rfl rfl
theorem kp_10 : Cond.selects "RasterRowsModel" y_Mo_put y_Mo_put ∈ xG := xG_at 10 rfl rfl
theorem kp_11 : Cond.selects "RasterRowsModel" y_Mo_pairs y_Mo_pairs ∈ xG := xG_at 11 rfl rfl
theorem kp_12 : Cond.selects "RasterRowsModel" y_Mo_packed y_Mo_packed ∈ xG := xG_at 12 rfl rfl
theorem kp_13 : Cond.selects "RasterRowsModel" y_Mo_changes y_Mo_changes ∈ xG := xG_at 13 rfl rfl
theorem kp_14 : Cond.selects "RasterRowsModel" y_Mo_isBlack y_Mo_isBlack ∈ xG := xG_at 14 rfl rfl
theorem kp_15 : Cond.selects "RasterRowsModel" y_Mo_blacken y_Mo_blacken ∈ xG := xG_at 15 rfl rfl
theorem i_Ln : ∀ w ∈ u_ws R_Ln T_Ln 2, w ∈ xG := by
  intro w hw
  obtain ⟨k, hk, rfl⟩ := List.mem_map.mp hw
  have hk : k < 2 := List.mem_range.mp hk
  rcases (show k = 0 ∨ k = 1 by omega) with rfl | rfl
  · exact kw_49
  · exact kw_51
theorem i_Pk : ∀ w ∈ u_ws R_Pk T_Pk 2, w ∈ xG := by
  intro w hw
  obtain ⟨k, hk, rfl⟩ := List.mem_map.mp hw
  have hk : k < 2 := List.mem_range.mp hk
  rcases (show k = 0 ∨ k = 1 by omega) with rfl | rfl
  · exact kw_136
  · exact kw_138
theorem i_Ra : ∀ w ∈ u_ws R_Ra T_Ra 9, w ∈ xG := by
  intro w hw
  obtain ⟨k, hk, rfl⟩ := List.mem_map.mp hw
  have hk : k < 9 := List.mem_range.mp hk
  rcases (show k = 0 ∨ k = 1 ∨ k = 2 ∨ k = 3 ∨ k = 4 ∨ k = 5 ∨ k = 6 ∨ k = 7 ∨ k = 8 by omega) with rfl | rfl | rfl | rfl | rfl | rfl | rfl | rfl | rfl
  · exact kw_107
  · exact kw_109
  · exact kw_111
  · exact kw_113
  · exact kw_115
  · exact kw_117
  · exact kw_119
  · exact kw_121
  · exact kw_123
theorem i_Sh : ∀ w ∈ u_ws R_Sh T_Sh 8, w ∈ xG := by
  intro w hw
  obtain ⟨k, hk, rfl⟩ := List.mem_map.mp hw
  have hk : k < 8 := List.mem_range.mp hk
  rcases (show k = 0 ∨ k = 1 ∨ k = 2 ∨ k = 3 ∨ k = 4 ∨ k = 5 ∨ k = 6 ∨ k = 7 by omega) with rfl | rfl | rfl | rfl | rfl | rfl | rfl | rfl
  · exact kw_69
  · exact kw_71
  · exact kw_73
  · exact kw_75
  · exact kw_77
  · exact kw_79
  · exact kw_81
  · exact kw_83
theorem i_RR : ∀ w ∈ u_ws R_RR T_RR 8, w ∈ xG := by
  intro w hw
  obtain ⟨k, hk, rfl⟩ := List.mem_map.mp hw
  have hk : k < 8 := List.mem_range.mp hk
  rcases (show k = 0 ∨ k = 1 ∨ k = 2 ∨ k = 3 ∨ k = 4 ∨ k = 5 ∨ k = 6 ∨ k = 7 by omega) with rfl | rfl | rfl | rfl | rfl | rfl | rfl | rfl
  · exact kw_149
  · exact kw_151
  · exact kw_153
  · exact kw_155
  · exact kw_157
  · exact kw_159
  · exact kw_161
  · exact kw_163
theorem i_Mo : ∀ w ∈ u_ws R_Mo T_Mo 25, w ∈ xG := by
  intro w hw
  obtain ⟨k, hk, rfl⟩ := List.mem_map.mp hw
  have hk : k < 25 := List.mem_range.mp hk
  rcases (show k = 0 ∨ k = 1 ∨ k = 2 ∨ k = 3 ∨ k = 4 ∨ k = 5 ∨ k = 6 ∨ k = 7 ∨ k = 8 ∨ k = 9 ∨ k = 10 ∨ k = 11 ∨ k = 12 ∨ k = 13 ∨ k = 14 ∨ k = 15 ∨ k = 16 ∨ k = 17 ∨ k = 18 ∨ k = 19 ∨ k = 20 ∨ k = 21 ∨ k = 22 ∨ k = 23 ∨ k = 24 by omega) with rfl | rfl | rfl | rfl | rfl | rfl | rfl | rfl | rfl | rfl | rfl | rfl | rfl | rfl | rfl | rfl | rfl | rfl | rfl | rfl | rfl | rfl | rfl | rfl | rfl
  · exact kw_528
  · exact kw_530
  · exact kw_532
  · exact kw_534
  · exact kw_536
  · exact kw_538
  · exact kw_540
  · exact kw_542
  · exact kw_544
  · exact kw_546
  · exact kw_548
  · exact kw_550
  · exact kw_552
  · exact kw_554
  · exact kw_556
  · exact kw_558
  · exact kw_560
  · exact kw_562
  · exact kw_564
  · exact kw_566
  · exact kw_568
  · exact kw_570
  · exact kw_572
  · exact kw_574
  · exact kw_576
theorem kn_maxS : Cond.static ⟨"java/lang/Math", "max", "(II)I"⟩ ∈ xG := kw_37
theorem kn_maxC : Cond.code ⟨"java/lang/Math", "max", "(II)I"⟩ prog_13_method_65_code 2 (some .int) ∈ xG := kw_38
theorem kn_minS : Cond.static ⟨"java/lang/Math", "min", "(II)I"⟩ ∈ xG := kw_34
theorem kn_minC : Cond.code ⟨"java/lang/Math", "min", "(II)I"⟩ prog_13_method_69_code 2 (some .int) ∈ xG := kw_35
theorem kn_math : Cond.initialized "java/lang/Math" ∈ xG := kw_3
