/-! words of the tables -/
set_option maxRecDepth 20000 in
theorem mt_365 : (Cond.selects "MatchFloorModel" ⟨"java/lang/Object", "getClass", "()Ljava/lang/Class;"⟩ ⟨"java/lang/Object", "getClass", "()Ljava/lang/Class;"⟩) ∈ mf_tb := mf_in (i := 406) (by decide +kernel) (by decide +kernel)
set_option maxRecDepth 20000 in
theorem mt_366 : (Cond.selects "java/lang/IllegalArgumentException" ⟨"java/lang/Object", "getClass", "()Ljava/lang/Class;"⟩ ⟨"java/lang/Object", "getClass", "()Ljava/lang/Class;"⟩) ∈ mf_tb := mf_in (i := 407) (by decide +kernel) (by decide +kernel)
set_option maxRecDepth 20000 in
theorem mt_367 : (Cond.selects "java/lang/IllegalStateException" ⟨"java/lang/Object", "getClass", "()Ljava/lang/Class;"⟩ ⟨"java/lang/Object", "getClass", "()Ljava/lang/Class;"⟩) ∈ mf_tb := mf_in (i := 408) (by decide +kernel) (by decide +kernel)
set_option maxRecDepth 20000 in
theorem mt_368 : (Cond.selects "java/lang/IndexOutOfBoundsException" ⟨"java/lang/Object", "getClass", "()Ljava/lang/Class;"⟩ ⟨"java/lang/Object", "getClass", "()Ljava/lang/Class;"⟩) ∈ mf_tb := mf_in (i := 409) (by decide +kernel) (by decide +kernel)
set_option maxRecDepth 20000 in
theorem mt_369 : (Cond.selects "java/util/ArrayList" ⟨"java/lang/Object", "getClass", "()Ljava/lang/Class;"⟩ ⟨"java/lang/Object", "getClass", "()Ljava/lang/Class;"⟩) ∈ mf_tb := mf_in (i := 410) (by decide +kernel) (by decide +kernel)
set_option maxRecDepth 20000 in
theorem mt_370 : (Cond.selects "java/util/NoSuchElementException" ⟨"java/lang/Object", "getClass", "()Ljava/lang/Class;"⟩ ⟨"java/lang/Object", "getClass", "()Ljava/lang/Class;"⟩) ∈ mf_tb := mf_in (i := 411) (by decide +kernel) (by decide +kernel)
set_option maxRecDepth 20000 in
theorem mt_371 : (Cond.native ⟨"java/lang/Object", "getClass", "()Ljava/lang/Class;"⟩) ∈ mf_tb := mf_in (i := 412) (by decide +kernel) (by decide +kernel)
set_option maxRecDepth 20000 in
theorem mt_372 : (Cond.methodLink "java/util/Arrays" 300 ⟨"java/util/Arrays", "copyOf", "([Ljava/lang/Object;ILjava/lang/Class;)[Ljava/lang/Object;"⟩) ∈ mf_tb := mf_in (i := 413) (by decide +kernel) (by decide +kernel)
set_option maxRecDepth 20000 in
theorem mt_373 : (Cond.static ⟨"java/util/Arrays", "copyOf", "([Ljava/lang/Object;ILjava/lang/Class;)[Ljava/lang/Object;"⟩) ∈ mf_tb := mf_in (i := 414) (by decide +kernel) (by decide +kernel)
set_option maxRecDepth 20000 in
theorem mt_374 : (Cond.code ⟨"java/util/Arrays", "copyOf", "([Ljava/lang/Object;ILjava/lang/Class;)[Ljava/lang/Object;"⟩ prog_21_method_120_code 4 (Option.some (FieldType.array (FieldType.object "java/lang/Object")))) ∈ mf_tb := mf_in (i := 415) (by rfl) (by rfl)
set_option maxRecDepth 20000 in
theorem mt_375 : (Cond.classLink "java/util/Arrays" 110 "[Ljava/lang/Object;") ∈ mf_tb := mf_in (i := 416) (by decide +kernel) (by decide +kernel)
set_option maxRecDepth 20000 in
theorem mt_377 : (Cond.classLink "java/util/Arrays" 2 "java/lang/Object") ∈ mf_tb := mf_in (i := 418) (by decide +kernel) (by decide +kernel)
set_option maxRecDepth 20000 in
theorem mt_378 : (Cond.methodLink "java/util/Arrays" 304 ⟨"java/lang/Math", "min", "(II)I"⟩) ∈ mf_tb := mf_in (i := 419) (by decide +kernel) (by decide +kernel)
set_option maxRecDepth 20000 in
theorem mt_379 : (Cond.methodLink "java/util/Arrays" 150 ⟨"java/lang/System", "arraycopy", "(Ljava/lang/Object;ILjava/lang/Object;II)V"⟩) ∈ mf_tb := mf_in (i := 420) (by decide +kernel) (by decide +kernel)
set_option maxRecDepth 20000 in
theorem mt_380 : (Cond.methodLink "java/util/ArrayList" 79 ⟨"java/lang/Math", "max", "(II)I"⟩) ∈ mf_tb := mf_in (i := 421) (by decide +kernel) (by decide +kernel)
set_option maxRecDepth 20000 in
theorem mt_381 : (Cond.classLink "java/util/ArrayList" 7 "java/lang/Object") ∈ mf_tb := mf_in (i := 422) (by decide +kernel) (by decide +kernel)
set_option maxRecDepth 20000 in
theorem mt_382 : (Cond.methodLink "MatchFloor" 197 ⟨"MatchFloor", "matchDueStops", "()V"⟩) ∈ mf_tb := mf_in (i := 423) (by decide +kernel) (by decide +kernel)
set_option maxRecDepth 20000 in
theorem mt_384 : (Cond.instanceMethod ⟨"MatchFloor", "matchDueStops", "()V"⟩) ∈ mf_tb := mf_in (i := 425) (by decide +kernel) (by decide +kernel)
set_option maxRecDepth 20000 in
theorem mt_385 : (Cond.code ⟨"MatchFloor", "matchDueStops", "()V"⟩ prog_1_method_26_code 3 (Option.none : Option FieldType)) ∈ mf_tb := mf_in (i := 426) (by rfl) (by rfl)
set_option maxRecDepth 20000 in
theorem mt_386 : (Cond.methodLink "MatchFloor" 200 ⟨"MatchFloor", "placeOfDue", "()I"⟩) ∈ mf_tb := mf_in (i := 427) (by decide +kernel) (by decide +kernel)
set_option maxRecDepth 20000 in
theorem mt_388 : (Cond.instanceMethod ⟨"MatchFloor", "placeOfDue", "()I"⟩) ∈ mf_tb := mf_in (i := 429) (by decide +kernel) (by decide +kernel)
set_option maxRecDepth 20000 in
theorem mt_389 : (Cond.code ⟨"MatchFloor", "placeOfDue", "()I"⟩ prog_1_method_22_code 2 (Option.some FieldType.int)) ∈ mf_tb := mf_in (i := 430) (by rfl) (by rfl)
set_option maxRecDepth 20000 in
theorem mt_392 : (Cond.instanceMethod ⟨"MatchFloor$Order", "isDueAt", "(I)Z"⟩) ∈ mf_tb := mf_in (i := 433) (by decide +kernel) (by decide +kernel)
set_option maxRecDepth 20000 in
theorem mt_393 : (Cond.code ⟨"MatchFloor$Order", "isDueAt", "(I)Z"⟩ prog_2_method_4_code 2 (Option.some FieldType.boolean)) ∈ mf_tb := mf_in (i := 434) (by rfl) (by rfl)
set_option maxRecDepth 20000 in
theorem mt_394 : (Cond.methodLink "MatchFloorLaw" 62 ⟨"MatchFloorLaw", "cancel", "(LMatchFloor;I[J)I"⟩) ∈ mf_tb := mf_in (i := 435) (by decide +kernel) (by decide +kernel)
set_option maxRecDepth 20000 in
theorem mt_395 : (Cond.static ⟨"MatchFloorLaw", "cancel", "(LMatchFloor;I[J)I"⟩) ∈ mf_tb := mf_in (i := 436) (by decide +kernel) (by decide +kernel)
set_option maxRecDepth 20000 in
theorem mt_396 : (Cond.codeWith ⟨"MatchFloorLaw", "cancel", "(LMatchFloor;I[J)I"⟩ method_4_code 4 (Option.some FieldType.int) [(0, 9, 12, 21)]) ∈ mf_tb := mf_in (i := 437) (by rfl) (by rfl)
set_option maxRecDepth 20000 in
theorem mt_397 : (Cond.classLink "MatchFloorLaw" 21 "java/util/NoSuchElementException") ∈ mf_tb := mf_in (i := 438) (by decide +kernel) (by decide +kernel)
set_option maxRecDepth 20000 in
theorem mt_398 : (Cond.methodLink "MatchFloorLaw" 17 ⟨"MatchFloor", "cancel", "(I)I"⟩) ∈ mf_tb := mf_in (i := 439) (by decide +kernel) (by decide +kernel)
set_option maxRecDepth 20000 in
theorem mt_399 : (Cond.instanceMethod ⟨"MatchFloor", "cancel", "(I)I"⟩) ∈ mf_tb := mf_in (i := 440) (by decide +kernel) (by decide +kernel)
set_option maxRecDepth 20000 in
theorem mt_400 : (Cond.selects "MatchFloor" ⟨"MatchFloor", "cancel", "(I)I"⟩ ⟨"MatchFloor", "cancel", "(I)I"⟩) ∈ mf_tb := mf_in (i := 441) (by decide +kernel) (by decide +kernel)
set_option maxRecDepth 20000 in
theorem mt_401 : (Cond.code ⟨"MatchFloor", "cancel", "(I)I"⟩ prog_1_method_3_code 3 (Option.some FieldType.int)) ∈ mf_tb := mf_in (i := 442) (by rfl) (by rfl)
set_option maxRecDepth 20000 in
theorem mt_402 : (Cond.classLink "MatchFloor" 72 "java/util/NoSuchElementException") ∈ mf_tb := mf_in (i := 443) (by decide +kernel) (by decide +kernel)
set_option maxRecDepth 20000 in
theorem mt_403 : (Cond.instantiable "java/util/NoSuchElementException" 6) ∈ mf_tb := mf_in (i := 444) (by decide +kernel) (by decide +kernel)
set_option maxRecDepth 20000 in
theorem mt_405 : (Cond.selects "java/util/NoSuchElementException" ⟨"java/lang/Throwable", "fillInStackTrace", "(I)Ljava/lang/Throwable;"⟩ ⟨"java/lang/Throwable", "fillInStackTrace", "(I)Ljava/lang/Throwable;"⟩) ∈ mf_tb := mf_in (i := 446) (by decide +kernel) (by decide +kernel)
set_option maxRecDepth 20000 in
theorem mt_406 : (Cond.lays "java/util/NoSuchElementException" "java/lang/Throwable" "cause" "Ljava/lang/Throwable;") ∈ mf_tb := mf_in (i := 447) (by decide +kernel) (by decide +kernel)
set_option maxRecDepth 20000 in
theorem mt_407 : (Cond.lays "java/util/NoSuchElementException" "java/lang/Throwable" "stackTrace" "[Ljava/lang/StackTraceElement;") ∈ mf_tb := mf_in (i := 448) (by decide +kernel) (by decide +kernel)
set_option maxRecDepth 20000 in
theorem mt_408 : (Cond.lays "java/util/NoSuchElementException" "java/lang/Throwable" "suppressedExceptions" "Ljava/util/List;") ∈ mf_tb := mf_in (i := 449) (by decide +kernel) (by decide +kernel)
set_option maxRecDepth 20000 in
theorem mt_409 : (Cond.lays "java/util/NoSuchElementException" "java/lang/Throwable" "detailMessage" "Ljava/lang/String;") ∈ mf_tb := mf_in (i := 450) (by decide +kernel) (by decide +kernel)
set_option maxRecDepth 20000 in
theorem mt_410 : (Cond.lays "java/util/NoSuchElementException" "java/lang/Throwable" "backtrace" "Ljava/lang/Object;") ∈ mf_tb := mf_in (i := 451) (by decide +kernel) (by decide +kernel)
set_option maxRecDepth 20000 in
theorem mt_412 : (Cond.methodLink "MatchFloor" 76 ⟨"java/util/NoSuchElementException", "<init>", "(Ljava/lang/String;)V"⟩) ∈ mf_tb := mf_in (i := 453) (by decide +kernel) (by decide +kernel)
set_option maxRecDepth 20000 in
theorem mt_413 : (Cond.instanceMethod ⟨"java/util/NoSuchElementException", "<init>", "(Ljava/lang/String;)V"⟩) ∈ mf_tb := mf_in (i := 454) (by decide +kernel) (by decide +kernel)
set_option maxRecDepth 20000 in
theorem mt_414 : (Cond.code ⟨"java/util/NoSuchElementException", "<init>", "(Ljava/lang/String;)V"⟩ prog_24_method_4_code 2 (Option.none : Option FieldType)) ∈ mf_tb := mf_in (i := 455) (by rfl) (by rfl)
set_option maxRecDepth 20000 in
theorem mt_415 : (Cond.methodLink "java/util/NoSuchElementException" 13 ⟨"java/lang/RuntimeException", "<init>", "(Ljava/lang/String;)V"⟩) ∈ mf_tb := mf_in (i := 456) (by decide +kernel) (by decide +kernel)
set_option maxRecDepth 20000 in
theorem mt_416 : (Cond.lays "java/util/NoSuchElementException" "java/lang/Throwable" "depth" "I") ∈ mf_tb := mf_in (i := 457) (by decide +kernel) (by decide +kernel)
set_option maxRecDepth 20000 in
theorem mt_418 : (Cond.methodLink "MatchFloorLaw" 66 ⟨"MatchFloorLaw", "amend", "(LMatchFloor;III[J)I"⟩) ∈ mf_tb := mf_in (i := 459) (by decide +kernel) (by decide +kernel)
set_option maxRecDepth 20000 in
theorem mt_419 : (Cond.static ⟨"MatchFloorLaw", "amend", "(LMatchFloor;III[J)I"⟩) ∈ mf_tb := mf_in (i := 460) (by decide +kernel) (by decide +kernel)
set_option maxRecDepth 20000 in
theorem mt_420 : (Cond.codeWith ⟨"MatchFloorLaw", "amend", "(LMatchFloor;III[J)I"⟩ method_5_code 6 (Option.some FieldType.int) [(0, 12, 15, 13), (0, 12, 19, 21)]) ∈ mf_tb := mf_in (i := 461) (by rfl) (by rfl)
set_option maxRecDepth 20000 in
theorem mt_421 : (Cond.methodLink "MatchFloorLaw" 23 ⟨"MatchFloor", "amend", "(III)I"⟩) ∈ mf_tb := mf_in (i := 462) (by decide +kernel) (by decide +kernel)
set_option maxRecDepth 20000 in
theorem mt_422 : (Cond.instanceMethod ⟨"MatchFloor", "amend", "(III)I"⟩) ∈ mf_tb := mf_in (i := 463) (by decide +kernel) (by decide +kernel)
set_option maxRecDepth 20000 in
theorem mt_423 : (Cond.selects "MatchFloor" ⟨"MatchFloor", "amend", "(III)I"⟩ ⟨"MatchFloor", "amend", "(III)I"⟩) ∈ mf_tb := mf_in (i := 464) (by decide +kernel) (by decide +kernel)
set_option maxRecDepth 20000 in
theorem mt_424 : (Cond.code ⟨"MatchFloor", "amend", "(III)I"⟩ prog_1_method_4_code 6 (Option.some FieldType.int)) ∈ mf_tb := mf_in (i := 465) (by rfl) (by rfl)
set_option maxRecDepth 20000 in
theorem mt_425 : (Cond.methodLink "MatchFloorLaw" 70 ⟨"MatchFloorLaw", "withdraw", "(LMatchFloor;I[J)I"⟩) ∈ mf_tb := mf_in (i := 466) (by decide +kernel) (by decide +kernel)
set_option maxRecDepth 20000 in
theorem mt_426 : (Cond.static ⟨"MatchFloorLaw", "withdraw", "(LMatchFloor;I[J)I"⟩) ∈ mf_tb := mf_in (i := 467) (by decide +kernel) (by decide +kernel)
set_option maxRecDepth 20000 in
theorem mt_427 : (Cond.codeWith ⟨"MatchFloorLaw", "withdraw", "(LMatchFloor;I[J)I"⟩ method_6_code 4 (Option.some FieldType.int) [(0, 9, 12, 13)]) ∈ mf_tb := mf_in (i := 468) (by rfl) (by rfl)
set_option maxRecDepth 20000 in
theorem mt_428 : (Cond.methodLink "MatchFloorLaw" 27 ⟨"MatchFloor", "withdraw", "(I)I"⟩) ∈ mf_tb := mf_in (i := 469) (by decide +kernel) (by decide +kernel)
set_option maxRecDepth 20000 in
theorem mt_429 : (Cond.instanceMethod ⟨"MatchFloor", "withdraw", "(I)I"⟩) ∈ mf_tb := mf_in (i := 470) (by decide +kernel) (by decide +kernel)
set_option maxRecDepth 20000 in
theorem mt_430 : (Cond.selects "MatchFloor" ⟨"MatchFloor", "withdraw", "(I)I"⟩ ⟨"MatchFloor", "withdraw", "(I)I"⟩) ∈ mf_tb := mf_in (i := 471) (by decide +kernel) (by decide +kernel)
set_option maxRecDepth 20000 in
theorem mt_431 : (Cond.code ⟨"MatchFloor", "withdraw", "(I)I"⟩ prog_1_method_5_code 4 (Option.some FieldType.int)) ∈ mf_tb := mf_in (i := 472) (by rfl) (by rfl)
set_option maxRecDepth 20000 in
theorem mt_433 : (Cond.methodLink "MatchFloorLaw" 73 ⟨"MatchFloorLaw", "levels", "(LMatchFloor;I[J)I"⟩) ∈ mf_tb := mf_in (i := 474) (by decide +kernel) (by decide +kernel)
set_option maxRecDepth 20000 in
theorem mt_434 : (Cond.static ⟨"MatchFloorLaw", "levels", "(LMatchFloor;I[J)I"⟩) ∈ mf_tb := mf_in (i := 475) (by decide +kernel) (by decide +kernel)
set_option maxRecDepth 20000 in
theorem mt_435 : (Cond.codeWith ⟨"MatchFloorLaw", "levels", "(LMatchFloor;I[J)I"⟩ method_7_code 4 (Option.some FieldType.int) [(0, 9, 12, 13)]) ∈ mf_tb := mf_in (i := 476) (by rfl) (by rfl)
set_option maxRecDepth 20000 in
theorem mt_436 : (Cond.methodLink "MatchFloorLaw" 30 ⟨"MatchFloor", "levels", "(I)I"⟩) ∈ mf_tb := mf_in (i := 477) (by decide +kernel) (by decide +kernel)
set_option maxRecDepth 20000 in
theorem mt_437 : (Cond.instanceMethod ⟨"MatchFloor", "levels", "(I)I"⟩) ∈ mf_tb := mf_in (i := 478) (by decide +kernel) (by decide +kernel)
set_option maxRecDepth 20000 in
theorem mt_438 : (Cond.selects "MatchFloor" ⟨"MatchFloor", "levels", "(I)I"⟩ ⟨"MatchFloor", "levels", "(I)I"⟩) ∈ mf_tb := mf_in (i := 479) (by decide +kernel) (by decide +kernel)
set_option maxRecDepth 20000 in
theorem mt_439 : (Cond.code ⟨"MatchFloor", "levels", "(I)I"⟩ prog_1_method_6_code 2 (Option.some FieldType.int)) ∈ mf_tb := mf_in (i := 480) (by rfl) (by rfl)
set_option maxRecDepth 20000 in
theorem mt_440 : (Cond.methodLink "MatchFloor" 100 ⟨"MatchFloor", "isSide", "(I)Z"⟩) ∈ mf_tb := mf_in (i := 481) (by decide +kernel) (by decide +kernel)
set_option maxRecDepth 20000 in
theorem mt_441 : (Cond.static ⟨"MatchFloor", "isSide", "(I)Z"⟩) ∈ mf_tb := mf_in (i := 482) (by decide +kernel) (by decide +kernel)
set_option maxRecDepth 20000 in
theorem mt_442 : (Cond.code ⟨"MatchFloor", "isSide", "(I)Z"⟩ prog_1_method_15_code 1 (Option.some FieldType.boolean)) ∈ mf_tb := mf_in (i := 483) (by rfl) (by rfl)
set_option maxRecDepth 20000 in
theorem mt_444 : (Cond.methodLink "MatchFloor" 105 ⟨"MatchFloor", "countLevels", "(I)I"⟩) ∈ mf_tb := mf_in (i := 485) (by decide +kernel) (by decide +kernel)
set_option maxRecDepth 20000 in
theorem mt_446 : (Cond.instanceMethod ⟨"MatchFloor", "countLevels", "(I)I"⟩) ∈ mf_tb := mf_in (i := 487) (by decide +kernel) (by decide +kernel)
set_option maxRecDepth 20000 in
theorem mt_447 : (Cond.code ⟨"MatchFloor", "countLevels", "(I)I"⟩ prog_1_method_29_code 4 (Option.some FieldType.int)) ∈ mf_tb := mf_in (i := 488) (by rfl) (by rfl)
set_option maxRecDepth 20000 in
theorem mt_448 : (Cond.methodLink "MatchFloor" 215 ⟨"MatchFloor", "nextPrice", "(II)I"⟩) ∈ mf_tb := mf_in (i := 489) (by decide +kernel) (by decide +kernel)
set_option maxRecDepth 20000 in
theorem mt_450 : (Cond.instanceMethod ⟨"MatchFloor", "nextPrice", "(II)I"⟩) ∈ mf_tb := mf_in (i := 491) (by decide +kernel) (by decide +kernel)
set_option maxRecDepth 20000 in
theorem mt_451 : (Cond.code ⟨"MatchFloor", "nextPrice", "(II)I"⟩ prog_1_method_31_code 8 (Option.some FieldType.int)) ∈ mf_tb := mf_in (i := 492) (by rfl) (by rfl)
set_option maxRecDepth 20000 in
theorem mt_452 : (Cond.methodLink "MatchFloorLaw" 76 ⟨"MatchFloorLaw", "level", "(LMatchFloor;III[J)I"⟩) ∈ mf_tb := mf_in (i := 493) (by decide +kernel) (by decide +kernel)
set_option maxRecDepth 20000 in
theorem mt_453 : (Cond.static ⟨"MatchFloorLaw", "level", "(LMatchFloor;III[J)I"⟩) ∈ mf_tb := mf_in (i := 494) (by decide +kernel) (by decide +kernel)
set_option maxRecDepth 20000 in
theorem mt_454 : (Cond.codeWith ⟨"MatchFloorLaw", "level", "(LMatchFloor;III[J)I"⟩ method_8_code 6 (Option.some FieldType.int) [(0, 12, 15, 13), (0, 12, 19, 36)]) ∈ mf_tb := mf_in (i := 495) (by rfl) (by rfl)
set_option maxRecDepth 20000 in
theorem mt_455 : (Cond.classLink "MatchFloorLaw" 36 "java/lang/IndexOutOfBoundsException") ∈ mf_tb := mf_in (i := 496) (by decide +kernel) (by decide +kernel)
set_option maxRecDepth 20000 in
theorem mt_456 : (Cond.methodLink "MatchFloorLaw" 33 ⟨"MatchFloor", "level", "(III)I"⟩) ∈ mf_tb := mf_in (i := 497) (by decide +kernel) (by decide +kernel)
set_option maxRecDepth 20000 in
theorem mt_457 : (Cond.instanceMethod ⟨"MatchFloor", "level", "(III)I"⟩) ∈ mf_tb := mf_in (i := 498) (by decide +kernel) (by decide +kernel)
set_option maxRecDepth 20000 in
theorem mt_458 : (Cond.selects "MatchFloor" ⟨"MatchFloor", "level", "(III)I"⟩ ⟨"MatchFloor", "level", "(III)I"⟩) ∈ mf_tb := mf_in (i := 499) (by decide +kernel) (by decide +kernel)
set_option maxRecDepth 20000 in
theorem mt_459 : (Cond.code ⟨"MatchFloor", "level", "(III)I"⟩ prog_1_method_7_code 5 (Option.some FieldType.int)) ∈ mf_tb := mf_in (i := 500) (by rfl) (by rfl)
set_option maxRecDepth 20000 in
theorem mt_461 : (Cond.classLink "MatchFloor" 110 "java/lang/IndexOutOfBoundsException") ∈ mf_tb := mf_in (i := 502) (by decide +kernel) (by decide +kernel)
set_option maxRecDepth 20000 in
theorem mt_462 : (Cond.instantiable "java/lang/IndexOutOfBoundsException" 6) ∈ mf_tb := mf_in (i := 503) (by decide +kernel) (by decide +kernel)
set_option maxRecDepth 20000 in
theorem mt_464 : (Cond.selects "java/lang/IndexOutOfBoundsException" ⟨"java/lang/Throwable", "fillInStackTrace", "(I)Ljava/lang/Throwable;"⟩ ⟨"java/lang/Throwable", "fillInStackTrace", "(I)Ljava/lang/Throwable;"⟩) ∈ mf_tb := mf_in (i := 505) (by decide +kernel) (by decide +kernel)
set_option maxRecDepth 20000 in
theorem mt_465 : (Cond.lays "java/lang/IndexOutOfBoundsException" "java/lang/Throwable" "cause" "Ljava/lang/Throwable;") ∈ mf_tb := mf_in (i := 506) (by decide +kernel) (by decide +kernel)
set_option maxRecDepth 20000 in
theorem mt_466 : (Cond.lays "java/lang/IndexOutOfBoundsException" "java/lang/Throwable" "stackTrace" "[Ljava/lang/StackTraceElement;") ∈ mf_tb := mf_in (i := 507) (by decide +kernel) (by decide +kernel)
set_option maxRecDepth 20000 in
theorem mt_467 : (Cond.lays "java/lang/IndexOutOfBoundsException" "java/lang/Throwable" "suppressedExceptions" "Ljava/util/List;") ∈ mf_tb := mf_in (i := 508) (by decide +kernel) (by decide +kernel)
set_option maxRecDepth 20000 in
theorem mt_468 : (Cond.lays "java/lang/IndexOutOfBoundsException" "java/lang/Throwable" "detailMessage" "Ljava/lang/String;") ∈ mf_tb := mf_in (i := 509) (by decide +kernel) (by decide +kernel)
set_option maxRecDepth 20000 in
theorem mt_469 : (Cond.lays "java/lang/IndexOutOfBoundsException" "java/lang/Throwable" "backtrace" "Ljava/lang/Object;") ∈ mf_tb := mf_in (i := 510) (by decide +kernel) (by decide +kernel)
set_option maxRecDepth 20000 in
theorem mt_471 : (Cond.methodLink "MatchFloor" 114 ⟨"java/lang/IndexOutOfBoundsException", "<init>", "(Ljava/lang/String;)V"⟩) ∈ mf_tb := mf_in (i := 512) (by decide +kernel) (by decide +kernel)
set_option maxRecDepth 20000 in
theorem mt_472 : (Cond.instanceMethod ⟨"java/lang/IndexOutOfBoundsException", "<init>", "(Ljava/lang/String;)V"⟩) ∈ mf_tb := mf_in (i := 513) (by decide +kernel) (by decide +kernel)
set_option maxRecDepth 20000 in
theorem mt_473 : (Cond.code ⟨"java/lang/IndexOutOfBoundsException", "<init>", "(Ljava/lang/String;)V"⟩ prog_11_method_2_code 2 (Option.none : Option FieldType)) ∈ mf_tb := mf_in (i := 514) (by rfl) (by rfl)
set_option maxRecDepth 20000 in
theorem mt_474 : (Cond.methodLink "java/lang/IndexOutOfBoundsException" 7 ⟨"java/lang/RuntimeException", "<init>", "(Ljava/lang/String;)V"⟩) ∈ mf_tb := mf_in (i := 515) (by decide +kernel) (by decide +kernel)
set_option maxRecDepth 20000 in
theorem mt_475 : (Cond.lays "java/lang/IndexOutOfBoundsException" "java/lang/Throwable" "depth" "I") ∈ mf_tb := mf_in (i := 516) (by decide +kernel) (by decide +kernel)
set_option maxRecDepth 20000 in
theorem mt_477 : (Cond.methodLink "MatchFloor" 115 ⟨"MatchFloor", "priceOfLevel", "(II)I"⟩) ∈ mf_tb := mf_in (i := 518) (by decide +kernel) (by decide +kernel)
set_option maxRecDepth 20000 in
theorem mt_479 : (Cond.instanceMethod ⟨"MatchFloor", "priceOfLevel", "(II)I"⟩) ∈ mf_tb := mf_in (i := 520) (by decide +kernel) (by decide +kernel)
set_option maxRecDepth 20000 in
theorem mt_480 : (Cond.code ⟨"MatchFloor", "priceOfLevel", "(II)I"⟩ prog_1_method_30_code 5 (Option.some FieldType.int)) ∈ mf_tb := mf_in (i := 521) (by rfl) (by rfl)
set_option maxRecDepth 20000 in
theorem mt_481 : (Cond.methodLink "MatchFloor" 119 ⟨"MatchFloor", "leftAt", "(II)I"⟩) ∈ mf_tb := mf_in (i := 522) (by decide +kernel) (by decide +kernel)
set_option maxRecDepth 20000 in
theorem mt_483 : (Cond.instanceMethod ⟨"MatchFloor", "leftAt", "(II)I"⟩) ∈ mf_tb := mf_in (i := 524) (by decide +kernel) (by decide +kernel)
set_option maxRecDepth 20000 in
theorem mt_484 : (Cond.code ⟨"MatchFloor", "leftAt", "(II)I"⟩ prog_1_method_32_code 6 (Option.some FieldType.int)) ∈ mf_tb := mf_in (i := 525) (by rfl) (by rfl)
set_option maxRecDepth 20000 in
theorem mt_485 : (Cond.methodLink "MatchFloor" 122 ⟨"MatchFloor", "ordersAt", "(II)I"⟩) ∈ mf_tb := mf_in (i := 526) (by decide +kernel) (by decide +kernel)
set_option maxRecDepth 20000 in
theorem mt_487 : (Cond.instanceMethod ⟨"MatchFloor", "ordersAt", "(II)I"⟩) ∈ mf_tb := mf_in (i := 528) (by decide +kernel) (by decide +kernel)
set_option maxRecDepth 20000 in
theorem mt_488 : (Cond.code ⟨"MatchFloor", "ordersAt", "(II)I"⟩ prog_1_method_33_code 6 (Option.some FieldType.int)) ∈ mf_tb := mf_in (i := 529) (by rfl) (by rfl)
set_option maxRecDepth 20000 in
theorem mt_489 : (Cond.methodLink "MatchFloorLaw" 79 ⟨"MatchFloorLaw", "order", "(LMatchFloor;II[J)I"⟩) ∈ mf_tb := mf_in (i := 530) (by decide +kernel) (by decide +kernel)
set_option maxRecDepth 20000 in
theorem mt_490 : (Cond.static ⟨"MatchFloorLaw", "order", "(LMatchFloor;II[J)I"⟩) ∈ mf_tb := mf_in (i := 531) (by decide +kernel) (by decide +kernel)
set_option maxRecDepth 20000 in
theorem mt_491 : (Cond.codeWith ⟨"MatchFloorLaw", "order", "(LMatchFloor;II[J)I"⟩ method_9_code 5 (Option.some FieldType.int) [(0, 10, 13, 21), (0, 10, 17, 13)]) ∈ mf_tb := mf_in (i := 532) (by rfl) (by rfl)
set_option maxRecDepth 20000 in
theorem mt_492 : (Cond.methodLink "MatchFloorLaw" 38 ⟨"MatchFloor", "order", "(II)I"⟩) ∈ mf_tb := mf_in (i := 533) (by decide +kernel) (by decide +kernel)
set_option maxRecDepth 20000 in
theorem mt_493 : (Cond.instanceMethod ⟨"MatchFloor", "order", "(II)I"⟩) ∈ mf_tb := mf_in (i := 534) (by decide +kernel) (by decide +kernel)
set_option maxRecDepth 20000 in
theorem mt_494 : (Cond.selects "MatchFloor" ⟨"MatchFloor", "order", "(II)I"⟩ ⟨"MatchFloor", "order", "(II)I"⟩) ∈ mf_tb := mf_in (i := 535) (by decide +kernel) (by decide +kernel)
set_option maxRecDepth 20000 in
theorem mt_495 : (Cond.code ⟨"MatchFloor", "order", "(II)I"⟩ prog_1_method_8_code 5 (Option.some FieldType.int)) ∈ mf_tb := mf_in (i := 536) (by rfl) (by rfl)
set_option maxRecDepth 20000 in
theorem mt_496 : (Cond.methodLink "MatchFloor" 128 ⟨"MatchFloor", "ordersBefore", "(I)I"⟩) ∈ mf_tb := mf_in (i := 537) (by decide +kernel) (by decide +kernel)
set_option maxRecDepth 20000 in
theorem mt_498 : (Cond.instanceMethod ⟨"MatchFloor", "ordersBefore", "(I)I"⟩) ∈ mf_tb := mf_in (i := 539) (by decide +kernel) (by decide +kernel)
set_option maxRecDepth 20000 in
theorem mt_499 : (Cond.code ⟨"MatchFloor", "ordersBefore", "(I)I"⟩ prog_1_method_34_code 5 (Option.some FieldType.int)) ∈ mf_tb := mf_in (i := 540) (by rfl) (by rfl)
set_option maxRecDepth 20000 in
theorem mt_502 : (Cond.instanceMethod ⟨"MatchFloor$Order", "queuesWith", "(LMatchFloor$Order;)Z"⟩) ∈ mf_tb := mf_in (i := 543) (by decide +kernel) (by decide +kernel)
set_option maxRecDepth 20000 in
theorem mt_503 : (Cond.code ⟨"MatchFloor$Order", "queuesWith", "(LMatchFloor$Order;)Z"⟩ prog_2_method_5_code 2 (Option.some FieldType.boolean)) ∈ mf_tb := mf_in (i := 544) (by rfl) (by rfl)
set_option maxRecDepth 20000 in
theorem mt_505 : (Cond.methodLink "MatchFloorLaw" 83 ⟨"MatchFloorLaw", "fill", "(LMatchFloor;II[J)I"⟩) ∈ mf_tb := mf_in (i := 546) (by decide +kernel) (by decide +kernel)
set_option maxRecDepth 20000 in
theorem mt_506 : (Cond.static ⟨"MatchFloorLaw", "fill", "(LMatchFloor;II[J)I"⟩) ∈ mf_tb := mf_in (i := 547) (by decide +kernel) (by decide +kernel)
set_option maxRecDepth 20000 in
theorem mt_507 : (Cond.codeWith ⟨"MatchFloorLaw", "fill", "(LMatchFloor;II[J)I"⟩ method_10_code 5 (Option.some FieldType.int) [(0, 10, 13, 13), (0, 10, 17, 36)]) ∈ mf_tb := mf_in (i := 548) (by rfl) (by rfl)
set_option maxRecDepth 20000 in
theorem mt_508 : (Cond.methodLink "MatchFloorLaw" 42 ⟨"MatchFloor", "fill", "(II)I"⟩) ∈ mf_tb := mf_in (i := 549) (by decide +kernel) (by decide +kernel)
set_option maxRecDepth 20000 in
theorem mt_509 : (Cond.instanceMethod ⟨"MatchFloor", "fill", "(II)I"⟩) ∈ mf_tb := mf_in (i := 550) (by decide +kernel) (by decide +kernel)
set_option maxRecDepth 20000 in
theorem mt_510 : (Cond.selects "MatchFloor" ⟨"MatchFloor", "fill", "(II)I"⟩ ⟨"MatchFloor", "fill", "(II)I"⟩) ∈ mf_tb := mf_in (i := 551) (by decide +kernel) (by decide +kernel)
set_option maxRecDepth 20000 in
theorem mt_511 : (Cond.code ⟨"MatchFloor", "fill", "(II)I"⟩ prog_1_method_9_code 3 (Option.some FieldType.int)) ∈ mf_tb := mf_in (i := 552) (by rfl) (by rfl)
set_option maxRecDepth 20000 in
theorem mt_515 : (Cond.instanceMethod ⟨"MatchFloor$Tape", "read", "(II)I"⟩) ∈ mf_tb := mf_in (i := 556) (by decide +kernel) (by decide +kernel)
set_option maxRecDepth 20000 in
theorem mt_516 : (Cond.code ⟨"MatchFloor$Tape", "read", "(II)I"⟩ prog_3_method_3_code 3 (Option.some FieldType.int)) ∈ mf_tb := mf_in (i := 557) (by rfl) (by rfl)
set_option maxRecDepth 20000 in
theorem mt_517 : (Cond.methodLink "MatchFloorLaw" 99 ⟨"MatchFloorLaw", "figure", "(LMatchFloor;I[J)I"⟩) ∈ mf_tb := mf_in (i := 558) (by decide +kernel) (by decide +kernel)
set_option maxRecDepth 20000 in
theorem mt_518 : (Cond.static ⟨"MatchFloorLaw", "figure", "(LMatchFloor;I[J)I"⟩) ∈ mf_tb := mf_in (i := 559) (by decide +kernel) (by decide +kernel)
set_option maxRecDepth 20000 in
theorem mt_519 : (Cond.codeWith ⟨"MatchFloorLaw", "figure", "(LMatchFloor;I[J)I"⟩ method_11_code 4 (Option.some FieldType.int) [(0, 9, 12, 13)]) ∈ mf_tb := mf_in (i := 560) (by rfl) (by rfl)
set_option maxRecDepth 20000 in
theorem mt_520 : (Cond.methodLink "MatchFloorLaw" 45 ⟨"MatchFloor", "figure", "(I)I"⟩) ∈ mf_tb := mf_in (i := 561) (by decide +kernel) (by decide +kernel)
set_option maxRecDepth 20000 in
theorem mt_521 : (Cond.instanceMethod ⟨"MatchFloor", "figure", "(I)I"⟩) ∈ mf_tb := mf_in (i := 562) (by decide +kernel) (by decide +kernel)
set_option maxRecDepth 20000 in
theorem mt_522 : (Cond.selects "MatchFloor" ⟨"MatchFloor", "figure", "(I)I"⟩ ⟨"MatchFloor", "figure", "(I)I"⟩) ∈ mf_tb := mf_in (i := 563) (by decide +kernel) (by decide +kernel)
set_option maxRecDepth 20000 in
theorem mt_523 : (Cond.code ⟨"MatchFloor", "figure", "(I)I"⟩ prog_1_method_13_code 2 (Option.some FieldType.int)) ∈ mf_tb := mf_in (i := 564) (by rfl) (by rfl)
set_option maxRecDepth 20000 in
theorem mt_524 : (Cond.methodLink "MatchFloor" 148 ⟨"MatchFloor", "countWaiting", "()I"⟩) ∈ mf_tb := mf_in (i := 565) (by decide +kernel) (by decide +kernel)
set_option maxRecDepth 20000 in
theorem mt_526 : (Cond.instanceMethod ⟨"MatchFloor", "countWaiting", "()I"⟩) ∈ mf_tb := mf_in (i := 567) (by decide +kernel) (by decide +kernel)
set_option maxRecDepth 20000 in
theorem mt_527 : (Cond.code ⟨"MatchFloor", "countWaiting", "()I"⟩ prog_1_method_35_code 3 (Option.some FieldType.int)) ∈ mf_tb := mf_in (i := 568) (by rfl) (by rfl)
set_option maxRecDepth 20000 in
theorem mt_529 : (Cond.classLink "MatchFloorLaw" 49 "MatchFloorModel") ∈ mf_tb := mf_in (i := 570) (by decide +kernel) (by decide +kernel)
set_option maxRecDepth 20000 in
theorem mt_530 : (Cond.instantiable "MatchFloorModel" 20) ∈ mf_tb := mf_in (i := 571) (by decide +kernel) (by decide +kernel)
set_option maxRecDepth 20000 in
theorem mt_531 : (Cond.methodLink "MatchFloorLaw" 51 ⟨"MatchFloorModel", "<init>", "()V"⟩) ∈ mf_tb := mf_in (i := 572) (by decide +kernel) (by decide +kernel)
set_option maxRecDepth 20000 in
theorem mt_532 : (Cond.instanceMethod ⟨"MatchFloorModel", "<init>", "()V"⟩) ∈ mf_tb := mf_in (i := 573) (by decide +kernel) (by decide +kernel)
set_option maxRecDepth 20000 in
theorem mt_533 : (Cond.code ⟨"MatchFloorModel", "<init>", "()V"⟩ prog_5_method_1_code 1 (Option.none : Option FieldType)) ∈ mf_tb := mf_in (i := 574) (by rfl) (by rfl)
set_option maxRecDepth 20000 in
theorem mt_534 : (Cond.methodLink "MatchFloorModel" 1 ⟨"java/lang/Object", "<init>", "()V"⟩) ∈ mf_tb := mf_in (i := 575) (by decide +kernel) (by decide +kernel)
set_option maxRecDepth 20000 in
theorem mt_535 : (Cond.fieldLink "MatchFloorModel" 44 "MatchFloorModel" "code" "I") ∈ mf_tb := mf_in (i := 576) (by decide +kernel) (by decide +kernel)
set_option maxRecDepth 20000 in
theorem mt_536 : (Cond.fieldLink "MatchFloorModel" 48 "MatchFloorModel" "kept" "I") ∈ mf_tb := mf_in (i := 577) (by decide +kernel) (by decide +kernel)
set_option maxRecDepth 20000 in
theorem mt_537 : (Cond.fieldLink "MatchFloorModel" 51 "MatchFloorModel" "clock" "I") ∈ mf_tb := mf_in (i := 578) (by decide +kernel) (by decide +kernel)
set_option maxRecDepth 20000 in
theorem mt_538 : (Cond.fieldLink "MatchFloorModel" 7 "MatchFloorModel" "id" "[I") ∈ mf_tb := mf_in (i := 579) (by decide +kernel) (by decide +kernel)
set_option maxRecDepth 20000 in
theorem mt_539 : (Cond.fieldLink "MatchFloorModel" 13 "MatchFloorModel" "owner" "[I") ∈ mf_tb := mf_in (i := 580) (by decide +kernel) (by decide +kernel)
set_option maxRecDepth 20000 in
theorem mt_540 : (Cond.fieldLink "MatchFloorModel" 16 "MatchFloorModel" "side" "[I") ∈ mf_tb := mf_in (i := 581) (by decide +kernel) (by decide +kernel)
set_option maxRecDepth 20000 in
theorem mt_541 : (Cond.fieldLink "MatchFloorModel" 19 "MatchFloorModel" "price" "[I") ∈ mf_tb := mf_in (i := 582) (by decide +kernel) (by decide +kernel)
set_option maxRecDepth 20000 in
theorem mt_542 : (Cond.fieldLink "MatchFloorModel" 22 "MatchFloorModel" "left" "[I") ∈ mf_tb := mf_in (i := 583) (by decide +kernel) (by decide +kernel)
set_option maxRecDepth 20000 in
theorem mt_543 : (Cond.fieldLink "MatchFloorModel" 25 "MatchFloorModel" "time" "[I") ∈ mf_tb := mf_in (i := 584) (by decide +kernel) (by decide +kernel)
set_option maxRecDepth 20000 in
theorem mt_544 : (Cond.fieldLink "MatchFloorModel" 28 "MatchFloorModel" "waits" "[Z") ∈ mf_tb := mf_in (i := 585) (by decide +kernel) (by decide +kernel)
set_option maxRecDepth 20000 in
theorem mt_545 : (Cond.fieldLink "MatchFloorModel" 58 "MatchFloorModel" "fills" "I") ∈ mf_tb := mf_in (i := 586) (by decide +kernel) (by decide +kernel)
set_option maxRecDepth 20000 in
theorem mt_546 : (Cond.fieldLink "MatchFloorModel" 32 "MatchFloorModel" "incoming" "[I") ∈ mf_tb := mf_in (i := 587) (by decide +kernel) (by decide +kernel)
set_option maxRecDepth 20000 in
theorem mt_547 : (Cond.fieldLink "MatchFloorModel" 35 "MatchFloorModel" "resting" "[I") ∈ mf_tb := mf_in (i := 588) (by decide +kernel) (by decide +kernel)
set_option maxRecDepth 20000 in
theorem mt_548 : (Cond.fieldLink "MatchFloorModel" 38 "MatchFloorModel" "paid" "[I") ∈ mf_tb := mf_in (i := 589) (by decide +kernel) (by decide +kernel)
set_option maxRecDepth 20000 in
theorem mt_549 : (Cond.fieldLink "MatchFloorModel" 41 "MatchFloorModel" "many" "[I") ∈ mf_tb := mf_in (i := 590) (by decide +kernel) (by decide +kernel)
set_option maxRecDepth 20000 in
theorem mt_550 : (Cond.fieldLink "MatchFloorModel" 61 "MatchFloorModel" "last" "I") ∈ mf_tb := mf_in (i := 591) (by decide +kernel) (by decide +kernel)
set_option maxRecDepth 20000 in
theorem mt_551 : (Cond.fieldLink "MatchFloorModel" 64 "MatchFloorModel" "turnover" "J") ∈ mf_tb := mf_in (i := 592) (by decide +kernel) (by decide +kernel)
set_option maxRecDepth 20000 in
theorem mt_552 : (Cond.fieldLink "MatchFloorModel" 68 "MatchFloorModel" "volume" "I") ∈ mf_tb := mf_in (i := 593) (by decide +kernel) (by decide +kernel)
set_option maxRecDepth 20000 in
theorem mt_553 : (Cond.fieldLink "MatchFloorModel" 98 "MatchFloorModel" "stops" "I") ∈ mf_tb := mf_in (i := 594) (by decide +kernel) (by decide +kernel)
set_option maxRecDepth 20000 in
theorem mt_554 : (Cond.fieldLink "MatchFloorModel" 83 "MatchFloorModel" "met" "I") ∈ mf_tb := mf_in (i := 595) (by decide +kernel) (by decide +kernel)
set_option maxRecDepth 20000 in
theorem mt_555 : (Cond.lays "MatchFloorModel" "MatchFloorModel" "code" "I") ∈ mf_tb := mf_in (i := 596) (by decide +kernel) (by decide +kernel)
set_option maxRecDepth 20000 in
theorem mt_557 : (Cond.lays "MatchFloorModel" "MatchFloorModel" "kept" "I") ∈ mf_tb := mf_in (i := 598) (by decide +kernel) (by decide +kernel)
set_option maxRecDepth 20000 in
theorem mt_559 : (Cond.lays "MatchFloorModel" "MatchFloorModel" "clock" "I") ∈ mf_tb := mf_in (i := 600) (by decide +kernel) (by decide +kernel)
set_option maxRecDepth 20000 in
theorem mt_561 : (Cond.laysFinal "MatchFloorModel" "MatchFloorModel" "id" "[I") ∈ mf_tb := mf_in (i := 602) (by decide +kernel) (by decide +kernel)
set_option maxRecDepth 20000 in
theorem mt_563 : (Cond.laysFinal "MatchFloorModel" "MatchFloorModel" "owner" "[I") ∈ mf_tb := mf_in (i := 604) (by decide +kernel) (by decide +kernel)
set_option maxRecDepth 20000 in
theorem mt_565 : (Cond.laysFinal "MatchFloorModel" "MatchFloorModel" "side" "[I") ∈ mf_tb := mf_in (i := 606) (by decide +kernel) (by decide +kernel)
set_option maxRecDepth 20000 in
theorem mt_567 : (Cond.laysFinal "MatchFloorModel" "MatchFloorModel" "price" "[I") ∈ mf_tb := mf_in (i := 608) (by decide +kernel) (by decide +kernel)
set_option maxRecDepth 20000 in
theorem mt_569 : (Cond.laysFinal "MatchFloorModel" "MatchFloorModel" "left" "[I") ∈ mf_tb := mf_in (i := 610) (by decide +kernel) (by decide +kernel)
set_option maxRecDepth 20000 in
theorem mt_571 : (Cond.laysFinal "MatchFloorModel" "MatchFloorModel" "time" "[I") ∈ mf_tb := mf_in (i := 612) (by decide +kernel) (by decide +kernel)
set_option maxRecDepth 20000 in
theorem mt_573 : (Cond.laysFinal "MatchFloorModel" "MatchFloorModel" "waits" "[Z") ∈ mf_tb := mf_in (i := 614) (by decide +kernel) (by decide +kernel)
set_option maxRecDepth 20000 in
theorem mt_575 : (Cond.lays "MatchFloorModel" "MatchFloorModel" "fills" "I") ∈ mf_tb := mf_in (i := 616) (by decide +kernel) (by decide +kernel)
set_option maxRecDepth 20000 in
theorem mt_577 : (Cond.laysFinal "MatchFloorModel" "MatchFloorModel" "incoming" "[I") ∈ mf_tb := mf_in (i := 618) (by decide +kernel) (by decide +kernel)
set_option maxRecDepth 20000 in
theorem mt_579 : (Cond.laysFinal "MatchFloorModel" "MatchFloorModel" "resting" "[I") ∈ mf_tb := mf_in (i := 620) (by decide +kernel) (by decide +kernel)
set_option maxRecDepth 20000 in
theorem mt_581 : (Cond.laysFinal "MatchFloorModel" "MatchFloorModel" "paid" "[I") ∈ mf_tb := mf_in (i := 622) (by decide +kernel) (by decide +kernel)
set_option maxRecDepth 20000 in
theorem mt_583 : (Cond.laysFinal "MatchFloorModel" "MatchFloorModel" "many" "[I") ∈ mf_tb := mf_in (i := 624) (by decide +kernel) (by decide +kernel)
set_option maxRecDepth 20000 in
theorem mt_585 : (Cond.lays "MatchFloorModel" "MatchFloorModel" "last" "I") ∈ mf_tb := mf_in (i := 626) (by decide +kernel) (by decide +kernel)
set_option maxRecDepth 20000 in
theorem mt_587 : (Cond.lays "MatchFloorModel" "MatchFloorModel" "turnover" "J") ∈ mf_tb := mf_in (i := 628) (by decide +kernel) (by decide +kernel)
set_option maxRecDepth 20000 in
theorem mt_589 : (Cond.lays "MatchFloorModel" "MatchFloorModel" "volume" "I") ∈ mf_tb := mf_in (i := 630) (by decide +kernel) (by decide +kernel)
set_option maxRecDepth 20000 in
theorem mt_591 : (Cond.lays "MatchFloorModel" "MatchFloorModel" "stops" "I") ∈ mf_tb := mf_in (i := 632) (by decide +kernel) (by decide +kernel)
set_option maxRecDepth 20000 in
theorem mt_593 : (Cond.lays "MatchFloorModel" "MatchFloorModel" "met" "I") ∈ mf_tb := mf_in (i := 634) (by decide +kernel) (by decide +kernel)
set_option maxRecDepth 20000 in
theorem mt_596 : (Cond.arrayClass FieldType.boolean) ∈ mf_tb := mf_in (i := 637) (by decide +kernel) (by decide +kernel)
set_option maxRecDepth 20000 in
theorem mt_597 : (Cond.methodLink "MatchFloorLaw" 58 ⟨"MatchFloorModel", "thrown", "()I"⟩) ∈ mf_tb := mf_in (i := 638) (by decide +kernel) (by decide +kernel)
set_option maxRecDepth 20000 in
theorem mt_598 : (Cond.instanceMethod ⟨"MatchFloorModel", "thrown", "()I"⟩) ∈ mf_tb := mf_in (i := 639) (by decide +kernel) (by decide +kernel)
set_option maxRecDepth 20000 in
theorem mt_599 : (Cond.selects "MatchFloorModel" ⟨"MatchFloorModel", "thrown", "()I"⟩ ⟨"MatchFloorModel", "thrown", "()I"⟩) ∈ mf_tb := mf_in (i := 640) (by decide +kernel) (by decide +kernel)
set_option maxRecDepth 20000 in
theorem mt_600 : (Cond.code ⟨"MatchFloorModel", "thrown", "()I"⟩ prog_5_method_2_code 1 (Option.some FieldType.int)) ∈ mf_tb := mf_in (i := 641) (by rfl) (by rfl)
set_option maxRecDepth 20000 in
theorem mt_601 : (Cond.methodLink "MatchFloorLaw" 57 ⟨"MatchFloorModel", "submit", "(IIII)I"⟩) ∈ mf_tb := mf_in (i := 642) (by decide +kernel) (by decide +kernel)
set_option maxRecDepth 20000 in
theorem mt_602 : (Cond.instanceMethod ⟨"MatchFloorModel", "submit", "(IIII)I"⟩) ∈ mf_tb := mf_in (i := 643) (by decide +kernel) (by decide +kernel)
set_option maxRecDepth 20000 in
theorem mt_603 : (Cond.selects "MatchFloorModel" ⟨"MatchFloorModel", "submit", "(IIII)I"⟩ ⟨"MatchFloorModel", "submit", "(IIII)I"⟩) ∈ mf_tb := mf_in (i := 644) (by decide +kernel) (by decide +kernel)
set_option maxRecDepth 20000 in
theorem mt_604 : (Cond.code ⟨"MatchFloorModel", "submit", "(IIII)I"⟩ prog_5_method_17_code 10 (Option.some FieldType.int)) ∈ mf_tb := mf_in (i := 645) (by rfl) (by rfl)
set_option maxRecDepth 20000 in
theorem mt_605 : (Cond.methodLink "MatchFloorModel" 109 ⟨"MatchFloorModel", "among", "(III)Z"⟩) ∈ mf_tb := mf_in (i := 646) (by decide +kernel) (by decide +kernel)
set_option maxRecDepth 20000 in
theorem mt_606 : (Cond.static ⟨"MatchFloorModel", "among", "(III)Z"⟩) ∈ mf_tb := mf_in (i := 647) (by decide +kernel) (by decide +kernel)
set_option maxRecDepth 20000 in
theorem mt_607 : (Cond.code ⟨"MatchFloorModel", "among", "(III)Z"⟩ prog_5_method_16_code 3 (Option.some FieldType.boolean)) ∈ mf_tb := mf_in (i := 648) (by rfl) (by rfl)
set_option maxRecDepth 20000 in
theorem mt_608 : (Cond.constant "MatchFloorModel" 112 (1000000 : Int32)) ∈ mf_tb := mf_in (i := 649) (by decide +kernel) (by decide +kernel)
set_option maxRecDepth 20000 in
theorem mt_609 : (Cond.methodLink "MatchFloorModel" 113 ⟨"MatchFloorModel", "find", "(I)I"⟩) ∈ mf_tb := mf_in (i := 650) (by decide +kernel) (by decide +kernel)
set_option maxRecDepth 20000 in
theorem mt_611 : (Cond.instanceMethod ⟨"MatchFloorModel", "find", "(I)I"⟩) ∈ mf_tb := mf_in (i := 652) (by decide +kernel) (by decide +kernel)
set_option maxRecDepth 20000 in
theorem mt_612 : (Cond.code ⟨"MatchFloorModel", "find", "(I)I"⟩ prog_5_method_3_code 4 (Option.some FieldType.int)) ∈ mf_tb := mf_in (i := 653) (by rfl) (by rfl)
set_option maxRecDepth 20000 in
theorem mt_613 : (Cond.methodLink "MatchFloorModel" 116 ⟨"MatchFloorModel", "refused", "(IIIII)Z"⟩) ∈ mf_tb := mf_in (i := 654) (by decide +kernel) (by decide +kernel)
set_option maxRecDepth 20000 in
theorem mt_615 : (Cond.instanceMethod ⟨"MatchFloorModel", "refused", "(IIIII)Z"⟩) ∈ mf_tb := mf_in (i := 656) (by decide +kernel) (by decide +kernel)
set_option maxRecDepth 20000 in
theorem mt_616 : (Cond.code ⟨"MatchFloorModel", "refused", "(IIIII)Z"⟩ prog_5_method_15_code 7 (Option.some FieldType.boolean)) ∈ mf_tb := mf_in (i := 657) (by rfl) (by rfl)
set_option maxRecDepth 20000 in
theorem mt_617 : (Cond.methodLink "MatchFloorModel" 105 ⟨"MatchFloorModel", "within", "(III)I"⟩) ∈ mf_tb := mf_in (i := 658) (by decide +kernel) (by decide +kernel)
set_option maxRecDepth 20000 in
theorem mt_619 : (Cond.instanceMethod ⟨"MatchFloorModel", "within", "(III)I"⟩) ∈ mf_tb := mf_in (i := 660) (by decide +kernel) (by decide +kernel)
set_option maxRecDepth 20000 in
theorem mt_620 : (Cond.code ⟨"MatchFloorModel", "within", "(III)I"⟩ prog_5_method_14_code 7 (Option.some FieldType.int)) ∈ mf_tb := mf_in (i := 661) (by rfl) (by rfl)
set_option maxRecDepth 20000 in
theorem mt_621 : (Cond.methodLink "MatchFloorModel" 75 ⟨"MatchFloorModel", "fits", "(III)Z"⟩) ∈ mf_tb := mf_in (i := 662) (by decide +kernel) (by decide +kernel)
set_option maxRecDepth 20000 in
theorem mt_623 : (Cond.instanceMethod ⟨"MatchFloorModel", "fits", "(III)Z"⟩) ∈ mf_tb := mf_in (i := 664) (by decide +kernel) (by decide +kernel)
set_option maxRecDepth 20000 in
theorem mt_624 : (Cond.code ⟨"MatchFloorModel", "fits", "(III)Z"⟩ prog_5_method_8_code 4 (Option.some FieldType.boolean)) ∈ mf_tb := mf_in (i := 665) (by rfl) (by rfl)
set_option maxRecDepth 20000 in
theorem mt_625 : (Cond.methodLink "MatchFloorModel" 71 ⟨"MatchFloorModel", "first", "(I)I"⟩) ∈ mf_tb := mf_in (i := 666) (by decide +kernel) (by decide +kernel)
set_option maxRecDepth 20000 in
theorem mt_627 : (Cond.instanceMethod ⟨"MatchFloorModel", "first", "(I)I"⟩) ∈ mf_tb := mf_in (i := 668) (by decide +kernel) (by decide +kernel)
set_option maxRecDepth 20000 in
theorem mt_628 : (Cond.code ⟨"MatchFloorModel", "first", "(I)I"⟩ prog_5_method_7_code 5 (Option.some FieldType.int)) ∈ mf_tb := mf_in (i := 669) (by rfl) (by rfl)
set_option maxRecDepth 20000 in
theorem mt_629 : (Cond.methodLink "MatchFloorModel" 54 ⟨"MatchFloorModel", "comesBefore", "(II)Z"⟩) ∈ mf_tb := mf_in (i := 670) (by decide +kernel) (by decide +kernel)
set_option maxRecDepth 20000 in
theorem mt_631 : (Cond.instanceMethod ⟨"MatchFloorModel", "comesBefore", "(II)Z"⟩) ∈ mf_tb := mf_in (i := 672) (by decide +kernel) (by decide +kernel)
set_option maxRecDepth 20000 in
theorem mt_632 : (Cond.code ⟨"MatchFloorModel", "comesBefore", "(II)Z"⟩ prog_5_method_6_code 3 (Option.some FieldType.boolean)) ∈ mf_tb := mf_in (i := 673) (by rfl) (by rfl)
set_option maxRecDepth 20000 in
theorem mt_633 : (Cond.methodLink "MatchFloorModel" 101 ⟨"MatchFloorModel", "match", "(IIIII)I"⟩) ∈ mf_tb := mf_in (i := 674) (by decide +kernel) (by decide +kernel)
set_option maxRecDepth 20000 in
theorem mt_635 : (Cond.instanceMethod ⟨"MatchFloorModel", "match", "(IIIII)I"⟩) ∈ mf_tb := mf_in (i := 676) (by decide +kernel) (by decide +kernel)
set_option maxRecDepth 20000 in
theorem mt_636 : (Cond.code ⟨"MatchFloorModel", "match", "(IIIII)I"⟩ prog_5_method_10_code 9 (Option.some FieldType.int)) ∈ mf_tb := mf_in (i := 677) (by rfl) (by rfl)
set_option maxRecDepth 20000 in
theorem mt_637 : (Cond.methodLink "MatchFloorModel" 79 ⟨"MatchFloorModel", "drop", "(I)V"⟩) ∈ mf_tb := mf_in (i := 678) (by decide +kernel) (by decide +kernel)
set_option maxRecDepth 20000 in
theorem mt_639 : (Cond.instanceMethod ⟨"MatchFloorModel", "drop", "(I)V"⟩) ∈ mf_tb := mf_in (i := 680) (by decide +kernel) (by decide +kernel)
set_option maxRecDepth 20000 in
theorem mt_640 : (Cond.code ⟨"MatchFloorModel", "drop", "(I)V"⟩ prog_5_method_5_code 2 (Option.none : Option FieldType)) ∈ mf_tb := mf_in (i := 681) (by rfl) (by rfl)
set_option maxRecDepth 20000 in
theorem mt_641 : (Cond.methodLink "MatchFloorModel" 86 ⟨"MatchFloorModel", "tell", "(III)V"⟩) ∈ mf_tb := mf_in (i := 682) (by decide +kernel) (by decide +kernel)
set_option maxRecDepth 20000 in
theorem mt_643 : (Cond.instanceMethod ⟨"MatchFloorModel", "tell", "(III)V"⟩) ∈ mf_tb := mf_in (i := 684) (by decide +kernel) (by decide +kernel)
set_option maxRecDepth 20000 in
theorem mt_644 : (Cond.code ⟨"MatchFloorModel", "tell", "(III)V"⟩ prog_5_method_9_code 5 (Option.none : Option FieldType)) ∈ mf_tb := mf_in (i := 685) (by rfl) (by rfl)
set_option maxRecDepth 20000 in
theorem mt_645 : (Cond.methodLink "MatchFloorModel" 120 ⟨"MatchFloorModel", "keep", "(IIIII)V"⟩) ∈ mf_tb := mf_in (i := 686) (by decide +kernel) (by decide +kernel)
set_option maxRecDepth 20000 in
theorem mt_647 : (Cond.instanceMethod ⟨"MatchFloorModel", "keep", "(IIIII)V"⟩) ∈ mf_tb := mf_in (i := 688) (by decide +kernel) (by decide +kernel)
set_option maxRecDepth 20000 in
theorem mt_648 : (Cond.code ⟨"MatchFloorModel", "keep", "(IIIII)V"⟩ prog_5_method_4_code 6 (Option.none : Option FieldType)) ∈ mf_tb := mf_in (i := 689) (by rfl) (by rfl)
set_option maxRecDepth 20000 in
theorem mt_649 : (Cond.methodLink "MatchFloorModel" 124 ⟨"MatchFloorModel", "runStops", "()V"⟩) ∈ mf_tb := mf_in (i := 690) (by decide +kernel) (by decide +kernel)
set_option maxRecDepth 20000 in
theorem mt_651 : (Cond.instanceMethod ⟨"MatchFloorModel", "runStops", "()V"⟩) ∈ mf_tb := mf_in (i := 692) (by decide +kernel) (by decide +kernel)
set_option maxRecDepth 20000 in
theorem mt_652 : (Cond.code ⟨"MatchFloorModel", "runStops", "()V"⟩ prog_5_method_13_code 6 (Option.none : Option FieldType)) ∈ mf_tb := mf_in (i := 693) (by rfl) (by rfl)
set_option maxRecDepth 20000 in
theorem mt_653 : (Cond.methodLink "MatchFloorModel" 94 ⟨"MatchFloorModel", "earliestDue", "()I"⟩) ∈ mf_tb := mf_in (i := 694) (by decide +kernel) (by decide +kernel)
set_option maxRecDepth 20000 in
theorem mt_655 : (Cond.instanceMethod ⟨"MatchFloorModel", "earliestDue", "()I"⟩) ∈ mf_tb := mf_in (i := 696) (by decide +kernel) (by decide +kernel)
set_option maxRecDepth 20000 in
theorem mt_656 : (Cond.code ⟨"MatchFloorModel", "earliestDue", "()I"⟩ prog_5_method_12_code 3 (Option.some FieldType.int)) ∈ mf_tb := mf_in (i := 697) (by rfl) (by rfl)
set_option maxRecDepth 20000 in
theorem mt_657 : (Cond.methodLink "MatchFloorModel" 90 ⟨"MatchFloorModel", "isDue", "(I)Z"⟩) ∈ mf_tb := mf_in (i := 698) (by decide +kernel) (by decide +kernel)
set_option maxRecDepth 20000 in
theorem mt_659 : (Cond.instanceMethod ⟨"MatchFloorModel", "isDue", "(I)Z"⟩) ∈ mf_tb := mf_in (i := 700) (by decide +kernel) (by decide +kernel)
set_option maxRecDepth 20000 in
theorem mt_660 : (Cond.code ⟨"MatchFloorModel", "isDue", "(I)Z"⟩ prog_5_method_11_code 2 (Option.some FieldType.boolean)) ∈ mf_tb := mf_in (i := 701) (by rfl) (by rfl)
set_option maxRecDepth 20000 in
theorem mt_661 : (Cond.methodLink "MatchFloorLaw" 65 ⟨"MatchFloorModel", "cancel", "(I)I"⟩) ∈ mf_tb := mf_in (i := 702) (by decide +kernel) (by decide +kernel)
set_option maxRecDepth 20000 in
theorem mt_662 : (Cond.instanceMethod ⟨"MatchFloorModel", "cancel", "(I)I"⟩) ∈ mf_tb := mf_in (i := 703) (by decide +kernel) (by decide +kernel)
set_option maxRecDepth 20000 in
theorem mt_663 : (Cond.selects "MatchFloorModel" ⟨"MatchFloorModel", "cancel", "(I)I"⟩ ⟨"MatchFloorModel", "cancel", "(I)I"⟩) ∈ mf_tb := mf_in (i := 704) (by decide +kernel) (by decide +kernel)
set_option maxRecDepth 20000 in
theorem mt_664 : (Cond.code ⟨"MatchFloorModel", "cancel", "(I)I"⟩ prog_5_method_18_code 4 (Option.some FieldType.int)) ∈ mf_tb := mf_in (i := 705) (by rfl) (by rfl)
set_option maxRecDepth 20000 in
theorem mt_665 : (Cond.methodLink "MatchFloorLaw" 69 ⟨"MatchFloorModel", "amend", "(III)I"⟩) ∈ mf_tb := mf_in (i := 706) (by decide +kernel) (by decide +kernel)
set_option maxRecDepth 20000 in
theorem mt_666 : (Cond.instanceMethod ⟨"MatchFloorModel", "amend", "(III)I"⟩) ∈ mf_tb := mf_in (i := 707) (by decide +kernel) (by decide +kernel)
set_option maxRecDepth 20000 in
theorem mt_667 : (Cond.selects "MatchFloorModel" ⟨"MatchFloorModel", "amend", "(III)I"⟩ ⟨"MatchFloorModel", "amend", "(III)I"⟩) ∈ mf_tb := mf_in (i := 708) (by decide +kernel) (by decide +kernel)
set_option maxRecDepth 20000 in
theorem mt_668 : (Cond.code ⟨"MatchFloorModel", "amend", "(III)I"⟩ prog_5_method_19_code 10 (Option.some FieldType.int)) ∈ mf_tb := mf_in (i := 709) (by rfl) (by rfl)
set_option maxRecDepth 20000 in
theorem mt_669 : (Cond.methodLink "MatchFloorLaw" 72 ⟨"MatchFloorModel", "withdraw", "(I)I"⟩) ∈ mf_tb := mf_in (i := 710) (by decide +kernel) (by decide +kernel)
set_option maxRecDepth 20000 in
theorem mt_670 : (Cond.instanceMethod ⟨"MatchFloorModel", "withdraw", "(I)I"⟩) ∈ mf_tb := mf_in (i := 711) (by decide +kernel) (by decide +kernel)
set_option maxRecDepth 20000 in
theorem mt_671 : (Cond.selects "MatchFloorModel" ⟨"MatchFloorModel", "withdraw", "(I)I"⟩ ⟨"MatchFloorModel", "withdraw", "(I)I"⟩) ∈ mf_tb := mf_in (i := 712) (by decide +kernel) (by decide +kernel)
set_option maxRecDepth 20000 in
theorem mt_672 : (Cond.code ⟨"MatchFloorModel", "withdraw", "(I)I"⟩ prog_5_method_20_code 4 (Option.some FieldType.int)) ∈ mf_tb := mf_in (i := 713) (by rfl) (by rfl)
set_option maxRecDepth 20000 in
theorem mt_673 : (Cond.methodLink "MatchFloorLaw" 75 ⟨"MatchFloorModel", "levels", "(I)I"⟩) ∈ mf_tb := mf_in (i := 714) (by decide +kernel) (by decide +kernel)
set_option maxRecDepth 20000 in
theorem mt_674 : (Cond.instanceMethod ⟨"MatchFloorModel", "levels", "(I)I"⟩) ∈ mf_tb := mf_in (i := 715) (by decide +kernel) (by decide +kernel)
set_option maxRecDepth 20000 in
theorem mt_675 : (Cond.selects "MatchFloorModel" ⟨"MatchFloorModel", "levels", "(I)I"⟩ ⟨"MatchFloorModel", "levels", "(I)I"⟩) ∈ mf_tb := mf_in (i := 716) (by decide +kernel) (by decide +kernel)
set_option maxRecDepth 20000 in
theorem mt_676 : (Cond.code ⟨"MatchFloorModel", "levels", "(I)I"⟩ prog_5_method_22_code 4 (Option.some FieldType.int)) ∈ mf_tb := mf_in (i := 717) (by rfl) (by rfl)
set_option maxRecDepth 20000 in
theorem mt_677 : (Cond.methodLink "MatchFloorModel" 127 ⟨"MatchFloorModel", "nextPrice", "(II)I"⟩) ∈ mf_tb := mf_in (i := 718) (by decide +kernel) (by decide +kernel)
set_option maxRecDepth 20000 in
theorem mt_679 : (Cond.instanceMethod ⟨"MatchFloorModel", "nextPrice", "(II)I"⟩) ∈ mf_tb := mf_in (i := 720) (by decide +kernel) (by decide +kernel)
set_option maxRecDepth 20000 in
theorem mt_680 : (Cond.code ⟨"MatchFloorModel", "nextPrice", "(II)I"⟩ prog_5_method_21_code 6 (Option.some FieldType.int)) ∈ mf_tb := mf_in (i := 721) (by rfl) (by rfl)
set_option maxRecDepth 20000 in
theorem mt_681 : (Cond.methodLink "MatchFloorLaw" 78 ⟨"MatchFloorModel", "level", "(III)I"⟩) ∈ mf_tb := mf_in (i := 722) (by decide +kernel) (by decide +kernel)
set_option maxRecDepth 20000 in
theorem mt_682 : (Cond.instanceMethod ⟨"MatchFloorModel", "level", "(III)I"⟩) ∈ mf_tb := mf_in (i := 723) (by decide +kernel) (by decide +kernel)
set_option maxRecDepth 20000 in
theorem mt_683 : (Cond.selects "MatchFloorModel" ⟨"MatchFloorModel", "level", "(III)I"⟩ ⟨"MatchFloorModel", "level", "(III)I"⟩) ∈ mf_tb := mf_in (i := 724) (by decide +kernel) (by decide +kernel)
set_option maxRecDepth 20000 in
theorem mt_684 : (Cond.code ⟨"MatchFloorModel", "level", "(III)I"⟩ prog_5_method_23_code 9 (Option.some FieldType.int)) ∈ mf_tb := mf_in (i := 725) (by rfl) (by rfl)
set_option maxRecDepth 20000 in
theorem mt_685 : (Cond.methodLink "MatchFloorLaw" 82 ⟨"MatchFloorModel", "order", "(II)I"⟩) ∈ mf_tb := mf_in (i := 726) (by decide +kernel) (by decide +kernel)
set_option maxRecDepth 20000 in
theorem mt_686 : (Cond.instanceMethod ⟨"MatchFloorModel", "order", "(II)I"⟩) ∈ mf_tb := mf_in (i := 727) (by decide +kernel) (by decide +kernel)
set_option maxRecDepth 20000 in
theorem mt_687 : (Cond.selects "MatchFloorModel" ⟨"MatchFloorModel", "order", "(II)I"⟩ ⟨"MatchFloorModel", "order", "(II)I"⟩) ∈ mf_tb := mf_in (i := 728) (by decide +kernel) (by decide +kernel)
set_option maxRecDepth 20000 in
theorem mt_688 : (Cond.code ⟨"MatchFloorModel", "order", "(II)I"⟩ prog_5_method_24_code 7 (Option.some FieldType.int)) ∈ mf_tb := mf_in (i := 729) (by rfl) (by rfl)
set_option maxRecDepth 20000 in
theorem mt_689 : (Cond.methodLink "MatchFloorLaw" 85 ⟨"MatchFloorModel", "fill", "(II)I"⟩) ∈ mf_tb := mf_in (i := 730) (by decide +kernel) (by decide +kernel)
set_option maxRecDepth 20000 in
theorem mt_690 : (Cond.instanceMethod ⟨"MatchFloorModel", "fill", "(II)I"⟩) ∈ mf_tb := mf_in (i := 731) (by decide +kernel) (by decide +kernel)
set_option maxRecDepth 20000 in
theorem mt_691 : (Cond.selects "MatchFloorModel" ⟨"MatchFloorModel", "fill", "(II)I"⟩ ⟨"MatchFloorModel", "fill", "(II)I"⟩) ∈ mf_tb := mf_in (i := 732) (by decide +kernel) (by decide +kernel)
set_option maxRecDepth 20000 in
theorem mt_692 : (Cond.code ⟨"MatchFloorModel", "fill", "(II)I"⟩ prog_5_method_25_code 4 (Option.some FieldType.int)) ∈ mf_tb := mf_in (i := 733) (by rfl) (by rfl)
set_option maxRecDepth 20000 in
theorem mt_693 : (Cond.methodLink "MatchFloorLaw" 89 ⟨"MatchFloorModel", "fills", "()I"⟩) ∈ mf_tb := mf_in (i := 734) (by decide +kernel) (by decide +kernel)
set_option maxRecDepth 20000 in
theorem mt_694 : (Cond.instanceMethod ⟨"MatchFloorModel", "fills", "()I"⟩) ∈ mf_tb := mf_in (i := 735) (by decide +kernel) (by decide +kernel)
set_option maxRecDepth 20000 in
theorem mt_695 : (Cond.selects "MatchFloorModel" ⟨"MatchFloorModel", "fills", "()I"⟩ ⟨"MatchFloorModel", "fills", "()I"⟩) ∈ mf_tb := mf_in (i := 736) (by decide +kernel) (by decide +kernel)
set_option maxRecDepth 20000 in
theorem mt_696 : (Cond.code ⟨"MatchFloorModel", "fills", "()I"⟩ prog_5_method_26_code 1 (Option.some FieldType.int)) ∈ mf_tb := mf_in (i := 737) (by rfl) (by rfl)
set_option maxRecDepth 20000 in
theorem mt_697 : (Cond.methodLink "MatchFloorLaw" 93 ⟨"MatchFloorModel", "last", "()I"⟩) ∈ mf_tb := mf_in (i := 738) (by decide +kernel) (by decide +kernel)
set_option maxRecDepth 20000 in
theorem mt_698 : (Cond.instanceMethod ⟨"MatchFloorModel", "last", "()I"⟩) ∈ mf_tb := mf_in (i := 739) (by decide +kernel) (by decide +kernel)
set_option maxRecDepth 20000 in
theorem mt_699 : (Cond.selects "MatchFloorModel" ⟨"MatchFloorModel", "last", "()I"⟩ ⟨"MatchFloorModel", "last", "()I"⟩) ∈ mf_tb := mf_in (i := 740) (by decide +kernel) (by decide +kernel)
set_option maxRecDepth 20000 in
theorem mt_700 : (Cond.code ⟨"MatchFloorModel", "last", "()I"⟩ prog_5_method_27_code 1 (Option.some FieldType.int)) ∈ mf_tb := mf_in (i := 741) (by rfl) (by rfl)
set_option maxRecDepth 20000 in
theorem mt_701 : (Cond.methodLink "MatchFloorLaw" 98 ⟨"MatchFloorModel", "turnover", "()J"⟩) ∈ mf_tb := mf_in (i := 742) (by decide +kernel) (by decide +kernel)
set_option maxRecDepth 20000 in
theorem mt_702 : (Cond.instanceMethod ⟨"MatchFloorModel", "turnover", "()J"⟩) ∈ mf_tb := mf_in (i := 743) (by decide +kernel) (by decide +kernel)
set_option maxRecDepth 20000 in
theorem mt_703 : (Cond.selects "MatchFloorModel" ⟨"MatchFloorModel", "turnover", "()J"⟩ ⟨"MatchFloorModel", "turnover", "()J"⟩) ∈ mf_tb := mf_in (i := 744) (by decide +kernel) (by decide +kernel)
set_option maxRecDepth 20000 in
theorem mt_704 : (Cond.code ⟨"MatchFloorModel", "turnover", "()J"⟩ prog_5_method_28_code 1 (Option.some FieldType.long)) ∈ mf_tb := mf_in (i := 745) (by rfl) (by rfl)
set_option maxRecDepth 20000 in
theorem mt_705 : (Cond.methodLink "MatchFloorLaw" 101 ⟨"MatchFloorModel", "figure", "(I)I"⟩) ∈ mf_tb := mf_in (i := 746) (by decide +kernel) (by decide +kernel)
set_option maxRecDepth 20000 in
theorem mt_706 : (Cond.instanceMethod ⟨"MatchFloorModel", "figure", "(I)I"⟩) ∈ mf_tb := mf_in (i := 747) (by decide +kernel) (by decide +kernel)
set_option maxRecDepth 20000 in
theorem mt_707 : (Cond.selects "MatchFloorModel" ⟨"MatchFloorModel", "figure", "(I)I"⟩ ⟨"MatchFloorModel", "figure", "(I)I"⟩) ∈ mf_tb := mf_in (i := 748) (by decide +kernel) (by decide +kernel)
set_option maxRecDepth 20000 in
theorem mt_708 : (Cond.code ⟨"MatchFloorModel", "figure", "(I)I"⟩ prog_5_method_29_code 4 (Option.some FieldType.int)) ∈ mf_tb := mf_in (i := 749) (by rfl) (by rfl)
set_option maxRecDepth 20000 in
theorem mt_709 : (Cond.arrayClass FieldType.long) ∈ mf_tb := mf_in (i := 750) (by decide +kernel) (by decide +kernel)
set_option maxRecDepth 20000 in
theorem mt_713 : (Cond.selects "[Ljava/lang/Object;" ⟨"java/lang/Object", "getClass", "()Ljava/lang/Class;"⟩ ⟨"java/lang/Object", "getClass", "()Ljava/lang/Class;"⟩) ∈ mf_tb := mf_in (i := 754) (by decide +kernel) (by decide +kernel)
set_option maxRecDepth 20000 in
theorem ms_0 : Cond.selects "java/lang/Throwable" ⟨"java/lang/Throwable", "fillInStackTrace", "(I)Ljava/lang/Throwable;"⟩ ⟨"java/lang/Throwable", "fillInStackTrace", "(I)Ljava/lang/Throwable;"⟩ ∈ mf_tb := mf_in (i := 0) (by decide +kernel) (by decide +kernel)
set_option maxRecDepth 20000 in
theorem ms_1 : Cond.selects "MatchFloor" ⟨"MatchFloor", "placeOf", "(I)I"⟩ ⟨"MatchFloor", "placeOf", "(I)I"⟩ ∈ mf_tb := mf_in (i := 1) (by decide +kernel) (by decide +kernel)
set_option maxRecDepth 20000 in
theorem ms_2 : Cond.selects "MatchFloor" ⟨"MatchFloor", "isRefused", "(LMatchFloor$Order;I)Z"⟩ ⟨"MatchFloor", "isRefused", "(LMatchFloor$Order;I)Z"⟩ ∈ mf_tb := mf_in (i := 2) (by decide +kernel) (by decide +kernel)
set_option maxRecDepth 20000 in
theorem ms_3 : Cond.selects "MatchFloor" ⟨"MatchFloor", "leftFor", "(LMatchFloor$Order;)I"⟩ ⟨"MatchFloor", "leftFor", "(LMatchFloor$Order;)I"⟩ ∈ mf_tb := mf_in (i := 3) (by decide +kernel) (by decide +kernel)
set_option maxRecDepth 20000 in
theorem ms_4 : Cond.selects "MatchFloor$Order" ⟨"MatchFloor$Order", "restsOn", "(I)Z"⟩ ⟨"MatchFloor$Order", "restsOn", "(I)Z"⟩ ∈ mf_tb := mf_in (i := 4) (by decide +kernel) (by decide +kernel)
set_option maxRecDepth 20000 in
theorem ms_5 : Cond.selects "MatchFloor$Order" ⟨"MatchFloor$Order", "isFitBy", "(I)Z"⟩ ⟨"MatchFloor$Order", "isFitBy", "(I)Z"⟩ ∈ mf_tb := mf_in (i := 5) (by decide +kernel) (by decide +kernel)
set_option maxRecDepth 20000 in
theorem ms_6 : Cond.selects "MatchFloor" ⟨"MatchFloor", "placeOfFirst", "(I)I"⟩ ⟨"MatchFloor", "placeOfFirst", "(I)I"⟩ ∈ mf_tb := mf_in (i := 6) (by decide +kernel) (by decide +kernel)
set_option maxRecDepth 20000 in
theorem ms_7 : Cond.selects "MatchFloor" ⟨"MatchFloor", "comeIn", "(LMatchFloor$Order;I)I"⟩ ⟨"MatchFloor", "comeIn", "(LMatchFloor$Order;I)I"⟩ ∈ mf_tb := mf_in (i := 7) (by decide +kernel) (by decide +kernel)
set_option maxRecDepth 20000 in
theorem ms_8 : Cond.selects "MatchFloor" ⟨"MatchFloor", "match", "(LMatchFloor$Order;I)V"⟩ ⟨"MatchFloor", "match", "(LMatchFloor$Order;I)V"⟩ ∈ mf_tb := mf_in (i := 8) (by decide +kernel) (by decide +kernel)
set_option maxRecDepth 20000 in
theorem ms_9 : Cond.selects "MatchFloor" ⟨"MatchFloor", "meet", "(LMatchFloor$Order;I)V"⟩ ⟨"MatchFloor", "meet", "(LMatchFloor$Order;I)V"⟩ ∈ mf_tb := mf_in (i := 9) (by decide +kernel) (by decide +kernel)
set_option maxRecDepth 20000 in
theorem ms_10 : Cond.selects "java/util/ArrayList" ⟨"java/util/ArrayList", "fastRemove", "([Ljava/lang/Object;I)V"⟩ ⟨"java/util/ArrayList", "fastRemove", "([Ljava/lang/Object;I)V"⟩ ∈ mf_tb := mf_in (i := 10) (by decide +kernel) (by decide +kernel)
set_option maxRecDepth 20000 in
theorem ms_11 : Cond.selects "MatchFloor$Tape" ⟨"MatchFloor$Tape", "write", "(IIII)V"⟩ ⟨"MatchFloor$Tape", "write", "(IIII)V"⟩ ∈ mf_tb := mf_in (i := 11) (by decide +kernel) (by decide +kernel)
set_option maxRecDepth 20000 in
theorem ms_12 : Cond.selects "java/util/ArrayList" ⟨"java/util/ArrayList", "add", "(Ljava/lang/Object;[Ljava/lang/Object;I)V"⟩ ⟨"java/util/ArrayList", "add", "(Ljava/lang/Object;[Ljava/lang/Object;I)V"⟩ ∈ mf_tb := mf_in (i := 12) (by decide +kernel) (by decide +kernel)
set_option maxRecDepth 20000 in
theorem ms_13 : Cond.selects "java/util/ArrayList" ⟨"java/util/ArrayList", "grow", "()[Ljava/lang/Object;"⟩ ⟨"java/util/ArrayList", "grow", "()[Ljava/lang/Object;"⟩ ∈ mf_tb := mf_in (i := 13) (by decide +kernel) (by decide +kernel)
set_option maxRecDepth 20000 in
theorem ms_14 : Cond.selects "java/util/ArrayList" ⟨"java/util/ArrayList", "grow", "(I)[Ljava/lang/Object;"⟩ ⟨"java/util/ArrayList", "grow", "(I)[Ljava/lang/Object;"⟩ ∈ mf_tb := mf_in (i := 14) (by decide +kernel) (by decide +kernel)
set_option maxRecDepth 20000 in
theorem ms_15 : Cond.selects "MatchFloor" ⟨"MatchFloor", "matchDueStops", "()V"⟩ ⟨"MatchFloor", "matchDueStops", "()V"⟩ ∈ mf_tb := mf_in (i := 15) (by decide +kernel) (by decide +kernel)
set_option maxRecDepth 20000 in
theorem ms_16 : Cond.selects "MatchFloor" ⟨"MatchFloor", "placeOfDue", "()I"⟩ ⟨"MatchFloor", "placeOfDue", "()I"⟩ ∈ mf_tb := mf_in (i := 16) (by decide +kernel) (by decide +kernel)
set_option maxRecDepth 20000 in
theorem ms_17 : Cond.selects "MatchFloor$Order" ⟨"MatchFloor$Order", "isDueAt", "(I)Z"⟩ ⟨"MatchFloor$Order", "isDueAt", "(I)Z"⟩ ∈ mf_tb := mf_in (i := 17) (by decide +kernel) (by decide +kernel)
set_option maxRecDepth 20000 in
theorem ms_18 : Cond.selects "MatchFloor" ⟨"MatchFloor", "countLevels", "(I)I"⟩ ⟨"MatchFloor", "countLevels", "(I)I"⟩ ∈ mf_tb := mf_in (i := 18) (by decide +kernel) (by decide +kernel)
set_option maxRecDepth 20000 in
theorem ms_19 : Cond.selects "MatchFloor" ⟨"MatchFloor", "nextPrice", "(II)I"⟩ ⟨"MatchFloor", "nextPrice", "(II)I"⟩ ∈ mf_tb := mf_in (i := 19) (by decide +kernel) (by decide +kernel)
set_option maxRecDepth 20000 in
theorem ms_20 : Cond.selects "MatchFloor" ⟨"MatchFloor", "priceOfLevel", "(II)I"⟩ ⟨"MatchFloor", "priceOfLevel", "(II)I"⟩ ∈ mf_tb := mf_in (i := 20) (by decide +kernel) (by decide +kernel)
set_option maxRecDepth 20000 in
theorem ms_21 : Cond.selects "MatchFloor" ⟨"MatchFloor", "leftAt", "(II)I"⟩ ⟨"MatchFloor", "leftAt", "(II)I"⟩ ∈ mf_tb := mf_in (i := 21) (by decide +kernel) (by decide +kernel)
set_option maxRecDepth 20000 in
theorem ms_22 : Cond.selects "MatchFloor" ⟨"MatchFloor", "ordersAt", "(II)I"⟩ ⟨"MatchFloor", "ordersAt", "(II)I"⟩ ∈ mf_tb := mf_in (i := 22) (by decide +kernel) (by decide +kernel)
set_option maxRecDepth 20000 in
theorem ms_23 : Cond.selects "MatchFloor" ⟨"MatchFloor", "ordersBefore", "(I)I"⟩ ⟨"MatchFloor", "ordersBefore", "(I)I"⟩ ∈ mf_tb := mf_in (i := 23) (by decide +kernel) (by decide +kernel)
set_option maxRecDepth 20000 in
theorem ms_24 : Cond.selects "MatchFloor$Order" ⟨"MatchFloor$Order", "queuesWith", "(LMatchFloor$Order;)Z"⟩ ⟨"MatchFloor$Order", "queuesWith", "(LMatchFloor$Order;)Z"⟩ ∈ mf_tb := mf_in (i := 24) (by decide +kernel) (by decide +kernel)
set_option maxRecDepth 20000 in
theorem ms_25 : Cond.selects "MatchFloor$Tape" ⟨"MatchFloor$Tape", "read", "(II)I"⟩ ⟨"MatchFloor$Tape", "read", "(II)I"⟩ ∈ mf_tb := mf_in (i := 25) (by decide +kernel) (by decide +kernel)
set_option maxRecDepth 20000 in
theorem ms_26 : Cond.selects "MatchFloor" ⟨"MatchFloor", "countWaiting", "()I"⟩ ⟨"MatchFloor", "countWaiting", "()I"⟩ ∈ mf_tb := mf_in (i := 26) (by decide +kernel) (by decide +kernel)
set_option maxRecDepth 20000 in
theorem ms_27 : Cond.selects "MatchFloorModel" ⟨"MatchFloorModel", "find", "(I)I"⟩ ⟨"MatchFloorModel", "find", "(I)I"⟩ ∈ mf_tb := mf_in (i := 27) (by decide +kernel) (by decide +kernel)
set_option maxRecDepth 20000 in
theorem ms_28 : Cond.selects "MatchFloorModel" ⟨"MatchFloorModel", "refused", "(IIIII)Z"⟩ ⟨"MatchFloorModel", "refused", "(IIIII)Z"⟩ ∈ mf_tb := mf_in (i := 28) (by decide +kernel) (by decide +kernel)
set_option maxRecDepth 20000 in
theorem ms_29 : Cond.selects "MatchFloorModel" ⟨"MatchFloorModel", "within", "(III)I"⟩ ⟨"MatchFloorModel", "within", "(III)I"⟩ ∈ mf_tb := mf_in (i := 29) (by decide +kernel) (by decide +kernel)
set_option maxRecDepth 20000 in
theorem ms_30 : Cond.selects "MatchFloorModel" ⟨"MatchFloorModel", "fits", "(III)Z"⟩ ⟨"MatchFloorModel", "fits", "(III)Z"⟩ ∈ mf_tb := mf_in (i := 30) (by decide +kernel) (by decide +kernel)
set_option maxRecDepth 20000 in
theorem ms_31 : Cond.selects "MatchFloorModel" ⟨"MatchFloorModel", "first", "(I)I"⟩ ⟨"MatchFloorModel", "first", "(I)I"⟩ ∈ mf_tb := mf_in (i := 31) (by decide +kernel) (by decide +kernel)
set_option maxRecDepth 20000 in
theorem ms_32 : Cond.selects "MatchFloorModel" ⟨"MatchFloorModel", "comesBefore", "(II)Z"⟩ ⟨"MatchFloorModel", "comesBefore", "(II)Z"⟩ ∈ mf_tb := mf_in (i := 32) (by decide +kernel) (by decide +kernel)
set_option maxRecDepth 20000 in
theorem ms_33 : Cond.selects "MatchFloorModel" ⟨"MatchFloorModel", "match", "(IIIII)I"⟩ ⟨"MatchFloorModel", "match", "(IIIII)I"⟩ ∈ mf_tb := mf_in (i := 33) (by decide +kernel) (by decide +kernel)
set_option maxRecDepth 20000 in
theorem ms_34 : Cond.selects "MatchFloorModel" ⟨"MatchFloorModel", "drop", "(I)V"⟩ ⟨"MatchFloorModel", "drop", "(I)V"⟩ ∈ mf_tb := mf_in (i := 34) (by decide +kernel) (by decide +kernel)
set_option maxRecDepth 20000 in
theorem ms_35 : Cond.selects "MatchFloorModel" ⟨"MatchFloorModel", "tell", "(III)V"⟩ ⟨"MatchFloorModel", "tell", "(III)V"⟩ ∈ mf_tb := mf_in (i := 35) (by decide +kernel) (by decide +kernel)
set_option maxRecDepth 20000 in
theorem ms_36 : Cond.selects "MatchFloorModel" ⟨"MatchFloorModel", "keep", "(IIIII)V"⟩ ⟨"MatchFloorModel", "keep", "(IIIII)V"⟩ ∈ mf_tb := mf_in (i := 36) (by decide +kernel) (by decide +kernel)
set_option maxRecDepth 20000 in
theorem ms_37 : Cond.selects "MatchFloorModel" ⟨"MatchFloorModel", "runStops", "()V"⟩ ⟨"MatchFloorModel", "runStops", "()V"⟩ ∈ mf_tb := mf_in (i := 37) (by decide +kernel) (by decide +kernel)
set_option maxRecDepth 20000 in
theorem ms_38 : Cond.selects "MatchFloorModel" ⟨"MatchFloorModel", "earliestDue", "()I"⟩ ⟨"MatchFloorModel", "earliestDue", "()I"⟩ ∈ mf_tb := mf_in (i := 38) (by decide +kernel) (by decide +kernel)
set_option maxRecDepth 20000 in
theorem ms_39 : Cond.selects "MatchFloorModel" ⟨"MatchFloorModel", "isDue", "(I)Z"⟩ ⟨"MatchFloorModel", "isDue", "(I)Z"⟩ ∈ mf_tb := mf_in (i := 39) (by decide +kernel) (by decide +kernel)
set_option maxRecDepth 20000 in
theorem ms_40 : Cond.selects "MatchFloorModel" ⟨"MatchFloorModel", "nextPrice", "(II)I"⟩ ⟨"MatchFloorModel", "nextPrice", "(II)I"⟩ ∈ mf_tb := mf_in (i := 40) (by decide +kernel) (by decide +kernel)
theorem mi_A : ∀ w ∈ u_ws mf_RA mf_TA 3, w ∈ mf_tb := by
  intro w hw
  obtain ⟨k, hk, rfl⟩ := List.mem_map.mp hw
  have hk := List.mem_range.mp hk
  match k, hk with
  | 0, _ => exact mt_48
  | 1, _ => exact mt_50
  | 2, _ => exact mt_52
theorem mn_A : ∀ a, a < 3 → ∀ b, b < 3 → a ≠ b → (mf_TA a).2.1 ≠ (mf_TA b).2.1 := by decide +kernel
theorem mp_A : ∀ k, k < 3 → parseFieldDescriptor (mf_TA k).2.2.1 = some (mf_tyA k) := by decide +kernel
theorem mi_O : ∀ w ∈ u_ws mf_RO mf_TO 6, w ∈ mf_tb := by
  intro w hw
  obtain ⟨k, hk, rfl⟩ := List.mem_map.mp hw
  have hk := List.mem_range.mp hk
  match k, hk with
  | 0, _ => exact mt_255
  | 1, _ => exact mt_257
  | 2, _ => exact mt_259
  | 3, _ => exact mt_261
  | 4, _ => exact mt_263
  | 5, _ => exact mt_265
theorem mn_O : ∀ a, a < 6 → ∀ b, b < 6 → a ≠ b → (mf_TO a).2.1 ≠ (mf_TO b).2.1 := by decide +kernel
theorem mp_O : ∀ k, k < 6 → parseFieldDescriptor (mf_TO k).2.2.1 = some (mf_tyO k) := by decide +kernel
theorem mi_T : ∀ w ∈ u_ws mf_RT mf_TT 5, w ∈ mf_tb := by
  intro w hw
  obtain ⟨k, hk, rfl⟩ := List.mem_map.mp hw
  have hk := List.mem_range.mp hk
  match k, hk with
  | 0, _ => exact mt_72
  | 1, _ => exact mt_74
  | 2, _ => exact mt_76
  | 3, _ => exact mt_78
  | 4, _ => exact mt_80
theorem mn_T : ∀ a, a < 5 → ∀ b, b < 5 → a ≠ b → (mf_TT a).2.1 ≠ (mf_TT b).2.1 := by decide +kernel
theorem mp_T : ∀ k, k < 5 → parseFieldDescriptor (mf_TT k).2.2.1 = some (mf_tyT k) := by decide +kernel
theorem mi_F : ∀ w ∈ u_ws mf_RF mf_TF 4, w ∈ mf_tb := by
  intro w hw
  obtain ⟨k, hk, rfl⟩ := List.mem_map.mp hw
  have hk := List.mem_range.mp hk
  match k, hk with
  | 0, _ => exact mt_88
  | 1, _ => exact mt_90
  | 2, _ => exact mt_92
  | 3, _ => exact mt_94
theorem mn_F : ∀ a, a < 4 → ∀ b, b < 4 → a ≠ b → (mf_TF a).2.1 ≠ (mf_TF b).2.1 := by decide +kernel
theorem mp_F : ∀ k, k < 4 → parseFieldDescriptor (mf_TF k).2.2.1 = some (mf_tyF k) := by decide +kernel
theorem mi_M : ∀ w ∈ u_ws mf_RM mf_TM 20, w ∈ mf_tb := by
  intro w hw
  obtain ⟨k, hk, rfl⟩ := List.mem_map.mp hw
  have hk := List.mem_range.mp hk
  match k, hk with
  | 0, _ => exact mt_555
  | 1, _ => exact mt_557
  | 2, _ => exact mt_559
  | 3, _ => exact mt_561
  | 4, _ => exact mt_563
  | 5, _ => exact mt_565
  | 6, _ => exact mt_567
  | 7, _ => exact mt_569
  | 8, _ => exact mt_571
  | 9, _ => exact mt_573
  | 10, _ => exact mt_575
  | 11, _ => exact mt_577
  | 12, _ => exact mt_579
  | 13, _ => exact mt_581
  | 14, _ => exact mt_583
  | 15, _ => exact mt_585
  | 16, _ => exact mt_587
  | 17, _ => exact mt_589
  | 18, _ => exact mt_591
  | 19, _ => exact mt_593
  | n + 20, h => exact absurd h (by omega)
theorem mn_M : ∀ a, a < 20 → ∀ b, b < 20 → a ≠ b → (mf_TM a).2.1 ≠ (mf_TM b).2.1 := by decide +kernel
theorem mp_M : ∀ k, k < 20 → parseFieldDescriptor (mf_TM k).2.2.1 = some (mf_tyM k) := by decide +kernel
