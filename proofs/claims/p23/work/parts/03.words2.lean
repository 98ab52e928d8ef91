theorem q_400 : Cond.static yL_swap ∈ qA := qa (List.mem_of_getElem? (i := 409) (by decide +kernel)) rfl
theorem q_401 : Cond.code yL_swap cL_swap 5 none ∈ qA := qa (List.mem_of_getElem? (i := 410) (by decide +kernel)) rfl
theorem q_402 : Cond.methodLink RL 24 yL_pack ∈ qA := qa (List.mem_of_getElem? (i := 411) (by decide +kernel)) rfl
theorem q_403 : Cond.static yL_pack ∈ qA := qa (List.mem_of_getElem? (i := 412) (by decide +kernel)) rfl
theorem q_404 : Cond.code yL_pack cL_pack 6 none ∈ qA := qa (List.mem_of_getElem? (i := 413) (by decide +kernel)) rfl
theorem q_405 : Cond.methodLink RL 87 yL_comes ∈ qA := qa (List.mem_of_getElem? (i := 414) (by decide +kernel)) rfl
theorem q_406 : Cond.static yL_comes ∈ qA := qa (List.mem_of_getElem? (i := 415) (by decide +kernel)) rfl
theorem q_407 : Cond.code yL_comes cL_comes 6 none ∈ qA := qa (List.mem_of_getElem? (i := 416) (by decide +kernel)) rfl
theorem q_408 : Cond.methodLink RL 103 yL_same ∈ qA := qa (List.mem_of_getElem? (i := 417) (by decide +kernel)) rfl
theorem q_409 : Cond.static yL_same ∈ qA := qa (List.mem_of_getElem? (i := 418) (by decide +kernel)) rfl
theorem q_410 : Cond.code yL_same cL_same 22 (some FieldType.boolean) ∈ qA := qa (List.mem_of_getElem? (i := 419) rfl) rfl
theorem q_411 : Cond.constant RL 38 (-1000004 : Int32) ∈ qA := qa (List.mem_of_getElem? (i := 420) (by decide +kernel)) rfl
theorem q_412 : Cond.methodLink RL 39 yX7_heapOf ∈ qA := qa (List.mem_of_getElem? (i := 421) (by decide +kernel)) rfl
theorem q_413 : Cond.instanceMethod yX7_heapOf ∈ qA := qa (List.mem_of_getElem? (i := 422) (by decide +kernel)) rfl
theorem q_414 : Cond.selects RX7 yX7_heapOf yX7_heapOf ∈ qA := qa (List.mem_of_getElem? (i := 423) (by decide +kernel)) rfl
theorem q_415 : Cond.code yX7_heapOf cX7_heapOf 6 (some FieldType.int) ∈ qA := qa (List.mem_of_getElem? (i := 424) (by decide +kernel)) rfl
theorem q_416 : Cond.constant RX7 107 (-1000004 : Int32) ∈ qA := qa (List.mem_of_getElem? (i := 425) (by decide +kernel)) rfl
theorem q_417 : Cond.methodLink RX7 120 yX1_wholeMiddle ∈ qA := qa (List.mem_of_getElem? (i := 426) (by decide +kernel)) rfl
theorem q_418 : Cond.instanceMethod yX1_wholeMiddle ∈ qA := qa (List.mem_of_getElem? (i := 427) (by decide +kernel)) rfl
theorem q_419 : Cond.selects RX1 yX1_wholeMiddle yX1_wholeMiddle ∈ qA := qa (List.mem_of_getElem? (i := 428) (by decide +kernel)) rfl
theorem q_420 : Cond.code yX1_wholeMiddle cX1_wholeMiddle 3 (some FieldType.int) ∈ qA := qa (List.mem_of_getElem? (i := 429) (by decide +kernel)) rfl
theorem q_421 : Cond.methodLink RX7 123 yX1_weightAheadOf ∈ qA := qa (List.mem_of_getElem? (i := 430) (by decide +kernel)) rfl
theorem q_422 : Cond.instanceMethod yX1_weightAheadOf ∈ qA := qa (List.mem_of_getElem? (i := 431) (by decide +kernel)) rfl
theorem q_423 : Cond.selects RX1 yX1_weightAheadOf yX1_weightAheadOf ∈ qA := qa (List.mem_of_getElem? (i := 432) (by decide +kernel)) rfl
theorem q_424 : Cond.code yX1_weightAheadOf cX1_weightAheadOf 4 (some FieldType.int) ∈ qA := qa (List.mem_of_getElem? (i := 433) (by decide +kernel)) rfl
theorem q_425 : Cond.methodLink RX7 126 yX1_floatMiddle ∈ qA := qa (List.mem_of_getElem? (i := 434) (by decide +kernel)) rfl
theorem q_426 : Cond.instanceMethod yX1_floatMiddle ∈ qA := qa (List.mem_of_getElem? (i := 435) (by decide +kernel)) rfl
theorem q_427 : Cond.selects RX1 yX1_floatMiddle yX1_floatMiddle ∈ qA := qa (List.mem_of_getElem? (i := 436) (by decide +kernel)) rfl
theorem q_428 : Cond.code yX1_floatMiddle cX1_floatMiddle 3 (some FieldType.float) ∈ qA := qa (List.mem_of_getElem? (i := 437) (by decide +kernel)) rfl
theorem q_429 : Cond.methodLink RX7 130 yX7_floatBits ∈ qA := qa (List.mem_of_getElem? (i := 438) (by decide +kernel)) rfl
theorem q_430 : Cond.static yX7_floatBits ∈ qA := qa (List.mem_of_getElem? (i := 439) (by decide +kernel)) rfl
theorem q_431 : Cond.code yX7_floatBits cX7_floatBits 4 (some FieldType.int) ∈ qA := qa (List.mem_of_getElem? (i := 440) (by decide +kernel)) rfl
theorem q_432 : Cond.constantFloat RX7 229 (1056964608 : UInt32) ∈ qA := qa (List.mem_of_getElem? (i := 441) (by decide +kernel)) rfl
theorem q_433 : Cond.constantFloat RX7 230 (1258291200 : UInt32) ∈ qA := qa (List.mem_of_getElem? (i := 442) (by decide +kernel)) rfl
theorem q_434 : Cond.constant RX7 231 (8388608 : Int32) ∈ qA := qa (List.mem_of_getElem? (i := 443) (by decide +kernel)) rfl
theorem q_435 : Cond.methodLink RL 45 yL_isFloat ∈ qA := qa (List.mem_of_getElem? (i := 444) (by decide +kernel)) rfl
theorem q_436 : Cond.static yL_isFloat ∈ qA := qa (List.mem_of_getElem? (i := 445) (by decide +kernel)) rfl
theorem q_437 : Cond.code yL_isFloat cL_isFloat 8 (some FieldType.boolean) ∈ qA := qa (List.mem_of_getElem? (i := 446) (by decide +kernel)) rfl
theorem q_438 : Cond.constant RL 34 (8388607 : Int32) ∈ qA := qa (List.mem_of_getElem? (i := 447) (by decide +kernel)) rfl
theorem q_439 : Cond.constant RL 35 (8388608 : Int32) ∈ qA := qa (List.mem_of_getElem? (i := 448) (by decide +kernel)) rfl
theorem q_440 : Cond.constantLong RL 28 (2 : Int64) ∈ qA := qa (List.mem_of_getElem? (i := 449) (by decide +kernel)) rfl
theorem q_441 : Cond.constantLong RL 36 (-2 : Int64) ∈ qA := qa (List.mem_of_getElem? (i := 450) (by decide +kernel)) rfl
theorem q_442 : Cond.methodLink RL 49 yX7_bufferOf ∈ qA := qa (List.mem_of_getElem? (i := 451) (by decide +kernel)) rfl
theorem q_443 : Cond.instanceMethod yX7_bufferOf ∈ qA := qa (List.mem_of_getElem? (i := 452) (by decide +kernel)) rfl
theorem q_444 : Cond.selects RX7 yX7_bufferOf yX7_bufferOf ∈ qA := qa (List.mem_of_getElem? (i := 453) (by decide +kernel)) rfl
theorem q_445 : Cond.code yX7_bufferOf cX7_bufferOf 4 (some FieldType.int) ∈ qA := qa (List.mem_of_getElem? (i := 454) (by decide +kernel)) rfl
theorem q_446 : Cond.methodLink RL 53 yX7_digestOf ∈ qA := qa (List.mem_of_getElem? (i := 455) (by decide +kernel)) rfl
theorem q_447 : Cond.instanceMethod yX7_digestOf ∈ qA := qa (List.mem_of_getElem? (i := 456) (by decide +kernel)) rfl
theorem q_448 : Cond.selects RX7 yX7_digestOf yX7_digestOf ∈ qA := qa (List.mem_of_getElem? (i := 457) (by decide +kernel)) rfl
theorem q_449 : Cond.code yX7_digestOf cX7_digestOf 4 (some FieldType.int) ∈ qA := qa (List.mem_of_getElem? (i := 458) (by decide +kernel)) rfl
theorem q_450 : Cond.methodLink RX7 140 yX0_least ∈ qA := qa (List.mem_of_getElem? (i := 459) (by decide +kernel)) rfl
theorem q_451 : Cond.instanceMethod yX0_least ∈ qA := qa (List.mem_of_getElem? (i := 460) (by decide +kernel)) rfl
theorem q_452 : Cond.selects RX0 yX0_least yX0_least ∈ qA := qa (List.mem_of_getElem? (i := 461) (by decide +kernel)) rfl
theorem q_453 : Cond.code yX0_least cX0_least 1 (some FieldType.int) ∈ qA := qa (List.mem_of_getElem? (i := 462) (by decide +kernel)) rfl
theorem q_454 : Cond.methodLink RX0 50 yX4_least ∈ qA := qa (List.mem_of_getElem? (i := 463) (by decide +kernel)) rfl
theorem q_455 : Cond.instanceMethod yX4_least ∈ qA := qa (List.mem_of_getElem? (i := 464) (by decide +kernel)) rfl
theorem q_456 : Cond.selects RX4 yX4_least yX4_least ∈ qA := qa (List.mem_of_getElem? (i := 465) (by decide +kernel)) rfl
theorem q_457 : Cond.code yX4_least cX4_least 3 (some FieldType.int) ∈ qA := qa (List.mem_of_getElem? (i := 466) (by decide +kernel)) rfl
theorem q_458 : Cond.constant RX4 46 (2147483647 : Int32) ∈ qA := qa (List.mem_of_getElem? (i := 467) (by decide +kernel)) rfl
theorem q_459 : Cond.methodLink RX0 53 Lib.Math.min.name ∈ qA := qa (List.mem_of_getElem? (i := 468) (by decide +kernel)) rfl
theorem q_460 : Cond.methodLink RX7 143 yX0_greatest ∈ qA := qa (List.mem_of_getElem? (i := 469) (by decide +kernel)) rfl
theorem q_461 : Cond.instanceMethod yX0_greatest ∈ qA := qa (List.mem_of_getElem? (i := 470) (by decide +kernel)) rfl
theorem q_462 : Cond.selects RX0 yX0_greatest yX0_greatest ∈ qA := qa (List.mem_of_getElem? (i := 471) (by decide +kernel)) rfl
theorem q_463 : Cond.code yX0_greatest cX0_greatest 1 (some FieldType.int) ∈ qA := qa (List.mem_of_getElem? (i := 472) (by decide +kernel)) rfl
theorem q_464 : Cond.methodLink RX0 62 yX4_greatest ∈ qA := qa (List.mem_of_getElem? (i := 473) (by decide +kernel)) rfl
theorem q_465 : Cond.instanceMethod yX4_greatest ∈ qA := qa (List.mem_of_getElem? (i := 474) (by decide +kernel)) rfl
theorem q_466 : Cond.selects RX4 yX4_greatest yX4_greatest ∈ qA := qa (List.mem_of_getElem? (i := 475) (by decide +kernel)) rfl
theorem q_467 : Cond.code yX4_greatest cX4_greatest 3 (some FieldType.int) ∈ qA := qa (List.mem_of_getElem? (i := 476) (by decide +kernel)) rfl
theorem q_468 : Cond.constant RX4 47 (-2147483648 : Int32) ∈ qA := qa (List.mem_of_getElem? (i := 477) (by decide +kernel)) rfl
theorem q_469 : Cond.methodLink RX0 65 Lib.Math.max.name ∈ qA := qa (List.mem_of_getElem? (i := 478) (by decide +kernel)) rfl
theorem q_470 : Cond.methodLink RX7 146 yX0_sum ∈ qA := qa (List.mem_of_getElem? (i := 479) (by decide +kernel)) rfl
theorem q_471 : Cond.instanceMethod yX0_sum ∈ qA := qa (List.mem_of_getElem? (i := 480) (by decide +kernel)) rfl
theorem q_472 : Cond.selects RX0 yX0_sum yX0_sum ∈ qA := qa (List.mem_of_getElem? (i := 481) (by decide +kernel)) rfl
theorem q_473 : Cond.code yX0_sum cX0_sum 1 (some FieldType.int) ∈ qA := qa (List.mem_of_getElem? (i := 482) (by decide +kernel)) rfl
theorem q_474 : Cond.methodLink RX7 149 yX7_packOnTrial ∈ qA := qa (List.mem_of_getElem? (i := 483) (by decide +kernel)) rfl
theorem q_476 : Cond.instanceMethod yX7_packOnTrial ∈ qA := qa (List.mem_of_getElem? (i := 485) (by decide +kernel)) rfl
theorem q_477 : Cond.code yX7_packOnTrial cX7_packOnTrial 2 none ∈ qA := qa (List.mem_of_getElem? (i := 486) (by decide +kernel)) rfl
theorem q_478 : Cond.methodLink RX7 225 yX1_copyFrom ∈ qA := qa (List.mem_of_getElem? (i := 487) (by decide +kernel)) rfl
theorem q_479 : Cond.methodLink RX7 184 yX1_appendEach ∈ qA := qa (List.mem_of_getElem? (i := 488) (by decide +kernel)) rfl
theorem q_480 : Cond.methodLink RX7 188 yX1_packBy ∈ qA := qa (List.mem_of_getElem? (i := 489) (by decide +kernel)) rfl
theorem q_481 : Cond.methodLink RX7 153 yX4_greatest ∈ qA := qa (List.mem_of_getElem? (i := 490) (by decide +kernel)) rfl
theorem q_482 : Cond.methodLink RL 56 yX7_quantile ∈ qA := qa (List.mem_of_getElem? (i := 491) (by decide +kernel)) rfl
theorem q_483 : Cond.instanceMethod yX7_quantile ∈ qA := qa (List.mem_of_getElem? (i := 492) (by decide +kernel)) rfl
theorem q_484 : Cond.selects RX7 yX7_quantile yX7_quantile ∈ qA := qa (List.mem_of_getElem? (i := 493) (by decide +kernel)) rfl
theorem q_485 : Cond.code yX7_quantile cX7_quantile 4 (some FieldType.int) ∈ qA := qa (List.mem_of_getElem? (i := 494) (by decide +kernel)) rfl
theorem q_486 : Cond.constant RX7 158 (-1000002 : Int32) ∈ qA := qa (List.mem_of_getElem? (i := 495) (by decide +kernel)) rfl
theorem q_487 : Cond.methodLink RX7 159 yX1_quantileAt ∈ qA := qa (List.mem_of_getElem? (i := 496) (by decide +kernel)) rfl
theorem q_488 : Cond.instanceMethod yX1_quantileAt ∈ qA := qa (List.mem_of_getElem? (i := 497) (by decide +kernel)) rfl
theorem q_489 : Cond.selects RX1 yX1_quantileAt yX1_quantileAt ∈ qA := qa (List.mem_of_getElem? (i := 498) (by decide +kernel)) rfl
theorem q_490 : Cond.code yX1_quantileAt cX1_quantileAt 12 (some FieldType.int) ∈ qA := qa (List.mem_of_getElem? (i := 499) (by decide +kernel)) rfl
theorem q_491 : Cond.methodLink RX1 94 yX4_least ∈ qA := qa (List.mem_of_getElem? (i := 500) (by decide +kernel)) rfl
theorem q_492 : Cond.methodLink RX1 97 yX1_between ∈ qA := qa (List.mem_of_getElem? (i := 501) (by decide +kernel)) rfl
theorem q_493 : Cond.static yX1_between ∈ qA := qa (List.mem_of_getElem? (i := 502) (by decide +kernel)) rfl
theorem q_494 : Cond.code yX1_between cX1_between 22 (some FieldType.int) ∈ qA := qa (List.mem_of_getElem? (i := 503) (by decide +kernel)) rfl
theorem q_495 : Cond.methodLink RX1 104 yJ9_floorDiv_f86c9 ∈ qA := qa (List.mem_of_getElem? (i := 504) (by decide +kernel)) rfl
theorem q_496 : Cond.static yJ9_floorDiv_f86c9 ∈ qA := qa (List.mem_of_getElem? (i := 505) (by decide +kernel)) rfl
theorem q_497 : Cond.code yJ9_floorDiv_f86c9 cJ9_floorDiv_f86c9 6 (some FieldType.long) ∈ qA := qa (List.mem_of_getElem? (i := 506) (by decide +kernel)) rfl
theorem q_498 : Cond.methodLink RX1 101 yX4_greatest ∈ qA := qa (List.mem_of_getElem? (i := 507) (by decide +kernel)) rfl
theorem q_499 : Cond.constant RL 59 (-1000002 : Int32) ∈ qA := qa (List.mem_of_getElem? (i := 508) (by decide +kernel)) rfl
theorem q_500 : Cond.methodLink RL 60 yX7_truth ∈ qA := qa (List.mem_of_getElem? (i := 509) (by decide +kernel)) rfl
theorem q_501 : Cond.instanceMethod yX7_truth ∈ qA := qa (List.mem_of_getElem? (i := 510) (by decide +kernel)) rfl
theorem q_502 : Cond.selects RX7 yX7_truth yX7_truth ∈ qA := qa (List.mem_of_getElem? (i := 511) (by decide +kernel)) rfl
theorem q_503 : Cond.code yX7_truth cX7_truth 4 (some FieldType.int) ∈ qA := qa (List.mem_of_getElem? (i := 512) (by decide +kernel)) rfl
theorem q_504 : Cond.methodLink RX7 162 yX0_trueQuantileAt ∈ qA := qa (List.mem_of_getElem? (i := 513) (by decide +kernel)) rfl
theorem q_505 : Cond.instanceMethod yX0_trueQuantileAt ∈ qA := qa (List.mem_of_getElem? (i := 514) (by decide +kernel)) rfl
theorem q_506 : Cond.selects RX0 yX0_trueQuantileAt yX0_trueQuantileAt ∈ qA := qa (List.mem_of_getElem? (i := 515) (by decide +kernel)) rfl
theorem q_507 : Cond.code yX0_trueQuantileAt cX0_trueQuantileAt 2 (some FieldType.int) ∈ qA := qa (List.mem_of_getElem? (i := 516) (by decide +kernel)) rfl
theorem q_508 : Cond.methodLinkNest RX0 68 yX7_trueIndex RX7 ∈ lw_tbl := List.mem_of_getElem? (i := 517) (by decide +kernel)
theorem q_509 : Cond.static yX7_trueIndex ∈ qA := qa (List.mem_of_getElem? (i := 518) (by decide +kernel)) rfl
theorem q_510 : Cond.code yX7_trueIndex cX7_trueIndex 2 (some FieldType.int) ∈ qA := qa (List.mem_of_getElem? (i := 519) (by decide +kernel)) rfl
theorem q_511 : Cond.methodLink RL 63 yX7_worst ∈ qA := qa (List.mem_of_getElem? (i := 520) (by decide +kernel)) rfl
theorem q_512 : Cond.instanceMethod yX7_worst ∈ qA := qa (List.mem_of_getElem? (i := 521) (by decide +kernel)) rfl
theorem q_513 : Cond.selects RX7 yX7_worst yX7_worst ∈ qA := qa (List.mem_of_getElem? (i := 522) (by decide +kernel)) rfl
theorem q_514 : Cond.code yX7_worst cX7_worst 8 (some FieldType.int) ∈ qA := qa (List.mem_of_getElem? (i := 523) (by decide +kernel)) rfl
theorem q_515 : Cond.methodLink RX7 165 Lib.Math.abs.name ∈ qA := qa (List.mem_of_getElem? (i := 524) (by decide +kernel)) rfl
theorem q_516 : Cond.static Lib.Math.abs.name ∈ qA := qa (List.mem_of_getElem? (i := 525) (by decide +kernel)) rfl
theorem q_517 : Cond.code Lib.Math.abs.name Lib.Math.abs.code 1 (some FieldType.int) ∈ qA := qa (List.mem_of_getElem? (i := 526) (by decide +kernel)) rfl
theorem q_518 : Cond.methodLink RL 66 yL_ordered ∈ qA := qa (List.mem_of_getElem? (i := 527) (by decide +kernel)) rfl
theorem q_519 : Cond.static yL_ordered ∈ qA := qa (List.mem_of_getElem? (i := 528) (by decide +kernel)) rfl
theorem q_520 : Cond.code yL_ordered cL_ordered 7 (some FieldType.int) ∈ qA := qa (List.mem_of_getElem? (i := 529) (by decide +kernel)) rfl
theorem q_521 : Cond.methodLink RL 70 yL_quantile ∈ qA := qa (List.mem_of_getElem? (i := 530) (by decide +kernel)) rfl
theorem q_522 : Cond.static yL_quantile ∈ qA := qa (List.mem_of_getElem? (i := 531) (by decide +kernel)) rfl
theorem q_523 : Cond.code yL_quantile cL_quantile 30 (some FieldType.boolean) ∈ qA := qa (List.mem_of_getElem? (i := 532) (by decide +kernel)) rfl
theorem q_524 : Cond.constantLong RL 30 (2000 : Int64) ∈ qA := qa (List.mem_of_getElem? (i := 533) (by decide +kernel)) rfl
theorem q_525 : Cond.constantLong RL 32 (1000 : Int64) ∈ qA := qa (List.mem_of_getElem? (i := 534) (by decide +kernel)) rfl
theorem q_526 : Cond.methodLink RL 76 yX7_rank ∈ qA := qa (List.mem_of_getElem? (i := 535) (by decide +kernel)) rfl
theorem q_527 : Cond.instanceMethod yX7_rank ∈ qA := qa (List.mem_of_getElem? (i := 536) (by decide +kernel)) rfl
theorem q_528 : Cond.selects RX7 yX7_rank yX7_rank ∈ qA := qa (List.mem_of_getElem? (i := 537) (by decide +kernel)) rfl
theorem q_529 : Cond.code yX7_rank cX7_rank 4 (some FieldType.int) ∈ qA := qa (List.mem_of_getElem? (i := 538) (by decide +kernel)) rfl
theorem q_530 : Cond.methodLink RX7 170 yX1_greatestQAtMost ∈ qA := qa (List.mem_of_getElem? (i := 539) (by decide +kernel)) rfl
theorem q_531 : Cond.instanceMethod yX1_greatestQAtMost ∈ qA := qa (List.mem_of_getElem? (i := 540) (by decide +kernel)) rfl
theorem q_532 : Cond.selects RX1 yX1_greatestQAtMost yX1_greatestQAtMost ∈ qA := qa (List.mem_of_getElem? (i := 541) (by decide +kernel)) rfl
theorem q_533 : Cond.code yX1_greatestQAtMost cX1_greatestQAtMost 4 (some FieldType.int) ∈ qA := qa (List.mem_of_getElem? (i := 542) (by decide +kernel)) rfl
theorem q_534 : Cond.methodLink RX1 108 yX1_quantileAt ∈ qA := qa (List.mem_of_getElem? (i := 543) (by decide +kernel)) rfl
theorem q_535 : Cond.methodLink RL 79 yX7_width ∈ qA := qa (List.mem_of_getElem? (i := 544) (by decide +kernel)) rfl
theorem q_536 : Cond.instanceMethod yX7_width ∈ qA := qa (List.mem_of_getElem? (i := 545) (by decide +kernel)) rfl
theorem q_537 : Cond.selects RX7 yX7_width yX7_width ∈ qA := qa (List.mem_of_getElem? (i := 546) (by decide +kernel)) rfl
theorem q_538 : Cond.code yX7_width cX7_width 4 (some FieldType.int) ∈ qA := qa (List.mem_of_getElem? (i := 547) (by decide +kernel)) rfl
theorem q_539 : Cond.methodLink RX7 173 yX7_trueIndex ∈ qA := qa (List.mem_of_getElem? (i := 548) (by decide +kernel)) rfl
theorem q_540 : Cond.methodLink RX7 177 yX1_widthAt ∈ qA := qa (List.mem_of_getElem? (i := 549) (by decide +kernel)) rfl
theorem q_541 : Cond.instanceMethod yX1_widthAt ∈ qA := qa (List.mem_of_getElem? (i := 550) (by decide +kernel)) rfl
theorem q_542 : Cond.selects RX1 yX1_widthAt yX1_widthAt ∈ qA := qa (List.mem_of_getElem? (i := 551) (by decide +kernel)) rfl
theorem q_543 : Cond.code yX1_widthAt cX1_widthAt 4 (some FieldType.int) ∈ qA := qa (List.mem_of_getElem? (i := 552) (by decide +kernel)) rfl
theorem qs_0 : Cond.selects RX2 yX2_dropOldest yX2_dropOldest ∈ qA := qa (List.mem_of_getElem? (i := 0) (by decide +kernel)) rfl
theorem qs_1 : Cond.selects RX2 yX2_stateAt yX2_stateAt ∈ qA := qa (List.mem_of_getElem? (i := 1) (by decide +kernel)) rfl
theorem qs_2 : Cond.selects RX1 yX1_order yX1_order ∈ qA := qa (List.mem_of_getElem? (i := 2) (by decide +kernel)) rfl
theorem qs_3 : Cond.selects RX1 yX1_isMiddleAbove yX1_isMiddleAbove ∈ qA := qa (List.mem_of_getElem? (i := 3) (by decide +kernel)) rfl
theorem qs_4 : Cond.selects RX1 yX1_exchange yX1_exchange ∈ qA := qa (List.mem_of_getElem? (i := 4) (by decide +kernel)) rfl
theorem qs_5 : Cond.selects RX1 yX1_putTogether yX1_putTogether ∈ qA := qa (List.mem_of_getElem? (i := 5) (by decide +kernel)) rfl
theorem qs_6 : Cond.selects RX1 yX1_unite yX1_unite ∈ qA := qa (List.mem_of_getElem? (i := 6) (by decide +kernel)) rfl
theorem qs_7 : Cond.selects RX1 yX1_shortenTo yX1_shortenTo ∈ qA := qa (List.mem_of_getElem? (i := 7) (by decide +kernel)) rfl
theorem qs_8 : Cond.selects RX7 yX7_packOnTrial yX7_packOnTrial ∈ qA := qa (List.mem_of_getElem? (i := 8) (by decide +kernel)) rfl
theorem i_wsX00 : ∀ w ∈ wsX00, w ∈ qA := fun w h => qa ((show ∀ w ∈ wsX00, w ∈ lw_tbl from by decide +kernel) w h) ((show ∀ w ∈ wsX00, goodWord w = true from by decide +kernel) w h)
theorem i_wsX10 : ∀ w ∈ wsX10, w ∈ qA := fun w h => qa ((show ∀ w ∈ wsX10, w ∈ lw_tbl from by decide +kernel) w h) ((show ∀ w ∈ wsX10, goodWord w = true from by decide +kernel) w h)
theorem i_wsX20 : ∀ w ∈ wsX20, w ∈ qA := fun w h => qa ((show ∀ w ∈ wsX20, w ∈ lw_tbl from by decide +kernel) w h) ((show ∀ w ∈ wsX20, goodWord w = true from by decide +kernel) w h)
theorem i_wsX30 : ∀ w ∈ wsX30, w ∈ qA := fun w h => qa ((show ∀ w ∈ wsX30, w ∈ lw_tbl from by decide +kernel) w h) ((show ∀ w ∈ wsX30, goodWord w = true from by decide +kernel) w h)
theorem i_wsX40 : ∀ w ∈ wsX40, w ∈ qA := fun w h => qa ((show ∀ w ∈ wsX40, w ∈ lw_tbl from by decide +kernel) w h) ((show ∀ w ∈ wsX40, goodWord w = true from by decide +kernel) w h)
theorem i_wsX50 : ∀ w ∈ wsX50, w ∈ qA := fun w h => qa ((show ∀ w ∈ wsX50, w ∈ lw_tbl from by decide +kernel) w h) ((show ∀ w ∈ wsX50, goodWord w = true from by decide +kernel) w h)
theorem i_wsX60 : ∀ w ∈ wsX60, w ∈ qA := fun w h => qa ((show ∀ w ∈ wsX60, w ∈ lw_tbl from by decide +kernel) w h) ((show ∀ w ∈ wsX60, goodWord w = true from by decide +kernel) w h)
theorem i_wsX70 : ∀ w ∈ wsX70, w ∈ qA := fun w h => qa ((show ∀ w ∈ wsX70, w ∈ lw_tbl from by decide +kernel) w h) ((show ∀ w ∈ wsX70, goodWord w = true from by decide +kernel) w h)
theorem i_wsX80 : ∀ w ∈ wsX80, w ∈ qA := fun w h => qa ((show ∀ w ∈ wsX80, w ∈ lw_tbl from by decide +kernel) w h) ((show ∀ w ∈ wsX80, goodWord w = true from by decide +kernel) w h)
