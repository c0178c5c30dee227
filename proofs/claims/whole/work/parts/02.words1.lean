theorem mw_474 : (.selects RX7 yX7_minds yX7_minds : Cond) ∈ wt := in_wt 474 (by decide +kernel) (by decide +kernel)
set_option maxRecDepth 100000 in
theorem mw_475 : (.code yX7_minds prog_1_method_10_code 4 (Option.some Jvm.ClassFile.FieldType.int) : Cond) ∈ wt := in_wt 475 rfl rfl
theorem mw_476 : (.methodLink RL 52 yX7_cuts : Cond) ∈ wt := in_wt 476 (by decide +kernel) (by decide +kernel)
theorem mw_477 : (.instanceMethod yX7_cuts : Cond) ∈ wt := in_wt 477 (by decide +kernel) (by decide +kernel)
theorem mw_478 : (.selects RX7 yX7_cuts yX7_cuts : Cond) ∈ wt := in_wt 478 (by decide +kernel) (by decide +kernel)
set_option maxRecDepth 100000 in
theorem mw_479 : (.code yX7_cuts prog_1_method_11_code 3 (Option.some Jvm.ClassFile.FieldType.int) : Cond) ∈ wt := in_wt 479 rfl rfl
theorem mw_480 : (.methodLink RX7 148 yX1_sweep : Cond) ∈ wt := in_wt 480 (by decide +kernel) (by decide +kernel)
theorem mw_481 : (.instanceMethod yX1_sweep : Cond) ∈ wt := in_wt 481 (by decide +kernel) (by decide +kernel)
theorem mw_482 : (.selects RX1 yX1_sweep yX1_sweep : Cond) ∈ wt := in_wt 482 (by decide +kernel) (by decide +kernel)
set_option maxRecDepth 100000 in
theorem mw_483 : (.code yX1_sweep prog_3_method_8_code 5 (Option.none : Option Jvm.ClassFile.FieldType) : Cond) ∈ wt := in_wt 483 rfl rfl
theorem mw_484 : (.methodLink RX1 66 yJ9_min_7cf53 : Cond) ∈ wt := in_wt 484 (by decide +kernel) (by decide +kernel)
theorem mw_485 : (.methodLink RL 56 yX7_changes : Cond) ∈ wt := in_wt 485 (by decide +kernel) (by decide +kernel)
theorem mw_486 : (.instanceMethod yX7_changes : Cond) ∈ wt := in_wt 486 (by decide +kernel) (by decide +kernel)
theorem mw_487 : (.selects RX7 yX7_changes yX7_changes : Cond) ∈ wt := in_wt 487 (by decide +kernel) (by decide +kernel)
set_option maxRecDepth 100000 in
theorem mw_488 : (.code yX7_changes prog_1_method_12_code 3 (Option.some Jvm.ClassFile.FieldType.int) : Cond) ∈ wt := in_wt 488 rfl rfl
theorem mw_489 : (.methodLink RL 60 yX7_empties : Cond) ∈ wt := in_wt 489 (by decide +kernel) (by decide +kernel)
theorem mw_490 : (.instanceMethod yX7_empties : Cond) ∈ wt := in_wt 490 (by decide +kernel) (by decide +kernel)
theorem mw_491 : (.selects RX7 yX7_empties yX7_empties : Cond) ∈ wt := in_wt 491 (by decide +kernel) (by decide +kernel)
set_option maxRecDepth 100000 in
theorem mw_492 : (.code yX7_empties prog_1_method_13_code 3 (Option.some Jvm.ClassFile.FieldType.int) : Cond) ∈ wt := in_wt 492 rfl rfl
theorem mw_493 : (.methodLink RX7 153 yX1_sweptInto : Cond) ∈ wt := in_wt 493 (by decide +kernel) (by decide +kernel)
theorem mw_494 : (.instanceMethod yX1_sweptInto : Cond) ∈ wt := in_wt 494 (by decide +kernel) (by decide +kernel)
theorem mw_495 : (.selects RX1 yX1_sweptInto yX1_sweptInto : Cond) ∈ wt := in_wt 495 (by decide +kernel) (by decide +kernel)
set_option maxRecDepth 100000 in
theorem mw_496 : (.code yX1_sweptInto prog_3_method_14_code 4 (Option.some Jvm.ClassFile.FieldType.int) : Cond) ∈ wt := in_wt 496 rfl rfl
theorem mw_497 : (.methodLink RX1 71 yX1_sweptOf : Cond) ∈ wt := in_wt 497 (by decide +kernel) (by decide +kernel)
theorem mw_498 : (.methodLink RX7 157 yX1_pourOut : Cond) ∈ wt := in_wt 498 (by decide +kernel) (by decide +kernel)
theorem mw_499 : (.instanceMethod yX1_pourOut : Cond) ∈ wt := in_wt 499 (by decide +kernel) (by decide +kernel)
theorem mw_500 : (.selects RX1 yX1_pourOut yX1_pourOut : Cond) ∈ wt := in_wt 500 (by decide +kernel) (by decide +kernel)
set_option maxRecDepth 100000 in
theorem mw_501 : (.code yX1_pourOut prog_3_method_10_code 3 (Option.none : Option Jvm.ClassFile.FieldType) : Cond) ∈ wt := in_wt 501 rfl rfl
theorem mw_502 : (.methodLink RL 64 yX7_undo : Cond) ∈ wt := in_wt 502 (by decide +kernel) (by decide +kernel)
theorem mw_503 : (.instanceMethod yX7_undo : Cond) ∈ wt := in_wt 503 (by decide +kernel) (by decide +kernel)
theorem mw_504 : (.selects RX7 yX7_undo yX7_undo : Cond) ∈ wt := in_wt 504 (by decide +kernel) (by decide +kernel)
set_option maxRecDepth 100000 in
theorem mw_505 : (.code yX7_undo prog_1_method_14_code 1 (Option.some Jvm.ClassFile.FieldType.int) : Cond) ∈ wt := in_wt 505 rfl rfl
theorem mw_506 : (.methodLink RX7 163 yX5_goBack : Cond) ∈ wt := in_wt 506 (by decide +kernel) (by decide +kernel)
theorem mw_507 : (.instanceMethod yX5_goBack : Cond) ∈ wt := in_wt 507 (by decide +kernel) (by decide +kernel)
theorem mw_508 : (.selects RX5 yX5_goBack yX5_goBack : Cond) ∈ wt := in_wt 508 (by decide +kernel) (by decide +kernel)
set_option maxRecDepth 100000 in
theorem mw_509 : (.code yX5_goBack prog_7_method_5_code 1 (Option.none : Option Jvm.ClassFile.FieldType) : Cond) ∈ wt := in_wt 509 rfl rfl
theorem mw_510 : (.methodLink RL 68 yX7_now : Cond) ∈ wt := in_wt 510 (by decide +kernel) (by decide +kernel)
theorem mw_511 : (.instanceMethod yX7_now : Cond) ∈ wt := in_wt 511 (by decide +kernel) (by decide +kernel)
theorem mw_512 : (.selects RX7 yX7_now yX7_now : Cond) ∈ wt := in_wt 512 (by decide +kernel) (by decide +kernel)
set_option maxRecDepth 100000 in
theorem mw_513 : (.code yX7_now prog_1_method_15_code 3 (Option.some Jvm.ClassFile.FieldType.int) : Cond) ∈ wt := in_wt 513 rfl rfl
theorem mw_514 : (.methodLink RX7 166 yX7_layersOfAll : Cond) ∈ wt := in_wt 514 (by decide +kernel) (by decide +kernel)
theorem mw_516 : (.instanceMethod yX7_layersOfAll : Cond) ∈ wt := in_wt 516 (by decide +kernel) (by decide +kernel)
set_option maxRecDepth 100000 in
theorem mw_517 : (.code yX7_layersOfAll prog_1_method_38_code 3 (Option.some Jvm.ClassFile.FieldType.int) : Cond) ∈ wt := in_wt 517 rfl rfl
theorem mw_518 : (.methodLink RX7 169 yX7_sweptIntoAll : Cond) ∈ wt := in_wt 518 (by decide +kernel) (by decide +kernel)
theorem mw_520 : (.instanceMethod yX7_sweptIntoAll : Cond) ∈ wt := in_wt 520 (by decide +kernel) (by decide +kernel)
set_option maxRecDepth 100000 in
theorem mw_521 : (.code yX7_sweptIntoAll prog_1_method_39_code 3 (Option.some Jvm.ClassFile.FieldType.int) : Cond) ∈ wt := in_wt 521 rfl rfl
theorem mw_522 : (.methodLink RL 72 yX7_reads : Cond) ∈ wt := in_wt 522 (by decide +kernel) (by decide +kernel)
theorem mw_523 : (.instanceMethod yX7_reads : Cond) ∈ wt := in_wt 523 (by decide +kernel) (by decide +kernel)
theorem mw_524 : (.selects RX7 yX7_reads yX7_reads : Cond) ∈ wt := in_wt 524 (by decide +kernel) (by decide +kernel)
set_option maxRecDepth 100000 in
theorem mw_525 : (.code yX7_reads prog_1_method_16_code 3 (Option.some Jvm.ClassFile.FieldType.int) : Cond) ∈ wt := in_wt 525 rfl rfl
theorem mw_526 : (.methodLink RX7 172 yX7_mostIn : Cond) ∈ wt := in_wt 526 (by decide +kernel) (by decide +kernel)
theorem mw_528 : (.instanceMethod yX7_mostIn : Cond) ∈ wt := in_wt 528 (by decide +kernel) (by decide +kernel)
set_option maxRecDepth 100000 in
theorem mw_529 : (.code yX7_mostIn prog_1_method_37_code 3 (Option.some Jvm.ClassFile.FieldType.int) : Cond) ∈ wt := in_wt 529 rfl rfl
theorem mw_530 : (.methodLink RX7 271 yX7_mostOf : Cond) ∈ wt := in_wt 530 (by decide +kernel) (by decide +kernel)
theorem mw_531 : (.static yX7_mostOf : Cond) ∈ wt := in_wt 531 (by decide +kernel) (by decide +kernel)
set_option maxRecDepth 100000 in
theorem mw_532 : (.code yX7_mostOf prog_1_method_36_code 4 (Option.some Jvm.ClassFile.FieldType.int) : Cond) ∈ wt := in_wt 532 rfl rfl
theorem mw_533 : (.methodLink RX7 175 yX7_blushes : Cond) ∈ wt := in_wt 533 (by decide +kernel) (by decide +kernel)
theorem mw_535 : (.instanceMethod yX7_blushes : Cond) ∈ wt := in_wt 535 (by decide +kernel) (by decide +kernel)
set_option maxRecDepth 100000 in
theorem mw_536 : (.code yX7_blushes prog_1_method_40_code 4 (Option.some Jvm.ClassFile.FieldType.int) : Cond) ∈ wt := in_wt 536 rfl rfl
theorem mw_537 : (.methodLink RL 76 yX7_plan : Cond) ∈ wt := in_wt 537 (by decide +kernel) (by decide +kernel)
theorem mw_538 : (.instanceMethod yX7_plan : Cond) ∈ wt := in_wt 538 (by decide +kernel) (by decide +kernel)
theorem mw_539 : (.selects RX7 yX7_plan yX7_plan : Cond) ∈ wt := in_wt 539 (by decide +kernel) (by decide +kernel)
set_option maxRecDepth 100000 in
theorem mw_540 : (.code yX7_plan prog_1_method_17_code 6 (Option.some Jvm.ClassFile.FieldType.int) : Cond) ∈ wt := in_wt 540 rfl rfl
theorem mw_541 : (.methodLink RX7 178 yX3_grow : Cond) ∈ wt := in_wt 541 (by decide +kernel) (by decide +kernel)
theorem mw_542 : (.instanceMethod yX3_grow : Cond) ∈ wt := in_wt 542 (by decide +kernel) (by decide +kernel)
theorem mw_543 : (.selects RX3 yX3_grow yX3_grow : Cond) ∈ wt := in_wt 543 (by decide +kernel) (by decide +kernel)
set_option maxRecDepth 100000 in
theorem mw_544 : (.code yX3_grow prog_5_method_2_code 6 (Option.none : Option Jvm.ClassFile.FieldType) : Cond) ∈ wt := in_wt 544 rfl rfl
theorem mw_545 : (.methodLink RX3 45 yX1_layerAt : Cond) ∈ wt := in_wt 545 (by decide +kernel) (by decide +kernel)
theorem mw_546 : (.methodLink RX3 49 yX1_thoughtAhead : Cond) ∈ wt := in_wt 546 (by decide +kernel) (by decide +kernel)
theorem mw_547 : (.methodLink RX7 182 yX3_firstFailingEvening : Cond) ∈ wt := in_wt 547 (by decide +kernel) (by decide +kernel)
theorem mw_548 : (.instanceMethod yX3_firstFailingEvening : Cond) ∈ wt := in_wt 548 (by decide +kernel) (by decide +kernel)
theorem mw_549 : (.selects RX3 yX3_firstFailingEvening yX3_firstFailingEvening : Cond) ∈ wt := in_wt 549 (by decide +kernel) (by decide +kernel)
set_option maxRecDepth 100000 in
theorem mw_550 : (.code yX3_firstFailingEvening prog_5_method_3_code 6 (Option.some Jvm.ClassFile.FieldType.int) : Cond) ∈ wt := in_wt 550 rfl rfl
theorem mw_551 : (.methodLink RX3 53 yJ7_fill_53178 : Cond) ∈ wt := in_wt 551 (by decide +kernel) (by decide +kernel)
theorem mw_552 : (.methodLink RX3 59 yX3_spend : Cond) ∈ wt := in_wt 552 (by decide +kernel) (by decide +kernel)
theorem mw_554 : (.instanceMethod yX3_spend : Cond) ∈ wt := in_wt 554 (by decide +kernel) (by decide +kernel)
set_option maxRecDepth 100000 in
theorem mw_555 : (.code yX3_spend prog_5_method_4_code 9 (Option.none : Option Jvm.ClassFile.FieldType) : Cond) ∈ wt := in_wt 555 rfl rfl
theorem mw_556 : (.methodLink RX3 67 yJ9_min_7cf53 : Cond) ∈ wt := in_wt 556 (by decide +kernel) (by decide +kernel)
theorem mw_557 : (.methodLink RX3 63 yX3_fewestCuts : Cond) ∈ wt := in_wt 557 (by decide +kernel) (by decide +kernel)
theorem mw_558 : (.instanceMethod yX3_fewestCuts : Cond) ∈ wt := in_wt 558 (by decide +kernel) (by decide +kernel)
theorem mw_559 : (.selects RX3 yX3_fewestCuts yX3_fewestCuts : Cond) ∈ wt := in_wt 559 (by decide +kernel) (by decide +kernel)
set_option maxRecDepth 100000 in
theorem mw_560 : (.code yX3_fewestCuts prog_5_method_5_code 3 (Option.some Jvm.ClassFile.FieldType.int) : Cond) ∈ wt := in_wt 560 rfl rfl
theorem mw_561 : (.methodLink RX7 186 yX3_fewestCuts : Cond) ∈ wt := in_wt 561 (by decide +kernel) (by decide +kernel)
theorem mw_562 : (.methodLink RL 81 yX7_least : Cond) ∈ wt := in_wt 562 (by decide +kernel) (by decide +kernel)
theorem mw_563 : (.instanceMethod yX7_least : Cond) ∈ wt := in_wt 563 (by decide +kernel) (by decide +kernel)
theorem mw_564 : (.selects RX7 yX7_least yX7_least : Cond) ∈ wt := in_wt 564 (by decide +kernel) (by decide +kernel)
set_option maxRecDepth 100000 in
theorem mw_565 : (.code yX7_least prog_1_method_18_code 4 (Option.some Jvm.ClassFile.FieldType.int) : Cond) ∈ wt := in_wt 565 rfl rfl
theorem mw_566 : (.methodLink RX7 189 yX3_fewestDays : Cond) ∈ wt := in_wt 566 (by decide +kernel) (by decide +kernel)
theorem mw_567 : (.instanceMethod yX3_fewestDays : Cond) ∈ wt := in_wt 567 (by decide +kernel) (by decide +kernel)
theorem mw_568 : (.selects RX3 yX3_fewestDays yX3_fewestDays : Cond) ∈ wt := in_wt 568 (by decide +kernel) (by decide +kernel)
set_option maxRecDepth 100000 in
theorem mw_569 : (.code yX3_fewestDays prog_5_method_6_code 3 (Option.some Jvm.ClassFile.FieldType.int) : Cond) ∈ wt := in_wt 569 rfl rfl
theorem mw_570 : (.methodLink RX3 72 yX3_countWhatIsLeft : Cond) ∈ wt := in_wt 570 (by decide +kernel) (by decide +kernel)
theorem mw_572 : (.instanceMethod yX3_countWhatIsLeft : Cond) ∈ wt := in_wt 572 (by decide +kernel) (by decide +kernel)
set_option maxRecDepth 100000 in
theorem mw_573 : (.code yX3_countWhatIsLeft prog_5_method_7_code 2 (Option.none : Option Jvm.ClassFile.FieldType) : Cond) ∈ wt := in_wt 573 rfl rfl
theorem mw_574 : (.methodLink RX3 75 yX3_suffices : Cond) ∈ wt := in_wt 574 (by decide +kernel) (by decide +kernel)
theorem mw_576 : (.instanceMethod yX3_suffices : Cond) ∈ wt := in_wt 576 (by decide +kernel) (by decide +kernel)
set_option maxRecDepth 100000 in
theorem mw_577 : (.code yX3_suffices prog_5_method_8_code 8 (Option.some Jvm.ClassFile.FieldType.boolean) : Cond) ∈ wt := in_wt 577 rfl rfl
theorem mw_578 : (.methodLink RX3 79 yJ9_max_7cf53 : Cond) ∈ wt := in_wt 578 (by decide +kernel) (by decide +kernel)
theorem mw_579 : (.static yJ9_max_7cf53 : Cond) ∈ wt := in_wt 579 (by decide +kernel) (by decide +kernel)
set_option maxRecDepth 100000 in
theorem mw_580 : (.code yJ9_max_7cf53 prog_12_method_65_code 2 (Option.some Jvm.ClassFile.FieldType.int) : Cond) ∈ wt := in_wt 580 rfl rfl
theorem mw_581 : (.methodLink RL 86 yX7_wig : Cond) ∈ wt := in_wt 581 (by decide +kernel) (by decide +kernel)
theorem mw_582 : (.instanceMethod yX7_wig : Cond) ∈ wt := in_wt 582 (by decide +kernel) (by decide +kernel)
theorem mw_583 : (.selects RX7 yX7_wig yX7_wig : Cond) ∈ wt := in_wt 583 (by decide +kernel) (by decide +kernel)
set_option maxRecDepth 100000 in
theorem mw_584 : (.code yX7_wig prog_1_method_19_code 6 (Option.some Jvm.ClassFile.FieldType.int) : Cond) ∈ wt := in_wt 584 rfl rfl
theorem mw_585 : (.methodLink RX7 195 yX1_thoughtsIn : Cond) ∈ wt := in_wt 585 (by decide +kernel) (by decide +kernel)
theorem mw_586 : (.instanceMethod yX1_thoughtsIn : Cond) ∈ wt := in_wt 586 (by decide +kernel) (by decide +kernel)
theorem mw_587 : (.selects RX1 yX1_thoughtsIn yX1_thoughtsIn : Cond) ∈ wt := in_wt 587 (by decide +kernel) (by decide +kernel)
set_option maxRecDepth 100000 in
theorem mw_588 : (.code yX1_thoughtsIn prog_3_method_12_code 4 (Option.some Jvm.ClassFile.FieldType.int) : Cond) ∈ wt := in_wt 588 rfl rfl
theorem mw_589 : (.methodLink RX7 198 yJ6_bitCount_0f7a4 : Cond) ∈ wt := in_wt 589 (by decide +kernel) (by decide +kernel)
theorem mw_590 : (.static yJ6_bitCount_0f7a4 : Cond) ∈ wt := in_wt 590 (by decide +kernel) (by decide +kernel)
set_option maxRecDepth 100000 in
theorem mw_591 : (.code yJ6_bitCount_0f7a4 prog_11_method_49_code 1 (Option.some Jvm.ClassFile.FieldType.int) : Cond) ∈ wt := in_wt 591 rfl rfl
theorem mw_592 : (.constant RJ6 265 (1431655765 : Int32) : Cond) ∈ wt := in_wt 592 (by decide +kernel) (by decide +kernel)
theorem mw_593 : (.constant RJ6 266 (858993459 : Int32) : Cond) ∈ wt := in_wt 593 (by decide +kernel) (by decide +kernel)
theorem mw_594 : (.constant RJ6 267 (252645135 : Int32) : Cond) ∈ wt := in_wt 594 (by decide +kernel) (by decide +kernel)
theorem mw_595 : (.methodLink RX7 203 yX7_thoughtsOf : Cond) ∈ wt := in_wt 595 (by decide +kernel) (by decide +kernel)
theorem mw_597 : (.instanceMethod yX7_thoughtsOf : Cond) ∈ wt := in_wt 597 (by decide +kernel) (by decide +kernel)
set_option maxRecDepth 100000 in
theorem mw_598 : (.code yX7_thoughtsOf prog_1_method_41_code 4 (Option.some Jvm.ClassFile.FieldType.int) : Cond) ∈ wt := in_wt 598 rfl rfl
theorem mw_599 : (.methodLink RX7 275 yX7_has : Cond) ∈ wt := in_wt 599 (by decide +kernel) (by decide +kernel)
theorem mw_600 : (.static yX7_has : Cond) ∈ wt := in_wt 600 (by decide +kernel) (by decide +kernel)
set_option maxRecDepth 100000 in
theorem mw_601 : (.code yX7_has prog_1_method_35_code 2 (Option.some Jvm.ClassFile.FieldType.boolean) : Cond) ∈ wt := in_wt 601 rfl rfl
theorem mw_602 : (.methodLink RL 90 yX7_odds : Cond) ∈ wt := in_wt 602 (by decide +kernel) (by decide +kernel)
theorem mw_603 : (.instanceMethod yX7_odds : Cond) ∈ wt := in_wt 603 (by decide +kernel) (by decide +kernel)
theorem mw_604 : (.selects RX7 yX7_odds yX7_odds : Cond) ∈ wt := in_wt 604 (by decide +kernel) (by decide +kernel)
set_option maxRecDepth 100000 in
theorem mw_605 : (.code yX7_odds prog_1_method_20_code 8 (Option.some Jvm.ClassFile.FieldType.int) : Cond) ∈ wt := in_wt 605 rfl rfl
theorem mw_606 : (.methodLink RX7 206 yX7_choose : Cond) ∈ wt := in_wt 606 (by decide +kernel) (by decide +kernel)
theorem mw_607 : (.static yX7_choose : Cond) ∈ wt := in_wt 607 (by decide +kernel) (by decide +kernel)
set_option maxRecDepth 100000 in
theorem mw_608 : (.code yX7_choose prog_1_method_43_code 4 (Option.some Jvm.ClassFile.FieldType.int) : Cond) ∈ wt := in_wt 608 rfl rfl
theorem mw_609 : (.methodLink RX7 209 yX7_power : Cond) ∈ wt := in_wt 609 (by decide +kernel) (by decide +kernel)
theorem mw_610 : (.static yX7_power : Cond) ∈ wt := in_wt 610 (by decide +kernel) (by decide +kernel)
set_option maxRecDepth 100000 in
theorem mw_611 : (.code yX7_power prog_1_method_42_code 4 (Option.some Jvm.ClassFile.FieldType.int) : Cond) ∈ wt := in_wt 611 rfl rfl
theorem mw_612 : (.methodLink RX7 212 yX7_commonDivisor : Cond) ∈ wt := in_wt 612 (by decide +kernel) (by decide +kernel)
theorem mw_613 : (.static yX7_commonDivisor : Cond) ∈ wt := in_wt 613 (by decide +kernel) (by decide +kernel)
set_option maxRecDepth 100000 in
theorem mw_614 : (.code yX7_commonDivisor prog_1_method_44_code 6 (Option.some Jvm.ClassFile.FieldType.int) : Cond) ∈ wt := in_wt 614 rfl rfl
theorem mw_615 : (.methodLink RL 94 yX7_saw : Cond) ∈ wt := in_wt 615 (by decide +kernel) (by decide +kernel)
theorem mw_616 : (.instanceMethod yX7_saw : Cond) ∈ wt := in_wt 616 (by decide +kernel) (by decide +kernel)
theorem mw_617 : (.selects RX7 yX7_saw yX7_saw : Cond) ∈ wt := in_wt 617 (by decide +kernel) (by decide +kernel)
set_option maxRecDepth 100000 in
theorem mw_618 : (.code yX7_saw prog_1_method_21_code 2 (Option.some Jvm.ClassFile.FieldType.int) : Cond) ∈ wt := in_wt 618 rfl rfl
theorem mw_619 : (.methodLink RL 98 yX7_lock : Cond) ∈ wt := in_wt 619 (by decide +kernel) (by decide +kernel)
theorem mw_620 : (.instanceMethod yX7_lock : Cond) ∈ wt := in_wt 620 (by decide +kernel) (by decide +kernel)
theorem mw_621 : (.selects RX7 yX7_lock yX7_lock : Cond) ∈ wt := in_wt 621 (by decide +kernel) (by decide +kernel)
set_option maxRecDepth 100000 in
theorem mw_622 : (.code yX7_lock prog_1_method_22_code 2 (Option.some Jvm.ClassFile.FieldType.int) : Cond) ∈ wt := in_wt 622 rfl rfl
theorem mw_623 : (.methodLink RX7 221 yX7_whoseLock : Cond) ∈ wt := in_wt 623 (by decide +kernel) (by decide +kernel)
theorem mw_625 : (.instanceMethod yX7_whoseLock : Cond) ∈ wt := in_wt 625 (by decide +kernel) (by decide +kernel)
set_option maxRecDepth 100000 in
theorem mw_626 : (.code yX7_whoseLock prog_1_method_45_code 4 (Option.some Jvm.ClassFile.FieldType.int) : Cond) ∈ wt := in_wt 626 rfl rfl
theorem mw_627 : (.methodLink RX7 279 yX0_fitAt : Cond) ∈ wt := in_wt 627 (by decide +kernel) (by decide +kernel)
theorem mw_628 : (.instanceMethod yX0_fitAt : Cond) ∈ wt := in_wt 628 (by decide +kernel) (by decide +kernel)
theorem mw_629 : (.selects RX0 yX0_fitAt yX0_fitAt : Cond) ∈ wt := in_wt 629 (by decide +kernel) (by decide +kernel)
set_option maxRecDepth 100000 in
theorem mw_630 : (.code yX0_fitAt prog_2_method_3_code 5 (Option.some Jvm.ClassFile.FieldType.boolean) : Cond) ∈ wt := in_wt 630 rfl rfl
theorem mw_631 : (.methodLink RX0 33 yX1_layerAt : Cond) ∈ wt := in_wt 631 (by decide +kernel) (by decide +kernel)
theorem mw_632 : (.methodLink RX7 224 yX7_nextInLock : Cond) ∈ wt := in_wt 632 (by decide +kernel) (by decide +kernel)
theorem mw_634 : (.instanceMethod yX7_nextInLock : Cond) ∈ wt := in_wt 634 (by decide +kernel) (by decide +kernel)
set_option maxRecDepth 100000 in
theorem mw_635 : (.code yX7_nextInLock prog_1_method_46_code 4 (Option.some Jvm.ClassFile.FieldType.int) : Cond) ∈ wt := in_wt 635 rfl rfl
theorem mw_636 : (.methodLink RX7 283 yJ7_fill_53178 : Cond) ∈ wt := in_wt 636 (by decide +kernel) (by decide +kernel)
theorem mw_637 : (.methodLink RL 102 yX7_hears : Cond) ∈ wt := in_wt 637 (by decide +kernel) (by decide +kernel)
theorem mw_638 : (.instanceMethod yX7_hears : Cond) ∈ wt := in_wt 638 (by decide +kernel) (by decide +kernel)
theorem mw_639 : (.selects RX7 yX7_hears yX7_hears : Cond) ∈ wt := in_wt 639 (by decide +kernel) (by decide +kernel)
set_option maxRecDepth 100000 in
theorem mw_640 : (.code yX7_hears prog_1_method_23_code 3 (Option.some Jvm.ClassFile.FieldType.int) : Cond) ∈ wt := in_wt 640 rfl rfl
theorem mw_641 : (.methodLink RL 106 yX7_sets : Cond) ∈ wt := in_wt 641 (by decide +kernel) (by decide +kernel)
theorem mw_642 : (.instanceMethod yX7_sets : Cond) ∈ wt := in_wt 642 (by decide +kernel) (by decide +kernel)
theorem mw_643 : (.selects RX7 yX7_sets yX7_sets : Cond) ∈ wt := in_wt 643 (by decide +kernel) (by decide +kernel)
set_option maxRecDepth 100000 in
theorem mw_644 : (.code yX7_sets prog_1_method_24_code 8 (Option.some Jvm.ClassFile.FieldType.int) : Cond) ∈ wt := in_wt 644 rfl rfl
theorem mw_645 : (.methodLink RX7 236 yX7_shareOutHeard : Cond) ∈ wt := in_wt 645 (by decide +kernel) (by decide +kernel)
theorem mw_647 : (.instanceMethod yX7_shareOutHeard : Cond) ∈ wt := in_wt 647 (by decide +kernel) (by decide +kernel)
set_option maxRecDepth 100000 in
theorem mw_648 : (.code yX7_shareOutHeard prog_1_method_47_code 3 (Option.none : Option Jvm.ClassFile.FieldType) : Cond) ∈ wt := in_wt 648 rfl rfl
theorem mw_649 : (.methodLink RX7 239 yX7_allHeardIsSo : Cond) ∈ wt := in_wt 649 (by decide +kernel) (by decide +kernel)
theorem mw_651 : (.instanceMethod yX7_allHeardIsSo : Cond) ∈ wt := in_wt 651 (by decide +kernel) (by decide +kernel)
set_option maxRecDepth 100000 in
theorem mw_652 : (.code yX7_allHeardIsSo prog_1_method_48_code 5 (Option.some Jvm.ClassFile.FieldType.boolean) : Cond) ∈ wt := in_wt 652 rfl rfl
theorem mw_653 : (.methodLink RL 110 yX7_forget : Cond) ∈ wt := in_wt 653 (by decide +kernel) (by decide +kernel)
theorem mw_654 : (.instanceMethod yX7_forget : Cond) ∈ wt := in_wt 654 (by decide +kernel) (by decide +kernel)
theorem mw_655 : (.selects RX7 yX7_forget yX7_forget : Cond) ∈ wt := in_wt 655 (by decide +kernel) (by decide +kernel)
set_option maxRecDepth 100000 in
theorem mw_656 : (.code yX7_forget prog_1_method_25_code 2 (Option.some Jvm.ClassFile.FieldType.int) : Cond) ∈ wt := in_wt 656 rfl rfl
theorem mw_657 : (.methodLink RL 114 yX7_mark : Cond) ∈ wt := in_wt 657 (by decide +kernel) (by decide +kernel)
theorem mw_658 : (.instanceMethod yX7_mark : Cond) ∈ wt := in_wt 658 (by decide +kernel) (by decide +kernel)
theorem mw_659 : (.selects RX7 yX7_mark yX7_mark : Cond) ∈ wt := in_wt 659 (by decide +kernel) (by decide +kernel)
set_option maxRecDepth 100000 in
theorem mw_660 : (.code yX7_mark prog_1_method_26_code 3 (Option.some Jvm.ClassFile.FieldType.int) : Cond) ∈ wt := in_wt 660 rfl rfl
theorem mw_661 : (.constant RX7 242 (-1000000 : Int32) : Cond) ∈ wt := in_wt 661 (by decide +kernel) (by decide +kernel)
theorem mw_662 : (.methodLink RX7 243 yX7_markOne : Cond) ∈ wt := in_wt 662 (by decide +kernel) (by decide +kernel)
theorem mw_664 : (.instanceMethod yX7_markOne : Cond) ∈ wt := in_wt 664 (by decide +kernel) (by decide +kernel)
set_option maxRecDepth 100000 in
theorem mw_665 : (.code yX7_markOne prog_1_method_49_code 2 (Option.some Jvm.ClassFile.FieldType.int) : Cond) ∈ wt := in_wt 665 rfl rfl
theorem mw_666 : (.methodLink RX7 246 yX7_markPoet : Cond) ∈ wt := in_wt 666 (by decide +kernel) (by decide +kernel)
theorem mw_668 : (.instanceMethod yX7_markPoet : Cond) ∈ wt := in_wt 668 (by decide +kernel) (by decide +kernel)
set_option maxRecDepth 100000 in
theorem mw_669 : (.code yX7_markPoet prog_1_method_50_code 2 (Option.some Jvm.ClassFile.FieldType.int) : Cond) ∈ wt := in_wt 669 rfl rfl
theorem mw_670 : (.constantLong RX7 289 (10 : Int64) : Cond) ∈ wt := in_wt 670 (by decide +kernel) (by decide +kernel)
theorem mw_671 : (.methodLink RX7 291 yX1_rootOf : Cond) ∈ wt := in_wt 671 (by decide +kernel) (by decide +kernel)
theorem mw_672 : (.instanceMethod yX1_rootOf : Cond) ∈ wt := in_wt 672 (by decide +kernel) (by decide +kernel)
theorem mw_673 : (.selects RX1 yX1_rootOf yX1_rootOf : Cond) ∈ wt := in_wt 673 (by decide +kernel) (by decide +kernel)
set_option maxRecDepth 100000 in
theorem mw_674 : (.code yX1_rootOf prog_3_method_13_code 2 (Option.some Jvm.ClassFile.FieldType.int) : Cond) ∈ wt := in_wt 674 rfl rfl
theorem mw_675 : (.methodLink RX7 249 yX7_markBride : Cond) ∈ wt := in_wt 675 (by decide +kernel) (by decide +kernel)
theorem mw_677 : (.instanceMethod yX7_markBride : Cond) ∈ wt := in_wt 677 (by decide +kernel) (by decide +kernel)
set_option maxRecDepth 100000 in
theorem mw_678 : (.code yX7_markBride prog_1_method_51_code 2 (Option.some Jvm.ClassFile.FieldType.int) : Cond) ∈ wt := in_wt 678 rfl rfl
theorem mw_679 : (.constantLong RX7 294 (100 : Int64) : Cond) ∈ wt := in_wt 679 (by decide +kernel) (by decide +kernel)
theorem mw_680 : (.methodLink RX7 252 yX7_markWig : Cond) ∈ wt := in_wt 680 (by decide +kernel) (by decide +kernel)
theorem mw_682 : (.instanceMethod yX7_markWig : Cond) ∈ wt := in_wt 682 (by decide +kernel) (by decide +kernel)
set_option maxRecDepth 100000 in
theorem mw_683 : (.code yX7_markWig prog_1_method_52_code 2 (Option.some Jvm.ClassFile.FieldType.int) : Cond) ∈ wt := in_wt 683 rfl rfl
theorem mw_684 : (.constantLong RX7 296 (1000 : Int64) : Cond) ∈ wt := in_wt 684 (by decide +kernel) (by decide +kernel)
theorem mw_685 : (.methodLink RX7 255 yX7_markNun : Cond) ∈ wt := in_wt 685 (by decide +kernel) (by decide +kernel)
theorem mw_687 : (.instanceMethod yX7_markNun : Cond) ∈ wt := in_wt 687 (by decide +kernel) (by decide +kernel)
set_option maxRecDepth 100000 in
theorem mw_688 : (.code yX7_markNun prog_1_method_53_code 2 (Option.some Jvm.ClassFile.FieldType.int) : Cond) ∈ wt := in_wt 688 rfl rfl
theorem mw_689 : (.constantLong RX7 298 (10000 : Int64) : Cond) ∈ wt := in_wt 689 (by decide +kernel) (by decide +kernel)
theorem mw_690 : (.methodLink RX7 258 yX7_markBald : Cond) ∈ wt := in_wt 690 (by decide +kernel) (by decide +kernel)
theorem mw_692 : (.instanceMethod yX7_markBald : Cond) ∈ wt := in_wt 692 (by decide +kernel) (by decide +kernel)
set_option maxRecDepth 100000 in
theorem mw_693 : (.code yX7_markBald prog_1_method_54_code 2 (Option.some Jvm.ClassFile.FieldType.int) : Cond) ∈ wt := in_wt 693 rfl rfl
theorem mw_694 : (.constantLong RX7 300 (100000 : Int64) : Cond) ∈ wt := in_wt 694 (by decide +kernel) (by decide +kernel)
theorem mw_695 : (.methodLink RL 118 yX7_keep : Cond) ∈ wt := in_wt 695 (by decide +kernel) (by decide +kernel)
theorem mw_696 : (.instanceMethod yX7_keep : Cond) ∈ wt := in_wt 696 (by decide +kernel) (by decide +kernel)
theorem mw_697 : (.selects RX7 yX7_keep yX7_keep : Cond) ∈ wt := in_wt 697 (by decide +kernel) (by decide +kernel)
set_option maxRecDepth 100000 in
theorem mw_698 : (.code yX7_keep prog_1_method_27_code 2 (Option.some Jvm.ClassFile.FieldType.int) : Cond) ∈ wt := in_wt 698 rfl rfl
theorem mw_699 : (.methodLink RX7 261 yX5_copyFrom : Cond) ∈ wt := in_wt 699 (by decide +kernel) (by decide +kernel)
theorem mw_700 : (.instanceMethod yX5_copyFrom : Cond) ∈ wt := in_wt 700 (by decide +kernel) (by decide +kernel)
theorem mw_701 : (.selects RX5 yX5_copyFrom yX5_copyFrom : Cond) ∈ wt := in_wt 701 (by decide +kernel) (by decide +kernel)
set_option maxRecDepth 100000 in
theorem mw_702 : (.code yX5_copyFrom prog_7_method_6_code 3 (Option.none : Option Jvm.ClassFile.FieldType) : Cond) ∈ wt := in_wt 702 rfl rfl
theorem mw_703 : (.methodLink RL 122 yX7_back : Cond) ∈ wt := in_wt 703 (by decide +kernel) (by decide +kernel)
theorem mw_704 : (.instanceMethod yX7_back : Cond) ∈ wt := in_wt 704 (by decide +kernel) (by decide +kernel)
theorem mw_705 : (.selects RX7 yX7_back yX7_back : Cond) ∈ wt := in_wt 705 (by decide +kernel) (by decide +kernel)
set_option maxRecDepth 100000 in
theorem mw_706 : (.code yX7_back prog_1_method_28_code 2 (Option.some Jvm.ClassFile.FieldType.int) : Cond) ∈ wt := in_wt 706 rfl rfl
theorem mw_707 : (.methodLink RL 126 yX7_count : Cond) ∈ wt := in_wt 707 (by decide +kernel) (by decide +kernel)
theorem mw_708 : (.instanceMethod yX7_count : Cond) ∈ wt := in_wt 708 (by decide +kernel) (by decide +kernel)
theorem mw_709 : (.selects RX7 yX7_count yX7_count : Cond) ∈ wt := in_wt 709 (by decide +kernel) (by decide +kernel)
set_option maxRecDepth 100000 in
theorem mw_710 : (.code yX7_count prog_1_method_29_code 2 (Option.some Jvm.ClassFile.FieldType.int) : Cond) ∈ wt := in_wt 710 rfl rfl
theorem mw_711 : (.methodLink RL 130 yX7_trace : Cond) ∈ wt := in_wt 711 (by decide +kernel) (by decide +kernel)
theorem mw_712 : (.instanceMethod yX7_trace : Cond) ∈ wt := in_wt 712 (by decide +kernel) (by decide +kernel)
theorem mw_713 : (.selects RX7 yX7_trace yX7_trace : Cond) ∈ wt := in_wt 713 (by decide +kernel) (by decide +kernel)
set_option maxRecDepth 100000 in
theorem mw_714 : (.code yX7_trace prog_1_method_30_code 1 (Option.some Jvm.ClassFile.FieldType.long) : Cond) ∈ wt := in_wt 714 rfl rfl
theorem mw_715 : (.classLink RL 10 RX8 : Cond) ∈ wt := in_wt 715 (by decide +kernel) (by decide +kernel)
theorem mw_716 : (.instantiable RX8 31 : Cond) ∈ wt := in_wt 716 (by decide +kernel) (by decide +kernel)
theorem mw_717 : (.methodLink RL 12 yX8_init : Cond) ∈ wt := in_wt 717 (by decide +kernel) (by decide +kernel)
theorem mw_718 : (.instanceMethod yX8_init : Cond) ∈ wt := in_wt 718 (by decide +kernel) (by decide +kernel)
set_option maxRecDepth 100000 in
theorem mw_719 : (.code yX8_init prog_10_method_1_code 1 (Option.none : Option Jvm.ClassFile.FieldType) : Cond) ∈ wt := in_wt 719 rfl rfl
theorem mw_720 : (.methodLink RX8 1 Lib.objectInit : Cond) ∈ wt := in_wt 720 (by decide +kernel) (by decide +kernel)
theorem mw_721 : (.fieldLink RX8 57 "BarberJarsModel" "people" "I" : Cond) ∈ wt := in_wt 721 (by decide +kernel) (by decide +kernel)
theorem mw_722 : (.fieldLink RX8 7 "BarberJarsModel" "secrets" "[I" : Cond) ∈ wt := in_wt 722 (by decide +kernel) (by decide +kernel)
theorem mw_723 : (.fieldLink RX8 13 "BarberJarsModel" "weekMany" "[I" : Cond) ∈ wt := in_wt 723 (by decide +kernel) (by decide +kernel)
theorem mw_724 : (.fieldLink RX8 16 "BarberJarsModel" "weeks" "[I" : Cond) ∈ wt := in_wt 724 (by decide +kernel) (by decide +kernel)
theorem mw_725 : (.fieldLink RX8 19 "BarberJarsModel" "longest" "I" : Cond) ∈ wt := in_wt 725 (by decide +kernel) (by decide +kernel)
theorem mw_726 : (.fieldLink RX8 23 "BarberJarsModel" "st" "[I" : Cond) ∈ wt := in_wt 726 (by decide +kernel) (by decide +kernel)
theorem mw_727 : (.fieldLink RX8 26 "BarberJarsModel" "images" "[I" : Cond) ∈ wt := in_wt 727 (by decide +kernel) (by decide +kernel)
theorem mw_728 : (.fieldLink RX8 29 "BarberJarsModel" "isKept" "[Z" : Cond) ∈ wt := in_wt 728 (by decide +kernel) (by decide +kernel)
theorem mw_729 : (.fieldLink RX8 125 "BarberJarsModel" "seenMany" "I" : Cond) ∈ wt := in_wt 729 (by decide +kernel) (by decide +kernel)
theorem mw_730 : (.fieldLink RX8 33 "BarberJarsModel" "seen" "[I" : Cond) ∈ wt := in_wt 730 (by decide +kernel) (by decide +kernel)
theorem mw_731 : (.fieldLink RX8 128 "BarberJarsModel" "heardMany" "I" : Cond) ∈ wt := in_wt 731 (by decide +kernel) (by decide +kernel)
theorem mw_732 : (.fieldLink RX8 36 "BarberJarsModel" "heard" "[I" : Cond) ∈ wt := in_wt 732 (by decide +kernel) (by decide +kernel)
theorem mw_733 : (.fieldLink RX8 199 "BarberJarsModel" "trace" "J" : Cond) ∈ wt := in_wt 733 (by decide +kernel) (by decide +kernel)
theorem mw_734 : (.fieldLink RX8 39 "BarberJarsModel" "text" "[I" : Cond) ∈ wt := in_wt 734 (by decide +kernel) (by decide +kernel)
theorem mw_735 : (.fieldLink RX8 64 "BarberJarsModel" "texted" "I" : Cond) ∈ wt := in_wt 735 (by decide +kernel) (by decide +kernel)
theorem mw_736 : (.fieldLink RX8 67 "BarberJarsModel" "cursor" "I" : Cond) ∈ wt := in_wt 736 (by decide +kernel) (by decide +kernel)
theorem mw_737 : (.fieldLink RX8 74 "BarberJarsModel" "start" "I" : Cond) ∈ wt := in_wt 737 (by decide +kernel) (by decide +kernel)
theorem mw_738 : (.fieldLink RX8 80 "BarberJarsModel" "token" "I" : Cond) ∈ wt := in_wt 738 (by decide +kernel) (by decide +kernel)
theorem mw_739 : (.fieldLink RX8 77 "BarberJarsModel" "number" "I" : Cond) ∈ wt := in_wt 739 (by decide +kernel) (by decide +kernel)
theorem mw_740 : (.fieldLink RX8 90 "BarberJarsModel" "isWrong" "Z" : Cond) ∈ wt := in_wt 740 (by decide +kernel) (by decide +kernel)
theorem mw_741 : (.fieldLink RX8 116 "BarberJarsModel" "items" "I" : Cond) ∈ wt := in_wt 741 (by decide +kernel) (by decide +kernel)
theorem mw_742 : (.fieldLink RX8 97 "BarberJarsModel" "saidPeople" "I" : Cond) ∈ wt := in_wt 742 (by decide +kernel) (by decide +kernel)
theorem mw_743 : (.fieldLink RX8 42 "BarberJarsModel" "saidSecret" "[I" : Cond) ∈ wt := in_wt 743 (by decide +kernel) (by decide +kernel)
theorem mw_744 : (.fieldLink RX8 45 "BarberJarsModel" "saidMany" "[I" : Cond) ∈ wt := in_wt 744 (by decide +kernel) (by decide +kernel)
theorem mw_745 : (.fieldLink RX8 48 "BarberJarsModel" "saidWeek" "[I" : Cond) ∈ wt := in_wt 745 (by decide +kernel) (by decide +kernel)
theorem mw_746 : (.fieldLink RX8 104 "BarberJarsModel" "saidLongest" "I" : Cond) ∈ wt := in_wt 746 (by decide +kernel) (by decide +kernel)
theorem mw_747 : (.fieldLink RX8 107 "BarberJarsModel" "saidJar" "I" : Cond) ∈ wt := in_wt 747 (by decide +kernel) (by decide +kernel)
theorem mw_748 : (.fieldLink RX8 51 "BarberJarsModel" "tried" "[I" : Cond) ∈ wt := in_wt 748 (by decide +kernel) (by decide +kernel)
theorem mw_749 : (.fieldLink RX8 163 "BarberJarsModel" "begins" "I" : Cond) ∈ wt := in_wt 749 (by decide +kernel) (by decide +kernel)
theorem mw_750 : (.fieldLink RX8 166 "BarberJarsModel" "ends" "I" : Cond) ∈ wt := in_wt 750 (by decide +kernel) (by decide +kernel)
theorem mw_751 : (.fieldLink RX8 54 "BarberJarsModel" "nextOnes" "[I" : Cond) ∈ wt := in_wt 751 (by decide +kernel) (by decide +kernel)
theorem mw_815 : (.methodLink RL 17 yX8_type : Cond) ∈ wt := in_wt 815 (by decide +kernel) (by decide +kernel)
theorem mw_816 : (.instanceMethod yX8_type : Cond) ∈ wt := in_wt 816 (by decide +kernel) (by decide +kernel)
theorem mw_817 : (.selects RX8 yX8_type yX8_type : Cond) ∈ wt := in_wt 817 (by decide +kernel) (by decide +kernel)
set_option maxRecDepth 100000 in
theorem mw_818 : (.code yX8_type prog_10_method_9_code 2 (Option.some Jvm.ClassFile.FieldType.int) : Cond) ∈ wt := in_wt 818 rfl rfl
theorem mw_819 : (.methodLink RX8 60 yX8_in : Cond) ∈ wt := in_wt 819 (by decide +kernel) (by decide +kernel)
theorem mw_820 : (.static yX8_in : Cond) ∈ wt := in_wt 820 (by decide +kernel) (by decide +kernel)
set_option maxRecDepth 100000 in
theorem mw_821 : (.code yX8_in prog_10_method_3_code 3 (Option.some Jvm.ClassFile.FieldType.boolean) : Cond) ∈ wt := in_wt 821 rfl rfl
theorem mw_822 : (.methodLink RL 22 yX8_clear : Cond) ∈ wt := in_wt 822 (by decide +kernel) (by decide +kernel)
theorem mw_823 : (.instanceMethod yX8_clear : Cond) ∈ wt := in_wt 823 (by decide +kernel) (by decide +kernel)
theorem mw_824 : (.selects RX8 yX8_clear yX8_clear : Cond) ∈ wt := in_wt 824 (by decide +kernel) (by decide +kernel)
set_option maxRecDepth 100000 in
theorem mw_825 : (.code yX8_clear prog_10_method_10_code 2 (Option.some Jvm.ClassFile.FieldType.int) : Cond) ∈ wt := in_wt 825 rfl rfl
theorem mw_826 : (.methodLink RL 26 yX8_shop : Cond) ∈ wt := in_wt 826 (by decide +kernel) (by decide +kernel)
theorem mw_827 : (.instanceMethod yX8_shop : Cond) ∈ wt := in_wt 827 (by decide +kernel) (by decide +kernel)
theorem mw_828 : (.selects RX8 yX8_shop yX8_shop : Cond) ∈ wt := in_wt 828 (by decide +kernel) (by decide +kernel)
set_option maxRecDepth 100000 in
theorem mw_829 : (.code yX8_shop prog_10_method_19_code 1 (Option.some Jvm.ClassFile.FieldType.int) : Cond) ∈ wt := in_wt 829 rfl rfl
theorem mw_830 : (.methodLink RX8 94 yX8_next : Cond) ∈ wt := in_wt 830 (by decide +kernel) (by decide +kernel)
theorem mw_832 : (.instanceMethod yX8_next : Cond) ∈ wt := in_wt 832 (by decide +kernel) (by decide +kernel)
set_option maxRecDepth 100000 in
theorem mw_833 : (.code yX8_next prog_10_method_14_code 2 (Option.none : Option Jvm.ClassFile.FieldType) : Cond) ∈ wt := in_wt 833 rfl rfl
theorem mw_834 : (.methodLink RX8 70 yX8_letterAt : Cond) ∈ wt := in_wt 834 (by decide +kernel) (by decide +kernel)
theorem mw_836 : (.instanceMethod yX8_letterAt : Cond) ∈ wt := in_wt 836 (by decide +kernel) (by decide +kernel)
set_option maxRecDepth 100000 in
theorem mw_837 : (.code yX8_letterAt prog_10_method_11_code 2 (Option.some Jvm.ClassFile.FieldType.int) : Cond) ∈ wt := in_wt 837 rfl rfl
theorem mw_838 : (.methodLink RX8 83 yX8_isFigure : Cond) ∈ wt := in_wt 838 (by decide +kernel) (by decide +kernel)
theorem mw_839 : (.static yX8_isFigure : Cond) ∈ wt := in_wt 839 (by decide +kernel) (by decide +kernel)
set_option maxRecDepth 100000 in
theorem mw_840 : (.code yX8_isFigure prog_10_method_12_code 1 (Option.some Jvm.ClassFile.FieldType.boolean) : Cond) ∈ wt := in_wt 840 rfl rfl
theorem mw_841 : (.methodLink RX8 87 yX8_isLetter : Cond) ∈ wt := in_wt 841 (by decide +kernel) (by decide +kernel)
theorem mw_842 : (.static yX8_isLetter : Cond) ∈ wt := in_wt 842 (by decide +kernel) (by decide +kernel)
set_option maxRecDepth 100000 in
theorem mw_843 : (.code yX8_isLetter prog_10_method_13_code 1 (Option.some Jvm.ClassFile.FieldType.boolean) : Cond) ∈ wt := in_wt 843 rfl rfl
theorem mw_844 : (.methodLink RX8 119 yX8_readItem : Cond) ∈ wt := in_wt 844 (by decide +kernel) (by decide +kernel)
theorem mw_846 : (.instanceMethod yX8_readItem : Cond) ∈ wt := in_wt 846 (by decide +kernel) (by decide +kernel)
set_option maxRecDepth 100000 in
theorem mw_847 : (.code yX8_readItem prog_10_method_18_code 2 (Option.none : Option Jvm.ClassFile.FieldType) : Cond) ∈ wt := in_wt 847 rfl rfl
theorem mw_848 : (.methodLink RX8 110 yX8_mayBegin : Cond) ∈ wt := in_wt 848 (by decide +kernel) (by decide +kernel)
theorem mw_850 : (.instanceMethod yX8_mayBegin : Cond) ∈ wt := in_wt 850 (by decide +kernel) (by decide +kernel)
set_option maxRecDepth 100000 in
theorem mw_851 : (.code yX8_mayBegin prog_10_method_17_code 2 (Option.some Jvm.ClassFile.FieldType.boolean) : Cond) ∈ wt := in_wt 851 rfl rfl
theorem mw_852 : (.methodLink RX8 113 yX8_readOne : Cond) ∈ wt := in_wt 852 (by decide +kernel) (by decide +kernel)
theorem mw_854 : (.instanceMethod yX8_readOne : Cond) ∈ wt := in_wt 854 (by decide +kernel) (by decide +kernel)
set_option maxRecDepth 100000 in
theorem mw_855 : (.code yX8_readOne prog_10_method_16_code 3 (Option.none : Option Jvm.ClassFile.FieldType) : Cond) ∈ wt := in_wt 855 rfl rfl
theorem mw_856 : (.methodLink RX8 100 yX8_takesNumber : Cond) ∈ wt := in_wt 856 (by decide +kernel) (by decide +kernel)
theorem mw_858 : (.instanceMethod yX8_takesNumber : Cond) ∈ wt := in_wt 858 (by decide +kernel) (by decide +kernel)
set_option maxRecDepth 100000 in
theorem mw_859 : (.code yX8_takesNumber prog_10_method_15_code 5 (Option.some Jvm.ClassFile.FieldType.int) : Cond) ∈ wt := in_wt 859 rfl rfl
theorem mw_860 : (.methodLink RX8 122 yX8_settles : Cond) ∈ wt := in_wt 860 (by decide +kernel) (by decide +kernel)
theorem mw_862 : (.instanceMethod yX8_settles : Cond) ∈ wt := in_wt 862 (by decide +kernel) (by decide +kernel)
set_option maxRecDepth 100000 in
theorem mw_863 : (.code yX8_settles prog_10_method_20_code 2 (Option.none : Option Jvm.ClassFile.FieldType) : Cond) ∈ wt := in_wt 863 rfl rfl
theorem mw_864 : (.methodLink RL 31 yX8_one : Cond) ∈ wt := in_wt 864 (by decide +kernel) (by decide +kernel)
theorem mw_865 : (.instanceMethod yX8_one : Cond) ∈ wt := in_wt 865 (by decide +kernel) (by decide +kernel)
theorem mw_866 : (.selects RX8 yX8_one yX8_one : Cond) ∈ wt := in_wt 866 (by decide +kernel) (by decide +kernel)
set_option maxRecDepth 100000 in
theorem mw_867 : (.code yX8_one prog_10_method_24_code 3 (Option.some Jvm.ClassFile.FieldType.int) : Cond) ∈ wt := in_wt 867 rfl rfl
theorem mw_868 : (.methodLink RX8 134 yX8_isOne : Cond) ∈ wt := in_wt 868 (by decide +kernel) (by decide +kernel)
theorem mw_870 : (.instanceMethod yX8_isOne : Cond) ∈ wt := in_wt 870 (by decide +kernel) (by decide +kernel)
set_option maxRecDepth 100000 in
theorem mw_871 : (.code yX8_isOne prog_10_method_6_code 2 (Option.some Jvm.ClassFile.FieldType.boolean) : Cond) ∈ wt := in_wt 871 rfl rfl
theorem mw_872 : (.methodLink RX8 137 yX8_layersOf : Cond) ∈ wt := in_wt 872 (by decide +kernel) (by decide +kernel)
theorem mw_874 : (.instanceMethod yX8_layersOf : Cond) ∈ wt := in_wt 874 (by decide +kernel) (by decide +kernel)
set_option maxRecDepth 100000 in
theorem mw_875 : (.code yX8_layersOf prog_10_method_22_code 5 (Option.some Jvm.ClassFile.FieldType.int) : Cond) ∈ wt := in_wt 875 rfl rfl
theorem mw_876 : (.methodLink RX8 131 yX8_layerOf : Cond) ∈ wt := in_wt 876 (by decide +kernel) (by decide +kernel)
theorem mw_878 : (.instanceMethod yX8_layerOf : Cond) ∈ wt := in_wt 878 (by decide +kernel) (by decide +kernel)
set_option maxRecDepth 100000 in
theorem mw_879 : (.code yX8_layerOf prog_10_method_21_code 3 (Option.some Jvm.ClassFile.FieldType.int) : Cond) ∈ wt := in_wt 879 rfl rfl
theorem mw_880 : (.methodLink RL 35 yX8_week : Cond) ∈ wt := in_wt 880 (by decide +kernel) (by decide +kernel)
theorem mw_881 : (.instanceMethod yX8_week : Cond) ∈ wt := in_wt 881 (by decide +kernel) (by decide +kernel)
theorem mw_882 : (.selects RX8 yX8_week yX8_week : Cond) ∈ wt := in_wt 882 (by decide +kernel) (by decide +kernel)
set_option maxRecDepth 100000 in
theorem mw_883 : (.code yX8_week prog_10_method_25_code 3 (Option.some Jvm.ClassFile.FieldType.int) : Cond) ∈ wt := in_wt 883 rfl rfl
theorem mw_884 : (.methodLink RL 39 yX8_layer : Cond) ∈ wt := in_wt 884 (by decide +kernel) (by decide +kernel)
theorem mw_885 : (.instanceMethod yX8_layer : Cond) ∈ wt := in_wt 885 (by decide +kernel) (by decide +kernel)
theorem mw_886 : (.selects RX8 yX8_layer yX8_layer : Cond) ∈ wt := in_wt 886 (by decide +kernel) (by decide +kernel)
set_option maxRecDepth 100000 in
theorem mw_887 : (.code yX8_layer prog_10_method_26_code 3 (Option.some Jvm.ClassFile.FieldType.int) : Cond) ∈ wt := in_wt 887 rfl rfl
theorem mw_888 : (.methodLink RL 43 yX8_jar : Cond) ∈ wt := in_wt 888 (by decide +kernel) (by decide +kernel)
theorem mw_889 : (.instanceMethod yX8_jar : Cond) ∈ wt := in_wt 889 (by decide +kernel) (by decide +kernel)
theorem mw_890 : (.selects RX8 yX8_jar yX8_jar : Cond) ∈ wt := in_wt 890 (by decide +kernel) (by decide +kernel)
set_option maxRecDepth 100000 in
theorem mw_891 : (.code yX8_jar prog_10_method_27_code 3 (Option.some Jvm.ClassFile.FieldType.int) : Cond) ∈ wt := in_wt 891 rfl rfl
theorem mw_892 : (.methodLink RX8 140 yX8_isJar : Cond) ∈ wt := in_wt 892 (by decide +kernel) (by decide +kernel)
theorem mw_893 : (.static yX8_isJar : Cond) ∈ wt := in_wt 893 (by decide +kernel) (by decide +kernel)
set_option maxRecDepth 100000 in
theorem mw_894 : (.code yX8_isJar prog_10_method_8_code 1 (Option.some Jvm.ClassFile.FieldType.boolean) : Cond) ∈ wt := in_wt 894 rfl rfl
theorem mw_895 : (.methodLink RX8 143 yX8_isThought : Cond) ∈ wt := in_wt 895 (by decide +kernel) (by decide +kernel)
theorem mw_896 : (.static yX8_isThought : Cond) ∈ wt := in_wt 896 (by decide +kernel) (by decide +kernel)
set_option maxRecDepth 100000 in
theorem mw_897 : (.code yX8_isThought prog_10_method_7_code 1 (Option.some Jvm.ClassFile.FieldType.boolean) : Cond) ∈ wt := in_wt 897 rfl rfl
theorem mw_898 : (.methodLink RL 47 yX8_days : Cond) ∈ wt := in_wt 898 (by decide +kernel) (by decide +kernel)
theorem mw_899 : (.instanceMethod yX8_days : Cond) ∈ wt := in_wt 899 (by decide +kernel) (by decide +kernel)
theorem mw_900 : (.selects RX8 yX8_days yX8_days : Cond) ∈ wt := in_wt 900 (by decide +kernel) (by decide +kernel)
set_option maxRecDepth 100000 in
theorem mw_901 : (.code yX8_days prog_10_method_32_code 4 (Option.some Jvm.ClassFile.FieldType.int) : Cond) ∈ wt := in_wt 901 rfl rfl
theorem mw_902 : (.methodLink RX8 153 yX8_remembers : Cond) ∈ wt := in_wt 902 (by decide +kernel) (by decide +kernel)
theorem mw_904 : (.instanceMethod yX8_remembers : Cond) ∈ wt := in_wt 904 (by decide +kernel) (by decide +kernel)
set_option maxRecDepth 100000 in
theorem mw_905 : (.code yX8_remembers prog_10_method_28_code 3 (Option.none : Option Jvm.ClassFile.FieldType) : Cond) ∈ wt := in_wt 905 rfl rfl
theorem mw_906 : (.methodLink RX8 156 yX8_grows : Cond) ∈ wt := in_wt 906 (by decide +kernel) (by decide +kernel)
theorem mw_908 : (.instanceMethod yX8_grows : Cond) ∈ wt := in_wt 908 (by decide +kernel) (by decide +kernel)
set_option maxRecDepth 100000 in
theorem mw_909 : (.code yX8_grows prog_10_method_31_code 3 (Option.none : Option Jvm.ClassFile.FieldType) : Cond) ∈ wt := in_wt 909 rfl rfl
theorem mw_910 : (.methodLink RX8 146 yX8_thinks : Cond) ∈ wt := in_wt 910 (by decide +kernel) (by decide +kernel)
theorem mw_912 : (.instanceMethod yX8_thinks : Cond) ∈ wt := in_wt 912 (by decide +kernel) (by decide +kernel)
set_option maxRecDepth 100000 in
theorem mw_913 : (.code yX8_thinks prog_10_method_29_code 3 (Option.some Jvm.ClassFile.FieldType.int) : Cond) ∈ wt := in_wt 913 rfl rfl
theorem mw_914 : (.methodLink RX8 149 yX8_loses : Cond) ∈ wt := in_wt 914 (by decide +kernel) (by decide +kernel)
theorem mw_916 : (.instanceMethod yX8_loses : Cond) ∈ wt := in_wt 916 (by decide +kernel) (by decide +kernel)
set_option maxRecDepth 100000 in
theorem mw_917 : (.code yX8_loses prog_10_method_30_code 4 (Option.none : Option Jvm.ClassFile.FieldType) : Cond) ∈ wt := in_wt 917 rfl rfl
theorem mw_918 : (.methodLink RL 51 yX8_minds : Cond) ∈ wt := in_wt 918 (by decide +kernel) (by decide +kernel)
