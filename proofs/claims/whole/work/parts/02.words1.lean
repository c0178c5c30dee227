theorem mw_473 : (.selects RX7 yX7_minds yX7_minds : Cond) ∈ wt := in_wt 473 (by decide +kernel) (by decide +kernel)
set_option maxRecDepth 100000 in
theorem mw_474 : (.code yX7_minds prog_1_method_10_code 4 (Option.some Jvm.ClassFile.FieldType.int) : Cond) ∈ wt := in_wt 474 rfl rfl
theorem mw_475 : (.methodLink RL 52 yX7_cuts : Cond) ∈ wt := in_wt 475 (by decide +kernel) (by decide +kernel)
theorem mw_476 : (.instanceMethod yX7_cuts : Cond) ∈ wt := in_wt 476 (by decide +kernel) (by decide +kernel)
theorem mw_477 : (.selects RX7 yX7_cuts yX7_cuts : Cond) ∈ wt := in_wt 477 (by decide +kernel) (by decide +kernel)
set_option maxRecDepth 100000 in
theorem mw_478 : (.code yX7_cuts prog_1_method_11_code 3 (Option.some Jvm.ClassFile.FieldType.int) : Cond) ∈ wt := in_wt 478 rfl rfl
theorem mw_479 : (.methodLink RX7 150 yX1_sweep : Cond) ∈ wt := in_wt 479 (by decide +kernel) (by decide +kernel)
theorem mw_480 : (.instanceMethod yX1_sweep : Cond) ∈ wt := in_wt 480 (by decide +kernel) (by decide +kernel)
theorem mw_481 : (.selects RX1 yX1_sweep yX1_sweep : Cond) ∈ wt := in_wt 481 (by decide +kernel) (by decide +kernel)
set_option maxRecDepth 100000 in
theorem mw_482 : (.code yX1_sweep prog_3_method_8_code 5 (Option.none : Option Jvm.ClassFile.FieldType) : Cond) ∈ wt := in_wt 482 rfl rfl
theorem mw_483 : (.methodLink RX1 66 yJ9_min_7cf53 : Cond) ∈ wt := in_wt 483 (by decide +kernel) (by decide +kernel)
theorem mw_484 : (.methodLink RL 56 yX7_changes : Cond) ∈ wt := in_wt 484 (by decide +kernel) (by decide +kernel)
theorem mw_485 : (.instanceMethod yX7_changes : Cond) ∈ wt := in_wt 485 (by decide +kernel) (by decide +kernel)
theorem mw_486 : (.selects RX7 yX7_changes yX7_changes : Cond) ∈ wt := in_wt 486 (by decide +kernel) (by decide +kernel)
set_option maxRecDepth 100000 in
theorem mw_487 : (.code yX7_changes prog_1_method_12_code 3 (Option.some Jvm.ClassFile.FieldType.int) : Cond) ∈ wt := in_wt 487 rfl rfl
theorem mw_488 : (.methodLink RL 60 yX7_empties : Cond) ∈ wt := in_wt 488 (by decide +kernel) (by decide +kernel)
theorem mw_489 : (.instanceMethod yX7_empties : Cond) ∈ wt := in_wt 489 (by decide +kernel) (by decide +kernel)
theorem mw_490 : (.selects RX7 yX7_empties yX7_empties : Cond) ∈ wt := in_wt 490 (by decide +kernel) (by decide +kernel)
set_option maxRecDepth 100000 in
theorem mw_491 : (.code yX7_empties prog_1_method_13_code 3 (Option.some Jvm.ClassFile.FieldType.int) : Cond) ∈ wt := in_wt 491 rfl rfl
theorem mw_492 : (.methodLink RX7 155 yX1_sweptInto : Cond) ∈ wt := in_wt 492 (by decide +kernel) (by decide +kernel)
theorem mw_493 : (.instanceMethod yX1_sweptInto : Cond) ∈ wt := in_wt 493 (by decide +kernel) (by decide +kernel)
theorem mw_494 : (.selects RX1 yX1_sweptInto yX1_sweptInto : Cond) ∈ wt := in_wt 494 (by decide +kernel) (by decide +kernel)
set_option maxRecDepth 100000 in
theorem mw_495 : (.code yX1_sweptInto prog_3_method_14_code 4 (Option.some Jvm.ClassFile.FieldType.int) : Cond) ∈ wt := in_wt 495 rfl rfl
theorem mw_496 : (.methodLink RX1 71 yX1_sweptOf : Cond) ∈ wt := in_wt 496 (by decide +kernel) (by decide +kernel)
theorem mw_497 : (.methodLink RX7 159 yX1_pourOut : Cond) ∈ wt := in_wt 497 (by decide +kernel) (by decide +kernel)
theorem mw_498 : (.instanceMethod yX1_pourOut : Cond) ∈ wt := in_wt 498 (by decide +kernel) (by decide +kernel)
theorem mw_499 : (.selects RX1 yX1_pourOut yX1_pourOut : Cond) ∈ wt := in_wt 499 (by decide +kernel) (by decide +kernel)
set_option maxRecDepth 100000 in
theorem mw_500 : (.code yX1_pourOut prog_3_method_10_code 3 (Option.none : Option Jvm.ClassFile.FieldType) : Cond) ∈ wt := in_wt 500 rfl rfl
theorem mw_501 : (.methodLink RL 64 yX7_undo : Cond) ∈ wt := in_wt 501 (by decide +kernel) (by decide +kernel)
theorem mw_502 : (.instanceMethod yX7_undo : Cond) ∈ wt := in_wt 502 (by decide +kernel) (by decide +kernel)
theorem mw_503 : (.selects RX7 yX7_undo yX7_undo : Cond) ∈ wt := in_wt 503 (by decide +kernel) (by decide +kernel)
set_option maxRecDepth 100000 in
theorem mw_504 : (.code yX7_undo prog_1_method_14_code 1 (Option.some Jvm.ClassFile.FieldType.int) : Cond) ∈ wt := in_wt 504 rfl rfl
theorem mw_505 : (.methodLink RX7 165 yX5_goBack : Cond) ∈ wt := in_wt 505 (by decide +kernel) (by decide +kernel)
theorem mw_506 : (.instanceMethod yX5_goBack : Cond) ∈ wt := in_wt 506 (by decide +kernel) (by decide +kernel)
theorem mw_507 : (.selects RX5 yX5_goBack yX5_goBack : Cond) ∈ wt := in_wt 507 (by decide +kernel) (by decide +kernel)
set_option maxRecDepth 100000 in
theorem mw_508 : (.code yX5_goBack prog_7_method_5_code 1 (Option.none : Option Jvm.ClassFile.FieldType) : Cond) ∈ wt := in_wt 508 rfl rfl
theorem mw_509 : (.methodLink RL 68 yX7_now : Cond) ∈ wt := in_wt 509 (by decide +kernel) (by decide +kernel)
theorem mw_510 : (.instanceMethod yX7_now : Cond) ∈ wt := in_wt 510 (by decide +kernel) (by decide +kernel)
theorem mw_511 : (.selects RX7 yX7_now yX7_now : Cond) ∈ wt := in_wt 511 (by decide +kernel) (by decide +kernel)
set_option maxRecDepth 100000 in
theorem mw_512 : (.code yX7_now prog_1_method_15_code 3 (Option.some Jvm.ClassFile.FieldType.int) : Cond) ∈ wt := in_wt 512 rfl rfl
theorem mw_513 : (.methodLink RX7 168 yX7_layersOfAll : Cond) ∈ wt := in_wt 513 (by decide +kernel) (by decide +kernel)
theorem mw_515 : (.instanceMethod yX7_layersOfAll : Cond) ∈ wt := in_wt 515 (by decide +kernel) (by decide +kernel)
set_option maxRecDepth 100000 in
theorem mw_516 : (.code yX7_layersOfAll prog_1_method_38_code 3 (Option.some Jvm.ClassFile.FieldType.int) : Cond) ∈ wt := in_wt 516 rfl rfl
theorem mw_517 : (.methodLink RX7 171 yX7_sweptIntoAll : Cond) ∈ wt := in_wt 517 (by decide +kernel) (by decide +kernel)
theorem mw_519 : (.instanceMethod yX7_sweptIntoAll : Cond) ∈ wt := in_wt 519 (by decide +kernel) (by decide +kernel)
set_option maxRecDepth 100000 in
theorem mw_520 : (.code yX7_sweptIntoAll prog_1_method_39_code 3 (Option.some Jvm.ClassFile.FieldType.int) : Cond) ∈ wt := in_wt 520 rfl rfl
theorem mw_521 : (.methodLink RL 72 yX7_reads : Cond) ∈ wt := in_wt 521 (by decide +kernel) (by decide +kernel)
theorem mw_522 : (.instanceMethod yX7_reads : Cond) ∈ wt := in_wt 522 (by decide +kernel) (by decide +kernel)
theorem mw_523 : (.selects RX7 yX7_reads yX7_reads : Cond) ∈ wt := in_wt 523 (by decide +kernel) (by decide +kernel)
set_option maxRecDepth 100000 in
theorem mw_524 : (.code yX7_reads prog_1_method_16_code 3 (Option.some Jvm.ClassFile.FieldType.int) : Cond) ∈ wt := in_wt 524 rfl rfl
theorem mw_525 : (.methodLink RX7 174 yX7_mostIn : Cond) ∈ wt := in_wt 525 (by decide +kernel) (by decide +kernel)
theorem mw_527 : (.instanceMethod yX7_mostIn : Cond) ∈ wt := in_wt 527 (by decide +kernel) (by decide +kernel)
set_option maxRecDepth 100000 in
theorem mw_528 : (.code yX7_mostIn prog_1_method_37_code 3 (Option.some Jvm.ClassFile.FieldType.int) : Cond) ∈ wt := in_wt 528 rfl rfl
theorem mw_529 : (.methodLink RX7 273 yX7_mostOf : Cond) ∈ wt := in_wt 529 (by decide +kernel) (by decide +kernel)
theorem mw_530 : (.static yX7_mostOf : Cond) ∈ wt := in_wt 530 (by decide +kernel) (by decide +kernel)
set_option maxRecDepth 100000 in
theorem mw_531 : (.code yX7_mostOf prog_1_method_36_code 4 (Option.some Jvm.ClassFile.FieldType.int) : Cond) ∈ wt := in_wt 531 rfl rfl
theorem mw_532 : (.methodLink RX7 177 yX7_blushes : Cond) ∈ wt := in_wt 532 (by decide +kernel) (by decide +kernel)
theorem mw_534 : (.instanceMethod yX7_blushes : Cond) ∈ wt := in_wt 534 (by decide +kernel) (by decide +kernel)
set_option maxRecDepth 100000 in
theorem mw_535 : (.code yX7_blushes prog_1_method_40_code 4 (Option.some Jvm.ClassFile.FieldType.int) : Cond) ∈ wt := in_wt 535 rfl rfl
theorem mw_536 : (.methodLink RL 76 yX7_plan : Cond) ∈ wt := in_wt 536 (by decide +kernel) (by decide +kernel)
theorem mw_537 : (.instanceMethod yX7_plan : Cond) ∈ wt := in_wt 537 (by decide +kernel) (by decide +kernel)
theorem mw_538 : (.selects RX7 yX7_plan yX7_plan : Cond) ∈ wt := in_wt 538 (by decide +kernel) (by decide +kernel)
set_option maxRecDepth 100000 in
theorem mw_539 : (.code yX7_plan prog_1_method_17_code 6 (Option.some Jvm.ClassFile.FieldType.int) : Cond) ∈ wt := in_wt 539 rfl rfl
theorem mw_540 : (.methodLink RX7 180 yX3_grow : Cond) ∈ wt := in_wt 540 (by decide +kernel) (by decide +kernel)
theorem mw_541 : (.instanceMethod yX3_grow : Cond) ∈ wt := in_wt 541 (by decide +kernel) (by decide +kernel)
theorem mw_542 : (.selects RX3 yX3_grow yX3_grow : Cond) ∈ wt := in_wt 542 (by decide +kernel) (by decide +kernel)
set_option maxRecDepth 100000 in
theorem mw_543 : (.code yX3_grow prog_5_method_2_code 6 (Option.none : Option Jvm.ClassFile.FieldType) : Cond) ∈ wt := in_wt 543 rfl rfl
theorem mw_544 : (.methodLink RX3 45 yX1_layerAt : Cond) ∈ wt := in_wt 544 (by decide +kernel) (by decide +kernel)
theorem mw_545 : (.methodLink RX3 49 yX1_thoughtAhead : Cond) ∈ wt := in_wt 545 (by decide +kernel) (by decide +kernel)
theorem mw_546 : (.methodLink RX7 184 yX3_firstFailingEvening : Cond) ∈ wt := in_wt 546 (by decide +kernel) (by decide +kernel)
theorem mw_547 : (.instanceMethod yX3_firstFailingEvening : Cond) ∈ wt := in_wt 547 (by decide +kernel) (by decide +kernel)
theorem mw_548 : (.selects RX3 yX3_firstFailingEvening yX3_firstFailingEvening : Cond) ∈ wt := in_wt 548 (by decide +kernel) (by decide +kernel)
set_option maxRecDepth 100000 in
theorem mw_549 : (.code yX3_firstFailingEvening prog_5_method_3_code 6 (Option.some Jvm.ClassFile.FieldType.int) : Cond) ∈ wt := in_wt 549 rfl rfl
theorem mw_550 : (.methodLink RX3 53 yJ7_fill_53178 : Cond) ∈ wt := in_wt 550 (by decide +kernel) (by decide +kernel)
theorem mw_551 : (.methodLink RX3 59 yX3_spend : Cond) ∈ wt := in_wt 551 (by decide +kernel) (by decide +kernel)
theorem mw_553 : (.instanceMethod yX3_spend : Cond) ∈ wt := in_wt 553 (by decide +kernel) (by decide +kernel)
set_option maxRecDepth 100000 in
theorem mw_554 : (.code yX3_spend prog_5_method_4_code 9 (Option.none : Option Jvm.ClassFile.FieldType) : Cond) ∈ wt := in_wt 554 rfl rfl
theorem mw_555 : (.methodLink RX3 67 yJ9_min_7cf53 : Cond) ∈ wt := in_wt 555 (by decide +kernel) (by decide +kernel)
theorem mw_556 : (.methodLink RX3 63 yX3_fewestCuts : Cond) ∈ wt := in_wt 556 (by decide +kernel) (by decide +kernel)
theorem mw_557 : (.instanceMethod yX3_fewestCuts : Cond) ∈ wt := in_wt 557 (by decide +kernel) (by decide +kernel)
theorem mw_558 : (.selects RX3 yX3_fewestCuts yX3_fewestCuts : Cond) ∈ wt := in_wt 558 (by decide +kernel) (by decide +kernel)
set_option maxRecDepth 100000 in
theorem mw_559 : (.code yX3_fewestCuts prog_5_method_5_code 3 (Option.some Jvm.ClassFile.FieldType.int) : Cond) ∈ wt := in_wt 559 rfl rfl
theorem mw_560 : (.methodLink RX7 188 yX3_fewestCuts : Cond) ∈ wt := in_wt 560 (by decide +kernel) (by decide +kernel)
theorem mw_561 : (.methodLink RL 81 yX7_least : Cond) ∈ wt := in_wt 561 (by decide +kernel) (by decide +kernel)
theorem mw_562 : (.instanceMethod yX7_least : Cond) ∈ wt := in_wt 562 (by decide +kernel) (by decide +kernel)
theorem mw_563 : (.selects RX7 yX7_least yX7_least : Cond) ∈ wt := in_wt 563 (by decide +kernel) (by decide +kernel)
set_option maxRecDepth 100000 in
theorem mw_564 : (.code yX7_least prog_1_method_18_code 4 (Option.some Jvm.ClassFile.FieldType.int) : Cond) ∈ wt := in_wt 564 rfl rfl
theorem mw_565 : (.methodLink RX7 191 yX3_fewestDays : Cond) ∈ wt := in_wt 565 (by decide +kernel) (by decide +kernel)
theorem mw_566 : (.instanceMethod yX3_fewestDays : Cond) ∈ wt := in_wt 566 (by decide +kernel) (by decide +kernel)
theorem mw_567 : (.selects RX3 yX3_fewestDays yX3_fewestDays : Cond) ∈ wt := in_wt 567 (by decide +kernel) (by decide +kernel)
set_option maxRecDepth 100000 in
theorem mw_568 : (.code yX3_fewestDays prog_5_method_6_code 3 (Option.some Jvm.ClassFile.FieldType.int) : Cond) ∈ wt := in_wt 568 rfl rfl
theorem mw_569 : (.methodLink RX3 72 yX3_countWhatIsLeft : Cond) ∈ wt := in_wt 569 (by decide +kernel) (by decide +kernel)
theorem mw_571 : (.instanceMethod yX3_countWhatIsLeft : Cond) ∈ wt := in_wt 571 (by decide +kernel) (by decide +kernel)
set_option maxRecDepth 100000 in
theorem mw_572 : (.code yX3_countWhatIsLeft prog_5_method_7_code 2 (Option.none : Option Jvm.ClassFile.FieldType) : Cond) ∈ wt := in_wt 572 rfl rfl
theorem mw_573 : (.methodLink RX3 75 yX3_suffices : Cond) ∈ wt := in_wt 573 (by decide +kernel) (by decide +kernel)
theorem mw_575 : (.instanceMethod yX3_suffices : Cond) ∈ wt := in_wt 575 (by decide +kernel) (by decide +kernel)
set_option maxRecDepth 100000 in
theorem mw_576 : (.code yX3_suffices prog_5_method_8_code 8 (Option.some Jvm.ClassFile.FieldType.boolean) : Cond) ∈ wt := in_wt 576 rfl rfl
theorem mw_577 : (.methodLink RX3 79 yJ9_max_7cf53 : Cond) ∈ wt := in_wt 577 (by decide +kernel) (by decide +kernel)
theorem mw_578 : (.static yJ9_max_7cf53 : Cond) ∈ wt := in_wt 578 (by decide +kernel) (by decide +kernel)
set_option maxRecDepth 100000 in
theorem mw_579 : (.code yJ9_max_7cf53 prog_12_method_65_code 2 (Option.some Jvm.ClassFile.FieldType.int) : Cond) ∈ wt := in_wt 579 rfl rfl
theorem mw_580 : (.methodLink RL 86 yX7_wig : Cond) ∈ wt := in_wt 580 (by decide +kernel) (by decide +kernel)
theorem mw_581 : (.instanceMethod yX7_wig : Cond) ∈ wt := in_wt 581 (by decide +kernel) (by decide +kernel)
theorem mw_582 : (.selects RX7 yX7_wig yX7_wig : Cond) ∈ wt := in_wt 582 (by decide +kernel) (by decide +kernel)
set_option maxRecDepth 100000 in
theorem mw_583 : (.code yX7_wig prog_1_method_19_code 6 (Option.some Jvm.ClassFile.FieldType.int) : Cond) ∈ wt := in_wt 583 rfl rfl
theorem mw_584 : (.methodLink RX7 197 yX1_thoughtsIn : Cond) ∈ wt := in_wt 584 (by decide +kernel) (by decide +kernel)
theorem mw_585 : (.instanceMethod yX1_thoughtsIn : Cond) ∈ wt := in_wt 585 (by decide +kernel) (by decide +kernel)
theorem mw_586 : (.selects RX1 yX1_thoughtsIn yX1_thoughtsIn : Cond) ∈ wt := in_wt 586 (by decide +kernel) (by decide +kernel)
set_option maxRecDepth 100000 in
theorem mw_587 : (.code yX1_thoughtsIn prog_3_method_12_code 4 (Option.some Jvm.ClassFile.FieldType.int) : Cond) ∈ wt := in_wt 587 rfl rfl
theorem mw_588 : (.methodLink RX7 200 yJ6_bitCount_0f7a4 : Cond) ∈ wt := in_wt 588 (by decide +kernel) (by decide +kernel)
theorem mw_589 : (.static yJ6_bitCount_0f7a4 : Cond) ∈ wt := in_wt 589 (by decide +kernel) (by decide +kernel)
set_option maxRecDepth 100000 in
theorem mw_590 : (.code yJ6_bitCount_0f7a4 prog_11_method_49_code 1 (Option.some Jvm.ClassFile.FieldType.int) : Cond) ∈ wt := in_wt 590 rfl rfl
theorem mw_591 : (.constant RJ6 265 (1431655765 : Int32) : Cond) ∈ wt := in_wt 591 (by decide +kernel) (by decide +kernel)
theorem mw_592 : (.constant RJ6 266 (858993459 : Int32) : Cond) ∈ wt := in_wt 592 (by decide +kernel) (by decide +kernel)
theorem mw_593 : (.constant RJ6 267 (252645135 : Int32) : Cond) ∈ wt := in_wt 593 (by decide +kernel) (by decide +kernel)
theorem mw_594 : (.methodLink RX7 205 yX7_thoughtsOf : Cond) ∈ wt := in_wt 594 (by decide +kernel) (by decide +kernel)
theorem mw_596 : (.instanceMethod yX7_thoughtsOf : Cond) ∈ wt := in_wt 596 (by decide +kernel) (by decide +kernel)
set_option maxRecDepth 100000 in
theorem mw_597 : (.code yX7_thoughtsOf prog_1_method_41_code 4 (Option.some Jvm.ClassFile.FieldType.int) : Cond) ∈ wt := in_wt 597 rfl rfl
theorem mw_598 : (.methodLink RX7 277 yX7_has : Cond) ∈ wt := in_wt 598 (by decide +kernel) (by decide +kernel)
theorem mw_599 : (.static yX7_has : Cond) ∈ wt := in_wt 599 (by decide +kernel) (by decide +kernel)
set_option maxRecDepth 100000 in
theorem mw_600 : (.code yX7_has prog_1_method_35_code 2 (Option.some Jvm.ClassFile.FieldType.boolean) : Cond) ∈ wt := in_wt 600 rfl rfl
theorem mw_601 : (.methodLink RL 90 yX7_odds : Cond) ∈ wt := in_wt 601 (by decide +kernel) (by decide +kernel)
theorem mw_602 : (.instanceMethod yX7_odds : Cond) ∈ wt := in_wt 602 (by decide +kernel) (by decide +kernel)
theorem mw_603 : (.selects RX7 yX7_odds yX7_odds : Cond) ∈ wt := in_wt 603 (by decide +kernel) (by decide +kernel)
set_option maxRecDepth 100000 in
theorem mw_604 : (.code yX7_odds prog_1_method_20_code 8 (Option.some Jvm.ClassFile.FieldType.int) : Cond) ∈ wt := in_wt 604 rfl rfl
theorem mw_605 : (.methodLink RX7 208 yX7_choose : Cond) ∈ wt := in_wt 605 (by decide +kernel) (by decide +kernel)
theorem mw_606 : (.static yX7_choose : Cond) ∈ wt := in_wt 606 (by decide +kernel) (by decide +kernel)
set_option maxRecDepth 100000 in
theorem mw_607 : (.code yX7_choose prog_1_method_43_code 4 (Option.some Jvm.ClassFile.FieldType.int) : Cond) ∈ wt := in_wt 607 rfl rfl
theorem mw_608 : (.methodLink RX7 211 yX7_power : Cond) ∈ wt := in_wt 608 (by decide +kernel) (by decide +kernel)
theorem mw_609 : (.static yX7_power : Cond) ∈ wt := in_wt 609 (by decide +kernel) (by decide +kernel)
set_option maxRecDepth 100000 in
theorem mw_610 : (.code yX7_power prog_1_method_42_code 4 (Option.some Jvm.ClassFile.FieldType.int) : Cond) ∈ wt := in_wt 610 rfl rfl
theorem mw_611 : (.methodLink RX7 214 yX7_commonDivisor : Cond) ∈ wt := in_wt 611 (by decide +kernel) (by decide +kernel)
theorem mw_612 : (.static yX7_commonDivisor : Cond) ∈ wt := in_wt 612 (by decide +kernel) (by decide +kernel)
set_option maxRecDepth 100000 in
theorem mw_613 : (.code yX7_commonDivisor prog_1_method_44_code 6 (Option.some Jvm.ClassFile.FieldType.int) : Cond) ∈ wt := in_wt 613 rfl rfl
theorem mw_614 : (.methodLink RL 94 yX7_saw : Cond) ∈ wt := in_wt 614 (by decide +kernel) (by decide +kernel)
theorem mw_615 : (.instanceMethod yX7_saw : Cond) ∈ wt := in_wt 615 (by decide +kernel) (by decide +kernel)
theorem mw_616 : (.selects RX7 yX7_saw yX7_saw : Cond) ∈ wt := in_wt 616 (by decide +kernel) (by decide +kernel)
set_option maxRecDepth 100000 in
theorem mw_617 : (.code yX7_saw prog_1_method_21_code 2 (Option.some Jvm.ClassFile.FieldType.int) : Cond) ∈ wt := in_wt 617 rfl rfl
theorem mw_618 : (.methodLink RL 98 yX7_lock : Cond) ∈ wt := in_wt 618 (by decide +kernel) (by decide +kernel)
theorem mw_619 : (.instanceMethod yX7_lock : Cond) ∈ wt := in_wt 619 (by decide +kernel) (by decide +kernel)
theorem mw_620 : (.selects RX7 yX7_lock yX7_lock : Cond) ∈ wt := in_wt 620 (by decide +kernel) (by decide +kernel)
set_option maxRecDepth 100000 in
theorem mw_621 : (.code yX7_lock prog_1_method_22_code 2 (Option.some Jvm.ClassFile.FieldType.int) : Cond) ∈ wt := in_wt 621 rfl rfl
theorem mw_622 : (.methodLink RX7 223 yX7_whoseLock : Cond) ∈ wt := in_wt 622 (by decide +kernel) (by decide +kernel)
theorem mw_624 : (.instanceMethod yX7_whoseLock : Cond) ∈ wt := in_wt 624 (by decide +kernel) (by decide +kernel)
set_option maxRecDepth 100000 in
theorem mw_625 : (.code yX7_whoseLock prog_1_method_45_code 4 (Option.some Jvm.ClassFile.FieldType.int) : Cond) ∈ wt := in_wt 625 rfl rfl
theorem mw_626 : (.methodLink RX7 281 yX0_fitAt : Cond) ∈ wt := in_wt 626 (by decide +kernel) (by decide +kernel)
theorem mw_627 : (.instanceMethod yX0_fitAt : Cond) ∈ wt := in_wt 627 (by decide +kernel) (by decide +kernel)
theorem mw_628 : (.selects RX0 yX0_fitAt yX0_fitAt : Cond) ∈ wt := in_wt 628 (by decide +kernel) (by decide +kernel)
set_option maxRecDepth 100000 in
theorem mw_629 : (.code yX0_fitAt prog_2_method_3_code 5 (Option.some Jvm.ClassFile.FieldType.boolean) : Cond) ∈ wt := in_wt 629 rfl rfl
theorem mw_630 : (.methodLink RX0 33 yX1_layerAt : Cond) ∈ wt := in_wt 630 (by decide +kernel) (by decide +kernel)
theorem mw_631 : (.methodLink RX7 226 yX7_nextInLock : Cond) ∈ wt := in_wt 631 (by decide +kernel) (by decide +kernel)
theorem mw_633 : (.instanceMethod yX7_nextInLock : Cond) ∈ wt := in_wt 633 (by decide +kernel) (by decide +kernel)
set_option maxRecDepth 100000 in
theorem mw_634 : (.code yX7_nextInLock prog_1_method_46_code 4 (Option.some Jvm.ClassFile.FieldType.int) : Cond) ∈ wt := in_wt 634 rfl rfl
theorem mw_635 : (.methodLink RX7 285 yJ7_fill_53178 : Cond) ∈ wt := in_wt 635 (by decide +kernel) (by decide +kernel)
theorem mw_636 : (.methodLink RL 102 yX7_hears : Cond) ∈ wt := in_wt 636 (by decide +kernel) (by decide +kernel)
theorem mw_637 : (.instanceMethod yX7_hears : Cond) ∈ wt := in_wt 637 (by decide +kernel) (by decide +kernel)
theorem mw_638 : (.selects RX7 yX7_hears yX7_hears : Cond) ∈ wt := in_wt 638 (by decide +kernel) (by decide +kernel)
set_option maxRecDepth 100000 in
theorem mw_639 : (.code yX7_hears prog_1_method_23_code 3 (Option.some Jvm.ClassFile.FieldType.int) : Cond) ∈ wt := in_wt 639 rfl rfl
theorem mw_640 : (.methodLink RL 106 yX7_sets : Cond) ∈ wt := in_wt 640 (by decide +kernel) (by decide +kernel)
theorem mw_641 : (.instanceMethod yX7_sets : Cond) ∈ wt := in_wt 641 (by decide +kernel) (by decide +kernel)
theorem mw_642 : (.selects RX7 yX7_sets yX7_sets : Cond) ∈ wt := in_wt 642 (by decide +kernel) (by decide +kernel)
set_option maxRecDepth 100000 in
theorem mw_643 : (.code yX7_sets prog_1_method_24_code 8 (Option.some Jvm.ClassFile.FieldType.int) : Cond) ∈ wt := in_wt 643 rfl rfl
theorem mw_644 : (.methodLink RX7 238 yX7_shareOutHeard : Cond) ∈ wt := in_wt 644 (by decide +kernel) (by decide +kernel)
theorem mw_646 : (.instanceMethod yX7_shareOutHeard : Cond) ∈ wt := in_wt 646 (by decide +kernel) (by decide +kernel)
set_option maxRecDepth 100000 in
theorem mw_647 : (.code yX7_shareOutHeard prog_1_method_47_code 3 (Option.none : Option Jvm.ClassFile.FieldType) : Cond) ∈ wt := in_wt 647 rfl rfl
theorem mw_648 : (.methodLink RX7 241 yX7_allHeardIsSo : Cond) ∈ wt := in_wt 648 (by decide +kernel) (by decide +kernel)
theorem mw_650 : (.instanceMethod yX7_allHeardIsSo : Cond) ∈ wt := in_wt 650 (by decide +kernel) (by decide +kernel)
set_option maxRecDepth 100000 in
theorem mw_651 : (.code yX7_allHeardIsSo prog_1_method_48_code 5 (Option.some Jvm.ClassFile.FieldType.boolean) : Cond) ∈ wt := in_wt 651 rfl rfl
theorem mw_652 : (.methodLink RL 110 yX7_forget : Cond) ∈ wt := in_wt 652 (by decide +kernel) (by decide +kernel)
theorem mw_653 : (.instanceMethod yX7_forget : Cond) ∈ wt := in_wt 653 (by decide +kernel) (by decide +kernel)
theorem mw_654 : (.selects RX7 yX7_forget yX7_forget : Cond) ∈ wt := in_wt 654 (by decide +kernel) (by decide +kernel)
set_option maxRecDepth 100000 in
theorem mw_655 : (.code yX7_forget prog_1_method_25_code 2 (Option.some Jvm.ClassFile.FieldType.int) : Cond) ∈ wt := in_wt 655 rfl rfl
theorem mw_656 : (.methodLink RL 114 yX7_mark : Cond) ∈ wt := in_wt 656 (by decide +kernel) (by decide +kernel)
theorem mw_657 : (.instanceMethod yX7_mark : Cond) ∈ wt := in_wt 657 (by decide +kernel) (by decide +kernel)
theorem mw_658 : (.selects RX7 yX7_mark yX7_mark : Cond) ∈ wt := in_wt 658 (by decide +kernel) (by decide +kernel)
set_option maxRecDepth 100000 in
theorem mw_659 : (.code yX7_mark prog_1_method_26_code 3 (Option.some Jvm.ClassFile.FieldType.int) : Cond) ∈ wt := in_wt 659 rfl rfl
theorem mw_660 : (.constant RX7 244 (-1000000 : Int32) : Cond) ∈ wt := in_wt 660 (by decide +kernel) (by decide +kernel)
theorem mw_661 : (.methodLink RX7 245 yX7_markOne : Cond) ∈ wt := in_wt 661 (by decide +kernel) (by decide +kernel)
theorem mw_663 : (.instanceMethod yX7_markOne : Cond) ∈ wt := in_wt 663 (by decide +kernel) (by decide +kernel)
set_option maxRecDepth 100000 in
theorem mw_664 : (.code yX7_markOne prog_1_method_49_code 2 (Option.some Jvm.ClassFile.FieldType.int) : Cond) ∈ wt := in_wt 664 rfl rfl
theorem mw_665 : (.methodLink RX7 248 yX7_markPoet : Cond) ∈ wt := in_wt 665 (by decide +kernel) (by decide +kernel)
theorem mw_667 : (.instanceMethod yX7_markPoet : Cond) ∈ wt := in_wt 667 (by decide +kernel) (by decide +kernel)
set_option maxRecDepth 100000 in
theorem mw_668 : (.code yX7_markPoet prog_1_method_50_code 2 (Option.some Jvm.ClassFile.FieldType.int) : Cond) ∈ wt := in_wt 668 rfl rfl
theorem mw_669 : (.constantLong RX7 291 (10 : Int64) : Cond) ∈ wt := in_wt 669 (by decide +kernel) (by decide +kernel)
theorem mw_670 : (.methodLink RX7 293 yX1_rootOf : Cond) ∈ wt := in_wt 670 (by decide +kernel) (by decide +kernel)
theorem mw_671 : (.instanceMethod yX1_rootOf : Cond) ∈ wt := in_wt 671 (by decide +kernel) (by decide +kernel)
theorem mw_672 : (.selects RX1 yX1_rootOf yX1_rootOf : Cond) ∈ wt := in_wt 672 (by decide +kernel) (by decide +kernel)
set_option maxRecDepth 100000 in
theorem mw_673 : (.code yX1_rootOf prog_3_method_13_code 2 (Option.some Jvm.ClassFile.FieldType.int) : Cond) ∈ wt := in_wt 673 rfl rfl
theorem mw_674 : (.methodLink RX7 251 yX7_markBride : Cond) ∈ wt := in_wt 674 (by decide +kernel) (by decide +kernel)
theorem mw_676 : (.instanceMethod yX7_markBride : Cond) ∈ wt := in_wt 676 (by decide +kernel) (by decide +kernel)
set_option maxRecDepth 100000 in
theorem mw_677 : (.code yX7_markBride prog_1_method_51_code 2 (Option.some Jvm.ClassFile.FieldType.int) : Cond) ∈ wt := in_wt 677 rfl rfl
theorem mw_678 : (.constantLong RX7 296 (100 : Int64) : Cond) ∈ wt := in_wt 678 (by decide +kernel) (by decide +kernel)
theorem mw_679 : (.methodLink RX7 254 yX7_markWig : Cond) ∈ wt := in_wt 679 (by decide +kernel) (by decide +kernel)
theorem mw_681 : (.instanceMethod yX7_markWig : Cond) ∈ wt := in_wt 681 (by decide +kernel) (by decide +kernel)
set_option maxRecDepth 100000 in
theorem mw_682 : (.code yX7_markWig prog_1_method_52_code 2 (Option.some Jvm.ClassFile.FieldType.int) : Cond) ∈ wt := in_wt 682 rfl rfl
theorem mw_683 : (.constantLong RX7 298 (1000 : Int64) : Cond) ∈ wt := in_wt 683 (by decide +kernel) (by decide +kernel)
theorem mw_684 : (.methodLink RX7 257 yX7_markNun : Cond) ∈ wt := in_wt 684 (by decide +kernel) (by decide +kernel)
theorem mw_686 : (.instanceMethod yX7_markNun : Cond) ∈ wt := in_wt 686 (by decide +kernel) (by decide +kernel)
set_option maxRecDepth 100000 in
theorem mw_687 : (.code yX7_markNun prog_1_method_53_code 2 (Option.some Jvm.ClassFile.FieldType.int) : Cond) ∈ wt := in_wt 687 rfl rfl
theorem mw_688 : (.constantLong RX7 300 (10000 : Int64) : Cond) ∈ wt := in_wt 688 (by decide +kernel) (by decide +kernel)
theorem mw_689 : (.methodLink RX7 260 yX7_markBald : Cond) ∈ wt := in_wt 689 (by decide +kernel) (by decide +kernel)
theorem mw_691 : (.instanceMethod yX7_markBald : Cond) ∈ wt := in_wt 691 (by decide +kernel) (by decide +kernel)
set_option maxRecDepth 100000 in
theorem mw_692 : (.code yX7_markBald prog_1_method_54_code 2 (Option.some Jvm.ClassFile.FieldType.int) : Cond) ∈ wt := in_wt 692 rfl rfl
theorem mw_693 : (.constantLong RX7 302 (100000 : Int64) : Cond) ∈ wt := in_wt 693 (by decide +kernel) (by decide +kernel)
theorem mw_694 : (.methodLink RL 118 yX7_keep : Cond) ∈ wt := in_wt 694 (by decide +kernel) (by decide +kernel)
theorem mw_695 : (.instanceMethod yX7_keep : Cond) ∈ wt := in_wt 695 (by decide +kernel) (by decide +kernel)
theorem mw_696 : (.selects RX7 yX7_keep yX7_keep : Cond) ∈ wt := in_wt 696 (by decide +kernel) (by decide +kernel)
set_option maxRecDepth 100000 in
theorem mw_697 : (.code yX7_keep prog_1_method_27_code 2 (Option.some Jvm.ClassFile.FieldType.int) : Cond) ∈ wt := in_wt 697 rfl rfl
theorem mw_698 : (.methodLink RX7 263 yX5_copyFrom : Cond) ∈ wt := in_wt 698 (by decide +kernel) (by decide +kernel)
theorem mw_699 : (.instanceMethod yX5_copyFrom : Cond) ∈ wt := in_wt 699 (by decide +kernel) (by decide +kernel)
theorem mw_700 : (.selects RX5 yX5_copyFrom yX5_copyFrom : Cond) ∈ wt := in_wt 700 (by decide +kernel) (by decide +kernel)
set_option maxRecDepth 100000 in
theorem mw_701 : (.code yX5_copyFrom prog_7_method_6_code 3 (Option.none : Option Jvm.ClassFile.FieldType) : Cond) ∈ wt := in_wt 701 rfl rfl
theorem mw_702 : (.methodLink RL 122 yX7_back : Cond) ∈ wt := in_wt 702 (by decide +kernel) (by decide +kernel)
theorem mw_703 : (.instanceMethod yX7_back : Cond) ∈ wt := in_wt 703 (by decide +kernel) (by decide +kernel)
theorem mw_704 : (.selects RX7 yX7_back yX7_back : Cond) ∈ wt := in_wt 704 (by decide +kernel) (by decide +kernel)
set_option maxRecDepth 100000 in
theorem mw_705 : (.code yX7_back prog_1_method_28_code 2 (Option.some Jvm.ClassFile.FieldType.int) : Cond) ∈ wt := in_wt 705 rfl rfl
theorem mw_706 : (.methodLink RL 126 yX7_count : Cond) ∈ wt := in_wt 706 (by decide +kernel) (by decide +kernel)
theorem mw_707 : (.instanceMethod yX7_count : Cond) ∈ wt := in_wt 707 (by decide +kernel) (by decide +kernel)
theorem mw_708 : (.selects RX7 yX7_count yX7_count : Cond) ∈ wt := in_wt 708 (by decide +kernel) (by decide +kernel)
set_option maxRecDepth 100000 in
theorem mw_709 : (.code yX7_count prog_1_method_29_code 2 (Option.some Jvm.ClassFile.FieldType.int) : Cond) ∈ wt := in_wt 709 rfl rfl
theorem mw_710 : (.methodLink RL 130 yX7_trace : Cond) ∈ wt := in_wt 710 (by decide +kernel) (by decide +kernel)
theorem mw_711 : (.instanceMethod yX7_trace : Cond) ∈ wt := in_wt 711 (by decide +kernel) (by decide +kernel)
theorem mw_712 : (.selects RX7 yX7_trace yX7_trace : Cond) ∈ wt := in_wt 712 (by decide +kernel) (by decide +kernel)
set_option maxRecDepth 100000 in
theorem mw_713 : (.code yX7_trace prog_1_method_30_code 1 (Option.some Jvm.ClassFile.FieldType.long) : Cond) ∈ wt := in_wt 713 rfl rfl
theorem mw_714 : (.classLink RL 10 RX8 : Cond) ∈ wt := in_wt 714 (by decide +kernel) (by decide +kernel)
theorem mw_715 : (.instantiable RX8 31 : Cond) ∈ wt := in_wt 715 (by decide +kernel) (by decide +kernel)
theorem mw_716 : (.methodLink RL 12 yX8_init : Cond) ∈ wt := in_wt 716 (by decide +kernel) (by decide +kernel)
theorem mw_717 : (.instanceMethod yX8_init : Cond) ∈ wt := in_wt 717 (by decide +kernel) (by decide +kernel)
set_option maxRecDepth 100000 in
theorem mw_718 : (.code yX8_init prog_10_method_1_code 1 (Option.none : Option Jvm.ClassFile.FieldType) : Cond) ∈ wt := in_wt 718 rfl rfl
theorem mw_719 : (.methodLink RX8 1 Lib.objectInit : Cond) ∈ wt := in_wt 719 (by decide +kernel) (by decide +kernel)
theorem mw_720 : (.fieldLink RX8 57 "BarberJarsModel" "people" "I" : Cond) ∈ wt := in_wt 720 (by decide +kernel) (by decide +kernel)
theorem mw_721 : (.fieldLink RX8 7 "BarberJarsModel" "secrets" "[I" : Cond) ∈ wt := in_wt 721 (by decide +kernel) (by decide +kernel)
theorem mw_722 : (.fieldLink RX8 13 "BarberJarsModel" "weekMany" "[I" : Cond) ∈ wt := in_wt 722 (by decide +kernel) (by decide +kernel)
theorem mw_723 : (.fieldLink RX8 16 "BarberJarsModel" "weeks" "[I" : Cond) ∈ wt := in_wt 723 (by decide +kernel) (by decide +kernel)
theorem mw_724 : (.fieldLink RX8 19 "BarberJarsModel" "longest" "I" : Cond) ∈ wt := in_wt 724 (by decide +kernel) (by decide +kernel)
theorem mw_725 : (.fieldLink RX8 23 "BarberJarsModel" "st" "[I" : Cond) ∈ wt := in_wt 725 (by decide +kernel) (by decide +kernel)
theorem mw_726 : (.fieldLink RX8 26 "BarberJarsModel" "images" "[I" : Cond) ∈ wt := in_wt 726 (by decide +kernel) (by decide +kernel)
theorem mw_727 : (.fieldLink RX8 29 "BarberJarsModel" "isKept" "[Z" : Cond) ∈ wt := in_wt 727 (by decide +kernel) (by decide +kernel)
theorem mw_728 : (.fieldLink RX8 125 "BarberJarsModel" "seenMany" "I" : Cond) ∈ wt := in_wt 728 (by decide +kernel) (by decide +kernel)
theorem mw_729 : (.fieldLink RX8 33 "BarberJarsModel" "seen" "[I" : Cond) ∈ wt := in_wt 729 (by decide +kernel) (by decide +kernel)
theorem mw_730 : (.fieldLink RX8 128 "BarberJarsModel" "heardMany" "I" : Cond) ∈ wt := in_wt 730 (by decide +kernel) (by decide +kernel)
theorem mw_731 : (.fieldLink RX8 36 "BarberJarsModel" "heard" "[I" : Cond) ∈ wt := in_wt 731 (by decide +kernel) (by decide +kernel)
theorem mw_732 : (.fieldLink RX8 199 "BarberJarsModel" "trace" "J" : Cond) ∈ wt := in_wt 732 (by decide +kernel) (by decide +kernel)
theorem mw_733 : (.fieldLink RX8 39 "BarberJarsModel" "text" "[I" : Cond) ∈ wt := in_wt 733 (by decide +kernel) (by decide +kernel)
theorem mw_734 : (.fieldLink RX8 64 "BarberJarsModel" "texted" "I" : Cond) ∈ wt := in_wt 734 (by decide +kernel) (by decide +kernel)
theorem mw_735 : (.fieldLink RX8 67 "BarberJarsModel" "cursor" "I" : Cond) ∈ wt := in_wt 735 (by decide +kernel) (by decide +kernel)
theorem mw_736 : (.fieldLink RX8 74 "BarberJarsModel" "start" "I" : Cond) ∈ wt := in_wt 736 (by decide +kernel) (by decide +kernel)
theorem mw_737 : (.fieldLink RX8 80 "BarberJarsModel" "token" "I" : Cond) ∈ wt := in_wt 737 (by decide +kernel) (by decide +kernel)
theorem mw_738 : (.fieldLink RX8 77 "BarberJarsModel" "number" "I" : Cond) ∈ wt := in_wt 738 (by decide +kernel) (by decide +kernel)
theorem mw_739 : (.fieldLink RX8 90 "BarberJarsModel" "isWrong" "Z" : Cond) ∈ wt := in_wt 739 (by decide +kernel) (by decide +kernel)
theorem mw_740 : (.fieldLink RX8 116 "BarberJarsModel" "items" "I" : Cond) ∈ wt := in_wt 740 (by decide +kernel) (by decide +kernel)
theorem mw_741 : (.fieldLink RX8 97 "BarberJarsModel" "saidPeople" "I" : Cond) ∈ wt := in_wt 741 (by decide +kernel) (by decide +kernel)
theorem mw_742 : (.fieldLink RX8 42 "BarberJarsModel" "saidSecret" "[I" : Cond) ∈ wt := in_wt 742 (by decide +kernel) (by decide +kernel)
theorem mw_743 : (.fieldLink RX8 45 "BarberJarsModel" "saidMany" "[I" : Cond) ∈ wt := in_wt 743 (by decide +kernel) (by decide +kernel)
theorem mw_744 : (.fieldLink RX8 48 "BarberJarsModel" "saidWeek" "[I" : Cond) ∈ wt := in_wt 744 (by decide +kernel) (by decide +kernel)
theorem mw_745 : (.fieldLink RX8 104 "BarberJarsModel" "saidLongest" "I" : Cond) ∈ wt := in_wt 745 (by decide +kernel) (by decide +kernel)
theorem mw_746 : (.fieldLink RX8 107 "BarberJarsModel" "saidJar" "I" : Cond) ∈ wt := in_wt 746 (by decide +kernel) (by decide +kernel)
theorem mw_747 : (.fieldLink RX8 51 "BarberJarsModel" "tried" "[I" : Cond) ∈ wt := in_wt 747 (by decide +kernel) (by decide +kernel)
theorem mw_748 : (.fieldLink RX8 163 "BarberJarsModel" "begins" "I" : Cond) ∈ wt := in_wt 748 (by decide +kernel) (by decide +kernel)
theorem mw_749 : (.fieldLink RX8 166 "BarberJarsModel" "ends" "I" : Cond) ∈ wt := in_wt 749 (by decide +kernel) (by decide +kernel)
theorem mw_750 : (.fieldLink RX8 54 "BarberJarsModel" "nextOnes" "[I" : Cond) ∈ wt := in_wt 750 (by decide +kernel) (by decide +kernel)
theorem mw_814 : (.methodLink RL 17 yX8_type : Cond) ∈ wt := in_wt 814 (by decide +kernel) (by decide +kernel)
theorem mw_815 : (.instanceMethod yX8_type : Cond) ∈ wt := in_wt 815 (by decide +kernel) (by decide +kernel)
theorem mw_816 : (.selects RX8 yX8_type yX8_type : Cond) ∈ wt := in_wt 816 (by decide +kernel) (by decide +kernel)
set_option maxRecDepth 100000 in
theorem mw_817 : (.code yX8_type prog_10_method_9_code 2 (Option.some Jvm.ClassFile.FieldType.int) : Cond) ∈ wt := in_wt 817 rfl rfl
theorem mw_818 : (.methodLink RX8 60 yX8_in : Cond) ∈ wt := in_wt 818 (by decide +kernel) (by decide +kernel)
theorem mw_819 : (.static yX8_in : Cond) ∈ wt := in_wt 819 (by decide +kernel) (by decide +kernel)
set_option maxRecDepth 100000 in
theorem mw_820 : (.code yX8_in prog_10_method_3_code 3 (Option.some Jvm.ClassFile.FieldType.boolean) : Cond) ∈ wt := in_wt 820 rfl rfl
theorem mw_821 : (.methodLink RL 22 yX8_clear : Cond) ∈ wt := in_wt 821 (by decide +kernel) (by decide +kernel)
theorem mw_822 : (.instanceMethod yX8_clear : Cond) ∈ wt := in_wt 822 (by decide +kernel) (by decide +kernel)
theorem mw_823 : (.selects RX8 yX8_clear yX8_clear : Cond) ∈ wt := in_wt 823 (by decide +kernel) (by decide +kernel)
set_option maxRecDepth 100000 in
theorem mw_824 : (.code yX8_clear prog_10_method_10_code 2 (Option.some Jvm.ClassFile.FieldType.int) : Cond) ∈ wt := in_wt 824 rfl rfl
theorem mw_825 : (.methodLink RL 26 yX8_shop : Cond) ∈ wt := in_wt 825 (by decide +kernel) (by decide +kernel)
theorem mw_826 : (.instanceMethod yX8_shop : Cond) ∈ wt := in_wt 826 (by decide +kernel) (by decide +kernel)
theorem mw_827 : (.selects RX8 yX8_shop yX8_shop : Cond) ∈ wt := in_wt 827 (by decide +kernel) (by decide +kernel)
set_option maxRecDepth 100000 in
theorem mw_828 : (.code yX8_shop prog_10_method_19_code 1 (Option.some Jvm.ClassFile.FieldType.int) : Cond) ∈ wt := in_wt 828 rfl rfl
theorem mw_829 : (.methodLink RX8 94 yX8_next : Cond) ∈ wt := in_wt 829 (by decide +kernel) (by decide +kernel)
theorem mw_831 : (.instanceMethod yX8_next : Cond) ∈ wt := in_wt 831 (by decide +kernel) (by decide +kernel)
set_option maxRecDepth 100000 in
theorem mw_832 : (.code yX8_next prog_10_method_14_code 2 (Option.none : Option Jvm.ClassFile.FieldType) : Cond) ∈ wt := in_wt 832 rfl rfl
theorem mw_833 : (.methodLink RX8 70 yX8_letterAt : Cond) ∈ wt := in_wt 833 (by decide +kernel) (by decide +kernel)
theorem mw_835 : (.instanceMethod yX8_letterAt : Cond) ∈ wt := in_wt 835 (by decide +kernel) (by decide +kernel)
set_option maxRecDepth 100000 in
theorem mw_836 : (.code yX8_letterAt prog_10_method_11_code 2 (Option.some Jvm.ClassFile.FieldType.int) : Cond) ∈ wt := in_wt 836 rfl rfl
theorem mw_837 : (.methodLink RX8 83 yX8_isFigure : Cond) ∈ wt := in_wt 837 (by decide +kernel) (by decide +kernel)
theorem mw_838 : (.static yX8_isFigure : Cond) ∈ wt := in_wt 838 (by decide +kernel) (by decide +kernel)
set_option maxRecDepth 100000 in
theorem mw_839 : (.code yX8_isFigure prog_10_method_12_code 1 (Option.some Jvm.ClassFile.FieldType.boolean) : Cond) ∈ wt := in_wt 839 rfl rfl
theorem mw_840 : (.methodLink RX8 87 yX8_isLetter : Cond) ∈ wt := in_wt 840 (by decide +kernel) (by decide +kernel)
theorem mw_841 : (.static yX8_isLetter : Cond) ∈ wt := in_wt 841 (by decide +kernel) (by decide +kernel)
set_option maxRecDepth 100000 in
theorem mw_842 : (.code yX8_isLetter prog_10_method_13_code 1 (Option.some Jvm.ClassFile.FieldType.boolean) : Cond) ∈ wt := in_wt 842 rfl rfl
theorem mw_843 : (.methodLink RX8 119 yX8_readItem : Cond) ∈ wt := in_wt 843 (by decide +kernel) (by decide +kernel)
theorem mw_845 : (.instanceMethod yX8_readItem : Cond) ∈ wt := in_wt 845 (by decide +kernel) (by decide +kernel)
set_option maxRecDepth 100000 in
theorem mw_846 : (.code yX8_readItem prog_10_method_18_code 2 (Option.none : Option Jvm.ClassFile.FieldType) : Cond) ∈ wt := in_wt 846 rfl rfl
theorem mw_847 : (.methodLink RX8 110 yX8_mayBegin : Cond) ∈ wt := in_wt 847 (by decide +kernel) (by decide +kernel)
theorem mw_849 : (.instanceMethod yX8_mayBegin : Cond) ∈ wt := in_wt 849 (by decide +kernel) (by decide +kernel)
set_option maxRecDepth 100000 in
theorem mw_850 : (.code yX8_mayBegin prog_10_method_17_code 2 (Option.some Jvm.ClassFile.FieldType.boolean) : Cond) ∈ wt := in_wt 850 rfl rfl
theorem mw_851 : (.methodLink RX8 113 yX8_readOne : Cond) ∈ wt := in_wt 851 (by decide +kernel) (by decide +kernel)
theorem mw_853 : (.instanceMethod yX8_readOne : Cond) ∈ wt := in_wt 853 (by decide +kernel) (by decide +kernel)
set_option maxRecDepth 100000 in
theorem mw_854 : (.code yX8_readOne prog_10_method_16_code 3 (Option.none : Option Jvm.ClassFile.FieldType) : Cond) ∈ wt := in_wt 854 rfl rfl
theorem mw_855 : (.methodLink RX8 100 yX8_takesNumber : Cond) ∈ wt := in_wt 855 (by decide +kernel) (by decide +kernel)
theorem mw_857 : (.instanceMethod yX8_takesNumber : Cond) ∈ wt := in_wt 857 (by decide +kernel) (by decide +kernel)
set_option maxRecDepth 100000 in
theorem mw_858 : (.code yX8_takesNumber prog_10_method_15_code 5 (Option.some Jvm.ClassFile.FieldType.int) : Cond) ∈ wt := in_wt 858 rfl rfl
theorem mw_859 : (.methodLink RX8 122 yX8_settles : Cond) ∈ wt := in_wt 859 (by decide +kernel) (by decide +kernel)
theorem mw_861 : (.instanceMethod yX8_settles : Cond) ∈ wt := in_wt 861 (by decide +kernel) (by decide +kernel)
set_option maxRecDepth 100000 in
theorem mw_862 : (.code yX8_settles prog_10_method_20_code 2 (Option.none : Option Jvm.ClassFile.FieldType) : Cond) ∈ wt := in_wt 862 rfl rfl
theorem mw_863 : (.methodLink RL 31 yX8_one : Cond) ∈ wt := in_wt 863 (by decide +kernel) (by decide +kernel)
theorem mw_864 : (.instanceMethod yX8_one : Cond) ∈ wt := in_wt 864 (by decide +kernel) (by decide +kernel)
theorem mw_865 : (.selects RX8 yX8_one yX8_one : Cond) ∈ wt := in_wt 865 (by decide +kernel) (by decide +kernel)
set_option maxRecDepth 100000 in
theorem mw_866 : (.code yX8_one prog_10_method_24_code 3 (Option.some Jvm.ClassFile.FieldType.int) : Cond) ∈ wt := in_wt 866 rfl rfl
theorem mw_867 : (.methodLink RX8 134 yX8_isOne : Cond) ∈ wt := in_wt 867 (by decide +kernel) (by decide +kernel)
theorem mw_869 : (.instanceMethod yX8_isOne : Cond) ∈ wt := in_wt 869 (by decide +kernel) (by decide +kernel)
set_option maxRecDepth 100000 in
theorem mw_870 : (.code yX8_isOne prog_10_method_6_code 2 (Option.some Jvm.ClassFile.FieldType.boolean) : Cond) ∈ wt := in_wt 870 rfl rfl
theorem mw_871 : (.methodLink RX8 137 yX8_layersOf : Cond) ∈ wt := in_wt 871 (by decide +kernel) (by decide +kernel)
theorem mw_873 : (.instanceMethod yX8_layersOf : Cond) ∈ wt := in_wt 873 (by decide +kernel) (by decide +kernel)
set_option maxRecDepth 100000 in
theorem mw_874 : (.code yX8_layersOf prog_10_method_22_code 5 (Option.some Jvm.ClassFile.FieldType.int) : Cond) ∈ wt := in_wt 874 rfl rfl
theorem mw_875 : (.methodLink RX8 131 yX8_layerOf : Cond) ∈ wt := in_wt 875 (by decide +kernel) (by decide +kernel)
theorem mw_877 : (.instanceMethod yX8_layerOf : Cond) ∈ wt := in_wt 877 (by decide +kernel) (by decide +kernel)
set_option maxRecDepth 100000 in
theorem mw_878 : (.code yX8_layerOf prog_10_method_21_code 3 (Option.some Jvm.ClassFile.FieldType.int) : Cond) ∈ wt := in_wt 878 rfl rfl
theorem mw_879 : (.methodLink RL 35 yX8_week : Cond) ∈ wt := in_wt 879 (by decide +kernel) (by decide +kernel)
theorem mw_880 : (.instanceMethod yX8_week : Cond) ∈ wt := in_wt 880 (by decide +kernel) (by decide +kernel)
theorem mw_881 : (.selects RX8 yX8_week yX8_week : Cond) ∈ wt := in_wt 881 (by decide +kernel) (by decide +kernel)
set_option maxRecDepth 100000 in
theorem mw_882 : (.code yX8_week prog_10_method_25_code 3 (Option.some Jvm.ClassFile.FieldType.int) : Cond) ∈ wt := in_wt 882 rfl rfl
theorem mw_883 : (.methodLink RL 39 yX8_layer : Cond) ∈ wt := in_wt 883 (by decide +kernel) (by decide +kernel)
theorem mw_884 : (.instanceMethod yX8_layer : Cond) ∈ wt := in_wt 884 (by decide +kernel) (by decide +kernel)
theorem mw_885 : (.selects RX8 yX8_layer yX8_layer : Cond) ∈ wt := in_wt 885 (by decide +kernel) (by decide +kernel)
set_option maxRecDepth 100000 in
theorem mw_886 : (.code yX8_layer prog_10_method_26_code 3 (Option.some Jvm.ClassFile.FieldType.int) : Cond) ∈ wt := in_wt 886 rfl rfl
theorem mw_887 : (.methodLink RL 43 yX8_jar : Cond) ∈ wt := in_wt 887 (by decide +kernel) (by decide +kernel)
theorem mw_888 : (.instanceMethod yX8_jar : Cond) ∈ wt := in_wt 888 (by decide +kernel) (by decide +kernel)
theorem mw_889 : (.selects RX8 yX8_jar yX8_jar : Cond) ∈ wt := in_wt 889 (by decide +kernel) (by decide +kernel)
set_option maxRecDepth 100000 in
theorem mw_890 : (.code yX8_jar prog_10_method_27_code 3 (Option.some Jvm.ClassFile.FieldType.int) : Cond) ∈ wt := in_wt 890 rfl rfl
theorem mw_891 : (.methodLink RX8 140 yX8_isJar : Cond) ∈ wt := in_wt 891 (by decide +kernel) (by decide +kernel)
theorem mw_892 : (.static yX8_isJar : Cond) ∈ wt := in_wt 892 (by decide +kernel) (by decide +kernel)
set_option maxRecDepth 100000 in
theorem mw_893 : (.code yX8_isJar prog_10_method_8_code 1 (Option.some Jvm.ClassFile.FieldType.boolean) : Cond) ∈ wt := in_wt 893 rfl rfl
theorem mw_894 : (.methodLink RX8 143 yX8_isThought : Cond) ∈ wt := in_wt 894 (by decide +kernel) (by decide +kernel)
theorem mw_895 : (.static yX8_isThought : Cond) ∈ wt := in_wt 895 (by decide +kernel) (by decide +kernel)
set_option maxRecDepth 100000 in
theorem mw_896 : (.code yX8_isThought prog_10_method_7_code 1 (Option.some Jvm.ClassFile.FieldType.boolean) : Cond) ∈ wt := in_wt 896 rfl rfl
theorem mw_897 : (.methodLink RL 47 yX8_days : Cond) ∈ wt := in_wt 897 (by decide +kernel) (by decide +kernel)
theorem mw_898 : (.instanceMethod yX8_days : Cond) ∈ wt := in_wt 898 (by decide +kernel) (by decide +kernel)
theorem mw_899 : (.selects RX8 yX8_days yX8_days : Cond) ∈ wt := in_wt 899 (by decide +kernel) (by decide +kernel)
set_option maxRecDepth 100000 in
theorem mw_900 : (.code yX8_days prog_10_method_32_code 4 (Option.some Jvm.ClassFile.FieldType.int) : Cond) ∈ wt := in_wt 900 rfl rfl
theorem mw_901 : (.methodLink RX8 153 yX8_remembers : Cond) ∈ wt := in_wt 901 (by decide +kernel) (by decide +kernel)
theorem mw_903 : (.instanceMethod yX8_remembers : Cond) ∈ wt := in_wt 903 (by decide +kernel) (by decide +kernel)
set_option maxRecDepth 100000 in
theorem mw_904 : (.code yX8_remembers prog_10_method_28_code 3 (Option.none : Option Jvm.ClassFile.FieldType) : Cond) ∈ wt := in_wt 904 rfl rfl
theorem mw_905 : (.methodLink RX8 156 yX8_grows : Cond) ∈ wt := in_wt 905 (by decide +kernel) (by decide +kernel)
theorem mw_907 : (.instanceMethod yX8_grows : Cond) ∈ wt := in_wt 907 (by decide +kernel) (by decide +kernel)
set_option maxRecDepth 100000 in
theorem mw_908 : (.code yX8_grows prog_10_method_31_code 3 (Option.none : Option Jvm.ClassFile.FieldType) : Cond) ∈ wt := in_wt 908 rfl rfl
theorem mw_909 : (.methodLink RX8 146 yX8_thinks : Cond) ∈ wt := in_wt 909 (by decide +kernel) (by decide +kernel)
theorem mw_911 : (.instanceMethod yX8_thinks : Cond) ∈ wt := in_wt 911 (by decide +kernel) (by decide +kernel)
set_option maxRecDepth 100000 in
theorem mw_912 : (.code yX8_thinks prog_10_method_29_code 3 (Option.some Jvm.ClassFile.FieldType.int) : Cond) ∈ wt := in_wt 912 rfl rfl
theorem mw_913 : (.methodLink RX8 149 yX8_loses : Cond) ∈ wt := in_wt 913 (by decide +kernel) (by decide +kernel)
theorem mw_915 : (.instanceMethod yX8_loses : Cond) ∈ wt := in_wt 915 (by decide +kernel) (by decide +kernel)
set_option maxRecDepth 100000 in
theorem mw_916 : (.code yX8_loses prog_10_method_30_code 4 (Option.none : Option Jvm.ClassFile.FieldType) : Cond) ∈ wt := in_wt 916 rfl rfl
theorem mw_917 : (.methodLink RL 51 yX8_minds : Cond) ∈ wt := in_wt 917 (by decide +kernel) (by decide +kernel)
