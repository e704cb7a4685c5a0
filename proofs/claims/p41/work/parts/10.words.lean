theorem at_RX3_289 : atok RX3 289 "java/lang/IndexOutOfBoundsException" = true := by decide +kernel
theorem at_RX3_58 : atok RX3 58 "java/lang/IllegalArgumentException" = true := by decide +kernel
theorem at_RX3_159 : atok RX3 159 "java/lang/IllegalStateException" = true := by decide +kernel
theorem kn_51 : Cond.fieldLinkNest RX2 23 "Bestratios$Fraction" "top" "J" "Bestratios" ∈ tables_1 := List.mem_of_getElem? (i := 51) (by decide +kernel)
theorem kn_52 : Cond.fieldLinkNest RX3 101 "Bestratios$Fraction" "top" "J" "Bestratios" ∈ tables_1 := List.mem_of_getElem? (i := 52) (by decide +kernel)
theorem kn_54 : Cond.fieldLinkNest RX2 29 "Bestratios$Fraction" "bottom" "J" "Bestratios" ∈ tables_1 := List.mem_of_getElem? (i := 54) (by decide +kernel)
theorem kn_55 : Cond.fieldLinkNest RX3 105 "Bestratios$Fraction" "bottom" "J" "Bestratios" ∈ tables_1 := List.mem_of_getElem? (i := 55) (by decide +kernel)
theorem kn_69 : Cond.fieldLinkNest RX3 141 "Bestratios$Terms" "count" "I" "Bestratios" ∈ tables_1 := List.mem_of_getElem? (i := 69) (by decide +kernel)
theorem kn_94 : Cond.fieldLinkNest RX3 225 "Bestratios$Tally" "came" "I" "Bestratios" ∈ tables_1 := List.mem_of_getElem? (i := 94) (by decide +kernel)
theorem kn_498 : Cond.methodLinkNest RX0 18 yX3_commonDivisor "Bestratios" ∈ tables_1 := List.mem_of_getElem? (i := 498) (by decide +kernel)
theorem kn_501 : Cond.methodLinkNest RX0 22 yX3_floorOf "Bestratios" ∈ tables_1 := List.mem_of_getElem? (i := 501) (by decide +kernel)
theorem kn_529 : Cond.methodLinkNest RX0 35 yX3_cutNumber "Bestratios" ∈ tables_1 := List.mem_of_getElem? (i := 529) (by decide +kernel)
theorem kn_567 : Cond.methodLinkNest RX2 32 yX3_floorOf "Bestratios" ∈ tables_1 := List.mem_of_getElem? (i := 567) (by decide +kernel)
theorem kn_930 : Cond.methodLinkNest RX0 49 yX3_powerToLimit "Bestratios" ∈ tables_1 := List.mem_of_getElem? (i := 930) (by decide +kernel)
theorem kn_1149 : Cond.methodLinkNest RX1 50 yX3_powerOfTen "Bestratios" ∈ tables_1 := List.mem_of_getElem? (i := 1149) (by decide +kernel)
theorem kp_5 : Cond.selects RX3 yX3_stepDown yX3_stepDown ∈ GW := gw_s 5 (by decide +kernel) rfl
theorem kp_6 : Cond.selects RX3 yX3_stepUp yX3_stepUp ∈ GW := gw_s 6 (by decide +kernel) rfl
theorem kp_8 : Cond.selects RX3 yX3_countOf yX3_countOf ∈ GW := gw_s 8 (by decide +kernel) rfl
theorem kp_9 : Cond.selects RX3 yX3_wholeCount yX3_wholeCount ∈ GW := gw_s 9 (by decide +kernel) rfl
theorem kp_11 : Cond.selects RX3 yX3_depthOf yX3_depthOf ∈ GW := gw_s 11 (by decide +kernel) rfl
theorem kp_15 : Cond.selects RX3 yX3_ratioAt yX3_ratioAt ∈ GW := gw_s 15 (by decide +kernel) rfl
theorem kp_16 : Cond.selects RX3 yX3_settle yX3_settle ∈ GW := gw_s 16 (by decide +kernel) rfl
theorem kp_17 : Cond.selects RX3 yX3_refuse yX3_refuse ∈ GW := gw_s 17 (by decide +kernel) rfl
theorem kp_18 : Cond.selects RX3 yX3_takeNeighbour yX3_takeNeighbour ∈ GW := gw_s 18 (by decide +kernel) rfl
theorem kp_19 : Cond.selects RX3 yX3_isLowerBetter yX3_isLowerBetter ∈ GW := gw_s 19 (by decide +kernel) rfl
theorem kw_1 : Cond.initialized RX3 ∈ GW := gw_t 1 (by decide +kernel) rfl
theorem kw_2 : Cond.initialized RX0 ∈ GW := gw_t 2 (by decide +kernel) rfl
theorem kw_3 : Cond.initialized RX2 ∈ GW := gw_t 3 (by decide +kernel) rfl
theorem kw_4 : Cond.initialized RX1 ∈ GW := gw_t 4 (by decide +kernel) rfl
theorem kw_9 : Cond.initialized RJ9 ∈ GW := gw_t 9 (by decide +kernel) rfl
theorem kw_14 : Cond.initialized "java/lang/IndexOutOfBoundsException" ∈ GW := gw_t 14 (by decide +kernel) rfl
theorem kw_15 : Cond.initialized "java/lang/IllegalArgumentException" ∈ GW := gw_t 15 (by decide +kernel) rfl
theorem kw_17 : Cond.initialized RJ13 ∈ GW := gw_t 17 (by decide +kernel) rfl
theorem kw_31 : Cond.initialized "java/lang/IllegalStateException" ∈ GW := gw_t 31 (by decide +kernel) rfl
theorem kw_50 : Cond.fieldLink RX0 9 "Bestratios$Fraction" "top" "J" ∈ GW := gw_t 50 (by decide +kernel) rfl
theorem kw_53 : Cond.fieldLink RX0 15 "Bestratios$Fraction" "bottom" "J" ∈ GW := gw_t 53 (by decide +kernel) rfl
theorem kw_67 : Cond.fieldLink RX2 9 "Bestratios$Terms" "values" "[J" ∈ GW := gw_t 67 (by decide +kernel) rfl
theorem kw_68 : Cond.fieldLink RX2 15 "Bestratios$Terms" "count" "I" ∈ GW := gw_t 68 (by decide +kernel) rfl
theorem kw_84 : Cond.fieldLink RX1 10 "Bestratios$Tally" "exactSum" "LBestratios$Fraction;" ∈ GW := gw_t 84 (by decide +kernel) rfl
theorem kw_86 : Cond.fieldLink RX1 16 "Bestratios$Tally" "roundedSum" "LBestratios$Fraction;" ∈ GW := gw_t 86 (by decide +kernel) rfl
theorem kw_88 : Cond.fieldLink RX1 19 "Bestratios$Tally" "difference" "LBestratios$Fraction;" ∈ GW := gw_t 88 (by decide +kernel) rfl
theorem kw_90 : Cond.fieldLink RX1 22 "Bestratios$Tally" "newExact" "LBestratios$Fraction;" ∈ GW := gw_t 90 (by decide +kernel) rfl
theorem kw_91 : Cond.fieldLink RX1 25 "Bestratios$Tally" "newRounded" "LBestratios$Fraction;" ∈ GW := gw_t 91 (by decide +kernel) rfl
theorem kw_92 : Cond.fieldLink RX1 28 "Bestratios$Tally" "newDifference" "LBestratios$Fraction;" ∈ GW := gw_t 92 (by decide +kernel) rfl
theorem kw_93 : Cond.fieldLink RX1 31 "Bestratios$Tally" "came" "I" ∈ GW := gw_t 93 (by decide +kernel) rfl
theorem kw_95 : Cond.fieldLink RX1 35 "Bestratios$Tally" "places" "I" ∈ GW := gw_t 95 (by decide +kernel) rfl
theorem kw_114 : Cond.fieldLink RX3 11 "Bestratios" "ratios" "[LBestratios$Fraction;" ∈ GW := gw_t 114 (by decide +kernel) rfl
theorem kw_115 : Cond.fieldLink RX3 19 "Bestratios" "said" "LBestratios$Terms;" ∈ GW := gw_t 115 (by decide +kernel) rfl
theorem kw_116 : Cond.fieldLink RX3 26 "Bestratios" "tallied" "LBestratios$Tally;" ∈ GW := gw_t 116 (by decide +kernel) rfl
theorem kw_117 : Cond.fieldLink RX3 30 "Bestratios" "refusals" "I" ∈ GW := gw_t 117 (by decide +kernel) rfl
theorem kw_118 : Cond.fieldLink RX3 34 "Bestratios" "knocks" "I" ∈ GW := gw_t 118 (by decide +kernel) rfl
theorem kw_119 : Cond.fieldLink RX3 37 "Bestratios" "made" "LBestratios$Fraction;" ∈ GW := gw_t 119 (by decide +kernel) rfl
theorem kw_120 : Cond.fieldLink RX3 41 "Bestratios" "below" "LBestratios$Fraction;" ∈ GW := gw_t 120 (by decide +kernel) rfl
theorem kw_121 : Cond.fieldLink RX3 44 "Bestratios" "above" "LBestratios$Fraction;" ∈ GW := gw_t 121 (by decide +kernel) rfl
theorem kw_122 : Cond.fieldLink RX3 47 "Bestratios" "found" "LBestratios$Terms;" ∈ GW := gw_t 122 (by decide +kernel) rfl
theorem kw_201 : Cond.static yJ9_max_7cf53 ∈ GW := gw_t 201 (by decide +kernel) rfl
theorem kw_202 : Cond.code yJ9_max_7cf53 cJ9_max_7cf53 2 (some .int) ∈ GW := gw_t 202 (by decide +kernel) rfl
theorem kw_277 : Cond.methodLink RX3 144 yX2_at ∈ GW := gw_t 277 (by decide +kernel) rfl
theorem kw_278 : Cond.instanceMethod yX2_at ∈ GW := gw_t 278 (by decide +kernel) rfl
theorem kw_279 : Cond.selects RX2 yX2_at yX2_at ∈ GW := gw_t 279 (by decide +kernel) rfl
theorem kw_280 : Cond.code yX2_at cX2_at 2 (some .long) ∈ GW := gw_t 280 (by decide +kernel) rfl
theorem kw_490 : Cond.methodLink RX3 228 yX1_clear ∈ GW := gw_t 490 (by decide +kernel) rfl
theorem kw_491 : Cond.instanceMethod yX1_clear ∈ GW := gw_t 491 (by decide +kernel) rfl
theorem kw_492 : Cond.selects RX1 yX1_clear yX1_clear ∈ GW := gw_t 492 (by decide +kernel) rfl
theorem kw_493 : Cond.code yX1_clear cX1_clear 1 none ∈ GW := gw_t 493 (by decide +kernel) rfl
theorem kw_494 : Cond.methodLink RX1 38 yX0_become ∈ GW := gw_t 494 (by decide +kernel) rfl
theorem kw_495 : Cond.instanceMethod yX0_become ∈ GW := gw_t 495 (by decide +kernel) rfl
theorem kw_496 : Cond.selects RX0 yX0_become yX0_become ∈ GW := gw_t 496 (by decide +kernel) rfl
theorem kw_497 : Cond.code yX0_become cX0_become 9 none ∈ GW := gw_t 497 (by decide +kernel) rfl
theorem kw_499 : Cond.static yX3_commonDivisor ∈ GW := gw_t 499 (by decide +kernel) rfl
theorem kw_500 : Cond.code yX3_commonDivisor cX3_commonDivisor 11 (some .long) ∈ GW := gw_t 500 (by decide +kernel) rfl
theorem kw_502 : Cond.static yX3_floorOf ∈ GW := gw_t 502 (by decide +kernel) rfl
theorem kw_503 : Cond.code yX3_floorOf cX3_floorOf 4 (some .long) ∈ GW := gw_t 503 (by decide +kernel) rfl
theorem kw_504 : Cond.methodLink RX3 355 yJ9_floorDiv_f86c9 ∈ GW := gw_t 504 (by decide +kernel) rfl
theorem kw_505 : Cond.static yJ9_floorDiv_f86c9 ∈ GW := gw_t 505 (by decide +kernel) rfl
theorem kw_506 : Cond.code yJ9_floorDiv_f86c9 cJ9_floorDiv_f86c9 6 (some .long) ∈ GW := gw_t 506 (by decide +kernel) rfl
theorem kw_526 : Cond.instanceMethod yX0_cutTo ∈ GW := gw_t 526 (by decide +kernel) rfl
theorem kw_527 : Cond.selects RX0 yX0_cutTo yX0_cutTo ∈ GW := gw_t 527 (by decide +kernel) rfl
theorem kw_528 : Cond.code yX0_cutTo cX0_cutTo 3 (some .long) ∈ GW := gw_t 528 (by decide +kernel) rfl
theorem kw_530 : Cond.static yX3_cutNumber ∈ GW := gw_t 530 (by decide +kernel) rfl
theorem kw_531 : Cond.code yX3_cutNumber cX3_cutNumber 12 (some .long) ∈ GW := gw_t 531 (by decide +kernel) rfl
theorem kw_532 : Cond.methodLink RX3 73 yX3_powerOfTen ∈ GW := gw_t 532 (by decide +kernel) rfl
theorem kw_533 : Cond.static yX3_powerOfTen ∈ GW := gw_t 533 (by decide +kernel) rfl
theorem kw_534 : Cond.code yX3_powerOfTen cX3_powerOfTen 1 (some .long) ∈ GW := gw_t 534 (by decide +kernel) rfl
theorem kw_535 : Cond.fieldLink RX3 360 "Bestratios" "POWERS_OF_TEN" "[J" ∈ GW := gw_t 535 (by decide +kernel) rfl
theorem kw_537 : Cond.methodLink RX3 340 yX3_floorOf ∈ GW := gw_t 537 (by decide +kernel) rfl
theorem kw_538 : Cond.methodLink RX3 366 yX3_isCutUpward ∈ GW := gw_t 538 (by decide +kernel) rfl
theorem kw_539 : Cond.static yX3_isCutUpward ∈ GW := gw_t 539 (by decide +kernel) rfl
theorem kw_540 : Cond.code yX3_isCutUpward cX3_isCutUpward 7 (some .boolean) ∈ GW := gw_t 540 (by decide +kernel) rfl
theorem kw_541 : Cond.constantLong RX3 309 (2) ∈ GW := gw_t 541 (by decide +kernel) rfl
theorem kw_563 : Cond.methodLink RX3 130 yX2_takeApart ∈ GW := gw_t 563 (by decide +kernel) rfl
theorem kw_564 : Cond.instanceMethod yX2_takeApart ∈ GW := gw_t 564 (by decide +kernel) rfl
theorem kw_565 : Cond.selects RX2 yX2_takeApart yX2_takeApart ∈ GW := gw_t 565 (by decide +kernel) rfl
theorem kw_566 : Cond.code yX2_takeApart cX2_takeApart 11 none ∈ GW := gw_t 566 (by decide +kernel) rfl
theorem kw_568 : Cond.methodLink RX2 36 yX2_addLast ∈ GW := gw_t 568 (by decide +kernel) rfl
theorem kw_569 : Cond.instanceMethod yX2_addLast ∈ GW := gw_t 569 (by decide +kernel) rfl
theorem kw_570 : Cond.selects RX2 yX2_addLast yX2_addLast ∈ GW := gw_t 570 (by decide +kernel) rfl
theorem kw_571 : Cond.code yX2_addLast cX2_addLast 3 none ∈ GW := gw_t 571 (by decide +kernel) rfl
theorem kw_573 : Cond.methodLink RX3 150 yX2_foldInto ∈ GW := gw_t 573 (by decide +kernel) rfl
theorem kw_574 : Cond.instanceMethod yX2_foldInto ∈ GW := gw_t 574 (by decide +kernel) rfl
theorem kw_575 : Cond.selects RX2 yX2_foldInto yX2_foldInto ∈ GW := gw_t 575 (by decide +kernel) rfl
theorem kw_576 : Cond.code yX2_foldInto cX2_foldInto 9 (some .boolean) ∈ GW := gw_t 576 (by decide +kernel) rfl
theorem kw_577 : Cond.methodLink RX2 19 yX2_at ∈ GW := gw_t 577 (by decide +kernel) rfl
theorem kw_578 : Cond.constantLong RX2 40 (4000000000) ∈ GW := gw_t 578 (by decide +kernel) rfl
theorem kw_579 : Cond.methodLink RX2 42 yX0_become ∈ GW := gw_t 579 (by decide +kernel) rfl
theorem kw_580 : Cond.methodLink RX3 294 yX0_isSameAs ∈ GW := gw_t 580 (by decide +kernel) rfl
theorem kw_581 : Cond.instanceMethod yX0_isSameAs ∈ GW := gw_t 581 (by decide +kernel) rfl
theorem kw_582 : Cond.selects RX0 yX0_isSameAs yX0_isSameAs ∈ GW := gw_t 582 (by decide +kernel) rfl
theorem kw_583 : Cond.code yX0_isSameAs cX0_isSameAs 2 (some .boolean) ∈ GW := gw_t 583 (by decide +kernel) rfl
theorem kw_588 : Cond.methodLink RX3 168 yX0_becomeNeighbour ∈ GW := gw_t 588 (by decide +kernel) rfl
theorem kw_589 : Cond.instanceMethod yX0_becomeNeighbour ∈ GW := gw_t 589 (by decide +kernel) rfl
theorem kw_590 : Cond.selects RX0 yX0_becomeNeighbour yX0_becomeNeighbour ∈ GW := gw_t 590 (by decide +kernel) rfl
theorem kw_591 : Cond.code yX0_becomeNeighbour cX0_becomeNeighbour 14 none ∈ GW := gw_t 591 (by decide +kernel) rfl
theorem kw_592 : Cond.constantLong RX0 53 (2) ∈ GW := gw_t 592 (by decide +kernel) rfl
theorem kw_593 : Cond.methodLink RX0 45 yX0_become ∈ GW := gw_t 593 (by decide +kernel) rfl
theorem kw_594 : Cond.methodLink RX3 123 yX0_compareWith ∈ GW := gw_t 594 (by decide +kernel) rfl
theorem kw_595 : Cond.instanceMethod yX0_compareWith ∈ GW := gw_t 595 (by decide +kernel) rfl
theorem kw_596 : Cond.selects RX0 yX0_compareWith yX0_compareWith ∈ GW := gw_t 596 (by decide +kernel) rfl
theorem kw_597 : Cond.code yX0_compareWith cX0_compareWith 2 (some .int) ∈ GW := gw_t 597 (by decide +kernel) rfl
theorem kw_598 : Cond.methodLink RX0 29 yJ13_compare_74951 ∈ GW := gw_t 598 (by decide +kernel) rfl
theorem kw_599 : Cond.static yJ13_compare_74951 ∈ GW := gw_t 599 (by decide +kernel) rfl
theorem kw_600 : Cond.code yJ13_compare_74951 cJ13_compare_74951 4 (some .int) ∈ GW := gw_t 600 (by decide +kernel) rfl
theorem kw_601 : Cond.methodLink RX3 126 yX0_isNextTo ∈ GW := gw_t 601 (by decide +kernel) rfl
theorem kw_602 : Cond.instanceMethod yX0_isNextTo ∈ GW := gw_t 602 (by decide +kernel) rfl
theorem kw_603 : Cond.selects RX0 yX0_isNextTo yX0_isNextTo ∈ GW := gw_t 603 (by decide +kernel) rfl
theorem kw_604 : Cond.code yX0_isNextTo cX0_isNextTo 4 (some .boolean) ∈ GW := gw_t 604 (by decide +kernel) rfl
theorem kw_605 : Cond.constantLong RX0 39 (-1) ∈ GW := gw_t 605 (by decide +kernel) rfl
theorem kw_613 : Cond.methodLink RX3 91 yX0_sign ∈ GW := gw_t 613 (by decide +kernel) rfl
theorem kw_614 : Cond.instanceMethod yX0_sign ∈ GW := gw_t 614 (by decide +kernel) rfl
theorem kw_615 : Cond.selects RX0 yX0_sign yX0_sign ∈ GW := gw_t 615 (by decide +kernel) rfl
theorem kw_616 : Cond.code yX0_sign cX0_sign 1 (some .int) ∈ GW := gw_t 616 (by decide +kernel) rfl
theorem kw_617 : Cond.methodLink RX3 182 yX3_stepDown ∈ GW := gw_t 617 (by decide +kernel) rfl
theorem kw_619 : Cond.instanceMethod yX3_stepDown ∈ GW := gw_t 619 (by decide +kernel) rfl
theorem kw_620 : Cond.code yX3_stepDown cX3_stepDown 4 (some .boolean) ∈ GW := gw_t 620 (by decide +kernel) rfl
theorem kw_621 : Cond.methodLink RX3 306 yX2_addToLast ∈ GW := gw_t 621 (by decide +kernel) rfl
theorem kw_622 : Cond.instanceMethod yX2_addToLast ∈ GW := gw_t 622 (by decide +kernel) rfl
theorem kw_623 : Cond.selects RX2 yX2_addToLast yX2_addToLast ∈ GW := gw_t 623 (by decide +kernel) rfl
theorem kw_624 : Cond.code yX2_addToLast cX2_addToLast 4 none ∈ GW := gw_t 624 (by decide +kernel) rfl
theorem kw_625 : Cond.constantLong RX3 304 (-1) ∈ GW := gw_t 625 (by decide +kernel) rfl
theorem kw_626 : Cond.methodLink RX3 160 yX2_addLast ∈ GW := gw_t 626 (by decide +kernel) rfl
theorem kw_627 : Cond.methodLink RX3 77 yX0_assign ∈ GW := gw_t 627 (by decide +kernel) rfl
theorem kw_628 : Cond.instanceMethod yX0_assign ∈ GW := gw_t 628 (by decide +kernel) rfl
theorem kw_629 : Cond.selects RX0 yX0_assign yX0_assign ∈ GW := gw_t 629 (by decide +kernel) rfl
theorem kw_630 : Cond.code yX0_assign cX0_assign 2 none ∈ GW := gw_t 630 (by decide +kernel) rfl
theorem kw_631 : Cond.methodLink RX3 179 yX3_stepUp ∈ GW := gw_t 631 (by decide +kernel) rfl
theorem kw_633 : Cond.instanceMethod yX3_stepUp ∈ GW := gw_t 633 (by decide +kernel) rfl
theorem kw_634 : Cond.code yX3_stepUp cX3_stepUp 2 (some .boolean) ∈ GW := gw_t 634 (by decide +kernel) rfl
theorem kw_635 : Cond.methodLink RX3 201 yX0_becomeFollower ∈ GW := gw_t 635 (by decide +kernel) rfl
theorem kw_636 : Cond.instanceMethod yX0_becomeFollower ∈ GW := gw_t 636 (by decide +kernel) rfl
theorem kw_637 : Cond.selects RX0 yX0_becomeFollower yX0_becomeFollower ∈ GW := gw_t 637 (by decide +kernel) rfl
theorem kw_638 : Cond.code yX0_becomeFollower cX0_becomeFollower 4 none ∈ GW := gw_t 638 (by decide +kernel) rfl
theorem kw_639 : Cond.methodLink RX0 55 yX0_floorPart ∈ GW := gw_t 639 (by decide +kernel) rfl
theorem kw_640 : Cond.instanceMethod yX0_floorPart ∈ GW := gw_t 640 (by decide +kernel) rfl
theorem kw_641 : Cond.selects RX0 yX0_floorPart yX0_floorPart ∈ GW := gw_t 641 (by decide +kernel) rfl
theorem kw_642 : Cond.code yX0_floorPart cX0_floorPart 1 (some .long) ∈ GW := gw_t 642 (by decide +kernel) rfl
theorem kw_643 : Cond.methodLink RX3 207 yX0_becomeForerunner ∈ GW := gw_t 643 (by decide +kernel) rfl
theorem kw_644 : Cond.instanceMethod yX0_becomeForerunner ∈ GW := gw_t 644 (by decide +kernel) rfl
theorem kw_645 : Cond.selects RX0 yX0_becomeForerunner yX0_becomeForerunner ∈ GW := gw_t 645 (by decide +kernel) rfl
theorem kw_646 : Cond.code yX0_becomeForerunner cX0_becomeForerunner 4 none ∈ GW := gw_t 646 (by decide +kernel) rfl
theorem kw_651 : Cond.methodLink RX3 81 yX0_becomeSum ∈ GW := gw_t 651 (by decide +kernel) rfl
theorem kw_652 : Cond.instanceMethod yX0_becomeSum ∈ GW := gw_t 652 (by decide +kernel) rfl
theorem kw_653 : Cond.selects RX0 yX0_becomeSum yX0_becomeSum ∈ GW := gw_t 653 (by decide +kernel) rfl
theorem kw_654 : Cond.code yX0_becomeSum cX0_becomeSum 3 none ∈ GW := gw_t 654 (by decide +kernel) rfl
theorem kw_655 : Cond.methodLink RX0 41 yX0_gather ∈ GW := gw_t 655 (by decide +kernel) rfl
theorem kw_656 : Cond.instanceMethod yX0_gather ∈ GW := gw_t 656 (by decide +kernel) rfl
theorem kw_657 : Cond.selects RX0 yX0_gather yX0_gather ∈ GW := gw_t 657 (by decide +kernel) rfl
theorem kw_658 : Cond.code yX0_gather cX0_gather 12 none ∈ GW := gw_t 658 (by decide +kernel) rfl
theorem kw_659 : Cond.methodLink RX3 85 yX0_becomeDifference ∈ GW := gw_t 659 (by decide +kernel) rfl
theorem kw_660 : Cond.instanceMethod yX0_becomeDifference ∈ GW := gw_t 660 (by decide +kernel) rfl
theorem kw_661 : Cond.selects RX0 yX0_becomeDifference yX0_becomeDifference ∈ GW := gw_t 661 (by decide +kernel) rfl
theorem kw_662 : Cond.code yX0_becomeDifference cX0_becomeDifference 3 none ∈ GW := gw_t 662 (by decide +kernel) rfl
theorem kw_667 : Cond.methodLink RX1 42 yX0_becomeSum ∈ GW := gw_t 667 (by decide +kernel) rfl
theorem kw_668 : Cond.methodLink RX1 77 yX0_isSameAs ∈ GW := gw_t 668 (by decide +kernel) rfl
theorem kw_674 : Cond.methodLink RX3 241 yX3_countOf ∈ GW := gw_t 674 (by decide +kernel) rfl
theorem kw_676 : Cond.instanceMethod yX3_countOf ∈ GW := gw_t 676 (by decide +kernel) rfl
theorem kw_677 : Cond.code yX3_countOf cX3_countOf 2 (some .int) ∈ GW := gw_t 677 (by decide +kernel) rfl
theorem kw_678 : Cond.methodLink RX3 301 yX3_wholeCount ∈ GW := gw_t 678 (by decide +kernel) rfl
theorem kw_680 : Cond.instanceMethod yX3_wholeCount ∈ GW := gw_t 680 (by decide +kernel) rfl
theorem kw_681 : Cond.code yX3_wholeCount cX3_wholeCount 3 (some .int) ∈ GW := gw_t 681 (by decide +kernel) rfl
theorem kw_690 : Cond.methodLink RX3 119 yX3_partOf ∈ GW := gw_t 690 (by decide +kernel) rfl
theorem kw_691 : Cond.static yX3_partOf ∈ GW := gw_t 691 (by decide +kernel) rfl
theorem kw_692 : Cond.code yX3_partOf cX3_partOf 2 (some .long) ∈ GW := gw_t 692 (by decide +kernel) rfl
theorem kw_693 : Cond.methodLink RX3 297 yX0_floorPart ∈ GW := gw_t 693 (by decide +kernel) rfl
theorem kw_694 : Cond.methodLink RX3 186 yX3_depthOf ∈ GW := gw_t 694 (by decide +kernel) rfl
theorem kw_696 : Cond.instanceMethod yX3_depthOf ∈ GW := gw_t 696 (by decide +kernel) rfl
theorem kw_697 : Cond.code yX3_depthOf cX3_depthOf 2 (some .long) ∈ GW := gw_t 697 (by decide +kernel) rfl
theorem kw_698 : Cond.constantLong RX3 311 (-9) ∈ GW := gw_t 698 (by decide +kernel) rfl
theorem kw_699 : Cond.methodLink RX3 313 yX2_total ∈ GW := gw_t 699 (by decide +kernel) rfl
theorem kw_700 : Cond.instanceMethod yX2_total ∈ GW := gw_t 700 (by decide +kernel) rfl
theorem kw_701 : Cond.selects RX2 yX2_total yX2_total ∈ GW := gw_t 701 (by decide +kernel) rfl
theorem kw_702 : Cond.code yX2_total cX2_total 4 (some .long) ∈ GW := gw_t 702 (by decide +kernel) rfl
theorem kw_809 : Cond.methodLink RX3 50 yX3_ratioAt ∈ GW := gw_t 809 (by decide +kernel) rfl
theorem kw_811 : Cond.instanceMethod yX3_ratioAt ∈ GW := gw_t 811 (by decide +kernel) rfl
theorem kw_812 : Cond.code yX3_ratioAt cX3_ratioAt 2 (some (.object "Bestratios$Fraction")) ∈ GW := gw_t 812 (by decide +kernel) rfl
theorem kw_813 : Cond.classLink RX3 285 "java/lang/IndexOutOfBoundsException" ∈ GW := gw_t 813 (by decide +kernel) rfl
theorem kw_826 : Cond.classLink RX3 54 "java/lang/IllegalArgumentException" ∈ GW := gw_t 826 (by decide +kernel) rfl
theorem kw_829 : Cond.methodLink RX3 61 yX0_become ∈ GW := gw_t 829 (by decide +kernel) rfl
theorem kw_830 : Cond.methodLink RX3 65 yX3_settle ∈ GW := gw_t 830 (by decide +kernel) rfl
theorem kw_832 : Cond.instanceMethod yX3_settle ∈ GW := gw_t 832 (by decide +kernel) rfl
theorem kw_833 : Cond.code yX3_settle cX3_settle 2 (some .int) ∈ GW := gw_t 833 (by decide +kernel) rfl
theorem kw_834 : Cond.methodLink RX3 204 yX0_isFitting ∈ GW := gw_t 834 (by decide +kernel) rfl
theorem kw_835 : Cond.instanceMethod yX0_isFitting ∈ GW := gw_t 835 (by decide +kernel) rfl
theorem kw_836 : Cond.selects RX0 yX0_isFitting yX0_isFitting ∈ GW := gw_t 836 (by decide +kernel) rfl
theorem kw_837 : Cond.code yX0_isFitting cX0_isFitting 1 (some .boolean) ∈ GW := gw_t 837 (by decide +kernel) rfl
theorem kw_838 : Cond.constantLong RX0 25 (-1000000000) ∈ GW := gw_t 838 (by decide +kernel) rfl
theorem kw_839 : Cond.constantLong RX0 27 (1000000000) ∈ GW := gw_t 839 (by decide +kernel) rfl
theorem kw_840 : Cond.methodLink RX3 95 yX3_refuse ∈ GW := gw_t 840 (by decide +kernel) rfl
theorem kw_842 : Cond.instanceMethod yX3_refuse ∈ GW := gw_t 842 (by decide +kernel) rfl
theorem kw_843 : Cond.code yX3_refuse cX3_refuse 1 (some .int) ∈ GW := gw_t 843 (by decide +kernel) rfl
theorem kw_851 : Cond.methodLink RX3 69 yX3_requireWithin ∈ GW := gw_t 851 (by decide +kernel) rfl
theorem kw_852 : Cond.static yX3_requireWithin ∈ GW := gw_t 852 (by decide +kernel) rfl
theorem kw_853 : Cond.code yX3_requireWithin cX3_requireWithin 3 none ∈ GW := gw_t 853 (by decide +kernel) rfl
theorem kw_890 : Cond.methodLink RX3 88 yX0_becomeProduct ∈ GW := gw_t 890 (by decide +kernel) rfl
theorem kw_891 : Cond.instanceMethod yX0_becomeProduct ∈ GW := gw_t 891 (by decide +kernel) rfl
theorem kw_892 : Cond.selects RX0 yX0_becomeProduct yX0_becomeProduct ∈ GW := gw_t 892 (by decide +kernel) rfl
theorem kw_893 : Cond.code yX0_becomeProduct cX0_becomeProduct 3 none ∈ GW := gw_t 893 (by decide +kernel) rfl
theorem kw_901 : Cond.methodLink RX3 98 yX0_becomeQuotient ∈ GW := gw_t 901 (by decide +kernel) rfl
theorem kw_902 : Cond.instanceMethod yX0_becomeQuotient ∈ GW := gw_t 902 (by decide +kernel) rfl
theorem kw_903 : Cond.selects RX0 yX0_becomeQuotient yX0_becomeQuotient ∈ GW := gw_t 903 (by decide +kernel) rfl
theorem kw_904 : Cond.code yX0_becomeQuotient cX0_becomeQuotient 3 none ∈ GW := gw_t 904 (by decide +kernel) rfl
theorem kw_926 : Cond.methodLink RX3 108 yX0_becomePower ∈ GW := gw_t 926 (by decide +kernel) rfl
theorem kw_927 : Cond.instanceMethod yX0_becomePower ∈ GW := gw_t 927 (by decide +kernel) rfl
theorem kw_928 : Cond.selects RX0 yX0_becomePower yX0_becomePower ∈ GW := gw_t 928 (by decide +kernel) rfl
theorem kw_929 : Cond.code yX0_becomePower cX0_becomePower 8 none ∈ GW := gw_t 929 (by decide +kernel) rfl
theorem kw_931 : Cond.static yX3_powerToLimit ∈ GW := gw_t 931 (by decide +kernel) rfl
theorem kw_932 : Cond.code yX3_powerToLimit cX3_powerToLimit 6 (some .long) ∈ GW := gw_t 932 (by decide +kernel) rfl
theorem kw_933 : Cond.constantLong RX3 364 (1000000000) ∈ GW := gw_t 933 (by decide +kernel) rfl
theorem kw_941 : Cond.methodLink RX3 112 yX0_becomeMediant ∈ GW := gw_t 941 (by decide +kernel) rfl
theorem kw_942 : Cond.instanceMethod yX0_becomeMediant ∈ GW := gw_t 942 (by decide +kernel) rfl
theorem kw_943 : Cond.selects RX0 yX0_becomeMediant yX0_becomeMediant ∈ GW := gw_t 943 (by decide +kernel) rfl
theorem kw_944 : Cond.code yX0_becomeMediant cX0_becomeMediant 3 none ∈ GW := gw_t 944 (by decide +kernel) rfl
theorem kw_987 : Cond.methodLink RX3 137 yX3_requireNotBelow0 ∈ GW := gw_t 987 (by decide +kernel) rfl
theorem kw_988 : Cond.static yX3_requireNotBelow0 ∈ GW := gw_t 988 (by decide +kernel) rfl
theorem kw_989 : Cond.code yX3_requireNotBelow0 cX3_requireNotBelow0 1 none ∈ GW := gw_t 989 (by decide +kernel) rfl
theorem kw_998 : Cond.methodLink RX3 147 yX2_keepFirst ∈ GW := gw_t 998 (by decide +kernel) rfl
theorem kw_999 : Cond.instanceMethod yX2_keepFirst ∈ GW := gw_t 999 (by decide +kernel) rfl
theorem kw_1000 : Cond.selects RX2 yX2_keepFirst yX2_keepFirst ∈ GW := gw_t 1000 (by decide +kernel) rfl
theorem kw_1001 : Cond.code yX2_keepFirst cX2_keepFirst 2 none ∈ GW := gw_t 1001 (by decide +kernel) rfl
theorem kw_1010 : Cond.constant RX3 153 (-99999) ∈ GW := gw_t 1010 (by decide +kernel) rfl
theorem kw_1011 : Cond.constant RX3 154 (99999) ∈ GW := gw_t 1011 (by decide +kernel) rfl
theorem kw_1012 : Cond.classLink RX3 155 "java/lang/IllegalStateException" ∈ GW := gw_t 1012 (by decide +kernel) rfl
theorem kw_1049 : Cond.methodLink RX3 164 yX3_takeNeighbour ∈ GW := gw_t 1049 (by decide +kernel) rfl
theorem kw_1051 : Cond.instanceMethod yX3_takeNeighbour ∈ GW := gw_t 1051 (by decide +kernel) rfl
theorem kw_1052 : Cond.code yX3_takeNeighbour cX3_takeNeighbour 7 (some .int) ∈ GW := gw_t 1052 (by decide +kernel) rfl
theorem kw_1067 : Cond.methodLink RX3 172 yX3_isLowerBetter ∈ GW := gw_t 1067 (by decide +kernel) rfl
theorem kw_1069 : Cond.instanceMethod yX3_isLowerBetter ∈ GW := gw_t 1069 (by decide +kernel) rfl
theorem kw_1070 : Cond.code yX3_isLowerBetter cX3_isLowerBetter 6 (some .boolean) ∈ GW := gw_t 1070 (by decide +kernel) rfl
theorem kw_1078 : Cond.methodLink RX3 175 yX0_isOne ∈ GW := gw_t 1078 (by decide +kernel) rfl
theorem kw_1079 : Cond.instanceMethod yX0_isOne ∈ GW := gw_t 1079 (by decide +kernel) rfl
theorem kw_1080 : Cond.selects RX0 yX0_isOne yX0_isOne ∈ GW := gw_t 1080 (by decide +kernel) rfl
theorem kw_1081 : Cond.code yX0_isOne cX0_isOne 1 (some .boolean) ∈ GW := gw_t 1081 (by decide +kernel) rfl
theorem kw_1144 : Cond.methodLink RX3 221 yX1_takeIn ∈ GW := gw_t 1144 (by decide +kernel) rfl
theorem kw_1145 : Cond.instanceMethod yX1_takeIn ∈ GW := gw_t 1145 (by decide +kernel) rfl
theorem kw_1146 : Cond.selects RX1 yX1_takeIn yX1_takeIn ∈ GW := gw_t 1146 (by decide +kernel) rfl
theorem kw_1147 : Cond.code yX1_takeIn cX1_takeIn 4 (some .boolean) ∈ GW := gw_t 1147 (by decide +kernel) rfl
theorem kw_1148 : Cond.methodLink RX1 46 yX0_cutTo ∈ GW := gw_t 1148 (by decide +kernel) rfl
theorem kw_1150 : Cond.methodLink RX1 56 yX0_gather ∈ GW := gw_t 1150 (by decide +kernel) rfl
theorem kw_1151 : Cond.methodLink RX1 60 yX0_isFitting ∈ GW := gw_t 1151 (by decide +kernel) rfl
theorem kw_1152 : Cond.methodLink RX1 64 yX0_becomeDifference ∈ GW := gw_t 1152 (by decide +kernel) rfl
theorem kw_1153 : Cond.methodLink RX1 67 yX0_assign ∈ GW := gw_t 1153 (by decide +kernel) rfl
theorem kw_1154 : Cond.methodLink RX1 71 yJ9_max_7cf53 ∈ GW := gw_t 1154 (by decide +kernel) rfl
theorem uJ0 {w0 : Cond} : ∀ w ∈ u_ws RJ0 TJ0 4, w ∈ (w0 :: GW) := by
  have h : (u_ws RJ0 TJ0 4).all (fun w => decide (w ∈ tables_1) && goodWord w) = true := by decide +kernel
  intro w hw
  have h1 := List.all_eq_true.mp h w hw
  simp only [Bool.and_eq_true, decide_eq_true_eq] at h1
  exact List.mem_cons_of_mem _ (gw_m (List.mem_append_right _ h1.1) h1.2)
theorem uJ4 {w0 : Cond} : ∀ w ∈ u_ws RJ4 TJ4 4, w ∈ (w0 :: GW) := by
  have h : (u_ws RJ4 TJ4 4).all (fun w => decide (w ∈ tables_1) && goodWord w) = true := by decide +kernel
  intro w hw
  have h1 := List.all_eq_true.mp h w hw
  simp only [Bool.and_eq_true, decide_eq_true_eq] at h1
  exact List.mem_cons_of_mem _ (gw_m (List.mem_append_right _ h1.1) h1.2)
theorem uJ6 {w0 : Cond} : ∀ w ∈ u_ws RJ6 TJ6 1, w ∈ (w0 :: GW) := by
  have h : (u_ws RJ6 TJ6 1).all (fun w => decide (w ∈ tables_1) && goodWord w) = true := by decide +kernel
  intro w hw
  have h1 := List.all_eq_true.mp h w hw
  simp only [Bool.and_eq_true, decide_eq_true_eq] at h1
  exact List.mem_cons_of_mem _ (gw_m (List.mem_append_right _ h1.1) h1.2)
theorem uJ13 {w0 : Cond} : ∀ w ∈ u_ws RJ13 TJ13 1, w ∈ (w0 :: GW) := by
  have h : (u_ws RJ13 TJ13 1).all (fun w => decide (w ∈ tables_1) && goodWord w) = true := by decide +kernel
  intro w hw
  have h1 := List.all_eq_true.mp h w hw
  simp only [Bool.and_eq_true, decide_eq_true_eq] at h1
  exact List.mem_cons_of_mem _ (gw_m (List.mem_append_right _ h1.1) h1.2)
theorem uJx00060 {w0 : Cond} : ∀ w ∈ u_ws RJx00060 TJx00060 6, w ∈ (w0 :: GW) := by
  have h : (u_ws RJx00060 TJx00060 6).all (fun w => decide (w ∈ tables_1) && goodWord w) = true := by decide +kernel
  intro w hw
  have h1 := List.all_eq_true.mp h w hw
  simp only [Bool.and_eq_true, decide_eq_true_eq] at h1
  exact List.mem_cons_of_mem _ (gw_m (List.mem_append_right _ h1.1) h1.2)
theorem uJx7c733 {w0 : Cond} : ∀ w ∈ u_ws RJx7c733 TJx7c733 6, w ∈ (w0 :: GW) := by
  have h : (u_ws RJx7c733 TJx7c733 6).all (fun w => decide (w ∈ tables_1) && goodWord w) = true := by decide +kernel
  intro w hw
  have h1 := List.all_eq_true.mp h w hw
  simp only [Bool.and_eq_true, decide_eq_true_eq] at h1
  exact List.mem_cons_of_mem _ (gw_m (List.mem_append_right _ h1.1) h1.2)
theorem uJx35411 {w0 : Cond} : ∀ w ∈ u_ws RJx35411 TJx35411 4, w ∈ (w0 :: GW) := by
  have h : (u_ws RJx35411 TJx35411 4).all (fun w => decide (w ∈ tables_1) && goodWord w) = true := by decide +kernel
  intro w hw
  have h1 := List.all_eq_true.mp h w hw
  simp only [Bool.and_eq_true, decide_eq_true_eq] at h1
  exact List.mem_cons_of_mem _ (gw_m (List.mem_append_right _ h1.1) h1.2)
theorem uJx4a65c {w0 : Cond} : ∀ w ∈ u_ws RJx4a65c TJx4a65c 3, w ∈ (w0 :: GW) := by
  have h : (u_ws RJx4a65c TJx4a65c 3).all (fun w => decide (w ∈ tables_1) && goodWord w) = true := by decide +kernel
  intro w hw
  have h1 := List.all_eq_true.mp h w hw
  simp only [Bool.and_eq_true, decide_eq_true_eq] at h1
  exact List.mem_cons_of_mem _ (gw_m (List.mem_append_right _ h1.1) h1.2)
theorem uX0 {w0 : Cond} : ∀ w ∈ u_ws RX0 TX0 2, w ∈ (w0 :: GW) := by
  have h : (u_ws RX0 TX0 2).all (fun w => decide (w ∈ tables_1) && goodWord w) = true := by decide +kernel
  intro w hw
  have h1 := List.all_eq_true.mp h w hw
  simp only [Bool.and_eq_true, decide_eq_true_eq] at h1
  exact List.mem_cons_of_mem _ (gw_m (List.mem_append_right _ h1.1) h1.2)
theorem uX1 {w0 : Cond} : ∀ w ∈ u_ws RX1 TX1 8, w ∈ (w0 :: GW) := by
  have h : (u_ws RX1 TX1 8).all (fun w => decide (w ∈ tables_1) && goodWord w) = true := by decide +kernel
  intro w hw
  have h1 := List.all_eq_true.mp h w hw
  simp only [Bool.and_eq_true, decide_eq_true_eq] at h1
  exact List.mem_cons_of_mem _ (gw_m (List.mem_append_right _ h1.1) h1.2)
theorem uX2 {w0 : Cond} : ∀ w ∈ u_ws RX2 TX2 2, w ∈ (w0 :: GW) := by
  have h : (u_ws RX2 TX2 2).all (fun w => decide (w ∈ tables_1) && goodWord w) = true := by decide +kernel
  intro w hw
  have h1 := List.all_eq_true.mp h w hw
  simp only [Bool.and_eq_true, decide_eq_true_eq] at h1
  exact List.mem_cons_of_mem _ (gw_m (List.mem_append_right _ h1.1) h1.2)
theorem uX3 {w0 : Cond} : ∀ w ∈ u_ws RX3 TX3 9, w ∈ (w0 :: GW) := by
  have h : (u_ws RX3 TX3 9).all (fun w => decide (w ∈ tables_1) && goodWord w) = true := by decide +kernel
  intro w hw
  have h1 := List.all_eq_true.mp h w hw
  simp only [Bool.and_eq_true, decide_eq_true_eq] at h1
  exact List.mem_cons_of_mem _ (gw_m (List.mem_append_right _ h1.1) h1.2)
theorem uX4 {w0 : Cond} : ∀ w ∈ u_ws RX4 TX4 2, w ∈ (w0 :: GW) := by
  have h : (u_ws RX4 TX4 2).all (fun w => decide (w ∈ tables_1) && goodWord w) = true := by decide +kernel
  intro w hw
  have h1 := List.all_eq_true.mp h w hw
  simp only [Bool.and_eq_true, decide_eq_true_eq] at h1
  exact List.mem_cons_of_mem _ (gw_m (List.mem_append_right _ h1.1) h1.2)
theorem uX5 {w0 : Cond} : ∀ w ∈ u_ws RX5 TX5 9, w ∈ (w0 :: GW) := by
  have h : (u_ws RX5 TX5 9).all (fun w => decide (w ∈ tables_1) && goodWord w) = true := by decide +kernel
  intro w hw
  have h1 := List.all_eq_true.mp h w hw
  simp only [Bool.and_eq_true, decide_eq_true_eq] at h1
  exact List.mem_cons_of_mem _ (gw_m (List.mem_append_right _ h1.1) h1.2)
