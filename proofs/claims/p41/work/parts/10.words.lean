theorem kn_51 : Cond.fieldLinkNest RX2 23 "Bestratios$Fraction" "top" "J" "Bestratios" ∈ tables_1 := List.mem_of_getElem? (i := 51) (by decide +kernel)
theorem kn_54 : Cond.fieldLinkNest RX2 29 "Bestratios$Fraction" "bottom" "J" "Bestratios" ∈ tables_1 := List.mem_of_getElem? (i := 54) (by decide +kernel)
theorem kn_498 : Cond.methodLinkNest RX0 18 yX3_commonDivisor "Bestratios" ∈ tables_1 := List.mem_of_getElem? (i := 498) (by decide +kernel)
theorem kn_501 : Cond.methodLinkNest RX0 22 yX3_floorOf "Bestratios" ∈ tables_1 := List.mem_of_getElem? (i := 501) (by decide +kernel)
theorem kn_529 : Cond.methodLinkNest RX0 35 yX3_cutNumber "Bestratios" ∈ tables_1 := List.mem_of_getElem? (i := 529) (by decide +kernel)
theorem kn_567 : Cond.methodLinkNest RX2 32 yX3_floorOf "Bestratios" ∈ tables_1 := List.mem_of_getElem? (i := 567) (by decide +kernel)
theorem kn_930 : Cond.methodLinkNest RX0 49 yX3_powerToLimit "Bestratios" ∈ tables_1 := List.mem_of_getElem? (i := 930) (by decide +kernel)
theorem kw_1 : Cond.initialized RX3 ∈ GW := gw_t 1 (by decide +kernel) rfl
theorem kw_2 : Cond.initialized RX0 ∈ GW := gw_t 2 (by decide +kernel) rfl
theorem kw_3 : Cond.initialized RX2 ∈ GW := gw_t 3 (by decide +kernel) rfl
theorem kw_9 : Cond.initialized RJ9 ∈ GW := gw_t 9 (by decide +kernel) rfl
theorem kw_17 : Cond.initialized RJ13 ∈ GW := gw_t 17 (by decide +kernel) rfl
theorem kw_50 : Cond.fieldLink RX0 9 "Bestratios$Fraction" "top" "J" ∈ GW := gw_t 50 (by decide +kernel) rfl
theorem kw_53 : Cond.fieldLink RX0 15 "Bestratios$Fraction" "bottom" "J" ∈ GW := gw_t 53 (by decide +kernel) rfl
theorem kw_67 : Cond.fieldLink RX2 9 "Bestratios$Terms" "values" "[J" ∈ GW := gw_t 67 (by decide +kernel) rfl
theorem kw_68 : Cond.fieldLink RX2 15 "Bestratios$Terms" "count" "I" ∈ GW := gw_t 68 (by decide +kernel) rfl
theorem kw_278 : Cond.instanceMethod yX2_at ∈ GW := gw_t 278 (by decide +kernel) rfl
theorem kw_279 : Cond.selects RX2 yX2_at yX2_at ∈ GW := gw_t 279 (by decide +kernel) rfl
theorem kw_280 : Cond.code yX2_at cX2_at 2 (some .long) ∈ GW := gw_t 280 (by decide +kernel) rfl
theorem kw_495 : Cond.instanceMethod yX0_become ∈ GW := gw_t 495 (by decide +kernel) rfl
theorem kw_496 : Cond.selects RX0 yX0_become yX0_become ∈ GW := gw_t 496 (by decide +kernel) rfl
theorem kw_497 : Cond.code yX0_become cX0_become 9 none ∈ GW := gw_t 497 (by decide +kernel) rfl
theorem kw_499 : Cond.static yX3_commonDivisor ∈ GW := gw_t 499 (by decide +kernel) rfl
theorem kw_500 : Cond.code yX3_commonDivisor cX3_commonDivisor 11 (some .long) ∈ GW := gw_t 500 (by decide +kernel) rfl
theorem kw_502 : Cond.static yX3_floorOf ∈ GW := gw_t 502 (by decide +kernel) rfl
theorem kw_503 : Cond.code yX3_floorOf cX3_floorOf 4 (some .long) ∈ GW := gw_t 503 (by decide +kernel) rfl
theorem kw_504 : Cond.methodLink RX3 355 yJ9_floorDiv_f86c9 ∈ GW := gw_t 504 (by decide +kernel) rfl
theorem kw_505 : Cond.static yJ9_floorDiv_f86c9 ∈ GW := gw_t 505 (by decide +kernel) rfl
theorem kw_506 : Cond.code yJ9_floorDiv_f86c9 cJ9_floorDiv_f86c9 6 (some .long) ∈ GW := gw_t 506 (by decide +kernel) rfl
theorem kw_530 : Cond.static yX3_cutNumber ∈ GW := gw_t 530 (by decide +kernel) rfl
theorem kw_531 : Cond.code yX3_cutNumber cX3_cutNumber 12 (some .long) ∈ GW := gw_t 531 (by decide +kernel) rfl
theorem kw_532 : Cond.methodLink RX3 73 yX3_powerOfTen ∈ GW := gw_t 532 (by decide +kernel) rfl
theorem kw_533 : Cond.static yX3_powerOfTen ∈ GW := gw_t 533 (by decide +kernel) rfl
theorem kw_534 : Cond.code yX3_powerOfTen cX3_powerOfTen 1 (some .long) ∈ GW := gw_t 534 (by decide +kernel) rfl
theorem kw_535 : Cond.fieldLink RX3 360 "Bestratios" "POWERS_OF_TEN" "[J" ∈ GW := gw_t 535 (by decide +kernel) rfl
theorem kw_537 : Cond.methodLink RX3 340 yX3_floorOf ∈ GW := gw_t 537 (by decide +kernel) rfl
theorem kw_538 : Cond.methodLink RX3 366 yX3_isCutUpward ∈ GW := gw_t 538 (by decide +kernel) rfl
theorem kw_539 : Cond.static yX3_isCutUpward ∈ GW := gw_t 539 (by decide +kernel) rfl
theorem kw_540 : Cond.code yX3_isCutUpward cX3_isCutUpward 7 (some .boolean) ∈ GW := gw_t 540 (by decide +kernel) rfl
theorem kw_541 : Cond.constantLong RX3 309 (2) ∈ GW := gw_t 541 (by decide +kernel) rfl
theorem kw_568 : Cond.methodLink RX2 36 yX2_addLast ∈ GW := gw_t 568 (by decide +kernel) rfl
theorem kw_569 : Cond.instanceMethod yX2_addLast ∈ GW := gw_t 569 (by decide +kernel) rfl
theorem kw_570 : Cond.selects RX2 yX2_addLast yX2_addLast ∈ GW := gw_t 570 (by decide +kernel) rfl
theorem kw_571 : Cond.code yX2_addLast cX2_addLast 3 none ∈ GW := gw_t 571 (by decide +kernel) rfl
theorem kw_577 : Cond.methodLink RX2 19 yX2_at ∈ GW := gw_t 577 (by decide +kernel) rfl
theorem kw_578 : Cond.constantLong RX2 40 (4000000000) ∈ GW := gw_t 578 (by decide +kernel) rfl
theorem kw_579 : Cond.methodLink RX2 42 yX0_become ∈ GW := gw_t 579 (by decide +kernel) rfl
theorem kw_592 : Cond.constantLong RX0 53 (2) ∈ GW := gw_t 592 (by decide +kernel) rfl
theorem kw_593 : Cond.methodLink RX0 45 yX0_become ∈ GW := gw_t 593 (by decide +kernel) rfl
theorem kw_598 : Cond.methodLink RX0 29 yJ13_compare_74951 ∈ GW := gw_t 598 (by decide +kernel) rfl
theorem kw_599 : Cond.static yJ13_compare_74951 ∈ GW := gw_t 599 (by decide +kernel) rfl
theorem kw_600 : Cond.code yJ13_compare_74951 cJ13_compare_74951 4 (some .int) ∈ GW := gw_t 600 (by decide +kernel) rfl
theorem kw_605 : Cond.constantLong RX0 39 (-1) ∈ GW := gw_t 605 (by decide +kernel) rfl
theorem kw_639 : Cond.methodLink RX0 55 yX0_floorPart ∈ GW := gw_t 639 (by decide +kernel) rfl
theorem kw_640 : Cond.instanceMethod yX0_floorPart ∈ GW := gw_t 640 (by decide +kernel) rfl
theorem kw_641 : Cond.selects RX0 yX0_floorPart yX0_floorPart ∈ GW := gw_t 641 (by decide +kernel) rfl
theorem kw_642 : Cond.code yX0_floorPart cX0_floorPart 1 (some .long) ∈ GW := gw_t 642 (by decide +kernel) rfl
theorem kw_655 : Cond.methodLink RX0 41 yX0_gather ∈ GW := gw_t 655 (by decide +kernel) rfl
theorem kw_656 : Cond.instanceMethod yX0_gather ∈ GW := gw_t 656 (by decide +kernel) rfl
theorem kw_657 : Cond.selects RX0 yX0_gather yX0_gather ∈ GW := gw_t 657 (by decide +kernel) rfl
theorem kw_658 : Cond.code yX0_gather cX0_gather 12 none ∈ GW := gw_t 658 (by decide +kernel) rfl
theorem kw_838 : Cond.constantLong RX0 25 (-1000000000) ∈ GW := gw_t 838 (by decide +kernel) rfl
theorem kw_839 : Cond.constantLong RX0 27 (1000000000) ∈ GW := gw_t 839 (by decide +kernel) rfl
theorem kw_931 : Cond.static yX3_powerToLimit ∈ GW := gw_t 931 (by decide +kernel) rfl
theorem kw_932 : Cond.code yX3_powerToLimit cX3_powerToLimit 6 (some .long) ∈ GW := gw_t 932 (by decide +kernel) rfl
theorem kw_933 : Cond.constantLong RX3 364 (1000000000) ∈ GW := gw_t 933 (by decide +kernel) rfl
theorem uJ0 {w0 : Cond} : ∀ w ∈ u_ws RJ0 TJ0 4, w ∈ (w0 :: GW) := by
  have h : (u_ws RJ0 TJ0 4).all (fun w => decide (w ∈ tables_1) && goodWord w) = true := by decide +kernel
  intro w hw
  have h1 := List.all_eq_true.mp h w hw
  simp only [Bool.and_eq_true, decide_eq_true_eq] at h1
  exact List.mem_cons_of_mem _ (gw_m (List.mem_append_right _ h1.1) h1.2)
theorem uJ4 {w0 : Cond} : ∀ w ∈ u_ws RJ4 TJ4 4, w ∈ (w0 :: GW) := by
  have h : (u_ws RJ4 TJ4 4).all (fun w => decide (w ∈ tables_1) && goodWord w) = true := by decide +kernel
  intro w hw
  have h1 := List.all_eq_true.mp h w hw
  simp only [Bool.and_eq_true, decide_eq_true_eq] at h1
  exact List.mem_cons_of_mem _ (gw_m (List.mem_append_right _ h1.1) h1.2)
theorem uJ6 {w0 : Cond} : ∀ w ∈ u_ws RJ6 TJ6 1, w ∈ (w0 :: GW) := by
  have h : (u_ws RJ6 TJ6 1).all (fun w => decide (w ∈ tables_1) && goodWord w) = true := by decide +kernel
  intro w hw
  have h1 := List.all_eq_true.mp h w hw
  simp only [Bool.and_eq_true, decide_eq_true_eq] at h1
  exact List.mem_cons_of_mem _ (gw_m (List.mem_append_right _ h1.1) h1.2)
theorem uJ13 {w0 : Cond} : ∀ w ∈ u_ws RJ13 TJ13 1, w ∈ (w0 :: GW) := by
  have h : (u_ws RJ13 TJ13 1).all (fun w => decide (w ∈ tables_1) && goodWord w) = true := by decide +kernel
  intro w hw
  have h1 := List.all_eq_true.mp h w hw
  simp only [Bool.and_eq_true, decide_eq_true_eq] at h1
  exact List.mem_cons_of_mem _ (gw_m (List.mem_append_right _ h1.1) h1.2)
theorem uJx00060 {w0 : Cond} : ∀ w ∈ u_ws RJx00060 TJx00060 6, w ∈ (w0 :: GW) := by
  have h : (u_ws RJx00060 TJx00060 6).all (fun w => decide (w ∈ tables_1) && goodWord w) = true := by decide +kernel
  intro w hw
  have h1 := List.all_eq_true.mp h w hw
  simp only [Bool.and_eq_true, decide_eq_true_eq] at h1
  exact List.mem_cons_of_mem _ (gw_m (List.mem_append_right _ h1.1) h1.2)
theorem uJx7c733 {w0 : Cond} : ∀ w ∈ u_ws RJx7c733 TJx7c733 6, w ∈ (w0 :: GW) := by
  have h : (u_ws RJx7c733 TJx7c733 6).all (fun w => decide (w ∈ tables_1) && goodWord w) = true := by decide +kernel
  intro w hw
  have h1 := List.all_eq_true.mp h w hw
  simp only [Bool.and_eq_true, decide_eq_true_eq] at h1
  exact List.mem_cons_of_mem _ (gw_m (List.mem_append_right _ h1.1) h1.2)
theorem uJx35411 {w0 : Cond} : ∀ w ∈ u_ws RJx35411 TJx35411 4, w ∈ (w0 :: GW) := by
  have h : (u_ws RJx35411 TJx35411 4).all (fun w => decide (w ∈ tables_1) && goodWord w) = true := by decide +kernel
  intro w hw
  have h1 := List.all_eq_true.mp h w hw
  simp only [Bool.and_eq_true, decide_eq_true_eq] at h1
  exact List.mem_cons_of_mem _ (gw_m (List.mem_append_right _ h1.1) h1.2)
theorem uJx4a65c {w0 : Cond} : ∀ w ∈ u_ws RJx4a65c TJx4a65c 3, w ∈ (w0 :: GW) := by
  have h : (u_ws RJx4a65c TJx4a65c 3).all (fun w => decide (w ∈ tables_1) && goodWord w) = true := by decide +kernel
  intro w hw
  have h1 := List.all_eq_true.mp h w hw
  simp only [Bool.and_eq_true, decide_eq_true_eq] at h1
  exact List.mem_cons_of_mem _ (gw_m (List.mem_append_right _ h1.1) h1.2)
theorem uX0 {w0 : Cond} : ∀ w ∈ u_ws RX0 TX0 2, w ∈ (w0 :: GW) := by
  have h : (u_ws RX0 TX0 2).all (fun w => decide (w ∈ tables_1) && goodWord w) = true := by decide +kernel
  intro w hw
  have h1 := List.all_eq_true.mp h w hw
  simp only [Bool.and_eq_true, decide_eq_true_eq] at h1
  exact List.mem_cons_of_mem _ (gw_m (List.mem_append_right _ h1.1) h1.2)
theorem uX1 {w0 : Cond} : ∀ w ∈ u_ws RX1 TX1 8, w ∈ (w0 :: GW) := by
  have h : (u_ws RX1 TX1 8).all (fun w => decide (w ∈ tables_1) && goodWord w) = true := by decide +kernel
  intro w hw
  have h1 := List.all_eq_true.mp h w hw
  simp only [Bool.and_eq_true, decide_eq_true_eq] at h1
  exact List.mem_cons_of_mem _ (gw_m (List.mem_append_right _ h1.1) h1.2)
theorem uX2 {w0 : Cond} : ∀ w ∈ u_ws RX2 TX2 2, w ∈ (w0 :: GW) := by
  have h : (u_ws RX2 TX2 2).all (fun w => decide (w ∈ tables_1) && goodWord w) = true := by decide +kernel
  intro w hw
  have h1 := List.all_eq_true.mp h w hw
  simp only [Bool.and_eq_true, decide_eq_true_eq] at h1
  exact List.mem_cons_of_mem _ (gw_m (List.mem_append_right _ h1.1) h1.2)
theorem uX3 {w0 : Cond} : ∀ w ∈ u_ws RX3 TX3 9, w ∈ (w0 :: GW) := by
  have h : (u_ws RX3 TX3 9).all (fun w => decide (w ∈ tables_1) && goodWord w) = true := by decide +kernel
  intro w hw
  have h1 := List.all_eq_true.mp h w hw
  simp only [Bool.and_eq_true, decide_eq_true_eq] at h1
  exact List.mem_cons_of_mem _ (gw_m (List.mem_append_right _ h1.1) h1.2)
theorem uX4 {w0 : Cond} : ∀ w ∈ u_ws RX4 TX4 2, w ∈ (w0 :: GW) := by
  have h : (u_ws RX4 TX4 2).all (fun w => decide (w ∈ tables_1) && goodWord w) = true := by decide +kernel
  intro w hw
  have h1 := List.all_eq_true.mp h w hw
  simp only [Bool.and_eq_true, decide_eq_true_eq] at h1
  exact List.mem_cons_of_mem _ (gw_m (List.mem_append_right _ h1.1) h1.2)
theorem uX5 {w0 : Cond} : ∀ w ∈ u_ws RX5 TX5 9, w ∈ (w0 :: GW) := by
  have h : (u_ws RX5 TX5 9).all (fun w => decide (w ∈ tables_1) && goodWord w) = true := by decide +kernel
  intro w hw
  have h1 := List.all_eq_true.mp h w hw
  simp only [Bool.and_eq_true, decide_eq_true_eq] at h1
  exact List.mem_cons_of_mem _ (gw_m (List.mem_append_right _ h1.1) h1.2)
