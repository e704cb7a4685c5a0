set_option maxHeartbeats 4000000 in
set_option maxRecDepth 100000 in
/-- Bestratios$Tally.clear()V -/
theorem c_X1_clear (l : Launch) (D : va_G) (tk : Nat → ClassId) (N0 : Nat) (sa : Nat → Nat) {ad : Nat → Nat} (hAD : ADok N0 ad) (sz : Nat) (g : CS)  : Met l yX1_clear (wsy yX1_clear cX1_clear 1 none) ({ frames := 3, cells := 0, slots := 0, locals := 76 } : Room) (cP D tk N0 sa [.ref (ad 21)] sz (fun H => CW D tk ad g H)) (kQv (fun H => CW D tk ad (f_clr g) H) (cwA ad sz)) (0) (0) (cwA ad sz) := by
  refine mStart RX1 rfl (by decide +kernel) (Nat.le_of_ble_eq_true rfl) ?_
  intro p e s m args below meth c E hr hlk hnm hsz hC hF ls hl
  subst hsz
  obtain ⟨hx, hb, -⟩ := id E
  have hA : ∀ q, (cwA ad s.heap.size) q → N0 ≤ q := cwA.ge hAD hC.2.1
  have hn : ∀ q, s.heap.size ≤ q → (cwA ad s.heap.size) q := fun q h => Or.inr h
  have hS : va_S (cwA ad s.heap.size) s.heap s.heap [] := va_S.rf
  have hl : lv_has ls 1 [(0, .ref (ad 21))] := hl
  have hW : CW D tk ad g s.heap := hF
  refine lv_aload_n (pc := 0) hx hb dX1_clear_0 rfl (lv_at hl 0 rfl) ?_
  refine r_get (pc := 1) E hC hW.tal 0 (v := .ref (ad 9)) rfl rfl (by decide) uX1 (List.mem_cons_of_mem _ kw_84) (fun _ h => h) dX1_clear_1 ?_
  refine lv_lconst (pc := 4) (v := 0) hx hb dX1_clear_4 (by decide) ?_
  refine lv_lconst (pc := 5) (v := 1) hx hb dX1_clear_5 (by decide) ?_
  refine k_v (pc := 6) (k_V E hC hS hA hl.1 (c1.recv hC (hW.fr (i := 9) (by decide)) rfl) rfl (c_X0_become l D tk N0 sa hAD s.heap.size g 9 (by decide) 0 1 ) kw_494 kw_495 kw_496 kw_2 kw_497 (n := 2) (by decide +kernel) rfl ⟨⟨rfl, rfl⟩, ⟨by decide, by decide⟩, by decide, by decide⟩ rfl (Nat.le_of_ble_eq_true rfl) hW dX1_clear_6) hS (fun q _ w => cwA.go hS.1 q w) hn (fun H locs hR hz hk hS => ?_)
  have hW := hR
  obtain ⟨g_3, eg_3⟩ : ∃ z, z = f_become g 9 0 1 := ⟨_, rfl⟩
  rw [← eg_3] at hW
  refine lv_aload_n (pc := 9) hx hb dX1_clear_9 rfl (lv_at hl 0 rfl) ?_
  refine r_get (pc := 10) E hC hW.tal 1 (v := .ref (ad 10)) rfl rfl (by decide) uX1 (List.mem_cons_of_mem _ kw_86) (fun _ h => h) dX1_clear_10 ?_
  refine lv_lconst (pc := 13) (v := 0) hx hb dX1_clear_13 (by decide) ?_
  refine lv_lconst (pc := 14) (v := 1) hx hb dX1_clear_14 (by decide) ?_
  refine k_v (pc := 15) (k_V E hC hS hA hl.1 (c1.recv hC (hW.fr (i := 10) (by decide)) rfl) rfl (c_X0_become l D tk N0 sa hAD H.size g_3 10 (by decide) 0 1 ) kw_494 kw_495 kw_496 kw_2 kw_497 (n := 2) (by decide +kernel) rfl ⟨⟨rfl, rfl⟩, ⟨by decide, by decide⟩, by decide, by decide⟩ rfl (Nat.le_of_ble_eq_true rfl) hW dX1_clear_15) hS (fun q _ w => cwA.go hS.1 q w) hn (fun H locs hR hz hk hS => ?_)
  have hW := hR
  obtain ⟨g_6, eg_6⟩ : ∃ z, z = f_become g_3 10 0 1 := ⟨_, rfl⟩
  rw [← eg_6] at hW
  refine lv_aload_n (pc := 18) hx hb dX1_clear_18 rfl (lv_at hl 0 rfl) ?_
  refine r_get (pc := 19) E hC hW.tal 2 (v := .ref (ad 11)) rfl rfl (by decide) uX1 (List.mem_cons_of_mem _ kw_88) (fun _ h => h) dX1_clear_19 ?_
  refine lv_lconst (pc := 22) (v := 0) hx hb dX1_clear_22 (by decide) ?_
  refine lv_lconst (pc := 23) (v := 1) hx hb dX1_clear_23 (by decide) ?_
  refine k_v (pc := 24) (k_V E hC hS hA hl.1 (c1.recv hC (hW.fr (i := 11) (by decide)) rfl) rfl (c_X0_become l D tk N0 sa hAD H.size g_6 11 (by decide) 0 1 ) kw_494 kw_495 kw_496 kw_2 kw_497 (n := 2) (by decide +kernel) rfl ⟨⟨rfl, rfl⟩, ⟨by decide, by decide⟩, by decide, by decide⟩ rfl (Nat.le_of_ble_eq_true rfl) hW dX1_clear_24) hS (fun q _ w => cwA.go hS.1 q w) hn (fun H locs hR hz hk hS => ?_)
  have hW := hR
  obtain ⟨g_9, eg_9⟩ : ∃ z, z = f_become g_6 11 0 1 := ⟨_, rfl⟩
  rw [← eg_9] at hW
  refine lv_aload_n (pc := 27) hx hb dX1_clear_27 rfl (lv_at hl 0 rfl) ?_
  refine lv_iconst (pc := 28) (v := 0) hx hb dX1_clear_28 (by decide) ?_
  refine r_put (pc := 29) E hC hW.tal hS (Or.inl ⟨21, by decide, rfl⟩) 6 tyX1 tyX1_ok nmX1 rfl (by decide) (Nat.le_of_ble_eq_true rfl) uX1 (List.mem_cons_of_mem _ kw_93) (fun _ h => h) rfl rfl rfl dX1_clear_29 (fun H locs h1 ho hz hS => ?_)
  have hW := hW.setY hAD (j := 2) (by decide) (by decide) h1 ho
  obtain ⟨g_10, eg_10⟩ : ∃ z, z = uI g_9 2 0 := ⟨_, rfl⟩
  rw [← eg_10] at hW
  refine lv_aload_n (pc := 32) hx hb dX1_clear_32 rfl (lv_at hl 0 rfl) ?_
  refine lv_iconst (pc := 33) (v := 0) hx hb dX1_clear_33 (by decide) ?_
  refine r_put (pc := 34) E hC hW.tal hS (Or.inl ⟨21, by decide, rfl⟩) 7 tyX1 tyX1_ok nmX1 rfl (by decide) (Nat.le_of_ble_eq_true rfl) uX1 (List.mem_cons_of_mem _ kw_95) (fun _ h => h) rfl rfl rfl dX1_clear_34 (fun H locs h1 ho hz hS => ?_)
  have hW := hW.setY hAD (j := 3) (by decide) (by decide) h1 ho
  obtain ⟨g_11, eg_11⟩ : ∃ z, z = uI g_10 3 0 := ⟨_, rfl⟩
  rw [← eg_11] at hW
  refine r_vret (pc := 37) E hr hlk hS (by decide) (by decide) ?_ dX1_clear_37
  exact hW.to (by subst eg_3 eg_6 eg_9 eg_10 eg_11; first | with_reducible rfl | (simp [f_clr, p_TB, p_TV, p_TC, p_TI, p_BT, p_BV, p_BC, p_BI, p_VT, p_VB, p_VC, p_VI, p_CT, p_CB, p_CV, p_CI, p_IT, p_IB, p_IV, p_IC, p_TT, p_BB, p_CC, p_II]; done))

set_option maxHeartbeats 4000000 in
set_option maxRecDepth 100000 in
/-- Bestratios$Tally.takeIn(LBestratios$Fraction;II)Z -/
theorem c_X1_takeIn (l : Launch) (D : va_G) (tk : Nat → ClassId) (N0 : Nat) (sa : Nat → Nat) {ad : Nat → Nat} (hAD : ADok N0 ad) (sz : Nat) (g : CS) (i : Nat) (hi : i < 15) (np : Int32) (md : Int32) : Met l yX1_takeIn (wsy yX1_takeIn cX1_takeIn 4 (some .boolean)) ({ frames := 5, cells := 0, slots := 0, locals := 129 } : Room) (cP D tk N0 sa [.ref (ad 21), .ref (ad i), .int np, .int md] sz (fun H => CW D tk ad g H)) (kQi (fun r H => r = f_tk2R (f_tk1 g i np md) ∧ CW D tk ad (f_tk2W (f_tk1 g i np md) np) H) (cwA ad sz)) (0) (0) (cwA ad sz) := by
  refine mStart RX1 rfl (by decide +kernel) (Nat.le_of_ble_eq_true rfl) ?_
  intro p e s m args below meth c E hr hlk hnm hsz hC hF ls hl
  subst hsz
  obtain ⟨hx, hb, -⟩ := id E
  have hA : ∀ q, (cwA ad s.heap.size) q → N0 ≤ q := cwA.ge hAD hC.2.1
  have hn : ∀ q, s.heap.size ≤ q → (cwA ad s.heap.size) q := fun q h => Or.inr h
  have hS : va_S (cwA ad s.heap.size) s.heap s.heap [] := va_S.rf
  have hl : lv_has ls 4 [(0, .ref (ad 21)), (1, .ref (ad i)), (2, .int np), (3, .int md)] := hl
  have hW : CW D tk ad g s.heap := hF
  refine lv_aload_n (pc := 0) hx hb dX1_takeIn_0 rfl (lv_at hl 0 rfl) ?_
  refine r_get (pc := 1) E hC hW.tal 3 (v := .ref (ad 12)) rfl rfl (by decide) uX1 (List.mem_cons_of_mem _ kw_90) (fun _ h => h) dX1_takeIn_1 ?_
  refine lv_aload_n (pc := 4) hx hb dX1_takeIn_4 rfl (lv_at hl 0 rfl) ?_
  refine r_get (pc := 5) E hC hW.tal 0 (v := .ref (ad 9)) rfl rfl (by decide) uX1 (List.mem_cons_of_mem _ kw_84) (fun _ h => h) dX1_takeIn_5 ?_
  refine lv_aload_n (pc := 8) hx hb dX1_takeIn_8 rfl (lv_at hl 1 rfl) ?_
  refine k_v (pc := 9) (k_V E hC hS hA hl.1 (c1.recv hC (hW.fr (i := 12) (by decide)) rfl) rfl (c_X0_becomeSum l D tk N0 sa hAD s.heap.size g 12 (by decide) 9 (by decide) i hi ) kw_667 kw_652 kw_653 kw_2 kw_654 (n := 2) (by decide +kernel) rfl ⟨⟨rfl, rfl⟩, ⟨by decide, by decide⟩, by decide, by decide⟩ rfl (Nat.le_of_ble_eq_true rfl) hW dX1_takeIn_9) hS (fun q _ w => cwA.go hS.1 q w) hn (fun H locs hR hz hk hS => ?_)
  have hW := hR
  obtain ⟨g_3, eg_3⟩ : ∃ z, z = f_sum g 12 9 i := ⟨_, rfl⟩
  rw [← eg_3] at hW
  refine lv_aload_n (pc := 12) hx hb dX1_takeIn_12 rfl (lv_at hl 0 rfl) ?_
  refine r_get (pc := 13) E hC hW.tal 4 (v := .ref (ad 13)) rfl rfl (by decide) uX1 (List.mem_cons_of_mem _ kw_91) (fun _ h => h) dX1_takeIn_13 ?_
  refine lv_aload_n (pc := 16) hx hb dX1_takeIn_16 rfl (lv_at hl 0 rfl) ?_
  refine r_get (pc := 17) E hC hW.tal 1 (v := .ref (ad 10)) rfl rfl (by decide) uX1 (List.mem_cons_of_mem _ kw_86) (fun _ h => h) dX1_takeIn_17 ?_
  refine lv_aload_n (pc := 20) hx hb dX1_takeIn_20 rfl (lv_at hl 1 rfl) ?_
  refine lv_iload_n (pc := 21) hx hb dX1_takeIn_21 rfl (lv_at hl 2 rfl) ?_
  refine lv_iload_n (pc := 22) hx hb dX1_takeIn_22 rfl (lv_at hl 3 rfl) ?_
  refine k_l (pc := 23) (k_V E hC hS hA hl.1 (c1.recv hC (hW.fr (i := i) hi) rfl) rfl (c_X0_cutTo l D tk N0 sa hAD H.size g_3 i hi np md ) kw_1148 kw_526 kw_527 kw_2 kw_528 (n := 2) (by decide +kernel) rfl ⟨⟨rfl, rfl⟩, ⟨by decide, by decide⟩, by decide, by decide⟩ rfl (Nat.le_of_ble_eq_true rfl) hW dX1_takeIn_23) hS (fun q z w => absurd w (Nat.not_le.mpr z)) hn (fun r_4 H locs hR hz hk hS => ?_)
  have er_4 := hR
  have hW := hW.new hk
  refine lv_iload_n (pc := 26) hx hb dX1_takeIn_26 rfl (lv_at hl 2 rfl) ?_
  refine k_l (pc := 27) (k_SN "Bestratios" E hC hS hA hl.1 (c_X3_powerOfTen l D tk N0 sa H.size np ) kn_1149 kw_533 kw_1 kw_534 (n := 1) (by decide +kernel) rfl ⟨⟨rfl, rfl⟩, ⟨by decide, by decide⟩, by decide, by decide⟩ rfl (Nat.le_of_ble_eq_true rfl) trivial dX1_takeIn_27) hS (fun q z w => absurd w (Nat.not_le.mpr z)) hn (fun r_6 H locs hR hz hk hS => ?_)
  have er_6 := hR
  have hW := hW.new hk
  refine k_v (pc := 30) (k_V E hC hS hA hl.1 (c1.recv hC (hW.fr (i := 13) (by decide)) rfl) rfl (c_X0_gather l D tk N0 sa hAD H.size g_3 13 (by decide) 10 (by decide) r_4 r_6 ) kw_1150 kw_656 kw_657 kw_2 kw_658 (n := 3) (by decide +kernel) rfl ⟨⟨rfl, rfl⟩, ⟨by decide, by decide⟩, by decide, by decide⟩ rfl (Nat.le_of_ble_eq_true rfl) hW dX1_takeIn_30) hS (fun q _ w => cwA.go hS.1 q w) hn (fun H locs hR hz hk hS => ?_)
  have hW := hR
  obtain ⟨g_10, eg_10⟩ : ∃ z, z = f_gather g_3 13 (tT g_3 10) (tB g_3 10) r_4 r_6 := ⟨_, rfl⟩
  rw [← eg_10] at hW
  refine lv_aload_n (pc := 33) hx hb dX1_takeIn_33 rfl (lv_at hl 0 rfl) ?_
  refine r_get (pc := 34) E hC hW.tal 3 (v := .ref (ad 12)) rfl rfl (by decide) uX1 (List.mem_cons_of_mem _ kw_90) (fun _ h => h) dX1_takeIn_34 ?_
  refine k_i (pc := 37) (k_V E hC hS hA hl.1 (c1.recv hC (hW.fr (i := 12) (by decide)) rfl) rfl (c_X0_isFitting l D tk N0 sa hAD H.size g_10 12 (by decide) ) kw_1151 kw_835 kw_836 kw_2 kw_837 (n := 0) (by decide +kernel) rfl ⟨⟨rfl, rfl⟩, ⟨by decide, by decide⟩, by decide, by decide⟩ rfl (Nat.le_of_ble_eq_true rfl) hW dX1_takeIn_37) hS (fun q z w => absurd w (Nat.not_le.mpr z)) hn (fun r_11 H locs hR hz hk hS => ?_)
  have er_11 := hR
  have hW := hW.new hk
  refine lv_if_eq (pc := 40) (tgt := 53) hx hb dX1_takeIn_40 (by decide) (fun c_13 => ?_) (fun c_13 => ?_)
  · refine lv_iconst (pc := 53) (v := 0) hx hb dX1_takeIn_53 (by decide) ?_
    refine r_zret (pc := 54) E hr hlk hS (by decide) (by decide) rfl ?_ dX1_takeIn_54
    exact ⟨(by subst eg_3 er_4 er_6 eg_10 er_11; first | with_reducible rfl | (simp [f_tk2R, f_tk2W, f_tk1, f_tk3, f_tk4, c_13, p_TB, p_TV, p_TC, p_TI, p_BT, p_BV, p_BC, p_BI, p_VT, p_VB, p_VC, p_VI, p_CT, p_CB, p_CV, p_CI, p_IT, p_IB, p_IV, p_IC, p_TT, p_BB, p_CC, p_II]; done)), hW.to (by subst eg_3 er_4 er_6 eg_10 er_11; first | with_reducible rfl | (simp [f_tk2R, f_tk2W, f_tk1, f_tk3, f_tk4, c_13, p_TB, p_TV, p_TC, p_TI, p_BT, p_BV, p_BC, p_BI, p_VT, p_VB, p_VC, p_VI, p_CT, p_CB, p_CV, p_CI, p_IT, p_IB, p_IV, p_IC, p_TT, p_BB, p_CC, p_II]; done))⟩
  · refine lv_aload_n (pc := 43) hx hb dX1_takeIn_43 rfl (lv_at hl 0 rfl) ?_
    refine r_get (pc := 44) E hC hW.tal 4 (v := .ref (ad 13)) rfl rfl (by decide) uX1 (List.mem_cons_of_mem _ kw_91) (fun _ h => h) dX1_takeIn_44 ?_
    refine k_i (pc := 47) (k_V E hC hS hA hl.1 (c1.recv hC (hW.fr (i := 13) (by decide)) rfl) rfl (c_X0_isFitting l D tk N0 sa hAD H.size g_10 13 (by decide) ) kw_1151 kw_835 kw_836 kw_2 kw_837 (n := 0) (by decide +kernel) rfl ⟨⟨rfl, rfl⟩, ⟨by decide, by decide⟩, by decide, by decide⟩ rfl (Nat.le_of_ble_eq_true rfl) hW dX1_takeIn_47) hS (fun q z w => absurd w (Nat.not_le.mpr z)) hn (fun r_14 H locs hR hz hk hS => ?_)
    have er_14 := hR
    have hW := hW.new hk
    refine lv_if_ne (pc := 50) (tgt := 55) hx hb dX1_takeIn_50 (by decide) (fun c_16 => ?_) (fun c_16 => ?_)
    · refine lv_aload_n (pc := 55) hx hb dX1_takeIn_55 rfl (lv_at hl 0 rfl) ?_
      refine r_get (pc := 56) E hC hW.tal 5 (v := .ref (ad 14)) rfl rfl (by decide) uX1 (List.mem_cons_of_mem _ kw_92) (fun _ h => h) dX1_takeIn_56 ?_
      refine lv_aload_n (pc := 59) hx hb dX1_takeIn_59 rfl (lv_at hl 0 rfl) ?_
      refine r_get (pc := 60) E hC hW.tal 3 (v := .ref (ad 12)) rfl rfl (by decide) uX1 (List.mem_cons_of_mem _ kw_90) (fun _ h => h) dX1_takeIn_60 ?_
      refine lv_aload_n (pc := 63) hx hb dX1_takeIn_63 rfl (lv_at hl 0 rfl) ?_
      refine r_get (pc := 64) E hC hW.tal 4 (v := .ref (ad 13)) rfl rfl (by decide) uX1 (List.mem_cons_of_mem _ kw_91) (fun _ h => h) dX1_takeIn_64 ?_
      refine k_v (pc := 67) (k_V E hC hS hA hl.1 (c1.recv hC (hW.fr (i := 14) (by decide)) rfl) rfl (c_X0_becomeDifference l D tk N0 sa hAD H.size g_10 14 (by decide) 12 (by decide) 13 (by decide) ) kw_1152 kw_660 kw_661 kw_2 kw_662 (n := 2) (by decide +kernel) rfl ⟨⟨rfl, rfl⟩, ⟨by decide, by decide⟩, by decide, by decide⟩ rfl (Nat.le_of_ble_eq_true rfl) hW dX1_takeIn_67) hS (fun q _ w => cwA.go hS.1 q w) hn (fun H locs hR hz hk hS => ?_)
      have hW := hR
      obtain ⟨g_19, eg_19⟩ : ∃ z, z = f_dif g_10 14 12 13 := ⟨_, rfl⟩
      rw [← eg_19] at hW
      refine lv_aload_n (pc := 70) hx hb dX1_takeIn_70 rfl (lv_at hl 0 rfl) ?_
      refine r_get (pc := 71) E hC hW.tal 5 (v := .ref (ad 14)) rfl rfl (by decide) uX1 (List.mem_cons_of_mem _ kw_92) (fun _ h => h) dX1_takeIn_71 ?_
      refine k_i (pc := 74) (k_V E hC hS hA hl.1 (c1.recv hC (hW.fr (i := 14) (by decide)) rfl) rfl (c_X0_isFitting l D tk N0 sa hAD H.size g_19 14 (by decide) ) kw_1151 kw_835 kw_836 kw_2 kw_837 (n := 0) (by decide +kernel) rfl ⟨⟨rfl, rfl⟩, ⟨by decide, by decide⟩, by decide, by decide⟩ rfl (Nat.le_of_ble_eq_true rfl) hW dX1_takeIn_74) hS (fun q z w => absurd w (Nat.not_le.mpr z)) hn (fun r_20 H locs hR hz hk hS => ?_)
      have er_20 := hR
      have hW := hW.new hk
      refine lv_if_ne (pc := 77) (tgt := 82) hx hb dX1_takeIn_77 (by decide) (fun c_22 => ?_) (fun c_22 => ?_)
      · refine lv_aload_n (pc := 82) hx hb dX1_takeIn_82 rfl (lv_at hl 0 rfl) ?_
        refine r_get (pc := 83) E hC hW.tal 0 (v := .ref (ad 9)) rfl rfl (by decide) uX1 (List.mem_cons_of_mem _ kw_84) (fun _ h => h) dX1_takeIn_83 ?_
        refine lv_aload_n (pc := 86) hx hb dX1_takeIn_86 rfl (lv_at hl 0 rfl) ?_
        refine r_get (pc := 87) E hC hW.tal 3 (v := .ref (ad 12)) rfl rfl (by decide) uX1 (List.mem_cons_of_mem _ kw_90) (fun _ h => h) dX1_takeIn_87 ?_
        refine k_v (pc := 90) (k_V E hC hS hA hl.1 (c1.recv hC (hW.fr (i := 9) (by decide)) rfl) rfl (c_X0_assign l D tk N0 sa hAD H.size g_19 9 (by decide) 12 (by decide) ) kw_1153 kw_628 kw_629 kw_2 kw_630 (n := 1) (by decide +kernel) rfl ⟨⟨rfl, rfl⟩, ⟨by decide, by decide⟩, by decide, by decide⟩ rfl (Nat.le_of_ble_eq_true rfl) hW dX1_takeIn_90) hS (fun q _ w => cwA.go hS.1 q w) hn (fun H locs hR hz hk hS => ?_)
        have hW := hR
        obtain ⟨g_25, eg_25⟩ : ∃ z, z = f_assign g_19 9 12 := ⟨_, rfl⟩
        rw [← eg_25] at hW
        refine lv_aload_n (pc := 93) hx hb dX1_takeIn_93 rfl (lv_at hl 0 rfl) ?_
        refine r_get (pc := 94) E hC hW.tal 1 (v := .ref (ad 10)) rfl rfl (by decide) uX1 (List.mem_cons_of_mem _ kw_86) (fun _ h => h) dX1_takeIn_94 ?_
        refine lv_aload_n (pc := 97) hx hb dX1_takeIn_97 rfl (lv_at hl 0 rfl) ?_
        refine r_get (pc := 98) E hC hW.tal 4 (v := .ref (ad 13)) rfl rfl (by decide) uX1 (List.mem_cons_of_mem _ kw_91) (fun _ h => h) dX1_takeIn_98 ?_
        refine k_v (pc := 101) (k_V E hC hS hA hl.1 (c1.recv hC (hW.fr (i := 10) (by decide)) rfl) rfl (c_X0_assign l D tk N0 sa hAD H.size g_25 10 (by decide) 13 (by decide) ) kw_1153 kw_628 kw_629 kw_2 kw_630 (n := 1) (by decide +kernel) rfl ⟨⟨rfl, rfl⟩, ⟨by decide, by decide⟩, by decide, by decide⟩ rfl (Nat.le_of_ble_eq_true rfl) hW dX1_takeIn_101) hS (fun q _ w => cwA.go hS.1 q w) hn (fun H locs hR hz hk hS => ?_)
        have hW := hR
        obtain ⟨g_28, eg_28⟩ : ∃ z, z = f_assign g_25 10 13 := ⟨_, rfl⟩
        rw [← eg_28] at hW
        refine lv_aload_n (pc := 104) hx hb dX1_takeIn_104 rfl (lv_at hl 0 rfl) ?_
        refine r_get (pc := 105) E hC hW.tal 2 (v := .ref (ad 11)) rfl rfl (by decide) uX1 (List.mem_cons_of_mem _ kw_88) (fun _ h => h) dX1_takeIn_105 ?_
        refine lv_aload_n (pc := 108) hx hb dX1_takeIn_108 rfl (lv_at hl 0 rfl) ?_
        refine r_get (pc := 109) E hC hW.tal 5 (v := .ref (ad 14)) rfl rfl (by decide) uX1 (List.mem_cons_of_mem _ kw_92) (fun _ h => h) dX1_takeIn_109 ?_
        refine k_v (pc := 112) (k_V E hC hS hA hl.1 (c1.recv hC (hW.fr (i := 11) (by decide)) rfl) rfl (c_X0_assign l D tk N0 sa hAD H.size g_28 11 (by decide) 14 (by decide) ) kw_1153 kw_628 kw_629 kw_2 kw_630 (n := 1) (by decide +kernel) rfl ⟨⟨rfl, rfl⟩, ⟨by decide, by decide⟩, by decide, by decide⟩ rfl (Nat.le_of_ble_eq_true rfl) hW dX1_takeIn_112) hS (fun q _ w => cwA.go hS.1 q w) hn (fun H locs hR hz hk hS => ?_)
        have hW := hR
        obtain ⟨g_31, eg_31⟩ : ∃ z, z = f_assign g_28 11 14 := ⟨_, rfl⟩
        rw [← eg_31] at hW
        refine lv_aload_n (pc := 115) hx hb dX1_takeIn_115 rfl (lv_at hl 0 rfl) ?_
        refine lv_aload_n (pc := 116) hx hb dX1_takeIn_116 rfl (lv_at hl 0 rfl) ?_
        refine r_get (pc := 117) E hC hW.tal 7 (v := .int (tI g_31 3)) rfl rfl (by decide) uX1 (List.mem_cons_of_mem _ kw_95) (fun _ h => h) dX1_takeIn_117 ?_
        refine lv_iload_n (pc := 120) hx hb dX1_takeIn_120 rfl (lv_at hl 2 rfl) ?_
        refine k_i (pc := 121) (k_S E hC hS hA hl.1 (c_J9_max_7cf53 l D tk N0 sa H.size (tI g_31 3) np ) kw_1154 kw_201 kw_9 kw_202 (n := 2) (by decide +kernel) rfl ⟨⟨rfl, rfl⟩, ⟨by decide, by decide⟩, by decide, by decide⟩ rfl (Nat.le_of_ble_eq_true rfl) trivial dX1_takeIn_121) hS (fun q z w => absurd w (Nat.not_le.mpr z)) hn (fun r_32 H locs hR hz hk hS => ?_)
        have er_32 := hR
        have hW := hW.new hk
        refine r_put (pc := 124) E hC hW.tal hS (Or.inl ⟨21, by decide, rfl⟩) 7 tyX1 tyX1_ok nmX1 rfl (by decide) (Nat.le_of_ble_eq_true rfl) uX1 (List.mem_cons_of_mem _ kw_95) (fun _ h => h) rfl rfl rfl dX1_takeIn_124 (fun H locs h1 ho hz hS => ?_)
        have hW := hW.setY hAD (j := 3) (by decide) (by decide) h1 ho
        obtain ⟨g_34, eg_34⟩ : ∃ z, z = uI g_31 3 r_32 := ⟨_, rfl⟩
        rw [← eg_34] at hW
        refine lv_aload_n (pc := 127) hx hb dX1_takeIn_127 rfl (lv_at hl 0 rfl) ?_
        refine lv_dup (pc := 128) hx hb dX1_takeIn_128 rfl ?_
        refine r_get (pc := 129) E hC hW.tal 6 (v := .int (tI g_34 2)) rfl rfl (by decide) uX1 (List.mem_cons_of_mem _ kw_93) (fun _ h => h) dX1_takeIn_129 ?_
        refine lv_iconst (pc := 132) (v := 1) hx hb dX1_takeIn_132 (by decide) ?_
        refine lv_iadd (pc := 133) hx hb dX1_takeIn_133 ?_
        refine r_put (pc := 134) E hC hW.tal hS (Or.inl ⟨21, by decide, rfl⟩) 6 tyX1 tyX1_ok nmX1 rfl (by decide) (Nat.le_of_ble_eq_true rfl) uX1 (List.mem_cons_of_mem _ kw_93) (fun _ h => h) rfl rfl rfl dX1_takeIn_134 (fun H locs h1 ho hz hS => ?_)
        have hW := hW.setY hAD (j := 2) (by decide) (by decide) h1 ho
        obtain ⟨g_35, eg_35⟩ : ∃ z, z = uI g_34 2 ((tI g_34 2) + 1) := ⟨_, rfl⟩
        rw [← eg_35] at hW
        refine lv_iconst (pc := 137) (v := 1) hx hb dX1_takeIn_137 (by decide) ?_
        refine r_zret (pc := 138) E hr hlk hS (by decide) (by decide) rfl ?_ dX1_takeIn_138
        exact ⟨(by subst eg_3 er_4 er_6 eg_10 er_11 er_14 eg_19 er_20 eg_25 eg_28 eg_31 er_32 eg_34 eg_35; first | with_reducible rfl | (simp [f_tk2R, f_tk2W, f_tk1, f_tk3, f_tk4, c_13, c_16, c_22, p_TB, p_TV, p_TC, p_TI, p_BT, p_BV, p_BC, p_BI, p_VT, p_VB, p_VC, p_VI, p_CT, p_CB, p_CV, p_CI, p_IT, p_IB, p_IV, p_IC, p_TT, p_BB, p_CC, p_II]; done)), hW.to (by subst eg_3 er_4 er_6 eg_10 er_11 er_14 eg_19 er_20 eg_25 eg_28 eg_31 er_32 eg_34 eg_35; first | with_reducible rfl | (simp [f_tk2R, f_tk2W, f_tk1, f_tk3, f_tk4, c_13, c_16, c_22, p_TB, p_TV, p_TC, p_TI, p_BT, p_BV, p_BC, p_BI, p_VT, p_VB, p_VC, p_VI, p_CT, p_CB, p_CV, p_CI, p_IT, p_IB, p_IV, p_IC, p_TT, p_BB, p_CC, p_II]; done))⟩
      · refine lv_iconst (pc := 80) (v := 0) hx hb dX1_takeIn_80 (by decide) ?_
        refine r_zret (pc := 81) E hr hlk hS (by decide) (by decide) rfl ?_ dX1_takeIn_81
        exact ⟨(by subst eg_3 er_4 er_6 eg_10 er_11 er_14 eg_19 er_20; first | with_reducible rfl | (simp [f_tk2R, f_tk2W, f_tk1, f_tk3, f_tk4, c_13, c_16, c_22, p_TB, p_TV, p_TC, p_TI, p_BT, p_BV, p_BC, p_BI, p_VT, p_VB, p_VC, p_VI, p_CT, p_CB, p_CV, p_CI, p_IT, p_IB, p_IV, p_IC, p_TT, p_BB, p_CC, p_II]; done)), hW.to (by subst eg_3 er_4 er_6 eg_10 er_11 er_14 eg_19 er_20; first | with_reducible rfl | (simp [f_tk2R, f_tk2W, f_tk1, f_tk3, f_tk4, c_13, c_16, c_22, p_TB, p_TV, p_TC, p_TI, p_BT, p_BV, p_BC, p_BI, p_VT, p_VB, p_VC, p_VI, p_CT, p_CB, p_CV, p_CI, p_IT, p_IB, p_IV, p_IC, p_TT, p_BB, p_CC, p_II]; done))⟩
    · refine lv_iconst (pc := 53) (v := 0) hx hb dX1_takeIn_53 (by decide) ?_
      refine r_zret (pc := 54) E hr hlk hS (by decide) (by decide) rfl ?_ dX1_takeIn_54
      exact ⟨(by subst eg_3 er_4 er_6 eg_10 er_11 er_14; first | with_reducible rfl | (simp [f_tk2R, f_tk2W, f_tk1, f_tk3, f_tk4, c_13, c_16, p_TB, p_TV, p_TC, p_TI, p_BT, p_BV, p_BC, p_BI, p_VT, p_VB, p_VC, p_VI, p_CT, p_CB, p_CV, p_CI, p_IT, p_IB, p_IV, p_IC, p_TT, p_BB, p_CC, p_II]; done)), hW.to (by subst eg_3 er_4 er_6 eg_10 er_11 er_14; first | with_reducible rfl | (simp [f_tk2R, f_tk2W, f_tk1, f_tk3, f_tk4, c_13, c_16, p_TB, p_TV, p_TC, p_TI, p_BT, p_BV, p_BC, p_BI, p_VT, p_VB, p_VC, p_VI, p_CT, p_CB, p_CV, p_CI, p_IT, p_IB, p_IV, p_IC, p_TT, p_BB, p_CC, p_II]; done))⟩

set_option maxHeartbeats 4000000 in
set_option maxRecDepth 100000 in
/-- Bestratios$Tally.isEven(LBestratios$Fraction;)Z -/
theorem c_X1_isEven (l : Launch) (D : va_G) (tk : Nat → ClassId) (N0 : Nat) (sa : Nat → Nat) {ad : Nat → Nat} (hAD : ADok N0 ad) (sz : Nat) (g : CS) (i : Nat) (hi : i < 15) : Met l yX1_isEven (wsy yX1_isEven cX1_isEven 2 (some .boolean)) ({ frames := 5, cells := 0, slots := 0, locals := 129 } : Room) (cP D tk N0 sa [.ref (ad 21), .ref (ad i)] sz (fun H => CW D tk ad g H)) (kQi (fun r H => r = f_evR g i ∧ CW D tk ad (f_sum g i 10 11) H) (cwA ad sz)) (0) (0) (cwA ad sz) := by
  refine mStart RX1 rfl (by decide +kernel) (Nat.le_of_ble_eq_true rfl) ?_
  intro p e s m args below meth c E hr hlk hnm hsz hC hF ls hl
  subst hsz
  obtain ⟨hx, hb, -⟩ := id E
  have hA : ∀ q, (cwA ad s.heap.size) q → N0 ≤ q := cwA.ge hAD hC.2.1
  have hn : ∀ q, s.heap.size ≤ q → (cwA ad s.heap.size) q := fun q h => Or.inr h
  have hS : va_S (cwA ad s.heap.size) s.heap s.heap [] := va_S.rf
  have hl : lv_has ls 2 [(0, .ref (ad 21)), (1, .ref (ad i))] := hl
  have hW : CW D tk ad g s.heap := hF
  refine lv_aload_n (pc := 0) hx hb dX1_isEven_0 rfl (lv_at hl 1 rfl) ?_
  refine lv_aload_n (pc := 1) hx hb dX1_isEven_1 rfl (lv_at hl 0 rfl) ?_
  refine r_get (pc := 2) E hC hW.tal 1 (v := .ref (ad 10)) rfl rfl (by decide) uX1 (List.mem_cons_of_mem _ kw_86) (fun _ h => h) dX1_isEven_2 ?_
  refine lv_aload_n (pc := 5) hx hb dX1_isEven_5 rfl (lv_at hl 0 rfl) ?_
  refine r_get (pc := 6) E hC hW.tal 2 (v := .ref (ad 11)) rfl rfl (by decide) uX1 (List.mem_cons_of_mem _ kw_88) (fun _ h => h) dX1_isEven_6 ?_
  refine k_v (pc := 9) (k_V E hC hS hA hl.1 (c1.recv hC (hW.fr (i := i) hi) rfl) rfl (c_X0_becomeSum l D tk N0 sa hAD s.heap.size g i hi 10 (by decide) 11 (by decide) ) kw_667 kw_652 kw_653 kw_2 kw_654 (n := 2) (by decide +kernel) rfl ⟨⟨rfl, rfl⟩, ⟨by decide, by decide⟩, by decide, by decide⟩ rfl (Nat.le_of_ble_eq_true rfl) hW dX1_isEven_9) hS (fun q _ w => cwA.go hS.1 q w) hn (fun H locs hR hz hk hS => ?_)
  have hW := hR
  obtain ⟨g_3, eg_3⟩ : ∃ z, z = f_sum g i 10 11 := ⟨_, rfl⟩
  rw [← eg_3] at hW
  refine lv_aload_n (pc := 12) hx hb dX1_isEven_12 rfl (lv_at hl 1 rfl) ?_
  refine lv_aload_n (pc := 13) hx hb dX1_isEven_13 rfl (lv_at hl 0 rfl) ?_
  refine r_get (pc := 14) E hC hW.tal 0 (v := .ref (ad 9)) rfl rfl (by decide) uX1 (List.mem_cons_of_mem _ kw_84) (fun _ h => h) dX1_isEven_14 ?_
  refine k_i (pc := 17) (k_V E hC hS hA hl.1 (c1.recv hC (hW.fr (i := i) hi) rfl) rfl (c_X0_isSameAs l D tk N0 sa hAD H.size g_3 i hi 9 (by decide) ) kw_668 kw_581 kw_582 kw_2 kw_583 (n := 1) (by decide +kernel) rfl ⟨⟨rfl, rfl⟩, ⟨by decide, by decide⟩, by decide, by decide⟩ rfl (Nat.le_of_ble_eq_true rfl) hW dX1_isEven_17) hS (fun q z w => absurd w (Nat.not_le.mpr z)) hn (fun r_4 H locs hR hz hk hS => ?_)
  have er_4 := hR
  have hW := hW.new hk
  refine r_zret (pc := 20) E hr hlk hS (by decide) (by decide) (zb (by subst_vars; exact f_same_b _ _ _ _)) ?_ dX1_isEven_20
  exact ⟨(by subst eg_3 er_4; first | with_reducible rfl | (simp [f_evR, p_TB, p_TV, p_TC, p_TI, p_BT, p_BV, p_BC, p_BI, p_VT, p_VB, p_VC, p_VI, p_CT, p_CB, p_CV, p_CI, p_IT, p_IB, p_IV, p_IC, p_TT, p_BB, p_CC, p_II]; done)), hW.to (by subst eg_3 er_4; first | with_reducible rfl | (simp [f_evR, p_TB, p_TV, p_TC, p_TI, p_BT, p_BV, p_BC, p_BI, p_VT, p_VB, p_VC, p_VI, p_CT, p_CB, p_CV, p_CI, p_IT, p_IB, p_IV, p_IC, p_TT, p_BB, p_CC, p_II]; done))⟩
