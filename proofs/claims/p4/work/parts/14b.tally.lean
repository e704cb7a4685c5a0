set_option maxHeartbeats 4000000 in
set_option maxRecDepth 100000 in
/-- Bestratios$Tally.clear()V -/
theorem c_X1_clear (l : Launch) (D : va_G) (tk : Nat → ClassId) (N0 : Nat) (sa : Nat → Nat) {ad : Nat → Nat} (hAD : ADok N0 ad) (sz : Nat) (g : CS)  : Met l yX1_clear (wsy yX1_clear cX1_clear 1 none) ({ frames := 3, cells := 0, slots := 0, locals := 76 } : Room) (cP D tk N0 sa [.ref (ad 21)] sz (fun H => CW D tk ad g H)) (kQv (fun H => CW D tk ad (f_clr g) H) (cwA ad sz)) (0) (0) (cwA ad sz) := by
  refine mStart RX1 rfl (by decide +kernel) (Nat.le_of_ble_eq_true rfl) ?_
  intro p e s m args below meth c E hr hlk hnm hsz hC hF ls hl
  subst hsz
  obtain ⟨hx, hb, -⟩ := id E
  have hA : ∀ q, (cwA ad s.heap.size) q → N0 ≤ q := cwA.ge hAD hC.2.1
  have hn : ∀ q, s.heap.size ≤ q → (cwA ad s.heap.size) q := fun q h => Or.inr h
  have hS : va_S (cwA ad s.heap.size) s.heap s.heap [] := va_S.rf
  have hl : lv_has ls 1 [(0, .ref (ad 21))] := hl
  have hW : CW D tk ad g s.heap := hF
  refine lv_aload_n (pc := 0) hx hb dX1_clear_0 rfl (lv_at hl 0 rfl) ?_
  refine r_get (pc := 1) E hC hW.tal 0 (v := .ref (ad 9)) rfl rfl (by decide) uX1 (List.mem_cons_of_mem _ kw_84) (fun _ h => h) dX1_clear_1 ?_
  refine lv_lconst (pc := 4) (v := 0) hx hb dX1_clear_4 (by decide) ?_
  refine lv_lconst (pc := 5) (v := 1) hx hb dX1_clear_5 (by decide) ?_
  refine k_v (pc := 6) (k_V E hC hS hA hl.1 (c1.recv hC (hW.fr (i := 9) (by decide)) rfl) rfl (c_X0_become l D tk N0 sa hAD s.heap.size g 9 (by decide) 0 1 ) kw_494 kw_495 kw_496 kw_2 kw_497 (n := 2) (by decide +kernel) rfl ⟨⟨rfl, rfl⟩, ⟨by decide, by decide⟩, by decide, by decide⟩ rfl (Nat.le_of_ble_eq_true rfl) hW dX1_clear_6) hS (fun q _ w => cwA.go hS.1 q w) hn (fun H locs hR hz hk hS => ?_)
  have hW := hR
  obtain ⟨g_3, eg_3⟩ : ∃ z, z = f_become g 9 0 1 := ⟨_, rfl⟩
  rw [← eg_3] at hW
  refine lv_aload_n (pc := 9) hx hb dX1_clear_9 rfl (lv_at hl 0 rfl) ?_
  refine r_get (pc := 10) E hC hW.tal 1 (v := .ref (ad 10)) rfl rfl (by decide) uX1 (List.mem_cons_of_mem _ kw_86) (fun _ h => h) dX1_clear_10 ?_
  refine lv_lconst (pc := 13) (v := 0) hx hb dX1_clear_13 (by decide) ?_
  refine lv_lconst (pc := 14) (v := 1) hx hb dX1_clear_14 (by decide) ?_
  refine k_v (pc := 15) (k_V E hC hS hA hl.1 (c1.recv hC (hW.fr (i := 10) (by decide)) rfl) rfl (c_X0_become l D tk N0 sa hAD H.size g_3 10 (by decide) 0 1 ) kw_494 kw_495 kw_496 kw_2 kw_497 (n := 2) (by decide +kernel) rfl ⟨⟨rfl, rfl⟩, ⟨by decide, by decide⟩, by decide, by decide⟩ rfl (Nat.le_of_ble_eq_true rfl) hW dX1_clear_15) hS (fun q _ w => cwA.go hS.1 q w) hn (fun H locs hR hz hk hS => ?_)
  have hW := hR
  obtain ⟨g_6, eg_6⟩ : ∃ z, z = f_become g_3 10 0 1 := ⟨_, rfl⟩
  rw [← eg_6] at hW
  refine lv_aload_n (pc := 18) hx hb dX1_clear_18 rfl (lv_at hl 0 rfl) ?_
  refine r_get (pc := 19) E hC hW.tal 2 (v := .ref (ad 11)) rfl rfl (by decide) uX1 (List.mem_cons_of_mem _ kw_88) (fun _ h => h) dX1_clear_19 ?_
  refine lv_lconst (pc := 22) (v := 0) hx hb dX1_clear_22 (by decide) ?_
  refine lv_lconst (pc := 23) (v := 1) hx hb dX1_clear_23 (by decide) ?_
  refine k_v (pc := 24) (k_V E hC hS hA hl.1 (c1.recv hC (hW.fr (i := 11) (by decide)) rfl) rfl (c_X0_become l D tk N0 sa hAD H.size g_6 11 (by decide) 0 1 ) kw_494 kw_495 kw_496 kw_2 kw_497 (n := 2) (by decide +kernel) rfl ⟨⟨rfl, rfl⟩, ⟨by decide, by decide⟩, by decide, by decide⟩ rfl (Nat.le_of_ble_eq_true rfl) hW dX1_clear_24) hS (fun q _ w => cwA.go hS.1 q w) hn (fun H locs hR hz hk hS => ?_)
  have hW := hR
  obtain ⟨g_9, eg_9⟩ : ∃ z, z = f_become g_6 11 0 1 := ⟨_, rfl⟩
  rw [← eg_9] at hW
  refine lv_aload_n (pc := 27) hx hb dX1_clear_27 rfl (lv_at hl 0 rfl) ?_
  refine lv_iconst (pc := 28) (v := 0) hx hb dX1_clear_28 (by decide) ?_
  refine r_put (pc := 29) E hC hW.tal hS (Or.inl ⟨21, by decide, rfl⟩) 6 tyX1 tyX1_ok nmX1 rfl (by decide) (Nat.le_of_ble_eq_true rfl) uX1 (List.mem_cons_of_mem _ kw_93) (fun _ h => h) rfl rfl rfl dX1_clear_29 (fun H locs h1 ho hz hS => ?_)
  have hW := hW.setY hAD (j := 2) (by decide) (by decide) h1 ho
  obtain ⟨g_10, eg_10⟩ : ∃ z, z = uI g_9 2 0 := ⟨_, rfl⟩
  rw [← eg_10] at hW
  refine lv_aload_n (pc := 32) hx hb dX1_clear_32 rfl (lv_at hl 0 rfl) ?_
  refine lv_iconst (pc := 33) (v := 0) hx hb dX1_clear_33 (by decide) ?_
  refine r_put (pc := 34) E hC hW.tal hS (Or.inl ⟨21, by decide, rfl⟩) 7 tyX1 tyX1_ok nmX1 rfl (by decide) (Nat.le_of_ble_eq_true rfl) uX1 (List.mem_cons_of_mem _ kw_95) (fun _ h => h) rfl rfl rfl dX1_clear_34 (fun H locs h1 ho hz hS => ?_)
  have hW := hW.setY hAD (j := 3) (by decide) (by decide) h1 ho
  obtain ⟨g_11, eg_11⟩ : ∃ z, z = uI g_10 3 0 := ⟨_, rfl⟩
  rw [← eg_11] at hW
  refine r_vret (pc := 37) E hr hlk hS (by decide) (by decide) ?_ dX1_clear_37
  exact hW.to (by subst eg_3 eg_6 eg_9 eg_10 eg_11; first | with_reducible rfl | (simp [f_clr, p_TB, p_TV, p_TC, p_TI, p_BT, p_BV, p_BC, p_BI, p_VT, p_VB, p_VC, p_VI, p_CT, p_CB, p_CV, p_CI, p_IT, p_IB, p_IV, p_IC, p_TT, p_BB, p_CC, p_II]; done))

set_option maxHeartbeats 4000000 in
set_option maxRecDepth 100000 in
/-- Bestratios$Tally.takeIn(LBestratios$Fraction;II)Z -/
theorem c_X1_takeIn (l : Launch) (D : va_G) (tk : Nat → ClassId) (N0 : Nat) (sa : Nat → Nat) {ad : Nat → Nat} (hAD : ADok N0 ad) (sz : Nat) (g : CS) (i : Nat) (hi : i < 15) (np : Int32) (md : Int32) : Met l yX1_takeIn (wsy yX1_takeIn cX1_takeIn 4 (some .boolean)) ({ frames := 5, cells := 0, slots := 0, locals := 129 } : Room) (cP D tk N0 sa [.ref (ad 21), .ref (ad i), .int np, .int md] sz (fun H => CW D tk ad g H)) (kQi (fun r H => r = f_tk2R (f_tk1 g i np md) ∧ CW D tk ad (f_tk2W (f_tk1 g i np md) np) H) (cwA ad sz)) (0) (0) (cwA ad sz) := by
  refine mStart RX1 rfl (by decide +kernel) (Nat.le_of_ble_eq_true rfl) ?_
  intro p e s m args below meth c E hr hlk hnm hsz hC hF ls hl
  subst hsz
  obtain ⟨hx, hb, -⟩ := id E
  have hA : ∀ q, (cwA ad s.heap.size) q → N0 ≤ q := cwA.ge hAD hC.2.1
  have hn : ∀ q, s.heap.size ≤ q → (cwA ad s.heap.size) q := fun q h => Or.inr h
  have hS : va_S (cwA ad s.heap.size) s.heap s.heap [] := va_S.rf
  have hl : lv_has ls 4 [(0, .ref (ad 21)), (1, .ref (ad i)), (2, .int np), (3, .int md)] := hl
  have hW : CW D tk ad g s.heap := hF
  refine lv_aload_n (pc := 0) hx hb dX1_takeIn_0 rfl (lv_at hl 0 rfl) ?_
  refine r_get (pc := 1) E hC hW.tal 3 (v := .ref (ad 12)) rfl rfl (by decide) uX1 (List.mem_cons_of_mem _ kw_90) (fun _ h => h) dX1_takeIn_1 ?_
  refine lv_aload_n (pc := 4) hx hb dX1_takeIn_4 rfl (lv_at hl 0 rfl) ?_
  refine r_get (pc := 5) E hC hW.tal 0 (v := .ref (ad 9)) rfl rfl (by decide) uX1 (List.mem_cons_of_mem _ kw_84) (fun _ h => h) dX1_takeIn_5 ?_
  refine lv_aload_n (pc := 8) hx hb dX1_takeIn_8 rfl (lv_at hl 1 rfl) ?_
  refine k_v (pc := 9) (k_V E hC hS hA hl.1 (c1.recv hC (hW.fr (i := 12) (by decide)) rfl) rfl (c_X0_becomeSum l D tk N0 sa hAD s.heap.size g 12 (by decide) 9 (by decide) i hi ) kw_667 kw_652 kw_653 kw_2 kw_654 (n := 2) (by decide +kernel) rfl ⟨⟨rfl, rfl⟩, ⟨by decide, by decide⟩, by decide, by decide⟩ rfl (Nat.le_of_ble_eq_true rfl) hW dX1_takeIn_9) hS (fun q _ w => cwA.go hS.1 q w) hn (fun H locs hR hz hk hS => ?_)
  have hW := hR
  obtain ⟨g_3, eg_3⟩ : ∃ z, z = f_sum g 12 9 i := ⟨_, rfl⟩
  rw [← eg_3] at hW
  refine lv_aload_n (pc := 12) hx hb dX1_takeIn_12 rfl (lv_at hl 0 rfl) ?_
  refine r_get (pc := 13) E hC hW.tal 4 (v := .ref (ad 13)) rfl rfl (by decide) uX1 (List.mem_cons_of_mem _ kw_91) (fun _ h => h) dX1_takeIn_13 ?_
  refine lv_aload_n (pc := 16) hx hb dX1_takeIn_16 rfl (lv_at hl 0 rfl) ?_
  refine r_get (pc := 17) E hC hW.tal 1 (v := .ref (ad 10)) rfl rfl (by decide) uX1 (List.mem_cons_of_mem _ kw_86) (fun _ h => h) dX1_takeIn_17 ?_
  refine lv_aload_n (pc := 20) hx hb dX1_takeIn_20 rfl (lv_at hl 1 rfl) ?_
  refine lv_iload_n (pc := 21) hx hb dX1_takeIn_21 rfl (lv_at hl 2 rfl) ?_
  refine lv_iload_n (pc := 22) hx hb dX1_takeIn_22 rfl (lv_at hl 3 rfl) ?_
  refine k_l (pc := 23) (k_V E hC hS hA hl.1 (c1.recv hC (hW.fr (i := i) hi) rfl) rfl (c_X0_cutTo l D tk N0 sa hAD H.size g_3 i hi np md ) kw_1148 kw_526 kw_527 kw_2 kw_528 (n := 2) (by decide +kernel) rfl ⟨⟨rfl, rfl⟩, ⟨by decide, by decide⟩, by decide, by decide⟩ rfl (Nat.le_of_ble_eq_true rfl) hW dX1_takeIn_23) hS (fun q z w => absurd w (Nat.not_le.mpr z)) hn (fun r_4 H locs hR hz hk hS => ?_)
  have er_4 := hR
  have hW := hW.new hk
  refine lv_iload_n (pc := 26) hx hb dX1_takeIn_26 rfl (lv_at hl 2 rfl) ?_
  refine k_l (pc := 27) (k_SN "Bestratios" E hC hS hA hl.1 (c_X3_powerOfTen l D tk N0 sa H.size np ) kn_1149 kw_533 kw_1 kw_534 (n := 1) (by decide +kernel) rfl ⟨⟨rfl, rfl⟩, ⟨by decide, by decide⟩, by decide, by decide⟩ rfl (Nat.le_of_ble_eq_true rfl) trivial dX1_takeIn_27) hS (fun q z w => absurd w (Nat.not_le.mpr z)) hn (fun r_6 H locs hR hz hk hS => ?_)
  have er_6 := hR
  have hW := hW.new hk
  refine k_v (pc := 30) (k_V E hC hS hA hl.1 (c1.recv hC (hW.fr (i := 13) (by decide)) rfl) rfl (c_X0_gather l D tk N0 sa hAD H.size g_3 13 (by decide) 10 (by decide) r_4 r_6 ) kw_1150 kw_656 kw_657 kw_2 kw_658 (n := 3) (by decide +kernel) rfl ⟨⟨rfl, rfl⟩, ⟨by decide, by decide⟩, by decide, by decide⟩ rfl (Nat.le_of_ble_eq_true rfl) hW dX1_takeIn_30) hS (fun q _ w => cwA.go hS.1 q w) hn (fun H locs hR hz hk hS => ?_)
  have hW := hR
  obtain ⟨g_10, eg_10⟩ : ∃ z, z = f_gather g_3 13 (tT g_3 10) (tB g_3 10) r_4 r_6 := ⟨_, rfl⟩
  rw [← eg_10] at hW
  refine lv_aload_n (pc := 33) hx hb dX1_takeIn_33 rfl (lv_at hl 0 rfl) ?_
  refine r_get (pc := 34) E hC hW.tal 3 (v := .ref (ad 12)) rfl rfl (by decide) uX1 (List.mem_cons_of_mem _ kw_90) (fun _ h => h) dX1_takeIn_34 ?_
  refine k_i (pc := 37) (k_V E hC hS hA hl.1 (c1.recv hC (hW.fr (i := 12) (by decide)) rfl) rfl (c_X0_isFitting l D tk N0 sa hAD H.size g_10 12 (by decide) ) kw_1151 kw_835 kw_836 kw_2 kw_837 (n := 0) (by decide +kernel) rfl ⟨⟨rfl, rfl⟩, ⟨by decide, by decide⟩, by decide, by decide⟩ rfl (Nat.le_of_ble_eq_true rfl) hW dX1_takeIn_37) hS (fun q z w => absurd w (Nat.not_le.mpr z)) hn (fun r_11 H locs hR hz hk hS => ?_)
  have er_11 := hR
  have hW := hW.new hk
  refine lv_if_eq (pc := 40) (tgt := 53) hx hb dX1_takeIn_40 (by decide) (fun c_13 => ?_) (fun c_13 => ?_)
  · refine lv_iconst (pc := 53) (v := 0) hx hb dX1_takeIn_53 (by decide) ?_
    refine r_zret (pc := 54) E hr hlk hS (by decide) (by decide) rfl ?_ dX1_takeIn_54
    exact ⟨(by subst eg_3 er_4 er_6 eg_10 er_11; first | with_reducible rfl | (simp [f_tk2R, f_tk2W, f_tk1, f_tk3, f_tk4, c_13, p_TB, p_TV, p_TC, p_TI, p_BT, p_BV, p_BC, p_BI, p_VT, p_VB, p_VC, p_VI, p_CT, p_CB, p_CV, p_CI, p_IT, p_IB, p_IV, p_IC, p_TT, p_BB, p_CC, p_II]; done)), hW.to (by subst eg_3 er_4 er_6 eg_10 er_11; first | with_reducible rfl | (simp [f_tk2R, f_tk2W, f_tk1, f_tk3, f_tk4, c_13, p_TB, p_TV, p_TC, p_TI, p_BT, p_BV, p_BC, p_BI, p_VT, p_VB, p_VC, p_VI, p_CT, p_CB, p_CV, p_CI, p_IT, p_IB, p_IV, p_IC, p_TT, p_BB, p_CC, p_II]; done))⟩
  · refine lv_aload_n (pc := 43) hx hb dX1_takeIn_43 rfl (lv_at hl 0 rfl) ?_
    refine r_get (pc := 44) E hC hW.tal 4 (v := .ref (ad 13)) rfl rfl (by decide) uX1 (List.mem_cons_of_mem _ kw_91) (fun _ h => h) dX1_takeIn_44 ?_
    refine k_i (pc := 47) (k_V E hC hS hA hl.1 (c1.recv hC (hW.fr (i := 13) (by decide)) rfl) rfl (c_X0_isFitting l D tk N0 sa hAD H.size g_10 13 (by decide) ) kw_1151 kw_835 kw_836 kw_2 kw_837 (n := 0) (by decide +kernel) rfl ⟨⟨rfl, rfl⟩, ⟨by decide, by decide⟩, by decide, by decide⟩ rfl (Nat.le_of_ble_eq_true rfl) hW dX1_takeIn_47) hS (fun q z w => absurd w (Nat.not_le.mpr z)) hn (fun r_14 H locs hR hz hk hS => ?_)
    have er_14 := hR
    have hW := hW.new hk
    refine lv_if_ne (pc := 50) (tgt := 55) hx hb dX1_takeIn_50 (by decide) (fun c_16 => ?_) (fun c_16 => ?_)
    · refine lv_aload_n (pc := 55) hx hb dX1_takeIn_55 rfl (lv_at hl 0 rfl) ?_
      refine r_get (pc := 56) E hC hW.tal 5 (v := .ref (ad 14)) rfl rfl (by decide) uX1 (List.mem_cons_of_mem _ kw_92) (fun _ h => h) dX1_takeIn_56 ?_
      refine lv_aload_n (pc := 59) hx hb dX1_takeIn_59 rfl (lv_at hl 0 rfl) ?_
      refine r_get (pc := 60) E hC hW.tal 3 (v := .ref (ad 12)) rfl rfl (by decide) uX1 (List.mem_cons_of_mem _ kw_90) (fun _ h => h) dX1_takeIn_60 ?_
      refine lv_aload_n (pc := 63) hx hb dX1_takeIn_63 rfl (lv_at hl 0 rfl) ?_
      refine r_get (pc := 64) E hC hW.tal 4 (v := .ref (ad 13)) rfl rfl (by decide) uX1 (List.mem_cons_of_mem _ kw_91) (fun _ h => h) dX1_takeIn_64 ?_
      refine k_v (pc := 67) (k_V E hC hS hA hl.1 (c1.recv hC (hW.fr (i := 14) (by decide)) rfl) rfl (c_X0_becomeDifference l D tk N0 sa hAD H.size g_10 14 (by decide) 12 (by decide) 13 (by decide) ) kw_1152 kw_660 kw_661 kw_2 kw_662 (n := 2) (by decide +kernel) rfl ⟨⟨rfl, rfl⟩, ⟨by decide, by decide⟩, by decide, by decide⟩ rfl (Nat.le_of_ble_eq_true rfl) hW dX1_takeIn_67) hS (fun q _ w => cwA.go hS.1 q w) hn (fun H locs hR hz hk hS => ?_)
      have hW := hR
      obtain ⟨g_19, eg_19⟩ : ∃ z, z = f_dif g_10 14 12 13 := ⟨_, rfl⟩
      rw [← eg_19] at hW
      refine lv_aload_n (pc := 70) hx hb dX1_takeIn_70 rfl (lv_at hl 0 rfl) ?_
      refine r_get (pc := 71) E hC hW.tal 5 (v := .ref (ad 14)) rfl rfl (by decide) uX1 (List.mem_cons_of_mem _ kw_92) (fun _ h => h) dX1_takeIn_71 ?_
      refine k_i (pc := 74) (k_V E hC hS hA hl.1 (c1.recv hC (hW.fr (i := 14) (by decide)) rfl) rfl (c_X0_isFitting l D tk N0 sa hAD H.size g_19 14 (by decide) ) kw_1151 kw_835 kw_836 kw_2 kw_837 (n := 0) (by decide +kernel) rfl ⟨⟨rfl, rfl⟩, ⟨by decide, by decide⟩, by decide, by decide⟩ rfl (Nat.le_of_ble_eq_true rfl) hW dX1_takeIn_74) hS (fun q z w => absurd w (Nat.not_le.mpr z)) hn (fun r_20 H locs hR hz hk hS => ?_)
      have er_20 := hR
      have hW := hW.new hk
      refine lv_if_ne (pc := 77) (tgt := 82) hx hb dX1_takeIn_77 (by decide) (fun c_22 => ?_) (fun c_22 => ?_)
      · refine lv_aload_n (pc := 82) hx hb dX1_takeIn_82 rfl (lv_at hl 0 rfl) ?_
        refine r_get (pc := 83) E hC hW.tal 0 (v := .ref (ad 9)) rfl rfl (by decide) uX1 (List.mem_cons_of_mem _ kw_84) (fun _ h => h) dX1_takeIn_83 ?_
        refine lv_aload_n (pc := 86) hx hb dX1_takeIn_86 rfl (lv_at hl 0 rfl) ?_
        refine r_get (pc := 87) E hC hW.tal 3 (v := .ref (ad 12)) rfl rfl (by decide) uX1 (List.mem_cons_of_mem _ kw_90) (fun _ h => h) dX1_takeIn_87 ?_
        refine k_v (pc := 90) (k_V E hC hS hA hl.1 (c1.recv hC (hW.fr (i := 9) (by decide)) rfl) rfl (c_X0_assign l D tk N0 sa hAD H.size g_19 9 (by decide) 12 (by decide) ) kw_1153 kw_628 kw_629 kw_2 kw_630 (n := 1) (by decide +kernel) rfl ⟨⟨rfl, rfl⟩, ⟨by decide, by decide⟩, by decide, by decide⟩ rfl (Nat.le_of_ble_eq_true rfl) hW dX1_takeIn_90) hS (fun q _ w => cwA.go hS.1 q w) hn (fun H locs hR hz hk hS => ?_)
        have hW := hR
        obtain ⟨g_25, eg_25⟩ : ∃ z, z = f_assign g_19 9 12 := ⟨_, rfl⟩
        rw [← eg_25] at hW
        refine lv_aload_n (pc := 93) hx hb dX1_takeIn_93 rfl (lv_at hl 0 rfl) ?_
        refine r_get (pc := 94) E hC hW.tal 1 (v := .ref (ad 10)) rfl rfl (by decide) uX1 (List.mem_cons_of_mem _ kw_86) (fun _ h => h) dX1_takeIn_94 ?_
        refine lv_aload_n (pc := 97) hx hb dX1_takeIn_97 rfl (lv_at hl 0 rfl) ?_
        refine r_get (pc := 98) E hC hW.tal 4 (v := .ref (ad 13)) rfl rfl (by decide) uX1 (List.mem_cons_of_mem _ kw_91) (fun _ h => h) dX1_takeIn_98 ?_
        refine k_v (pc := 101) (k_V E hC hS hA hl.1 (c1.recv hC (hW.fr (i := 10) (by decide)) rfl) rfl (c_X0_assign l D tk N0 sa hAD H.size g_25 10 (by decide) 13 (by decide) ) kw_1153 kw_628 kw_629 kw_2 kw_630 (n := 1) (by decide +kernel) rfl ⟨⟨rfl, rfl⟩, ⟨by decide, by decide⟩, by decide, by decide⟩ rfl (Nat.le_of_ble_eq_true rfl) hW dX1_takeIn_101) hS (fun q _ w => cwA.go hS.1 q w) hn (fun H locs hR hz hk hS => ?_)
        have hW := hR
        obtain ⟨g_28, eg_28⟩ : ∃ z, z = f_assign g_25 10 13 := ⟨_, rfl⟩
        rw [← eg_28] at hW
        refine lv_aload_n (pc := 104) hx hb dX1_takeIn_104 rfl (lv_at hl 0 rfl) ?_
        refine r_get (pc := 105) E hC hW.tal 2 (v := .ref (ad 11)) rfl rfl (by decide) uX1 (List.mem_cons_of_mem _ kw_88) (fun _ h => h) dX1_takeIn_105 ?_
        refine lv_aload_n (pc := 108) hx hb dX1_takeIn_108 rfl (lv_at hl 0 rfl) ?_
        refine r_get (pc := 109) E hC hW.tal 5 (v := .ref (ad 14)) rfl rfl (by decide) uX1 (List.mem_cons_of_mem _ kw_92) (fun _ h => h) dX1_takeIn_109 ?_
        refine k_v (pc := 112) (k_V E hC hS hA hl.1 (c1.recv hC (hW.fr (i := 11) (by decide)) rfl) rfl (c_X0_assign l D tk N0 sa hAD H.size g_28 11 (by decide) 14 (by decide) ) kw_1153 kw_628 kw_629 kw_2 kw_630 (n := 1) (by decide +kernel) rfl ⟨⟨rfl, rfl⟩, ⟨by decide, by decide⟩, by decide, by decide⟩ rfl (Nat.le_of_ble_eq_true rfl) hW dX1_takeIn_112) hS (fun q _ w => cwA.go hS.1 q w) hn (fun H locs hR hz hk hS => ?_)
        have hW := hR
        obtain ⟨g_31, eg_31⟩ : ∃ z, z = f_assign g_28 11 14 := ⟨_, rfl⟩
        rw [← eg_31] at hW
        refine lv_aload_n (pc := 115) hx hb dX1_takeIn_115 rfl (lv_at hl 0 rfl) ?_
        refine lv_aload_n (pc := 116) hx hb dX1_takeIn_116 rfl (lv_at hl 0 rfl) ?_
        refine r_get (pc := 117) E hC hW.tal 7 (v := .int (tI g_31 3)) rfl rfl (by decide) uX1 (List.mem_cons_of_mem _ kw_95) (fun _ h => h) dX1_takeIn_117 ?_
        refine lv_iload_n (pc := 120) hx hb dX1_takeIn_120 rfl (lv_at hl 2 rfl) ?_
        refine k_i (pc := 121) (k_S E hC hS hA hl.1 (c_J9_max_7cf53 l D tk N0 sa H.size (tI g_31 3) np ) kw_1154 kw_201 kw_9 kw_202 (n := 2) (by decide +kernel) rfl ⟨⟨rfl, rfl⟩, ⟨by decide, by decide⟩, by decide, by decide⟩ rfl (Nat.le_of_ble_eq_true rfl) trivial dX1_takeIn_121) hS (fun q z w => absurd w (Nat.not_le.mpr z)) hn (fun r_32 H locs hR hz hk hS => ?_)
        have er_32 := hR
        have hW := hW.new hk
        refine r_put (pc := 124) E hC hW.tal hS (Or.inl ⟨21, by decide, rfl⟩) 7 tyX1 tyX1_ok nmX1 rfl (by decide) (Nat.le_of_ble_eq_true rfl) uX1 (List.mem_cons_of_mem _ kw_95) (fun _ h => h) rfl rfl rfl dX1_takeIn_124 (fun H locs h1 ho hz hS => ?_)
        have hW := hW.setY hAD (j := 3) (by decide) (by decide) h1 ho
        obtain ⟨g_34, eg_34⟩ : ∃ z, z = uI g_31 3 r_32 := ⟨_, rfl⟩
        rw [← eg_34] at hW
        refine lv_aload_n (pc := 127) hx hb dX1_takeIn_127 rfl (lv_at hl 0 rfl) ?_
        refine lv_dup (pc := 128) hx hb dX1_takeIn_128 rfl ?_
        refine r_get (pc := 129) E hC hW.tal 6 (v := .int (tI g_34 2)) rfl rfl (by decide) uX1 (List.mem_cons_of_mem _ kw_93) (fun _ h => h) dX1_takeIn_129 ?_
        refine lv_iconst (pc := 132) (v := 1) hx hb dX1_takeIn_132 (by decide) ?_
        refine lv_iadd (pc := 133) hx hb dX1_takeIn_133 ?_
        refine r_put (pc := 134) E hC hW.tal hS (Or.inl ⟨21, by decide, rfl⟩) 6 tyX1 tyX1_ok nmX1 rfl (by decide) (Nat.le_of_ble_eq_true rfl) uX1 (List.mem_cons_of_mem _ kw_93) (fun _ h => h) rfl rfl rfl dX1_takeIn_134 (fun H locs h1 ho hz hS => ?_)
        have hW := hW.setY hAD (j := 2) (by decide) (by decide) h1 ho
        obtain ⟨g_35, eg_35⟩ : ∃ z, z = uI g_34 2 ((tI g_34 2) + 1) := ⟨_, rfl⟩
        rw [← eg_35] at hW
        refine lv_iconst (pc := 137) (v := 1) hx hb dX1_takeIn_137 (by decide) ?_
        refine r_zret (pc := 138) E hr hlk hS (by decide) (by decide) rfl ?_ dX1_takeIn_138
        exact ⟨(by subst eg_3 er_4 er_6 eg_10 er_11 er_14 eg_19 er_20 eg_25 eg_28 eg_31 er_32 eg_34 eg_35; first | with_reducible rfl | (simp [f_tk2R, f_tk2W, f_tk1, f_tk3, f_tk4, c_13, c_16, c_22, p_TB, p_TV, p_TC, p_TI, p_BT, p_BV, p_BC, p_BI, p_VT, p_VB, p_VC, p_VI, p_CT, p_CB, p_CV, p_CI, p_IT, p_IB, p_IV, p_IC, p_TT, p_BB, p_CC, p_II]; done)), hW.to (by subst eg_3 er_4 er_6 eg_10 er_11 er_14 eg_19 er_20 eg_25 eg_28 eg_31 er_32 eg_34 eg_35; first | with_reducible rfl | (simp [f_tk2R, f_tk2W, f_tk1, f_tk3, f_tk4, c_13, c_16, c_22, p_TB, p_TV, p_TC, p_TI, p_BT, p_BV, p_BC, p_BI, p_VT, p_VB, p_VC, p_VI, p_CT, p_CB, p_CV, p_CI, p_IT, p_IB, p_IV, p_IC, p_TT, p_BB, p_CC, p_II]; done))⟩
      · refine lv_iconst (pc := 80) (v := 0) hx hb dX1_takeIn_80 (by decide) ?_
        refine r_zret (pc := 81) E hr hlk hS (by decide) (by decide) rfl ?_ dX1_takeIn_81
        exact ⟨(by subst eg_3 er_4 er_6 eg_10 er_11 er_14 eg_19 er_20; first | with_reducible rfl | (simp [f_tk2R, f_tk2W, f_tk1, f_tk3, f_tk4, c_13, c_16, c_22, p_TB, p_TV, p_TC, p_TI, p_BT, p_BV, p_BC, p_BI, p_VT, p_VB, p_VC, p_VI, p_CT, p_CB, p_CV, p_CI, p_IT, p_IB, p_IV, p_IC, p_TT, p_BB, p_CC, p_II]; done)), hW.to (by subst eg_3 er_4 er_6 eg_10 er_11 er_14 eg_19 er_20; first | with_reducible rfl | (simp [f_tk2R, f_tk2W, f_tk1, f_tk3, f_tk4, c_13, c_16, c_22, p_TB, p_TV, p_TC, p_TI, p_BT, p_BV, p_BC, p_BI, p_VT, p_VB, p_VC, p_VI, p_CT, p_CB, p_CV, p_CI, p_IT, p_IB, p_IV, p_IC, p_TT, p_BB, p_CC, p_II]; done))⟩
    · refine lv_iconst (pc := 53) (v := 0) hx hb dX1_takeIn_53 (by decide) ?_
      refine r_zret (pc := 54) E hr hlk hS (by decide) (by decide) rfl ?_ dX1_takeIn_54
      exact ⟨(by subst eg_3 er_4 er_6 eg_10 er_11 er_14; first | with_reducible rfl | (simp [f_tk2R, f_tk2W, f_tk1, f_tk3, f_tk4, c_13, c_16, p_TB, p_TV, p_TC, p_TI, p_BT, p_BV, p_BC, p_BI, p_VT, p_VB, p_VC, p_VI, p_CT, p_CB, p_CV, p_CI, p_IT, p_IB, p_IV, p_IC, p_TT, p_BB, p_CC, p_II]; done)), hW.to (by subst eg_3 er_4 er_6 eg_10 er_11 er_14; first | with_reducible rfl | (simp [f_tk2R, f_tk2W, f_tk1, f_tk3, f_tk4, c_13, c_16, p_TB, p_TV, p_TC, p_TI, p_BT, p_BV, p_BC, p_BI, p_VT, p_VB, p_VC, p_VI, p_CT, p_CB, p_CV, p_CI, p_IT, p_IB, p_IV, p_IC, p_TT, p_BB, p_CC, p_II]; done))⟩

set_option maxHeartbeats 4000000 in
set_option maxRecDepth 100000 in
/-- Bestratios$Tally.isEven(LBestratios$Fraction;)Z -/
theorem c_X1_isEven (l : Launch) (D : va_G) (tk : Nat → ClassId) (N0 : Nat) (sa : Nat → Nat) {ad : Nat → Nat} (hAD : ADok N0 ad) (sz : Nat) (g : CS) (i : Nat) (hi : i < 15) : Met l yX1_isEven (wsy yX1_isEven cX1_isEven 2 (some .boolean)) ({ frames := 5, cells := 0, slots := 0, locals := 129 } : Room) (cP D tk N0 sa [.ref (ad 21), .ref (ad i)] sz (fun H => CW D tk ad g H)) (kQi (fun r H => r = f_evR g i ∧ CW D tk ad (f_sum g i 10 11) H) (cwA ad sz)) (0) (0) (cwA ad sz) := by
  refine mStart RX1 rfl (by decide +kernel) (Nat.le_of_ble_eq_true rfl) ?_
  intro p e s m args below meth c E hr hlk hnm hsz hC hF ls hl
  subst hsz
  obtain ⟨hx, hb, -⟩ := id E
  have hA : ∀ q, (cwA ad s.heap.size) q → N0 ≤ q := cwA.ge hAD hC.2.1
  have hn : ∀ q, s.heap.size ≤ q → (cwA ad s.heap.size) q := fun q h => Or.inr h
  have hS : va_S (cwA ad s.heap.size) s.heap s.heap [] := va_S.rf
  have hl : lv_has ls 2 [(0, .ref (ad 21)), (1, .ref (ad i))] := hl
  have hW : CW D tk ad g s.heap := hF
  refine lv_aload_n (pc := 0) hx hb dX1_isEven_0 rfl (lv_at hl 1 rfl) ?_
  refine lv_aload_n (pc := 1) hx hb dX1_isEven_1 rfl (lv_at hl 0 rfl) ?_
  refine r_get (pc := 2) E hC hW.tal 1 (v := .ref (ad 10)) rfl rfl (by decide) uX1 (List.mem_cons_of_mem _ kw_86) (fun _ h => h) dX1_isEven_2 ?_
  refine lv_aload_n (pc := 5) hx hb dX1_isEven_5 rfl (lv_at hl 0 rfl) ?_
  refine r_get (pc := 6) E hC hW.tal 2 (v := .ref (ad 11)) rfl rfl (by decide) uX1 (List.mem_cons_of_mem _ kw_88) (fun _ h => h) dX1_isEven_6 ?_
  refine k_v (pc := 9) (k_V E hC hS hA hl.1 (c1.recv hC (hW.fr (i := i) hi) rfl) rfl (c_X0_becomeSum l D tk N0 sa hAD s.heap.size g i hi 10 (by decide) 11 (by decide) ) kw_667 kw_652 kw_653 kw_2 kw_654 (n := 2) (by decide +kernel) rfl ⟨⟨rfl, rfl⟩, ⟨by decide, by decide⟩, by decide, by decide⟩ rfl (Nat.le_of_ble_eq_true rfl) hW dX1_isEven_9) hS (fun q _ w => cwA.go hS.1 q w) hn (fun H locs hR hz hk hS => ?_)
  have hW := hR
  obtain ⟨g_3, eg_3⟩ : ∃ z, z = f_sum g i 10 11 := ⟨_, rfl⟩
  rw [← eg_3] at hW
  refine lv_aload_n (pc := 12) hx hb dX1_isEven_12 rfl (lv_at hl 1 rfl) ?_
  refine lv_aload_n (pc := 13) hx hb dX1_isEven_13 rfl (lv_at hl 0 rfl) ?_
  refine r_get (pc := 14) E hC hW.tal 0 (v := .ref (ad 9)) rfl rfl (by decide) uX1 (List.mem_cons_of_mem _ kw_84) (fun _ h => h) dX1_isEven_14 ?_
  refine k_i (pc := 17) (k_V E hC hS hA hl.1 (c1.recv hC (hW.fr (i := i) hi) rfl) rfl (c_X0_isSameAs l D tk N0 sa hAD H.size g_3 i hi 9 (by decide) ) kw_668 kw_581 kw_582 kw_2 kw_583 (n := 1) (by decide +kernel) rfl ⟨⟨rfl, rfl⟩, ⟨by decide, by decide⟩, by decide, by decide⟩ rfl (Nat.le_of_ble_eq_true rfl) hW dX1_isEven_17) hS (fun q z w => absurd w (Nat.not_le.mpr z)) hn (fun r_4 H locs hR hz hk hS => ?_)
  have er_4 := hR
  have hW := hW.new hk
  refine r_zret (pc := 20) E hr hlk hS (by decide) (by decide) (zb (by subst_vars; exact f_same_b _ _ _ _)) ?_ dX1_isEven_20
  exact ⟨(by subst eg_3 er_4; first | with_reducible rfl | (simp [f_evR, p_TB, p_TV, p_TC, p_TI, p_BT, p_BV, p_BC, p_BI, p_VT, p_VB, p_VC, p_VI, p_CT, p_CB, p_CV, p_CI, p_IT, p_IB, p_IV, p_IC, p_TT, p_BB, p_CC, p_II]; done)), hW.to (by subst eg_3 er_4; first | with_reducible rfl | (simp [f_evR, p_TB, p_TV, p_TC, p_TI, p_BT, p_BV, p_BC, p_BI, p_VT, p_VB, p_VC, p_VI, p_CT, p_CB, p_CV, p_CI, p_IT, p_IB, p_IV, p_IC, p_TT, p_BB, p_CC, p_II]; done))⟩
set_option maxHeartbeats 4000000 in
set_option maxRecDepth 100000 in
/-- Bestratios.ratioAt(I)LBestratios$Fraction; -/
theorem c_X3_ratioAt (l : Launch) (hlst : l.stackTraces = false) (D : va_G) (tk : Nat → ClassId) (N0 : Nat) (sa : Nat → Nat) {ad : Nat → Nat} (hAD : ADok N0 ad) (sz : Nat) (g : CS) (r_ : Int32) : vx_Met l yX3_ratioAt (wsy yX3_ratioAt cX3_ratioAt 2 (some (.object "Bestratios$Fraction"))) ({ frames := 6, cells := 1, slots := 6, locals := 90 } : Room) (cP D tk N0 sa [.ref (ad 15), .int r_] sz (fun H => CW D tk ad g H)) (kQr (fun r H => bR r_ = 0 ∧ r = ad (nn r_)) (nwA sz)) (kX (fun E => (E = "java/lang/IndexOutOfBoundsException" ∧ bR r_ = 1)) sz) (1) (6) (nwA sz) := by
  refine mStartX RX3 rfl (by decide +kernel) (Nat.le_of_ble_eq_true rfl) ?_
  intro p e s m args below meth c E hr hlk htb hsz hC hF ls hl
  subst hsz
  obtain ⟨hx, hb, -⟩ := id E
  have hA : ∀ q, (nwA s.heap.size) q → N0 ≤ q := fun q h => Nat.le_trans hC.2.1 h
  have hn : ∀ q, s.heap.size ≤ q → (nwA s.heap.size) q := fun q h => h
  have hS : va_S (nwA s.heap.size) s.heap s.heap [] := va_S.rf
  have hU : ∀ q, q < s.heap.size → s.heap[q]? = s.heap[q]? := fun _ _ => rfl
  have hl : lv_has ls 2 [(0, .ref (ad 15)), (1, .int r_)] := hl
  have hW : CW D tk ad g s.heap := hF
  refine lv_iload_n (pc := 0) hx hb dX3_ratioAt_0 rfl (lv_at hl 1 rfl) ?_
  refine lv_if_lt (pc := 1) (tgt := 13) hx hb dX3_ratioAt_1 (by decide) (fun c_1 => ?_) (fun c_1 => ?_)
  · exact r_throwW (pc := 13) 1 hlst E hC hS hA hl.1 hlk htb hU rfl (by decide +kernel) kw_813 kw_14 at_RX3_289 dX3_ratioAt_13 dX3_ratioAt_16 dX3_ratioAt_17 dX3_ratioAt_20 dX3_ratioAt_23 (by decide) (Nat.le_of_ble_eq_true rfl) (by decide) (by decide) (by first | (simp [bR]; done) | (simp_all [bR]; done)) (by decide) (by decide)
  · refine lv_iload_n (pc := 4) hx hb dX3_ratioAt_4 rfl (lv_at hl 1 rfl) ?_
    refine lv_aload_n (pc := 5) hx hb dX3_ratioAt_5 rfl (lv_at hl 0 rfl) ?_
    refine r_get (pc := 6) E hC hW.obj 0 (v := .ref (ad 16)) rfl rfl (by decide) uX3 (List.mem_cons_of_mem _ kw_114) (fun _ h => h) dX3_ratioAt_6 ?_
    refine r_alen (pc := 9) E hC hW.row 2 rfl (v := 6) rfl dX3_ratioAt_9 ?_
    refine lv_icmp_lt (pc := 10) (tgt := 24) hx hb dX3_ratioAt_10 (by decide) (fun c_2 => ?_) (fun c_2 => ?_)
    · refine lv_aload_n (pc := 24) hx hb dX3_ratioAt_24 rfl (lv_at hl 0 rfl) ?_
      refine r_get (pc := 25) E hC hW.obj 0 (v := .ref (ad 16)) rfl rfl (by decide) uX3 (List.mem_cons_of_mem _ kw_114) (fun _ h => h) dX3_ratioAt_25 ?_
      refine lv_iload_n (pc := 28) hx hb dX3_ratioAt_28 rfl (lv_at hl 1 rfl) ?_
      refine r_aald (pc := 29) E hC hW.row (vp_of3 (n := 6) (k := 6) (by decide) (Int32.not_lt.mp (by assumption)) (by assumption)) dX3_ratioAt_29 ?_
      refine vx_ret ?_
      refine r_aret (pc := 30) E hr (Or.inl ⟨_, rfl⟩) hlk hS (by decide) (by decide) ?_ dX3_ratioAt_30
      exact ⟨(by first | assumption | (simp [xo, c_1, Int32.not_lt.mp c_1, c_2, Int32.not_le.mpr c_2, bR]; done)), (by first | with_reducible rfl | (simp [c_1, Int32.not_lt.mp c_1, c_2, Int32.not_le.mpr c_2, p_TB, p_TV, p_TC, p_TI, p_BT, p_BV, p_BC, p_BI, p_VT, p_VB, p_VC, p_VI, p_CT, p_CB, p_CV, p_CI, p_IT, p_IB, p_IV, p_IC, p_TT, p_BB, p_CC, p_II]; done))⟩
    · exact r_throwW (pc := 13) 1 hlst E hC hS hA hl.1 hlk htb hU rfl (by decide +kernel) kw_813 kw_14 at_RX3_289 dX3_ratioAt_13 dX3_ratioAt_16 dX3_ratioAt_17 dX3_ratioAt_20 dX3_ratioAt_23 (by decide) (Nat.le_of_ble_eq_true rfl) (by decide) (by decide) (by first | (simp [bR]; done) | (simp_all [bR]; done)) (by decide) (by decide)
set_option maxHeartbeats 4000000 in
set_option maxRecDepth 100000 in
/-- Bestratios.requireWithin(III)V -/
theorem c_X3_requireWithin (l : Launch) (hlst : l.stackTraces = false) (D : va_G) (tk : Nat → ClassId) (N0 : Nat) (sa : Nat → Nat)  (sz : Nat) (x_ : Int32) (lo : Int32) (hi_ : Int32) : vx_Met l yX3_requireWithin (wsy yX3_requireWithin cX3_requireWithin 3 none) ({ frames := 6, cells := 1, slots := 6, locals := 90 } : Room) (cP D tk N0 sa [.int x_, .int lo, .int hi_] sz (fun H => True)) (kQv (fun H => bW x_ lo hi_ = 0) (nwA sz)) (kX (fun E => (E = "java/lang/IllegalArgumentException" ∧ bW x_ lo hi_ = 1)) sz) (1) (6) (nwA sz) := by
  refine mStartX RX3 rfl (by decide +kernel) (Nat.le_of_ble_eq_true rfl) ?_
  intro p e s m args below meth c E hr hlk htb hsz hC hF ls hl
  subst hsz
  obtain ⟨hx, hb, -⟩ := id E
  have hA : ∀ q, (nwA s.heap.size) q → N0 ≤ q := fun q h => Nat.le_trans hC.2.1 h
  have hn : ∀ q, s.heap.size ≤ q → (nwA s.heap.size) q := fun q h => h
  have hS : va_S (nwA s.heap.size) s.heap s.heap [] := va_S.rf
  have hU : ∀ q, q < s.heap.size → s.heap[q]? = s.heap[q]? := fun _ _ => rfl
  have hl : lv_has ls 3 [(0, .int x_), (1, .int lo), (2, .int hi_)] := hl
  refine lv_iload_n (pc := 0) hx hb dX3_requireWithin_0 rfl (lv_at hl 0 rfl) ?_
  refine lv_iload_n (pc := 1) hx hb dX3_requireWithin_1 rfl (lv_at hl 1 rfl) ?_
  refine lv_icmp_lt (pc := 2) (tgt := 10) hx hb dX3_requireWithin_2 (by decide) (fun c_1 => ?_) (fun c_1 => ?_)
  · exact r_throwW (pc := 10) 3 hlst E hC hS hA hl.1 hlk htb hU rfl (by decide +kernel) kw_826 kw_15 at_RX3_58 dX3_requireWithin_10 dX3_requireWithin_13 dX3_requireWithin_14 dX3_requireWithin_17 dX3_requireWithin_20 (by decide) (Nat.le_of_ble_eq_true rfl) (by decide) (by decide) (by first | (simp [bW]; done) | (simp_all [bW]; done)) (by decide) (by decide)
  · refine lv_iload_n (pc := 5) hx hb dX3_requireWithin_5 rfl (lv_at hl 0 rfl) ?_
    refine lv_iload_n (pc := 6) hx hb dX3_requireWithin_6 rfl (lv_at hl 2 rfl) ?_
    refine lv_icmp_le (pc := 7) (tgt := 21) hx hb dX3_requireWithin_7 (by decide) (fun c_2 => ?_) (fun c_2 => ?_)
    · refine vx_ret ?_
      refine r_vret (pc := 21) E hr hlk hS (by decide) (by decide) ?_ dX3_requireWithin_21
      exact (by first | assumption | (simp [xo, c_1, Int32.not_lt.mp c_1, c_2, Int32.not_lt.mpr c_2, bW]; done))
    · exact r_throwW (pc := 10) 3 hlst E hC hS hA hl.1 hlk htb hU rfl (by decide +kernel) kw_826 kw_15 at_RX3_58 dX3_requireWithin_10 dX3_requireWithin_13 dX3_requireWithin_14 dX3_requireWithin_17 dX3_requireWithin_20 (by decide) (Nat.le_of_ble_eq_true rfl) (by decide) (by decide) (by first | (simp [bW]; done) | (simp_all [bW]; done)) (by decide) (by decide)
set_option maxHeartbeats 4000000 in
set_option maxRecDepth 100000 in
/-- Bestratios.requireNotBelow0(I)V -/
theorem c_X3_requireNotBelow0 (l : Launch) (hlst : l.stackTraces = false) (D : va_G) (tk : Nat → ClassId) (N0 : Nat) (sa : Nat → Nat)  (sz : Nat) (x_ : Int32) : vx_Met l yX3_requireNotBelow0 (wsy yX3_requireNotBelow0 cX3_requireNotBelow0 1 none) ({ frames := 6, cells := 1, slots := 6, locals := 90 } : Room) (cP D tk N0 sa [.int x_] sz (fun H => True)) (kQv (fun H => bN x_ = 0) (nwA sz)) (kX (fun E => (E = "java/lang/IllegalArgumentException" ∧ bN x_ = 1)) sz) (1) (6) (nwA sz) := by
  refine mStartX RX3 rfl (by decide +kernel) (Nat.le_of_ble_eq_true rfl) ?_
  intro p e s m args below meth c E hr hlk htb hsz hC hF ls hl
  subst hsz
  obtain ⟨hx, hb, -⟩ := id E
  have hA : ∀ q, (nwA s.heap.size) q → N0 ≤ q := fun q h => Nat.le_trans hC.2.1 h
  have hn : ∀ q, s.heap.size ≤ q → (nwA s.heap.size) q := fun q h => h
  have hS : va_S (nwA s.heap.size) s.heap s.heap [] := va_S.rf
  have hU : ∀ q, q < s.heap.size → s.heap[q]? = s.heap[q]? := fun _ _ => rfl
  have hl : lv_has ls 1 [(0, .int x_)] := hl
  refine lv_iload_n (pc := 0) hx hb dX3_requireNotBelow0_0 rfl (lv_at hl 0 rfl) ?_
  refine lv_if_ge (pc := 1) (tgt := 15) hx hb dX3_requireNotBelow0_1 (by decide) (fun c_1 => ?_) (fun c_1 => ?_)
  · refine vx_ret ?_
    refine r_vret (pc := 15) E hr hlk hS (by decide) (by decide) ?_ dX3_requireNotBelow0_15
    exact (by first | assumption | (simp [xo, c_1, Int32.not_lt.mpr c_1, bN]; done))
  · exact r_throwW (pc := 4) 4 hlst E hC hS hA hl.1 hlk htb hU rfl (by decide +kernel) kw_826 kw_15 at_RX3_58 dX3_requireNotBelow0_4 dX3_requireNotBelow0_7 dX3_requireNotBelow0_8 dX3_requireNotBelow0_11 dX3_requireNotBelow0_14 (by decide) (Nat.le_of_ble_eq_true rfl) (by decide) (by decide) (by first | (simp [bN]; done) | (simp_all [bN]; done)) (by decide) (by decide)
set_option maxHeartbeats 4000000 in
set_option maxRecDepth 100000 in
/-- Bestratios.refuse()I -/
theorem c_X3_refuse (l : Launch) (D : va_G) (tk : Nat → ClassId) (N0 : Nat) (sa : Nat → Nat) {ad : Nat → Nat} (hAD : ADok N0 ad) (sz : Nat) (g : CS)  : Met l yX3_refuse (wsy yX3_refuse cX3_refuse 1 (some .int)) ({ frames := 0, cells := 0, slots := 0, locals := 0 } : Room) (cP D tk N0 sa [.ref (ad 15)] sz (fun H => CW D tk ad g H)) (kQi (fun r H => r = -9 ∧ CW D tk ad (f_refW g) H) (cwA ad sz)) (0) (0) (cwA ad sz) := by
  refine mStart RX3 rfl (by decide +kernel) (Nat.le_of_ble_eq_true rfl) ?_
  intro p e s m args below meth c E hr hlk hnm hsz hC hF ls hl
  subst hsz
  obtain ⟨hx, hb, -⟩ := id E
  have hA : ∀ q, (cwA ad s.heap.size) q → N0 ≤ q := cwA.ge hAD hC.2.1
  have hn : ∀ q, s.heap.size ≤ q → (cwA ad s.heap.size) q := fun q h => Or.inr h
  have hS : va_S (cwA ad s.heap.size) s.heap s.heap [] := va_S.rf
  have hl : lv_has ls 1 [(0, .ref (ad 15))] := hl
  have hW : CW D tk ad g s.heap := hF
  refine lv_aload_n (pc := 0) hx hb dX3_refuse_0 rfl (lv_at hl 0 rfl) ?_
  refine lv_dup (pc := 1) hx hb dX3_refuse_1 rfl ?_
  refine r_get (pc := 2) E hC hW.obj 3 (v := .int (tI g 0)) rfl rfl (by decide) uX3 (List.mem_cons_of_mem _ kw_117) (fun _ h => h) dX3_refuse_2 ?_
  refine lv_iconst (pc := 5) (v := 1) hx hb dX3_refuse_5 (by decide) ?_
  refine lv_iadd (pc := 6) hx hb dX3_refuse_6 ?_
  refine r_put (pc := 7) E hC hW.obj hS (Or.inl ⟨15, by decide, rfl⟩) 3 tyX3 tyX3_ok nmX3 rfl (by decide) (Nat.le_of_ble_eq_true rfl) uX3 (List.mem_cons_of_mem _ kw_117) (fun _ h => h) rfl rfl rfl dX3_refuse_7 (fun H locs h1 ho hz hS => ?_)
  have hW := hW.setO hAD (j := 0) (by decide) h1 ho
  obtain ⟨g_1, eg_1⟩ : ∃ z, z = uI g 0 ((tI g 0) + 1) := ⟨_, rfl⟩
  rw [← eg_1] at hW
  refine lv_bipush (pc := 10) (v := (-9)) hx hb dX3_refuse_10 (by decide) ?_
  refine r_iret (pc := 12) E hr hlk hS (by decide) (by decide) ?_ dX3_refuse_12
  exact ⟨(by subst eg_1; first | with_reducible rfl | (simp [f_refW, p_TB, p_TV, p_TC, p_TI, p_BT, p_BV, p_BC, p_BI, p_VT, p_VB, p_VC, p_VI, p_CT, p_CB, p_CV, p_CI, p_IT, p_IB, p_IV, p_IC, p_TT, p_BB, p_CC, p_II]; done)), hW.to (by subst eg_1; first | with_reducible rfl | (simp [f_refW, p_TB, p_TV, p_TC, p_TI, p_BT, p_BV, p_BC, p_BI, p_VT, p_VB, p_VC, p_VI, p_CT, p_CB, p_CV, p_CI, p_IT, p_IB, p_IV, p_IC, p_TT, p_BB, p_CC, p_II]; done))⟩
set_option maxHeartbeats 4000000 in
set_option maxRecDepth 100000 in
/-- Bestratios.settle(LBestratios$Fraction;)I -/
theorem c_X3_settle (l : Launch) (D : va_G) (tk : Nat → ClassId) (N0 : Nat) (sa : Nat → Nat) {ad : Nat → Nat} (hAD : ADok N0 ad) (sz : Nat) (g : CS) (i : Nat) (hi : i < 15) : Met l yX3_settle (wsy yX3_settle cX3_settle 2 (some .int)) ({ frames := 1, cells := 0, slots := 0, locals := 21 } : Room) (cP D tk N0 sa [.ref (ad 15), .ref (ad i)] sz (fun H => CW D tk ad g H)) (kQi (fun r H => r = f_setR g i ∧ CW D tk ad (f_setW g i) H) (cwA ad sz)) (0) (0) (cwA ad sz) := by
  refine mStart RX3 rfl (by decide +kernel) (Nat.le_of_ble_eq_true rfl) ?_
  intro p e s m args below meth c E hr hlk hnm hsz hC hF ls hl
  subst hsz
  obtain ⟨hx, hb, -⟩ := id E
  have hA : ∀ q, (cwA ad s.heap.size) q → N0 ≤ q := cwA.ge hAD hC.2.1
  have hn : ∀ q, s.heap.size ≤ q → (cwA ad s.heap.size) q := fun q h => Or.inr h
  have hS : va_S (cwA ad s.heap.size) s.heap s.heap [] := va_S.rf
  have hl : lv_has ls 2 [(0, .ref (ad 15)), (1, .ref (ad i))] := hl
  have hW : CW D tk ad g s.heap := hF
  refine lv_aload_n (pc := 0) hx hb dX3_settle_0 rfl (lv_at hl 0 rfl) ?_
  refine r_get (pc := 1) E hC hW.obj 5 (v := .ref (ad 6)) rfl rfl (by decide) uX3 (List.mem_cons_of_mem _ kw_119) (fun _ h => h) dX3_settle_1 ?_
  refine k_i (pc := 4) (k_V E hC hS hA hl.1 (c1.recv hC (hW.fr (i := 6) (by decide)) rfl) rfl (c_X0_isFitting l D tk N0 sa hAD s.heap.size g 6 (by decide) ) kw_834 kw_835 kw_836 kw_2 kw_837 (n := 0) (by decide +kernel) rfl ⟨⟨rfl, rfl⟩, ⟨by decide, by decide⟩, by decide, by decide⟩ rfl (Nat.le_of_ble_eq_true rfl) hW dX3_settle_4) hS (fun q z w => absurd w (Nat.not_le.mpr z)) hn (fun r_1 H locs hR hz hk hS => ?_)
  have er_1 := hR
  have hW := hW.new hk
  refine lv_if_ne (pc := 7) (tgt := 15) hx hb dX3_settle_7 (by decide) (fun c_3 => ?_) (fun c_3 => ?_)
  · refine lv_aload_n (pc := 15) hx hb dX3_settle_15 rfl (lv_at hl 0 rfl) ?_
    refine r_get (pc := 16) E hC hW.obj 5 (v := .ref (ad 6)) rfl rfl (by decide) uX3 (List.mem_cons_of_mem _ kw_119) (fun _ h => h) dX3_settle_16 ?_
    refine lv_aload_n (pc := 19) hx hb dX3_settle_19 rfl (lv_at hl 1 rfl) ?_
    refine k_i (pc := 20) (k_V E hC hS hA hl.1 (c1.recv hC (hW.fr (i := 6) (by decide)) rfl) rfl (c_X0_isSameAs l D tk N0 sa hAD H.size g 6 (by decide) i hi ) kw_580 kw_581 kw_582 kw_2 kw_583 (n := 1) (by decide +kernel) rfl ⟨⟨rfl, rfl⟩, ⟨by decide, by decide⟩, by decide, by decide⟩ rfl (Nat.le_of_ble_eq_true rfl) hW dX3_settle_20) hS (fun q z w => absurd w (Nat.not_le.mpr z)) hn (fun r_4 H locs hR hz hk hS => ?_)
    have er_4 := hR
    have hW := hW.new hk
    refine lv_if_eq (pc := 23) (tgt := 28) hx hb dX3_settle_23 (by decide) (fun c_6 => ?_) (fun c_6 => ?_)
    · refine lv_aload_n (pc := 28) hx hb dX3_settle_28 rfl (lv_at hl 1 rfl) ?_
      refine lv_aload_n (pc := 29) hx hb dX3_settle_29 rfl (lv_at hl 0 rfl) ?_
      refine r_get (pc := 30) E hC hW.obj 5 (v := .ref (ad 6)) rfl rfl (by decide) uX3 (List.mem_cons_of_mem _ kw_119) (fun _ h => h) dX3_settle_30 ?_
      refine k_v (pc := 33) (k_V E hC hS hA hl.1 (c1.recv hC (hW.fr (i := i) hi) rfl) rfl (c_X0_assign l D tk N0 sa hAD H.size g i hi 6 (by decide) ) kw_627 kw_628 kw_629 kw_2 kw_630 (n := 1) (by decide +kernel) rfl ⟨⟨rfl, rfl⟩, ⟨by decide, by decide⟩, by decide, by decide⟩ rfl (Nat.le_of_ble_eq_true rfl) hW dX3_settle_33) hS (fun q _ w => cwA.go hS.1 q w) hn (fun H locs hR hz hk hS => ?_)
      have hW := hR
      obtain ⟨g_9, eg_9⟩ : ∃ z, z = f_assign g i 6 := ⟨_, rfl⟩
      rw [← eg_9] at hW
      refine lv_iconst (pc := 36) (v := 1) hx hb dX3_settle_36 (by decide) ?_
      refine r_iret (pc := 37) E hr hlk hS (by decide) (by decide) ?_ dX3_settle_37
      exact ⟨(by subst er_1 er_4 eg_9; first | with_reducible rfl | (simp [f_setR, f_setW, c_3, c_6, p_TB, p_TV, p_TC, p_TI, p_BT, p_BV, p_BC, p_BI, p_VT, p_VB, p_VC, p_VI, p_CT, p_CB, p_CV, p_CI, p_IT, p_IB, p_IV, p_IC, p_TT, p_BB, p_CC, p_II]; done)), hW.to (by subst er_1 er_4 eg_9; first | with_reducible rfl | (simp [f_setR, f_setW, c_3, c_6, p_TB, p_TV, p_TC, p_TI, p_BT, p_BV, p_BC, p_BI, p_VT, p_VB, p_VC, p_VI, p_CT, p_CB, p_CV, p_CI, p_IT, p_IB, p_IV, p_IC, p_TT, p_BB, p_CC, p_II]; done))⟩
    · refine lv_iconst (pc := 26) (v := 0) hx hb dX3_settle_26 (by decide) ?_
      refine r_iret (pc := 27) E hr hlk hS (by decide) (by decide) ?_ dX3_settle_27
      exact ⟨(by subst er_1 er_4; first | with_reducible rfl | (simp [f_setR, f_setW, c_3, c_6, p_TB, p_TV, p_TC, p_TI, p_BT, p_BV, p_BC, p_BI, p_VT, p_VB, p_VC, p_VI, p_CT, p_CB, p_CV, p_CI, p_IT, p_IB, p_IV, p_IC, p_TT, p_BB, p_CC, p_II]; done)), hW.to (by subst er_1 er_4; first | with_reducible rfl | (simp [f_setR, f_setW, c_3, c_6, p_TB, p_TV, p_TC, p_TI, p_BT, p_BV, p_BC, p_BI, p_VT, p_VB, p_VC, p_VI, p_CT, p_CB, p_CV, p_CI, p_IT, p_IB, p_IV, p_IC, p_TT, p_BB, p_CC, p_II]; done))⟩
  · refine lv_aload_n (pc := 10) hx hb dX3_settle_10 rfl (lv_at hl 0 rfl) ?_
    refine k_i (pc := 11) (k_V E hC hS hA hl.1 (c1.recv hC hW.obj rfl) rfl (c_X3_refuse l D tk N0 sa hAD H.size g  ) kw_840 kw_842 kp_17 kw_1 kw_843 (n := 0) (by decide +kernel) rfl ⟨⟨rfl, rfl⟩, ⟨by decide, by decide⟩, by decide, by decide⟩ rfl (Nat.le_of_ble_eq_true rfl) hW dX3_settle_11) hS (fun q _ w => cwA.go hS.1 q w) hn (fun r_10 H locs hR hz hk hS => ?_)
    obtain ⟨er_10, hW⟩ := hR
    obtain ⟨g_12, eg_12⟩ : ∃ z, z = f_refW g := ⟨_, rfl⟩
    rw [← eg_12] at hW
    refine r_iret (pc := 14) E hr hlk hS (by decide) (by decide) ?_ dX3_settle_14
    exact ⟨(by subst er_1 eg_12 er_10; first | with_reducible rfl | (simp [f_setR, f_setW, c_3, p_TB, p_TV, p_TC, p_TI, p_BT, p_BV, p_BC, p_BI, p_VT, p_VB, p_VC, p_VI, p_CT, p_CB, p_CV, p_CI, p_IT, p_IB, p_IV, p_IC, p_TT, p_BB, p_CC, p_II]; done)), hW.to (by subst er_1 eg_12 er_10; first | with_reducible rfl | (simp [f_setR, f_setW, c_3, p_TB, p_TV, p_TC, p_TI, p_BT, p_BV, p_BC, p_BI, p_VT, p_VB, p_VC, p_VI, p_CT, p_CB, p_CV, p_CI, p_IT, p_IB, p_IV, p_IC, p_TT, p_BB, p_CC, p_II]; done))⟩
set_option maxHeartbeats 4000000 in
set_option maxRecDepth 100000 in
/-- Bestratios.put(III)I -/
theorem c_X3_put (l : Launch) (hlst : l.stackTraces = false) (D : va_G) (tk : Nat → ClassId) (N0 : Nat) (sa : Nat → Nat) {ad : Nat → Nat} (hAD : ADok N0 ad) (sz : Nat) (g : CS) (r_ : Int32) (tp : Int32) (bt : Int32) : vx_Met l yX3_put (wsy yX3_put cX3_put 5 (some .int)) ({ frames := 7, cells := 2, slots := 12, locals := 111 } : Room) (cP D tk N0 sa [.ref (ad 15), .int r_, .int tp, .int bt] sz (fun H => CW D tk ad g H)) (kQi (fun r H => xo (bR r_) (if bt = 0 then 2 else 0) = 0 ∧ r = f_setR (f_become g 6 tp.toInt64 bt.toInt64) (nn r_) ∧ CW D tk ad (f_setW (f_become g 6 tp.toInt64 bt.toInt64) (nn r_)) H) (cwA ad sz)) (kX (fun E => (E = "java/lang/IndexOutOfBoundsException" ∧ xo (bR r_) (if bt = 0 then 2 else 0) = 1) ∨ (E = "java/lang/IllegalArgumentException" ∧ xo (bR r_) (if bt = 0 then 2 else 0) = 2)) sz) (2) (12) (cwA ad sz) := by
  refine mStartX RX3 rfl (by decide +kernel) (Nat.le_of_ble_eq_true rfl) ?_
  intro p e s m args below meth c E hr hlk htb hsz hC hF ls hl
  subst hsz
  obtain ⟨hx, hb, -⟩ := id E
  have hA : ∀ q, (cwA ad s.heap.size) q → N0 ≤ q := cwA.ge hAD hC.2.1
  have hn : ∀ q, s.heap.size ≤ q → (cwA ad s.heap.size) q := fun q h => Or.inr h
  have hS : va_S (cwA ad s.heap.size) s.heap s.heap [] := va_S.rf
  have hU : ∀ q, q < s.heap.size → s.heap[q]? = s.heap[q]? := fun _ _ => rfl
  have hl : lv_has ls 5 [(0, .ref (ad 15)), (1, .int r_), (2, .int tp), (3, .int bt)] := hl
  have hW : CW D tk ad g s.heap := hF
  refine lv_aload_n (pc := 0) hx hb dX3_put_0 rfl (lv_at hl 0 rfl) ?_
  refine lv_iload_n (pc := 1) hx hb dX3_put_1 rfl (lv_at hl 1 rfl) ?_
  have hZ := hS.1
  refine kx_r (pc := 2) (kx_V E hC hS hA hl.1 (c1.recv hC hW.obj rfl) rfl (c_X3_ratioAt l hlst D tk N0 sa hAD s.heap.size g r_ ) kw_809 kw_811 kp_15 kw_1 kw_812 (n := 1) (by decide +kernel) rfl ⟨⟨rfl, rfl⟩, ⟨by decide, by decide⟩, by decide, by decide⟩ rfl (Nat.le_of_ble_eq_true rfl) hW dX3_put_2) hS (fun q z w => absurd w (Nat.not_le.mpr z)) hn hlk htb hU (fun E9 h9 => by rcases h9 with ⟨rfl, h9⟩ <;> first | (simp [h9]; done) | (simp [xo, h9]; done)) ⟨by decide, by decide⟩ (fun r_1 H locs hR hz hk hS => ?_)
  have hU := fun q (hq : q < s.heap.size) => (hk q (Nat.lt_of_lt_of_le hq hZ) (Nat.not_le.mpr (Nat.lt_of_lt_of_le hq hZ))).trans (hU q hq)
  obtain ⟨ek_2, er_1⟩ := hR
  have hW := hW.new hk
  have hi_3 : nn r_ < 15 := Nat.lt_of_lt_of_le (bR_lt ek_2) (by decide)
  subst er_1
  refine lv_astore (pc := 5) (lv' := [(4, .ref (ad (nn r_))), (0, .ref (ad 15)), (1, .int r_), (2, .int tp), (3, .int bt)]) hx hb dX3_put_5 hl (by decide) rfl (fun ls hl => ?_)
  refine lv_iload_n (pc := 7) hx hb dX3_put_7 rfl (lv_at hl 4 rfl) ?_
  refine lv_if_ne (pc := 8) (tgt := 21) hx hb dX3_put_8 (by decide) (fun c_4 => ?_) (fun c_4 => ?_)
  · refine lv_aload_n (pc := 21) hx hb dX3_put_21 rfl (lv_at hl 1 rfl) ?_
    refine r_get (pc := 22) E hC hW.obj 5 (v := .ref (ad 6)) rfl rfl (by decide) uX3 (List.mem_cons_of_mem _ kw_119) (fun _ h => h) dX3_put_22 ?_
    refine lv_iload_n (pc := 25) hx hb dX3_put_25 rfl (lv_at hl 3 rfl) ?_
    refine lv_i2l (pc := 26) (v := tp.toInt64) hx hb dX3_put_26 rfl ?_
    refine lv_iload_n (pc := 27) hx hb dX3_put_27 rfl (lv_at hl 4 rfl) ?_
    refine lv_i2l (pc := 28) (v := bt.toInt64) hx hb dX3_put_28 rfl ?_
    refine k_v (pc := 29) (k_V E hC hS hA hl.1 (c1.recv hC (hW.fr (i := 6) (by decide)) rfl) rfl (c_X0_become l D tk N0 sa hAD H.size g 6 (by decide) tp.toInt64 bt.toInt64 ) kw_829 kw_495 kw_496 kw_2 kw_497 (n := 2) (by decide +kernel) rfl ⟨⟨rfl, rfl⟩, ⟨by decide, by decide⟩, by decide, by decide⟩ rfl (Nat.le_of_ble_eq_true rfl) hW dX3_put_29) hS (fun q _ w => cwA.go hS.1 q w) hn (fun H locs hR hz hk hS => ?_)
    have hW := hR
    obtain ⟨g_7, eg_7⟩ : ∃ z, z = f_become g 6 tp.toInt64 bt.toInt64 := ⟨_, rfl⟩
    rw [← eg_7] at hW
    refine lv_aload_n (pc := 32) hx hb dX3_put_32 rfl (lv_at hl 1 rfl) ?_
    refine lv_aload (pc := 33) hx hb dX3_put_33 (lv_at hl 0 rfl) ?_
    refine k_i (pc := 35) (k_V E hC hS hA hl.1 (c1.recv hC hW.obj rfl) rfl (c_X3_settle l D tk N0 sa hAD H.size g_7 ((nn r_)) hi_3 ) kw_830 kw_832 kp_16 kw_1 kw_833 (n := 1) (by decide +kernel) rfl ⟨⟨rfl, rfl⟩, ⟨by decide, by decide⟩, by decide, by decide⟩ rfl (Nat.le_of_ble_eq_true rfl) hW dX3_put_35) hS (fun q _ w => cwA.go hS.1 q w) hn (fun r_8 H locs hR hz hk hS => ?_)
    obtain ⟨er_8, hW⟩ := hR
    obtain ⟨g_10, eg_10⟩ : ∃ z, z = f_setW g_7 ((nn r_)) := ⟨_, rfl⟩
    rw [← eg_10] at hW
    refine vx_ret ?_
    refine r_iret (pc := 38) E hr hlk hS (by decide) (by decide) ?_ dX3_put_38
    exact ⟨(by subst eg_7 eg_10 er_8; first | assumption | (simp [xo, ek_2, c_4]; done)), (by subst eg_7 eg_10 er_8; first | with_reducible rfl | (simp [c_4, p_TB, p_TV, p_TC, p_TI, p_BT, p_BV, p_BC, p_BI, p_VT, p_VB, p_VC, p_VI, p_CT, p_CB, p_CV, p_CI, p_IT, p_IB, p_IV, p_IC, p_TT, p_BB, p_CC, p_II]; done)), hW.to (by subst eg_7 eg_10 er_8; first | with_reducible rfl | (simp [c_4, p_TB, p_TV, p_TC, p_TI, p_BT, p_BV, p_BC, p_BI, p_VT, p_VB, p_VC, p_VI, p_CT, p_CB, p_CV, p_CI, p_IT, p_IB, p_IV, p_IC, p_TT, p_BB, p_CC, p_II]; done))⟩
  · exact r_throwS (pc := 11) 2 hlst E hC hS hA hl.1 hlk htb hU rfl (by decide +kernel) kw_826 kw_15 at_RX3_58 dX3_put_11 dX3_put_14 dX3_put_15 dX3_put_17 dX3_put_20 (by decide) (Nat.le_of_ble_eq_true rfl) (by decide) (by decide) (by simp [xo, ek_2, c_4]) (by decide) (by decide)
set_option maxHeartbeats 4000000 in
set_option maxRecDepth 100000 in
/-- Bestratios.putDecimal(III)I -/
theorem c_X3_putDecimal (l : Launch) (hlst : l.stackTraces = false) (D : va_G) (tk : Nat → ClassId) (N0 : Nat) (sa : Nat → Nat) {ad : Nat → Nat} (hAD : ADok N0 ad) (sz : Nat) (g : CS) (r_ : Int32) (nb : Int32) (pl : Int32) : vx_Met l yX3_putDecimal (wsy yX3_putDecimal cX3_putDecimal 5 (some .int)) ({ frames := 7, cells := 2, slots := 12, locals := 112 } : Room) (cP D tk N0 sa [.ref (ad 15), .int r_, .int nb, .int pl] sz (fun H => CW D tk ad g H)) (kQi (fun r H => xo (bR r_) (2 * bW pl 0 9) = 0 ∧ r = f_setR (f_become g 6 nb.toInt64 (f_p10 pl)) (nn r_) ∧ CW D tk ad (f_setW (f_become g 6 nb.toInt64 (f_p10 pl)) (nn r_)) H) (cwA ad sz)) (kX (fun E => (E = "java/lang/IndexOutOfBoundsException" ∧ xo (bR r_) (2 * bW pl 0 9) = 1) ∨ (E = "java/lang/IllegalArgumentException" ∧ xo (bR r_) (2 * bW pl 0 9) = 2)) sz) (2) (12) (cwA ad sz) := by
  refine mStartX RX3 rfl (by decide +kernel) (Nat.le_of_ble_eq_true rfl) ?_
  intro p e s m args below meth c E hr hlk htb hsz hC hF ls hl
  subst hsz
  obtain ⟨hx, hb, -⟩ := id E
  have hA : ∀ q, (cwA ad s.heap.size) q → N0 ≤ q := cwA.ge hAD hC.2.1
  have hn : ∀ q, s.heap.size ≤ q → (cwA ad s.heap.size) q := fun q h => Or.inr h
  have hS : va_S (cwA ad s.heap.size) s.heap s.heap [] := va_S.rf
  have hU : ∀ q, q < s.heap.size → s.heap[q]? = s.heap[q]? := fun _ _ => rfl
  have hl : lv_has ls 5 [(0, .ref (ad 15)), (1, .int r_), (2, .int nb), (3, .int pl)] := hl
  have hW : CW D tk ad g s.heap := hF
  refine lv_aload_n (pc := 0) hx hb dX3_putDecimal_0 rfl (lv_at hl 0 rfl) ?_
  refine lv_iload_n (pc := 1) hx hb dX3_putDecimal_1 rfl (lv_at hl 1 rfl) ?_
  have hZ := hS.1
  refine kx_r (pc := 2) (kx_V E hC hS hA hl.1 (c1.recv hC hW.obj rfl) rfl (c_X3_ratioAt l hlst D tk N0 sa hAD s.heap.size g r_ ) kw_809 kw_811 kp_15 kw_1 kw_812 (n := 1) (by decide +kernel) rfl ⟨⟨rfl, rfl⟩, ⟨by decide, by decide⟩, by decide, by decide⟩ rfl (Nat.le_of_ble_eq_true rfl) hW dX3_putDecimal_2) hS (fun q z w => absurd w (Nat.not_le.mpr z)) hn hlk htb hU (fun E9 h9 => by rcases h9 with ⟨rfl, h9⟩ <;> first | (simp [h9]; done) | (simp [xo, h9]; done)) ⟨by decide, by decide⟩ (fun r_1 H locs hR hz hk hS => ?_)
  have hU := fun q (hq : q < s.heap.size) => (hk q (Nat.lt_of_lt_of_le hq hZ) (Nat.not_le.mpr (Nat.lt_of_lt_of_le hq hZ))).trans (hU q hq)
  obtain ⟨ek_2, er_1⟩ := hR
  have hW := hW.new hk
  have hi_3 : nn r_ < 15 := Nat.lt_of_lt_of_le (bR_lt ek_2) (by decide)
  subst er_1
  refine lv_astore (pc := 5) (lv' := [(4, .ref (ad (nn r_))), (0, .ref (ad 15)), (1, .int r_), (2, .int nb), (3, .int pl)]) hx hb dX3_putDecimal_5 hl (by decide) rfl (fun ls hl => ?_)
  refine lv_iload_n (pc := 7) hx hb dX3_putDecimal_7 rfl (lv_at hl 4 rfl) ?_
  refine lv_iconst (pc := 8) (v := 0) hx hb dX3_putDecimal_8 (by decide) ?_
  refine lv_bipush (pc := 9) (v := 9) hx hb dX3_putDecimal_9 (by decide) ?_
  have hZ := hS.1
  refine kx_v (pc := 11) (kx_S E hC hS hA hl.1 (c_X3_requireWithin l hlst D tk N0 sa H.size pl 0 9 ) kw_851 kw_852 kw_1 kw_853 (n := 3) (by decide +kernel) rfl ⟨⟨rfl, rfl⟩, ⟨by decide, by decide⟩, by decide, by decide⟩ rfl (Nat.le_of_ble_eq_true rfl) trivial dX3_putDecimal_11) hS (fun q z w => absurd w (Nat.not_le.mpr z)) hn hlk htb hU (fun E9 h9 => by rcases h9 with ⟨rfl, h9⟩ <;> first | (simp [h9]; done) | (simp [xo, h9, ek_2]; done)) ⟨by decide, by decide⟩ (fun H locs hR hz hk hS => ?_)
  have hU := fun q (hq : q < s.heap.size) => (hk q (Nat.lt_of_lt_of_le hq hZ) (Nat.not_le.mpr (Nat.lt_of_lt_of_le hq hZ))).trans (hU q hq)
  have ek_5 := hR
  have hW := hW.new hk
  refine lv_aload_n (pc := 14) hx hb dX3_putDecimal_14 rfl (lv_at hl 1 rfl) ?_
  refine r_get (pc := 15) E hC hW.obj 5 (v := .ref (ad 6)) rfl rfl (by decide) uX3 (List.mem_cons_of_mem _ kw_119) (fun _ h => h) dX3_putDecimal_15 ?_
  refine lv_iload_n (pc := 18) hx hb dX3_putDecimal_18 rfl (lv_at hl 3 rfl) ?_
  refine lv_i2l (pc := 19) (v := nb.toInt64) hx hb dX3_putDecimal_19 rfl ?_
  refine lv_iload_n (pc := 20) hx hb dX3_putDecimal_20 rfl (lv_at hl 4 rfl) ?_
  have hZ := hS.1
  refine k_l (pc := 21) (k_S E hC hS hA hl.1 (c_X3_powerOfTen l D tk N0 sa H.size pl ) kw_532 kw_533 kw_1 kw_534 (n := 1) (by decide +kernel) rfl ⟨⟨rfl, rfl⟩, ⟨by decide, by decide⟩, by decide, by decide⟩ rfl (Nat.le_of_ble_eq_true rfl) trivial dX3_putDecimal_21) hS (fun q z w => absurd w (Nat.not_le.mpr z)) hn (fun r_6 H locs hR hz hk hS => ?_)
  have hU := fun q (hq : q < s.heap.size) => (hk q (Nat.lt_of_lt_of_le hq hZ) (Nat.not_le.mpr (Nat.lt_of_lt_of_le hq hZ))).trans (hU q hq)
  have er_6 := hR
  have hW := hW.new hk
  refine k_v (pc := 24) (k_V E hC hS hA hl.1 (c1.recv hC (hW.fr (i := 6) (by decide)) rfl) rfl (c_X0_become l D tk N0 sa hAD H.size g 6 (by decide) nb.toInt64 r_6 ) kw_829 kw_495 kw_496 kw_2 kw_497 (n := 2) (by decide +kernel) rfl ⟨⟨rfl, rfl⟩, ⟨by decide, by decide⟩, by decide, by decide⟩ rfl (Nat.le_of_ble_eq_true rfl) hW dX3_putDecimal_24) hS (fun q _ w => cwA.go hS.1 q w) hn (fun H locs hR hz hk hS => ?_)
  have hW := hR
  obtain ⟨g_10, eg_10⟩ : ∃ z, z = f_become g 6 nb.toInt64 r_6 := ⟨_, rfl⟩
  rw [← eg_10] at hW
  refine lv_aload_n (pc := 27) hx hb dX3_putDecimal_27 rfl (lv_at hl 1 rfl) ?_
  refine lv_aload (pc := 28) hx hb dX3_putDecimal_28 (lv_at hl 0 rfl) ?_
  refine k_i (pc := 30) (k_V E hC hS hA hl.1 (c1.recv hC hW.obj rfl) rfl (c_X3_settle l D tk N0 sa hAD H.size g_10 ((nn r_)) hi_3 ) kw_830 kw_832 kp_16 kw_1 kw_833 (n := 1) (by decide +kernel) rfl ⟨⟨rfl, rfl⟩, ⟨by decide, by decide⟩, by decide, by decide⟩ rfl (Nat.le_of_ble_eq_true rfl) hW dX3_putDecimal_30) hS (fun q _ w => cwA.go hS.1 q w) hn (fun r_11 H locs hR hz hk hS => ?_)
  obtain ⟨er_11, hW⟩ := hR
  obtain ⟨g_13, eg_13⟩ : ∃ z, z = f_setW g_10 ((nn r_)) := ⟨_, rfl⟩
  rw [← eg_13] at hW
  refine vx_ret ?_
  refine r_iret (pc := 33) E hr hlk hS (by decide) (by decide) ?_ dX3_putDecimal_33
  exact ⟨(by subst er_6 eg_10 eg_13 er_11; first | assumption | (simp [xo, ek_2, ek_5]; done)), (by subst er_6 eg_10 eg_13 er_11; first | with_reducible rfl | (simp [p_TB, p_TV, p_TC, p_TI, p_BT, p_BV, p_BC, p_BI, p_VT, p_VB, p_VC, p_VI, p_CT, p_CB, p_CV, p_CI, p_IT, p_IB, p_IV, p_IC, p_TT, p_BB, p_CC, p_II]; done) | rfl), hW.to (by subst er_6 eg_10 eg_13 er_11; first | with_reducible rfl | (simp [p_TB, p_TV, p_TC, p_TI, p_BT, p_BV, p_BC, p_BI, p_VT, p_VB, p_VC, p_VI, p_CT, p_CB, p_CV, p_CI, p_IT, p_IB, p_IV, p_IC, p_TT, p_BB, p_CC, p_II]; done) | rfl)⟩
set_option maxHeartbeats 4000000 in
set_option maxRecDepth 100000 in
/-- Bestratios.copy(II)I -/
theorem c_X3_copy (l : Launch) (hlst : l.stackTraces = false) (D : va_G) (tk : Nat → ClassId) (N0 : Nat) (sa : Nat → Nat) {ad : Nat → Nat} (hAD : ADok N0 ad) (sz : Nat) (g : CS) (r_ : Int32) (q_ : Int32) : vx_Met l yX3_copy (wsy yX3_copy cX3_copy 4 (some .int)) ({ frames := 7, cells := 2, slots := 12, locals := 111 } : Room) (cP D tk N0 sa [.ref (ad 15), .int r_, .int q_] sz (fun H => CW D tk ad g H)) (kQi (fun r H => xo (bR r_) (bR q_) = 0 ∧ r = f_setR (f_assign g 6 (nn q_)) (nn r_) ∧ CW D tk ad (f_setW (f_assign g 6 (nn q_)) (nn r_)) H) (cwA ad sz)) (kX (fun E => (E = "java/lang/IndexOutOfBoundsException" ∧ xo (bR r_) (bR q_) = 1)) sz) (2) (12) (cwA ad sz) := by
  refine mStartX RX3 rfl (by decide +kernel) (Nat.le_of_ble_eq_true rfl) ?_
  intro p e s m args below meth c E hr hlk htb hsz hC hF ls hl
  subst hsz
  obtain ⟨hx, hb, -⟩ := id E
  have hA : ∀ q, (cwA ad s.heap.size) q → N0 ≤ q := cwA.ge hAD hC.2.1
  have hn : ∀ q, s.heap.size ≤ q → (cwA ad s.heap.size) q := fun q h => Or.inr h
  have hS : va_S (cwA ad s.heap.size) s.heap s.heap [] := va_S.rf
  have hU : ∀ q, q < s.heap.size → s.heap[q]? = s.heap[q]? := fun _ _ => rfl
  have hl : lv_has ls 4 [(0, .ref (ad 15)), (1, .int r_), (2, .int q_)] := hl
  have hW : CW D tk ad g s.heap := hF
  refine lv_aload_n (pc := 0) hx hb dX3_copy_0 rfl (lv_at hl 0 rfl) ?_
  refine lv_iload_n (pc := 1) hx hb dX3_copy_1 rfl (lv_at hl 1 rfl) ?_
  have hZ := hS.1
  refine kx_r (pc := 2) (kx_V E hC hS hA hl.1 (c1.recv hC hW.obj rfl) rfl (c_X3_ratioAt l hlst D tk N0 sa hAD s.heap.size g r_ ) kw_809 kw_811 kp_15 kw_1 kw_812 (n := 1) (by decide +kernel) rfl ⟨⟨rfl, rfl⟩, ⟨by decide, by decide⟩, by decide, by decide⟩ rfl (Nat.le_of_ble_eq_true rfl) hW dX3_copy_2) hS (fun q z w => absurd w (Nat.not_le.mpr z)) hn hlk htb hU (fun E9 h9 => by rcases h9 with ⟨rfl, h9⟩ <;> first | (simp [h9]; done) | (simp [xo, h9]; done)) ⟨by decide, by decide⟩ (fun r_1 H locs hR hz hk hS => ?_)
  have hU := fun q (hq : q < s.heap.size) => (hk q (Nat.lt_of_lt_of_le hq hZ) (Nat.not_le.mpr (Nat.lt_of_lt_of_le hq hZ))).trans (hU q hq)
  obtain ⟨ek_2, er_1⟩ := hR
  have hW := hW.new hk
  have hi_3 : nn r_ < 15 := Nat.lt_of_lt_of_le (bR_lt ek_2) (by decide)
  subst er_1
  refine lv_astore_n (pc := 5) (lv' := [(3, .ref (ad (nn r_))), (0, .ref (ad 15)), (1, .int r_), (2, .int q_)]) hx hb dX3_copy_5 rfl hl (by decide) rfl (fun ls hl => ?_)
  refine lv_aload_n (pc := 6) hx hb dX3_copy_6 rfl (lv_at hl 1 rfl) ?_
  refine r_get (pc := 7) E hC hW.obj 5 (v := .ref (ad 6)) rfl rfl (by decide) uX3 (List.mem_cons_of_mem _ kw_119) (fun _ h => h) dX3_copy_7 ?_
  refine lv_aload_n (pc := 10) hx hb dX3_copy_10 rfl (lv_at hl 1 rfl) ?_
  refine lv_iload_n (pc := 11) hx hb dX3_copy_11 rfl (lv_at hl 3 rfl) ?_
  have hZ := hS.1
  refine kx_r (pc := 12) (kx_V E hC hS hA hl.1 (c1.recv hC hW.obj rfl) rfl (c_X3_ratioAt l hlst D tk N0 sa hAD H.size g q_ ) kw_809 kw_811 kp_15 kw_1 kw_812 (n := 1) (by decide +kernel) rfl ⟨⟨rfl, rfl⟩, ⟨by decide, by decide⟩, by decide, by decide⟩ rfl (Nat.le_of_ble_eq_true rfl) hW dX3_copy_12) hS (fun q z w => absurd w (Nat.not_le.mpr z)) hn hlk htb hU (fun E9 h9 => by rcases h9 with ⟨rfl, h9⟩ <;> first | (simp [h9]; done) | (simp [xo, h9, ek_2]; done)) ⟨by decide, by decide⟩ (fun r_4 H locs hR hz hk hS => ?_)
  have hU := fun q (hq : q < s.heap.size) => (hk q (Nat.lt_of_lt_of_le hq hZ) (Nat.not_le.mpr (Nat.lt_of_lt_of_le hq hZ))).trans (hU q hq)
  obtain ⟨ek_5, er_4⟩ := hR
  have hW := hW.new hk
  have hi_6 : nn q_ < 15 := Nat.lt_of_lt_of_le (bR_lt ek_5) (by decide)
  subst er_4
  refine k_v (pc := 15) (k_V E hC hS hA hl.1 (c1.recv hC (hW.fr (i := 6) (by decide)) rfl) rfl (c_X0_assign l D tk N0 sa hAD H.size g 6 (by decide) ((nn q_)) hi_6 ) kw_627 kw_628 kw_629 kw_2 kw_630 (n := 1) (by decide +kernel) rfl ⟨⟨rfl, rfl⟩, ⟨by decide, by decide⟩, by decide, by decide⟩ rfl (Nat.le_of_ble_eq_true rfl) hW dX3_copy_15) hS (fun q _ w => cwA.go hS.1 q w) hn (fun H locs hR hz hk hS => ?_)
  have hW := hR
  obtain ⟨g_9, eg_9⟩ : ∃ z, z = f_assign g 6 ((nn q_)) := ⟨_, rfl⟩
  rw [← eg_9] at hW
  refine lv_aload_n (pc := 18) hx hb dX3_copy_18 rfl (lv_at hl 1 rfl) ?_
  refine lv_aload_n (pc := 19) hx hb dX3_copy_19 rfl (lv_at hl 0 rfl) ?_
  refine k_i (pc := 20) (k_V E hC hS hA hl.1 (c1.recv hC hW.obj rfl) rfl (c_X3_settle l D tk N0 sa hAD H.size g_9 ((nn r_)) hi_3 ) kw_830 kw_832 kp_16 kw_1 kw_833 (n := 1) (by decide +kernel) rfl ⟨⟨rfl, rfl⟩, ⟨by decide, by decide⟩, by decide, by decide⟩ rfl (Nat.le_of_ble_eq_true rfl) hW dX3_copy_20) hS (fun q _ w => cwA.go hS.1 q w) hn (fun r_10 H locs hR hz hk hS => ?_)
  obtain ⟨er_10, hW⟩ := hR
  obtain ⟨g_12, eg_12⟩ : ∃ z, z = f_setW g_9 ((nn r_)) := ⟨_, rfl⟩
  rw [← eg_12] at hW
  refine vx_ret ?_
  refine r_iret (pc := 23) E hr hlk hS (by decide) (by decide) ?_ dX3_copy_23
  exact ⟨(by subst eg_9 eg_12 er_10; first | assumption | (simp [xo, ek_2, ek_5]; done)), (by subst eg_9 eg_12 er_10; first | with_reducible rfl | (simp [p_TB, p_TV, p_TC, p_TI, p_BT, p_BV, p_BC, p_BI, p_VT, p_VB, p_VC, p_VI, p_CT, p_CB, p_CV, p_CI, p_IT, p_IB, p_IV, p_IC, p_TT, p_BB, p_CC, p_II]; done) | rfl), hW.to (by subst eg_9 eg_12 er_10; first | with_reducible rfl | (simp [p_TB, p_TV, p_TC, p_TI, p_BT, p_BV, p_BC, p_BI, p_VT, p_VB, p_VC, p_VI, p_CT, p_CB, p_CV, p_CI, p_IT, p_IB, p_IV, p_IC, p_TT, p_BB, p_CC, p_II]; done) | rfl)⟩
set_option maxHeartbeats 4000000 in
set_option maxRecDepth 100000 in
/-- Bestratios.swap(II)I -/
theorem c_X3_swap (l : Launch) (hlst : l.stackTraces = false) (D : va_G) (tk : Nat → ClassId) (N0 : Nat) (sa : Nat → Nat) {ad : Nat → Nat} (hAD : ADok N0 ad) (sz : Nat) (g : CS) (r_ : Int32) (q_ : Int32) : vx_Met l yX3_swap (wsy yX3_swap cX3_swap 5 (some .int)) ({ frames := 7, cells := 2, slots := 12, locals := 111 } : Room) (cP D tk N0 sa [.ref (ad 15), .int r_, .int q_] sz (fun H => CW D tk ad g H)) (kQi (fun r H => xo (bR r_) (bR q_) = 0 ∧ r = f_setR (f_swap g (nn r_) (nn q_)) (nn r_) ∧ CW D tk ad (f_setW (f_swap g (nn r_) (nn q_)) (nn r_)) H) (cwA ad sz)) (kX (fun E => (E = "java/lang/IndexOutOfBoundsException" ∧ xo (bR r_) (bR q_) = 1)) sz) (2) (12) (cwA ad sz) := by
  refine mStartX RX3 rfl (by decide +kernel) (Nat.le_of_ble_eq_true rfl) ?_
  intro p e s m args below meth c E hr hlk htb hsz hC hF ls hl
  subst hsz
  obtain ⟨hx, hb, -⟩ := id E
  have hA : ∀ q, (cwA ad s.heap.size) q → N0 ≤ q := cwA.ge hAD hC.2.1
  have hn : ∀ q, s.heap.size ≤ q → (cwA ad s.heap.size) q := fun q h => Or.inr h
  have hS : va_S (cwA ad s.heap.size) s.heap s.heap [] := va_S.rf
  have hU : ∀ q, q < s.heap.size → s.heap[q]? = s.heap[q]? := fun _ _ => rfl
  have hl : lv_has ls 5 [(0, .ref (ad 15)), (1, .int r_), (2, .int q_)] := hl
  have hW : CW D tk ad g s.heap := hF
  refine lv_aload_n (pc := 0) hx hb dX3_swap_0 rfl (lv_at hl 0 rfl) ?_
  refine lv_iload_n (pc := 1) hx hb dX3_swap_1 rfl (lv_at hl 1 rfl) ?_
  have hZ := hS.1
  refine kx_r (pc := 2) (kx_V E hC hS hA hl.1 (c1.recv hC hW.obj rfl) rfl (c_X3_ratioAt l hlst D tk N0 sa hAD s.heap.size g r_ ) kw_809 kw_811 kp_15 kw_1 kw_812 (n := 1) (by decide +kernel) rfl ⟨⟨rfl, rfl⟩, ⟨by decide, by decide⟩, by decide, by decide⟩ rfl (Nat.le_of_ble_eq_true rfl) hW dX3_swap_2) hS (fun q z w => absurd w (Nat.not_le.mpr z)) hn hlk htb hU (fun E9 h9 => by rcases h9 with ⟨rfl, h9⟩ <;> first | (simp [h9]; done) | (simp [xo, h9]; done)) ⟨by decide, by decide⟩ (fun r_1 H locs hR hz hk hS => ?_)
  have hU := fun q (hq : q < s.heap.size) => (hk q (Nat.lt_of_lt_of_le hq hZ) (Nat.not_le.mpr (Nat.lt_of_lt_of_le hq hZ))).trans (hU q hq)
  obtain ⟨ek_2, er_1⟩ := hR
  have hW := hW.new hk
  have hi_3 : nn r_ < 15 := Nat.lt_of_lt_of_le (bR_lt ek_2) (by decide)
  subst er_1
  refine lv_astore_n (pc := 5) (lv' := [(3, .ref (ad (nn r_))), (0, .ref (ad 15)), (1, .int r_), (2, .int q_)]) hx hb dX3_swap_5 rfl hl (by decide) rfl (fun ls hl => ?_)
  refine lv_aload_n (pc := 6) hx hb dX3_swap_6 rfl (lv_at hl 1 rfl) ?_
  refine lv_iload_n (pc := 7) hx hb dX3_swap_7 rfl (lv_at hl 3 rfl) ?_
  have hZ := hS.1
  refine kx_r (pc := 8) (kx_V E hC hS hA hl.1 (c1.recv hC hW.obj rfl) rfl (c_X3_ratioAt l hlst D tk N0 sa hAD H.size g q_ ) kw_809 kw_811 kp_15 kw_1 kw_812 (n := 1) (by decide +kernel) rfl ⟨⟨rfl, rfl⟩, ⟨by decide, by decide⟩, by decide, by decide⟩ rfl (Nat.le_of_ble_eq_true rfl) hW dX3_swap_8) hS (fun q z w => absurd w (Nat.not_le.mpr z)) hn hlk htb hU (fun E9 h9 => by rcases h9 with ⟨rfl, h9⟩ <;> first | (simp [h9]; done) | (simp [xo, h9, ek_2]; done)) ⟨by decide, by decide⟩ (fun r_4 H locs hR hz hk hS => ?_)
  have hU := fun q (hq : q < s.heap.size) => (hk q (Nat.lt_of_lt_of_le hq hZ) (Nat.not_le.mpr (Nat.lt_of_lt_of_le hq hZ))).trans (hU q hq)
  obtain ⟨ek_5, er_4⟩ := hR
  have hW := hW.new hk
  have hi_6 : nn q_ < 15 := Nat.lt_of_lt_of_le (bR_lt ek_5) (by decide)
  subst er_4
  refine lv_astore (pc := 11) (lv' := [(4, .ref (ad (nn q_))), (3, .ref (ad (nn r_))), (0, .ref (ad 15)), (1, .int r_), (2, .int q_)]) hx hb dX3_swap_11 hl (by decide) rfl (fun ls hl => ?_)
  refine lv_aload_n (pc := 13) hx hb dX3_swap_13 rfl (lv_at hl 2 rfl) ?_
  refine r_get (pc := 14) E hC hW.obj 5 (v := .ref (ad 6)) rfl rfl (by decide) uX3 (List.mem_cons_of_mem _ kw_119) (fun _ h => h) dX3_swap_14 ?_
  refine lv_aload (pc := 17) hx hb dX3_swap_17 (lv_at hl 0 rfl) ?_
  refine k_v (pc := 19) (k_V E hC hS hA hl.1 (c1.recv hC (hW.fr (i := 6) (by decide)) rfl) rfl (c_X0_assign l D tk N0 sa hAD H.size g 6 (by decide) ((nn q_)) hi_6 ) kw_627 kw_628 kw_629 kw_2 kw_630 (n := 1) (by decide +kernel) rfl ⟨⟨rfl, rfl⟩, ⟨by decide, by decide⟩, by decide, by decide⟩ rfl (Nat.le_of_ble_eq_true rfl) hW dX3_swap_19) hS (fun q _ w => cwA.go hS.1 q w) hn (fun H locs hR hz hk hS => ?_)
  have hW := hR
  obtain ⟨g_9, eg_9⟩ : ∃ z, z = f_assign g 6 ((nn q_)) := ⟨_, rfl⟩
  rw [← eg_9] at hW
  refine lv_aload (pc := 22) hx hb dX3_swap_22 (lv_at hl 0 rfl) ?_
  refine lv_aload_n (pc := 24) hx hb dX3_swap_24 rfl (lv_at hl 1 rfl) ?_
  refine k_v (pc := 25) (k_V E hC hS hA hl.1 (c1.recv hC (hW.fr (i := (nn q_)) hi_6) rfl) rfl (c_X0_assign l D tk N0 sa hAD H.size g_9 ((nn q_)) hi_6 ((nn r_)) hi_3 ) kw_627 kw_628 kw_629 kw_2 kw_630 (n := 1) (by decide +kernel) rfl ⟨⟨rfl, rfl⟩, ⟨by decide, by decide⟩, by decide, by decide⟩ rfl (Nat.le_of_ble_eq_true rfl) hW dX3_swap_25) hS (fun q _ w => cwA.go hS.1 q w) hn (fun H locs hR hz hk hS => ?_)
  have hW := hR
  obtain ⟨g_12, eg_12⟩ : ∃ z, z = f_assign g_9 ((nn q_)) ((nn r_)) := ⟨_, rfl⟩
  rw [← eg_12] at hW
  refine lv_aload_n (pc := 28) hx hb dX3_swap_28 rfl (lv_at hl 2 rfl) ?_
  refine lv_aload_n (pc := 29) hx hb dX3_swap_29 rfl (lv_at hl 1 rfl) ?_
  refine k_i (pc := 30) (k_V E hC hS hA hl.1 (c1.recv hC hW.obj rfl) rfl (c_X3_settle l D tk N0 sa hAD H.size g_12 ((nn r_)) hi_3 ) kw_830 kw_832 kp_16 kw_1 kw_833 (n := 1) (by decide +kernel) rfl ⟨⟨rfl, rfl⟩, ⟨by decide, by decide⟩, by decide, by decide⟩ rfl (Nat.le_of_ble_eq_true rfl) hW dX3_swap_30) hS (fun q _ w => cwA.go hS.1 q w) hn (fun r_13 H locs hR hz hk hS => ?_)
  obtain ⟨er_13, hW⟩ := hR
  obtain ⟨g_15, eg_15⟩ : ∃ z, z = f_setW g_12 ((nn r_)) := ⟨_, rfl⟩
  rw [← eg_15] at hW
  refine vx_ret ?_
  refine r_iret (pc := 33) E hr hlk hS (by decide) (by decide) ?_ dX3_swap_33
  exact ⟨(by subst eg_9 eg_12 eg_15 er_13; first | assumption | (simp [xo, ek_2, ek_5]; done)), (by subst eg_9 eg_12 eg_15 er_13; first | with_reducible rfl | (simp [f_swap, p_TB, p_TV, p_TC, p_TI, p_BT, p_BV, p_BC, p_BI, p_VT, p_VB, p_VC, p_VI, p_CT, p_CB, p_CV, p_CI, p_IT, p_IB, p_IV, p_IC, p_TT, p_BB, p_CC, p_II]; done)), hW.to (by subst eg_9 eg_12 eg_15 er_13; first | with_reducible rfl | (simp [f_swap, p_TB, p_TV, p_TC, p_TI, p_BT, p_BV, p_BC, p_BI, p_VT, p_VB, p_VC, p_VI, p_CT, p_CB, p_CV, p_CI, p_IT, p_IB, p_IV, p_IC, p_TT, p_BB, p_CC, p_II]; done))⟩
set_option maxHeartbeats 4000000 in
set_option maxRecDepth 100000 in
/-- Bestratios.plus(III)I -/
theorem c_X3_plus (l : Launch) (hlst : l.stackTraces = false) (D : va_G) (tk : Nat → ClassId) (N0 : Nat) (sa : Nat → Nat) {ad : Nat → Nat} (hAD : ADok N0 ad) (sz : Nat) (g : CS) (r_ : Int32) (q_ : Int32) (w_ : Int32) : vx_Met l yX3_plus (wsy yX3_plus cX3_plus 5 (some .int)) ({ frames := 7, cells := 3, slots := 18, locals := 129 } : Room) (cP D tk N0 sa [.ref (ad 15), .int r_, .int q_, .int w_] sz (fun H => CW D tk ad g H)) (kQi (fun r H => xo (bR r_) (xo (bR q_) (bR w_)) = 0 ∧ r = f_setR (f_sum g 6 (nn q_) (nn w_)) (nn r_) ∧ CW D tk ad (f_setW (f_sum g 6 (nn q_) (nn w_)) (nn r_)) H) (cwA ad sz)) (kX (fun E => (E = "java/lang/IndexOutOfBoundsException" ∧ xo (bR r_) (xo (bR q_) (bR w_)) = 1)) sz) (3) (18) (cwA ad sz) := by
  refine mStartX RX3 rfl (by decide +kernel) (Nat.le_of_ble_eq_true rfl) ?_
  intro p e s m args below meth c E hr hlk htb hsz hC hF ls hl
  subst hsz
  obtain ⟨hx, hb, -⟩ := id E
  have hA : ∀ q, (cwA ad s.heap.size) q → N0 ≤ q := cwA.ge hAD hC.2.1
  have hn : ∀ q, s.heap.size ≤ q → (cwA ad s.heap.size) q := fun q h => Or.inr h
  have hS : va_S (cwA ad s.heap.size) s.heap s.heap [] := va_S.rf
  have hU : ∀ q, q < s.heap.size → s.heap[q]? = s.heap[q]? := fun _ _ => rfl
  have hl : lv_has ls 5 [(0, .ref (ad 15)), (1, .int r_), (2, .int q_), (3, .int w_)] := hl
  have hW : CW D tk ad g s.heap := hF
  refine lv_aload_n (pc := 0) hx hb dX3_plus_0 rfl (lv_at hl 0 rfl) ?_
  refine lv_iload_n (pc := 1) hx hb dX3_plus_1 rfl (lv_at hl 1 rfl) ?_
  have hZ := hS.1
  refine kx_r (pc := 2) (kx_V E hC hS hA hl.1 (c1.recv hC hW.obj rfl) rfl (c_X3_ratioAt l hlst D tk N0 sa hAD s.heap.size g r_ ) kw_809 kw_811 kp_15 kw_1 kw_812 (n := 1) (by decide +kernel) rfl ⟨⟨rfl, rfl⟩, ⟨by decide, by decide⟩, by decide, by decide⟩ rfl (Nat.le_of_ble_eq_true rfl) hW dX3_plus_2) hS (fun q z w => absurd w (Nat.not_le.mpr z)) hn hlk htb hU (fun E9 h9 => by rcases h9 with ⟨rfl, h9⟩ <;> first | (simp [h9]; done) | (simp [xo, h9]; done)) ⟨by decide, by decide⟩ (fun r_1 H locs hR hz hk hS => ?_)
  have hU := fun q (hq : q < s.heap.size) => (hk q (Nat.lt_of_lt_of_le hq hZ) (Nat.not_le.mpr (Nat.lt_of_lt_of_le hq hZ))).trans (hU q hq)
  obtain ⟨ek_2, er_1⟩ := hR
  have hW := hW.new hk
  have hi_3 : nn r_ < 15 := Nat.lt_of_lt_of_le (bR_lt ek_2) (by decide)
  subst er_1
  refine lv_astore (pc := 5) (lv' := [(4, .ref (ad (nn r_))), (0, .ref (ad 15)), (1, .int r_), (2, .int q_), (3, .int w_)]) hx hb dX3_plus_5 hl (by decide) rfl (fun ls hl => ?_)
  refine lv_aload_n (pc := 7) hx hb dX3_plus_7 rfl (lv_at hl 1 rfl) ?_
  refine r_get (pc := 8) E hC hW.obj 5 (v := .ref (ad 6)) rfl rfl (by decide) uX3 (List.mem_cons_of_mem _ kw_119) (fun _ h => h) dX3_plus_8 ?_
  refine lv_aload_n (pc := 11) hx hb dX3_plus_11 rfl (lv_at hl 1 rfl) ?_
  refine lv_iload_n (pc := 12) hx hb dX3_plus_12 rfl (lv_at hl 3 rfl) ?_
  have hZ := hS.1
  refine kx_r (pc := 13) (kx_V E hC hS hA hl.1 (c1.recv hC hW.obj rfl) rfl (c_X3_ratioAt l hlst D tk N0 sa hAD H.size g q_ ) kw_809 kw_811 kp_15 kw_1 kw_812 (n := 1) (by decide +kernel) rfl ⟨⟨rfl, rfl⟩, ⟨by decide, by decide⟩, by decide, by decide⟩ rfl (Nat.le_of_ble_eq_true rfl) hW dX3_plus_13) hS (fun q z w => absurd w (Nat.not_le.mpr z)) hn hlk htb hU (fun E9 h9 => by rcases h9 with ⟨rfl, h9⟩ <;> first | (simp [h9]; done) | (simp [xo, h9, ek_2]; done)) ⟨by decide, by decide⟩ (fun r_4 H locs hR hz hk hS => ?_)
  have hU := fun q (hq : q < s.heap.size) => (hk q (Nat.lt_of_lt_of_le hq hZ) (Nat.not_le.mpr (Nat.lt_of_lt_of_le hq hZ))).trans (hU q hq)
  obtain ⟨ek_5, er_4⟩ := hR
  have hW := hW.new hk
  have hi_6 : nn q_ < 15 := Nat.lt_of_lt_of_le (bR_lt ek_5) (by decide)
  subst er_4
  refine lv_aload_n (pc := 16) hx hb dX3_plus_16 rfl (lv_at hl 1 rfl) ?_
  refine lv_iload_n (pc := 17) hx hb dX3_plus_17 rfl (lv_at hl 4 rfl) ?_
  have hZ := hS.1
  refine kx_r (pc := 18) (kx_V E hC hS hA hl.1 (c1.recv hC hW.obj rfl) rfl (c_X3_ratioAt l hlst D tk N0 sa hAD H.size g w_ ) kw_809 kw_811 kp_15 kw_1 kw_812 (n := 1) (by decide +kernel) rfl ⟨⟨rfl, rfl⟩, ⟨by decide, by decide⟩, by decide, by decide⟩ rfl (Nat.le_of_ble_eq_true rfl) hW dX3_plus_18) hS (fun q z w => absurd w (Nat.not_le.mpr z)) hn hlk htb hU (fun E9 h9 => by rcases h9 with ⟨rfl, h9⟩ <;> first | (simp [h9]; done) | (simp [xo, h9, ek_2, ek_5]; done)) ⟨by decide, by decide⟩ (fun r_7 H locs hR hz hk hS => ?_)
  have hU := fun q (hq : q < s.heap.size) => (hk q (Nat.lt_of_lt_of_le hq hZ) (Nat.not_le.mpr (Nat.lt_of_lt_of_le hq hZ))).trans (hU q hq)
  obtain ⟨ek_8, er_7⟩ := hR
  have hW := hW.new hk
  have hi_9 : nn w_ < 15 := Nat.lt_of_lt_of_le (bR_lt ek_8) (by decide)
  subst er_7
  refine k_v (pc := 21) (k_V E hC hS hA hl.1 (c1.recv hC (hW.fr (i := 6) (by decide)) rfl) rfl (c_X0_becomeSum l D tk N0 sa hAD H.size g 6 (by decide) ((nn q_)) hi_6 ((nn w_)) hi_9 ) kw_651 kw_652 kw_653 kw_2 kw_654 (n := 2) (by decide +kernel) rfl ⟨⟨rfl, rfl⟩, ⟨by decide, by decide⟩, by decide, by decide⟩ rfl (Nat.le_of_ble_eq_true rfl) hW dX3_plus_21) hS (fun q _ w => cwA.go hS.1 q w) hn (fun H locs hR hz hk hS => ?_)
  have hW := hR
  obtain ⟨g_12, eg_12⟩ : ∃ z, z = f_sum g 6 ((nn q_)) ((nn w_)) := ⟨_, rfl⟩
  rw [← eg_12] at hW
  refine lv_aload_n (pc := 24) hx hb dX3_plus_24 rfl (lv_at hl 1 rfl) ?_
  refine lv_aload (pc := 25) hx hb dX3_plus_25 (lv_at hl 0 rfl) ?_
  refine k_i (pc := 27) (k_V E hC hS hA hl.1 (c1.recv hC hW.obj rfl) rfl (c_X3_settle l D tk N0 sa hAD H.size g_12 ((nn r_)) hi_3 ) kw_830 kw_832 kp_16 kw_1 kw_833 (n := 1) (by decide +kernel) rfl ⟨⟨rfl, rfl⟩, ⟨by decide, by decide⟩, by decide, by decide⟩ rfl (Nat.le_of_ble_eq_true rfl) hW dX3_plus_27) hS (fun q _ w => cwA.go hS.1 q w) hn (fun r_13 H locs hR hz hk hS => ?_)
  obtain ⟨er_13, hW⟩ := hR
  obtain ⟨g_15, eg_15⟩ : ∃ z, z = f_setW g_12 ((nn r_)) := ⟨_, rfl⟩
  rw [← eg_15] at hW
  refine vx_ret ?_
  refine r_iret (pc := 30) E hr hlk hS (by decide) (by decide) ?_ dX3_plus_30
  exact ⟨(by subst eg_12 eg_15 er_13; first | assumption | (simp [xo, ek_2, ek_5, ek_8]; done)), (by subst eg_12 eg_15 er_13; first | with_reducible rfl | (simp [p_TB, p_TV, p_TC, p_TI, p_BT, p_BV, p_BC, p_BI, p_VT, p_VB, p_VC, p_VI, p_CT, p_CB, p_CV, p_CI, p_IT, p_IB, p_IV, p_IC, p_TT, p_BB, p_CC, p_II]; done) | rfl), hW.to (by subst eg_12 eg_15 er_13; first | with_reducible rfl | (simp [p_TB, p_TV, p_TC, p_TI, p_BT, p_BV, p_BC, p_BI, p_VT, p_VB, p_VC, p_VI, p_CT, p_CB, p_CV, p_CI, p_IT, p_IB, p_IV, p_IC, p_TT, p_BB, p_CC, p_II]; done) | rfl)⟩
set_option maxHeartbeats 4000000 in
set_option maxRecDepth 100000 in
/-- Bestratios.minus(III)I -/
theorem c_X3_minus (l : Launch) (hlst : l.stackTraces = false) (D : va_G) (tk : Nat → ClassId) (N0 : Nat) (sa : Nat → Nat) {ad : Nat → Nat} (hAD : ADok N0 ad) (sz : Nat) (g : CS) (r_ : Int32) (q_ : Int32) (w_ : Int32) : vx_Met l yX3_minus (wsy yX3_minus cX3_minus 5 (some .int)) ({ frames := 7, cells := 3, slots := 18, locals := 129 } : Room) (cP D tk N0 sa [.ref (ad 15), .int r_, .int q_, .int w_] sz (fun H => CW D tk ad g H)) (kQi (fun r H => xo (bR r_) (xo (bR q_) (bR w_)) = 0 ∧ r = f_setR (f_dif g 6 (nn q_) (nn w_)) (nn r_) ∧ CW D tk ad (f_setW (f_dif g 6 (nn q_) (nn w_)) (nn r_)) H) (cwA ad sz)) (kX (fun E => (E = "java/lang/IndexOutOfBoundsException" ∧ xo (bR r_) (xo (bR q_) (bR w_)) = 1)) sz) (3) (18) (cwA ad sz) := by
  refine mStartX RX3 rfl (by decide +kernel) (Nat.le_of_ble_eq_true rfl) ?_
  intro p e s m args below meth c E hr hlk htb hsz hC hF ls hl
  subst hsz
  obtain ⟨hx, hb, -⟩ := id E
  have hA : ∀ q, (cwA ad s.heap.size) q → N0 ≤ q := cwA.ge hAD hC.2.1
  have hn : ∀ q, s.heap.size ≤ q → (cwA ad s.heap.size) q := fun q h => Or.inr h
  have hS : va_S (cwA ad s.heap.size) s.heap s.heap [] := va_S.rf
  have hU : ∀ q, q < s.heap.size → s.heap[q]? = s.heap[q]? := fun _ _ => rfl
  have hl : lv_has ls 5 [(0, .ref (ad 15)), (1, .int r_), (2, .int q_), (3, .int w_)] := hl
  have hW : CW D tk ad g s.heap := hF
  refine lv_aload_n (pc := 0) hx hb dX3_minus_0 rfl (lv_at hl 0 rfl) ?_
  refine lv_iload_n (pc := 1) hx hb dX3_minus_1 rfl (lv_at hl 1 rfl) ?_
  have hZ := hS.1
  refine kx_r (pc := 2) (kx_V E hC hS hA hl.1 (c1.recv hC hW.obj rfl) rfl (c_X3_ratioAt l hlst D tk N0 sa hAD s.heap.size g r_ ) kw_809 kw_811 kp_15 kw_1 kw_812 (n := 1) (by decide +kernel) rfl ⟨⟨rfl, rfl⟩, ⟨by decide, by decide⟩, by decide, by decide⟩ rfl (Nat.le_of_ble_eq_true rfl) hW dX3_minus_2) hS (fun q z w => absurd w (Nat.not_le.mpr z)) hn hlk htb hU (fun E9 h9 => by rcases h9 with ⟨rfl, h9⟩ <;> first | (simp [h9]; done) | (simp [xo, h9]; done)) ⟨by decide, by decide⟩ (fun r_1 H locs hR hz hk hS => ?_)
  have hU := fun q (hq : q < s.heap.size) => (hk q (Nat.lt_of_lt_of_le hq hZ) (Nat.not_le.mpr (Nat.lt_of_lt_of_le hq hZ))).trans (hU q hq)
  obtain ⟨ek_2, er_1⟩ := hR
  have hW := hW.new hk
  have hi_3 : nn r_ < 15 := Nat.lt_of_lt_of_le (bR_lt ek_2) (by decide)
  subst er_1
  refine lv_astore (pc := 5) (lv' := [(4, .ref (ad (nn r_))), (0, .ref (ad 15)), (1, .int r_), (2, .int q_), (3, .int w_)]) hx hb dX3_minus_5 hl (by decide) rfl (fun ls hl => ?_)
  refine lv_aload_n (pc := 7) hx hb dX3_minus_7 rfl (lv_at hl 1 rfl) ?_
  refine r_get (pc := 8) E hC hW.obj 5 (v := .ref (ad 6)) rfl rfl (by decide) uX3 (List.mem_cons_of_mem _ kw_119) (fun _ h => h) dX3_minus_8 ?_
  refine lv_aload_n (pc := 11) hx hb dX3_minus_11 rfl (lv_at hl 1 rfl) ?_
  refine lv_iload_n (pc := 12) hx hb dX3_minus_12 rfl (lv_at hl 3 rfl) ?_
  have hZ := hS.1
  refine kx_r (pc := 13) (kx_V E hC hS hA hl.1 (c1.recv hC hW.obj rfl) rfl (c_X3_ratioAt l hlst D tk N0 sa hAD H.size g q_ ) kw_809 kw_811 kp_15 kw_1 kw_812 (n := 1) (by decide +kernel) rfl ⟨⟨rfl, rfl⟩, ⟨by decide, by decide⟩, by decide, by decide⟩ rfl (Nat.le_of_ble_eq_true rfl) hW dX3_minus_13) hS (fun q z w => absurd w (Nat.not_le.mpr z)) hn hlk htb hU (fun E9 h9 => by rcases h9 with ⟨rfl, h9⟩ <;> first | (simp [h9]; done) | (simp [xo, h9, ek_2]; done)) ⟨by decide, by decide⟩ (fun r_4 H locs hR hz hk hS => ?_)
  have hU := fun q (hq : q < s.heap.size) => (hk q (Nat.lt_of_lt_of_le hq hZ) (Nat.not_le.mpr (Nat.lt_of_lt_of_le hq hZ))).trans (hU q hq)
  obtain ⟨ek_5, er_4⟩ := hR
  have hW := hW.new hk
  have hi_6 : nn q_ < 15 := Nat.lt_of_lt_of_le (bR_lt ek_5) (by decide)
  subst er_4
  refine lv_aload_n (pc := 16) hx hb dX3_minus_16 rfl (lv_at hl 1 rfl) ?_
  refine lv_iload_n (pc := 17) hx hb dX3_minus_17 rfl (lv_at hl 4 rfl) ?_
  have hZ := hS.1
  refine kx_r (pc := 18) (kx_V E hC hS hA hl.1 (c1.recv hC hW.obj rfl) rfl (c_X3_ratioAt l hlst D tk N0 sa hAD H.size g w_ ) kw_809 kw_811 kp_15 kw_1 kw_812 (n := 1) (by decide +kernel) rfl ⟨⟨rfl, rfl⟩, ⟨by decide, by decide⟩, by decide, by decide⟩ rfl (Nat.le_of_ble_eq_true rfl) hW dX3_minus_18) hS (fun q z w => absurd w (Nat.not_le.mpr z)) hn hlk htb hU (fun E9 h9 => by rcases h9 with ⟨rfl, h9⟩ <;> first | (simp [h9]; done) | (simp [xo, h9, ek_2, ek_5]; done)) ⟨by decide, by decide⟩ (fun r_7 H locs hR hz hk hS => ?_)
  have hU := fun q (hq : q < s.heap.size) => (hk q (Nat.lt_of_lt_of_le hq hZ) (Nat.not_le.mpr (Nat.lt_of_lt_of_le hq hZ))).trans (hU q hq)
  obtain ⟨ek_8, er_7⟩ := hR
  have hW := hW.new hk
  have hi_9 : nn w_ < 15 := Nat.lt_of_lt_of_le (bR_lt ek_8) (by decide)
  subst er_7
  refine k_v (pc := 21) (k_V E hC hS hA hl.1 (c1.recv hC (hW.fr (i := 6) (by decide)) rfl) rfl (c_X0_becomeDifference l D tk N0 sa hAD H.size g 6 (by decide) ((nn q_)) hi_6 ((nn w_)) hi_9 ) kw_659 kw_660 kw_661 kw_2 kw_662 (n := 2) (by decide +kernel) rfl ⟨⟨rfl, rfl⟩, ⟨by decide, by decide⟩, by decide, by decide⟩ rfl (Nat.le_of_ble_eq_true rfl) hW dX3_minus_21) hS (fun q _ w => cwA.go hS.1 q w) hn (fun H locs hR hz hk hS => ?_)
  have hW := hR
  obtain ⟨g_12, eg_12⟩ : ∃ z, z = f_dif g 6 ((nn q_)) ((nn w_)) := ⟨_, rfl⟩
  rw [← eg_12] at hW
  refine lv_aload_n (pc := 24) hx hb dX3_minus_24 rfl (lv_at hl 1 rfl) ?_
  refine lv_aload (pc := 25) hx hb dX3_minus_25 (lv_at hl 0 rfl) ?_
  refine k_i (pc := 27) (k_V E hC hS hA hl.1 (c1.recv hC hW.obj rfl) rfl (c_X3_settle l D tk N0 sa hAD H.size g_12 ((nn r_)) hi_3 ) kw_830 kw_832 kp_16 kw_1 kw_833 (n := 1) (by decide +kernel) rfl ⟨⟨rfl, rfl⟩, ⟨by decide, by decide⟩, by decide, by decide⟩ rfl (Nat.le_of_ble_eq_true rfl) hW dX3_minus_27) hS (fun q _ w => cwA.go hS.1 q w) hn (fun r_13 H locs hR hz hk hS => ?_)
  obtain ⟨er_13, hW⟩ := hR
  obtain ⟨g_15, eg_15⟩ : ∃ z, z = f_setW g_12 ((nn r_)) := ⟨_, rfl⟩
  rw [← eg_15] at hW
  refine vx_ret ?_
  refine r_iret (pc := 30) E hr hlk hS (by decide) (by decide) ?_ dX3_minus_30
  exact ⟨(by subst eg_12 eg_15 er_13; first | assumption | (simp [xo, ek_2, ek_5, ek_8]; done)), (by subst eg_12 eg_15 er_13; first | with_reducible rfl | (simp [p_TB, p_TV, p_TC, p_TI, p_BT, p_BV, p_BC, p_BI, p_VT, p_VB, p_VC, p_VI, p_CT, p_CB, p_CV, p_CI, p_IT, p_IB, p_IV, p_IC, p_TT, p_BB, p_CC, p_II]; done) | rfl), hW.to (by subst eg_12 eg_15 er_13; first | with_reducible rfl | (simp [p_TB, p_TV, p_TC, p_TI, p_BT, p_BV, p_BC, p_BI, p_VT, p_VB, p_VC, p_VI, p_CT, p_CB, p_CV, p_CI, p_IT, p_IB, p_IV, p_IC, p_TT, p_BB, p_CC, p_II]; done) | rfl)⟩
set_option maxHeartbeats 4000000 in
set_option maxRecDepth 100000 in
/-- Bestratios.times(III)I -/
theorem c_X3_times (l : Launch) (hlst : l.stackTraces = false) (D : va_G) (tk : Nat → ClassId) (N0 : Nat) (sa : Nat → Nat) {ad : Nat → Nat} (hAD : ADok N0 ad) (sz : Nat) (g : CS) (r_ : Int32) (q_ : Int32) (w_ : Int32) : vx_Met l yX3_times (wsy yX3_times cX3_times 5 (some .int)) ({ frames := 7, cells := 3, slots := 18, locals := 111 } : Room) (cP D tk N0 sa [.ref (ad 15), .int r_, .int q_, .int w_] sz (fun H => CW D tk ad g H)) (kQi (fun r H => xo (bR r_) (xo (bR q_) (bR w_)) = 0 ∧ r = f_setR (f_mul g 6 (nn q_) (nn w_)) (nn r_) ∧ CW D tk ad (f_setW (f_mul g 6 (nn q_) (nn w_)) (nn r_)) H) (cwA ad sz)) (kX (fun E => (E = "java/lang/IndexOutOfBoundsException" ∧ xo (bR r_) (xo (bR q_) (bR w_)) = 1)) sz) (3) (18) (cwA ad sz) := by
  refine mStartX RX3 rfl (by decide +kernel) (Nat.le_of_ble_eq_true rfl) ?_
  intro p e s m args below meth c E hr hlk htb hsz hC hF ls hl
  subst hsz
  obtain ⟨hx, hb, -⟩ := id E
  have hA : ∀ q, (cwA ad s.heap.size) q → N0 ≤ q := cwA.ge hAD hC.2.1
  have hn : ∀ q, s.heap.size ≤ q → (cwA ad s.heap.size) q := fun q h => Or.inr h
  have hS : va_S (cwA ad s.heap.size) s.heap s.heap [] := va_S.rf
  have hU : ∀ q, q < s.heap.size → s.heap[q]? = s.heap[q]? := fun _ _ => rfl
  have hl : lv_has ls 5 [(0, .ref (ad 15)), (1, .int r_), (2, .int q_), (3, .int w_)] := hl
  have hW : CW D tk ad g s.heap := hF
  refine lv_aload_n (pc := 0) hx hb dX3_times_0 rfl (lv_at hl 0 rfl) ?_
  refine lv_iload_n (pc := 1) hx hb dX3_times_1 rfl (lv_at hl 1 rfl) ?_
  have hZ := hS.1
  refine kx_r (pc := 2) (kx_V E hC hS hA hl.1 (c1.recv hC hW.obj rfl) rfl (c_X3_ratioAt l hlst D tk N0 sa hAD s.heap.size g r_ ) kw_809 kw_811 kp_15 kw_1 kw_812 (n := 1) (by decide +kernel) rfl ⟨⟨rfl, rfl⟩, ⟨by decide, by decide⟩, by decide, by decide⟩ rfl (Nat.le_of_ble_eq_true rfl) hW dX3_times_2) hS (fun q z w => absurd w (Nat.not_le.mpr z)) hn hlk htb hU (fun E9 h9 => by rcases h9 with ⟨rfl, h9⟩ <;> first | (simp [h9]; done) | (simp [xo, h9]; done)) ⟨by decide, by decide⟩ (fun r_1 H locs hR hz hk hS => ?_)
  have hU := fun q (hq : q < s.heap.size) => (hk q (Nat.lt_of_lt_of_le hq hZ) (Nat.not_le.mpr (Nat.lt_of_lt_of_le hq hZ))).trans (hU q hq)
  obtain ⟨ek_2, er_1⟩ := hR
  have hW := hW.new hk
  have hi_3 : nn r_ < 15 := Nat.lt_of_lt_of_le (bR_lt ek_2) (by decide)
  subst er_1
  refine lv_astore (pc := 5) (lv' := [(4, .ref (ad (nn r_))), (0, .ref (ad 15)), (1, .int r_), (2, .int q_), (3, .int w_)]) hx hb dX3_times_5 hl (by decide) rfl (fun ls hl => ?_)
  refine lv_aload_n (pc := 7) hx hb dX3_times_7 rfl (lv_at hl 1 rfl) ?_
  refine r_get (pc := 8) E hC hW.obj 5 (v := .ref (ad 6)) rfl rfl (by decide) uX3 (List.mem_cons_of_mem _ kw_119) (fun _ h => h) dX3_times_8 ?_
  refine lv_aload_n (pc := 11) hx hb dX3_times_11 rfl (lv_at hl 1 rfl) ?_
  refine lv_iload_n (pc := 12) hx hb dX3_times_12 rfl (lv_at hl 3 rfl) ?_
  have hZ := hS.1
  refine kx_r (pc := 13) (kx_V E hC hS hA hl.1 (c1.recv hC hW.obj rfl) rfl (c_X3_ratioAt l hlst D tk N0 sa hAD H.size g q_ ) kw_809 kw_811 kp_15 kw_1 kw_812 (n := 1) (by decide +kernel) rfl ⟨⟨rfl, rfl⟩, ⟨by decide, by decide⟩, by decide, by decide⟩ rfl (Nat.le_of_ble_eq_true rfl) hW dX3_times_13) hS (fun q z w => absurd w (Nat.not_le.mpr z)) hn hlk htb hU (fun E9 h9 => by rcases h9 with ⟨rfl, h9⟩ <;> first | (simp [h9]; done) | (simp [xo, h9, ek_2]; done)) ⟨by decide, by decide⟩ (fun r_4 H locs hR hz hk hS => ?_)
  have hU := fun q (hq : q < s.heap.size) => (hk q (Nat.lt_of_lt_of_le hq hZ) (Nat.not_le.mpr (Nat.lt_of_lt_of_le hq hZ))).trans (hU q hq)
  obtain ⟨ek_5, er_4⟩ := hR
  have hW := hW.new hk
  have hi_6 : nn q_ < 15 := Nat.lt_of_lt_of_le (bR_lt ek_5) (by decide)
  subst er_4
  refine lv_aload_n (pc := 16) hx hb dX3_times_16 rfl (lv_at hl 1 rfl) ?_
  refine lv_iload_n (pc := 17) hx hb dX3_times_17 rfl (lv_at hl 4 rfl) ?_
  have hZ := hS.1
  refine kx_r (pc := 18) (kx_V E hC hS hA hl.1 (c1.recv hC hW.obj rfl) rfl (c_X3_ratioAt l hlst D tk N0 sa hAD H.size g w_ ) kw_809 kw_811 kp_15 kw_1 kw_812 (n := 1) (by decide +kernel) rfl ⟨⟨rfl, rfl⟩, ⟨by decide, by decide⟩, by decide, by decide⟩ rfl (Nat.le_of_ble_eq_true rfl) hW dX3_times_18) hS (fun q z w => absurd w (Nat.not_le.mpr z)) hn hlk htb hU (fun E9 h9 => by rcases h9 with ⟨rfl, h9⟩ <;> first | (simp [h9]; done) | (simp [xo, h9, ek_2, ek_5]; done)) ⟨by decide, by decide⟩ (fun r_7 H locs hR hz hk hS => ?_)
  have hU := fun q (hq : q < s.heap.size) => (hk q (Nat.lt_of_lt_of_le hq hZ) (Nat.not_le.mpr (Nat.lt_of_lt_of_le hq hZ))).trans (hU q hq)
  obtain ⟨ek_8, er_7⟩ := hR
  have hW := hW.new hk
  have hi_9 : nn w_ < 15 := Nat.lt_of_lt_of_le (bR_lt ek_8) (by decide)
  subst er_7
  refine k_v (pc := 21) (k_V E hC hS hA hl.1 (c1.recv hC (hW.fr (i := 6) (by decide)) rfl) rfl (c_X0_becomeProduct l D tk N0 sa hAD H.size g 6 (by decide) ((nn q_)) hi_6 ((nn w_)) hi_9 ) kw_890 kw_891 kw_892 kw_2 kw_893 (n := 2) (by decide +kernel) rfl ⟨⟨rfl, rfl⟩, ⟨by decide, by decide⟩, by decide, by decide⟩ rfl (Nat.le_of_ble_eq_true rfl) hW dX3_times_21) hS (fun q _ w => cwA.go hS.1 q w) hn (fun H locs hR hz hk hS => ?_)
  have hW := hR
  obtain ⟨g_12, eg_12⟩ : ∃ z, z = f_mul g 6 ((nn q_)) ((nn w_)) := ⟨_, rfl⟩
  rw [← eg_12] at hW
  refine lv_aload_n (pc := 24) hx hb dX3_times_24 rfl (lv_at hl 1 rfl) ?_
  refine lv_aload (pc := 25) hx hb dX3_times_25 (lv_at hl 0 rfl) ?_
  refine k_i (pc := 27) (k_V E hC hS hA hl.1 (c1.recv hC hW.obj rfl) rfl (c_X3_settle l D tk N0 sa hAD H.size g_12 ((nn r_)) hi_3 ) kw_830 kw_832 kp_16 kw_1 kw_833 (n := 1) (by decide +kernel) rfl ⟨⟨rfl, rfl⟩, ⟨by decide, by decide⟩, by decide, by decide⟩ rfl (Nat.le_of_ble_eq_true rfl) hW dX3_times_27) hS (fun q _ w => cwA.go hS.1 q w) hn (fun r_13 H locs hR hz hk hS => ?_)
  obtain ⟨er_13, hW⟩ := hR
  obtain ⟨g_15, eg_15⟩ : ∃ z, z = f_setW g_12 ((nn r_)) := ⟨_, rfl⟩
  rw [← eg_15] at hW
  refine vx_ret ?_
  refine r_iret (pc := 30) E hr hlk hS (by decide) (by decide) ?_ dX3_times_30
  exact ⟨(by subst eg_12 eg_15 er_13; first | assumption | (simp [xo, ek_2, ek_5, ek_8]; done)), (by subst eg_12 eg_15 er_13; first | with_reducible rfl | (simp [p_TB, p_TV, p_TC, p_TI, p_BT, p_BV, p_BC, p_BI, p_VT, p_VB, p_VC, p_VI, p_CT, p_CB, p_CV, p_CI, p_IT, p_IB, p_IV, p_IC, p_TT, p_BB, p_CC, p_II]; done) | rfl), hW.to (by subst eg_12 eg_15 er_13; first | with_reducible rfl | (simp [p_TB, p_TV, p_TC, p_TI, p_BT, p_BV, p_BC, p_BI, p_VT, p_VB, p_VC, p_VI, p_CT, p_CB, p_CV, p_CI, p_IT, p_IB, p_IV, p_IC, p_TT, p_BB, p_CC, p_II]; done) | rfl)⟩
set_option maxHeartbeats 4000000 in
set_option maxRecDepth 100000 in
/-- Bestratios.mediant(III)I -/
theorem c_X3_mediant (l : Launch) (hlst : l.stackTraces = false) (D : va_G) (tk : Nat → ClassId) (N0 : Nat) (sa : Nat → Nat) {ad : Nat → Nat} (hAD : ADok N0 ad) (sz : Nat) (g : CS) (r_ : Int32) (q_ : Int32) (w_ : Int32) : vx_Met l yX3_mediant (wsy yX3_mediant cX3_mediant 5 (some .int)) ({ frames := 7, cells := 3, slots := 18, locals := 111 } : Room) (cP D tk N0 sa [.ref (ad 15), .int r_, .int q_, .int w_] sz (fun H => CW D tk ad g H)) (kQi (fun r H => xo (bR r_) (xo (bR q_) (bR w_)) = 0 ∧ r = f_setR (f_med g 6 (nn q_) (nn w_)) (nn r_) ∧ CW D tk ad (f_setW (f_med g 6 (nn q_) (nn w_)) (nn r_)) H) (cwA ad sz)) (kX (fun E => (E = "java/lang/IndexOutOfBoundsException" ∧ xo (bR r_) (xo (bR q_) (bR w_)) = 1)) sz) (3) (18) (cwA ad sz) := by
  refine mStartX RX3 rfl (by decide +kernel) (Nat.le_of_ble_eq_true rfl) ?_
  intro p e s m args below meth c E hr hlk htb hsz hC hF ls hl
  subst hsz
  obtain ⟨hx, hb, -⟩ := id E
  have hA : ∀ q, (cwA ad s.heap.size) q → N0 ≤ q := cwA.ge hAD hC.2.1
  have hn : ∀ q, s.heap.size ≤ q → (cwA ad s.heap.size) q := fun q h => Or.inr h
  have hS : va_S (cwA ad s.heap.size) s.heap s.heap [] := va_S.rf
  have hU : ∀ q, q < s.heap.size → s.heap[q]? = s.heap[q]? := fun _ _ => rfl
  have hl : lv_has ls 5 [(0, .ref (ad 15)), (1, .int r_), (2, .int q_), (3, .int w_)] := hl
  have hW : CW D tk ad g s.heap := hF
  refine lv_aload_n (pc := 0) hx hb dX3_mediant_0 rfl (lv_at hl 0 rfl) ?_
  refine lv_iload_n (pc := 1) hx hb dX3_mediant_1 rfl (lv_at hl 1 rfl) ?_
  have hZ := hS.1
  refine kx_r (pc := 2) (kx_V E hC hS hA hl.1 (c1.recv hC hW.obj rfl) rfl (c_X3_ratioAt l hlst D tk N0 sa hAD s.heap.size g r_ ) kw_809 kw_811 kp_15 kw_1 kw_812 (n := 1) (by decide +kernel) rfl ⟨⟨rfl, rfl⟩, ⟨by decide, by decide⟩, by decide, by decide⟩ rfl (Nat.le_of_ble_eq_true rfl) hW dX3_mediant_2) hS (fun q z w => absurd w (Nat.not_le.mpr z)) hn hlk htb hU (fun E9 h9 => by rcases h9 with ⟨rfl, h9⟩ <;> first | (simp [h9]; done) | (simp [xo, h9]; done)) ⟨by decide, by decide⟩ (fun r_1 H locs hR hz hk hS => ?_)
  have hU := fun q (hq : q < s.heap.size) => (hk q (Nat.lt_of_lt_of_le hq hZ) (Nat.not_le.mpr (Nat.lt_of_lt_of_le hq hZ))).trans (hU q hq)
  obtain ⟨ek_2, er_1⟩ := hR
  have hW := hW.new hk
  have hi_3 : nn r_ < 15 := Nat.lt_of_lt_of_le (bR_lt ek_2) (by decide)
  subst er_1
  refine lv_astore (pc := 5) (lv' := [(4, .ref (ad (nn r_))), (0, .ref (ad 15)), (1, .int r_), (2, .int q_), (3, .int w_)]) hx hb dX3_mediant_5 hl (by decide) rfl (fun ls hl => ?_)
  refine lv_aload_n (pc := 7) hx hb dX3_mediant_7 rfl (lv_at hl 1 rfl) ?_
  refine r_get (pc := 8) E hC hW.obj 5 (v := .ref (ad 6)) rfl rfl (by decide) uX3 (List.mem_cons_of_mem _ kw_119) (fun _ h => h) dX3_mediant_8 ?_
  refine lv_aload_n (pc := 11) hx hb dX3_mediant_11 rfl (lv_at hl 1 rfl) ?_
  refine lv_iload_n (pc := 12) hx hb dX3_mediant_12 rfl (lv_at hl 3 rfl) ?_
  have hZ := hS.1
  refine kx_r (pc := 13) (kx_V E hC hS hA hl.1 (c1.recv hC hW.obj rfl) rfl (c_X3_ratioAt l hlst D tk N0 sa hAD H.size g q_ ) kw_809 kw_811 kp_15 kw_1 kw_812 (n := 1) (by decide +kernel) rfl ⟨⟨rfl, rfl⟩, ⟨by decide, by decide⟩, by decide, by decide⟩ rfl (Nat.le_of_ble_eq_true rfl) hW dX3_mediant_13) hS (fun q z w => absurd w (Nat.not_le.mpr z)) hn hlk htb hU (fun E9 h9 => by rcases h9 with ⟨rfl, h9⟩ <;> first | (simp [h9]; done) | (simp [xo, h9, ek_2]; done)) ⟨by decide, by decide⟩ (fun r_4 H locs hR hz hk hS => ?_)
  have hU := fun q (hq : q < s.heap.size) => (hk q (Nat.lt_of_lt_of_le hq hZ) (Nat.not_le.mpr (Nat.lt_of_lt_of_le hq hZ))).trans (hU q hq)
  obtain ⟨ek_5, er_4⟩ := hR
  have hW := hW.new hk
  have hi_6 : nn q_ < 15 := Nat.lt_of_lt_of_le (bR_lt ek_5) (by decide)
  subst er_4
  refine lv_aload_n (pc := 16) hx hb dX3_mediant_16 rfl (lv_at hl 1 rfl) ?_
  refine lv_iload_n (pc := 17) hx hb dX3_mediant_17 rfl (lv_at hl 4 rfl) ?_
  have hZ := hS.1
  refine kx_r (pc := 18) (kx_V E hC hS hA hl.1 (c1.recv hC hW.obj rfl) rfl (c_X3_ratioAt l hlst D tk N0 sa hAD H.size g w_ ) kw_809 kw_811 kp_15 kw_1 kw_812 (n := 1) (by decide +kernel) rfl ⟨⟨rfl, rfl⟩, ⟨by decide, by decide⟩, by decide, by decide⟩ rfl (Nat.le_of_ble_eq_true rfl) hW dX3_mediant_18) hS (fun q z w => absurd w (Nat.not_le.mpr z)) hn hlk htb hU (fun E9 h9 => by rcases h9 with ⟨rfl, h9⟩ <;> first | (simp [h9]; done) | (simp [xo, h9, ek_2, ek_5]; done)) ⟨by decide, by decide⟩ (fun r_7 H locs hR hz hk hS => ?_)
  have hU := fun q (hq : q < s.heap.size) => (hk q (Nat.lt_of_lt_of_le hq hZ) (Nat.not_le.mpr (Nat.lt_of_lt_of_le hq hZ))).trans (hU q hq)
  obtain ⟨ek_8, er_7⟩ := hR
  have hW := hW.new hk
  have hi_9 : nn w_ < 15 := Nat.lt_of_lt_of_le (bR_lt ek_8) (by decide)
  subst er_7
  refine k_v (pc := 21) (k_V E hC hS hA hl.1 (c1.recv hC (hW.fr (i := 6) (by decide)) rfl) rfl (c_X0_becomeMediant l D tk N0 sa hAD H.size g 6 (by decide) ((nn q_)) hi_6 ((nn w_)) hi_9 ) kw_941 kw_942 kw_943 kw_2 kw_944 (n := 2) (by decide +kernel) rfl ⟨⟨rfl, rfl⟩, ⟨by decide, by decide⟩, by decide, by decide⟩ rfl (Nat.le_of_ble_eq_true rfl) hW dX3_mediant_21) hS (fun q _ w => cwA.go hS.1 q w) hn (fun H locs hR hz hk hS => ?_)
  have hW := hR
  obtain ⟨g_12, eg_12⟩ : ∃ z, z = f_med g 6 ((nn q_)) ((nn w_)) := ⟨_, rfl⟩
  rw [← eg_12] at hW
  refine lv_aload_n (pc := 24) hx hb dX3_mediant_24 rfl (lv_at hl 1 rfl) ?_
  refine lv_aload (pc := 25) hx hb dX3_mediant_25 (lv_at hl 0 rfl) ?_
  refine k_i (pc := 27) (k_V E hC hS hA hl.1 (c1.recv hC hW.obj rfl) rfl (c_X3_settle l D tk N0 sa hAD H.size g_12 ((nn r_)) hi_3 ) kw_830 kw_832 kp_16 kw_1 kw_833 (n := 1) (by decide +kernel) rfl ⟨⟨rfl, rfl⟩, ⟨by decide, by decide⟩, by decide, by decide⟩ rfl (Nat.le_of_ble_eq_true rfl) hW dX3_mediant_27) hS (fun q _ w => cwA.go hS.1 q w) hn (fun r_13 H locs hR hz hk hS => ?_)
  obtain ⟨er_13, hW⟩ := hR
  obtain ⟨g_15, eg_15⟩ : ∃ z, z = f_setW g_12 ((nn r_)) := ⟨_, rfl⟩
  rw [← eg_15] at hW
  refine vx_ret ?_
  refine r_iret (pc := 30) E hr hlk hS (by decide) (by decide) ?_ dX3_mediant_30
  exact ⟨(by subst eg_12 eg_15 er_13; first | assumption | (simp [xo, ek_2, ek_5, ek_8]; done)), (by subst eg_12 eg_15 er_13; first | with_reducible rfl | (simp [p_TB, p_TV, p_TC, p_TI, p_BT, p_BV, p_BC, p_BI, p_VT, p_VB, p_VC, p_VI, p_CT, p_CB, p_CV, p_CI, p_IT, p_IB, p_IV, p_IC, p_TT, p_BB, p_CC, p_II]; done) | rfl), hW.to (by subst eg_12 eg_15 er_13; first | with_reducible rfl | (simp [p_TB, p_TV, p_TC, p_TI, p_BT, p_BV, p_BC, p_BI, p_VT, p_VB, p_VC, p_VI, p_CT, p_CB, p_CV, p_CI, p_IT, p_IB, p_IV, p_IC, p_TT, p_BB, p_CC, p_II]; done) | rfl)⟩
set_option maxHeartbeats 4000000 in
set_option maxRecDepth 100000 in
/-- Bestratios.over(III)I -/
theorem c_X3_over (l : Launch) (hlst : l.stackTraces = false) (D : va_G) (tk : Nat → ClassId) (N0 : Nat) (sa : Nat → Nat) {ad : Nat → Nat} (hAD : ADok N0 ad) (sz : Nat) (g : CS) (r_ : Int32) (q_ : Int32) (w_ : Int32) : vx_Met l yX3_over (wsy yX3_over cX3_over 7 (some .int)) ({ frames := 7, cells := 3, slots := 18, locals := 111 } : Room) (cP D tk N0 sa [.ref (ad 15), .int r_, .int q_, .int w_] sz (fun H => CW D tk ad g H)) (kQi (fun r H => xo (bR r_) (xo (bR q_) (bR w_)) = 0 ∧ r = f_overR g (nn r_) (nn q_) (nn w_) ∧ CW D tk ad (f_overW g (nn r_) (nn q_) (nn w_)) H) (cwA ad sz)) (kX (fun E => (E = "java/lang/IndexOutOfBoundsException" ∧ xo (bR r_) (xo (bR q_) (bR w_)) = 1)) sz) (3) (18) (cwA ad sz) := by
  refine mStartX RX3 rfl (by decide +kernel) (Nat.le_of_ble_eq_true rfl) ?_
  intro p e s m args below meth c E hr hlk htb hsz hC hF ls hl
  subst hsz
  obtain ⟨hx, hb, -⟩ := id E
  have hA : ∀ q, (cwA ad s.heap.size) q → N0 ≤ q := cwA.ge hAD hC.2.1
  have hn : ∀ q, s.heap.size ≤ q → (cwA ad s.heap.size) q := fun q h => Or.inr h
  have hS : va_S (cwA ad s.heap.size) s.heap s.heap [] := va_S.rf
  have hU : ∀ q, q < s.heap.size → s.heap[q]? = s.heap[q]? := fun _ _ => rfl
  have hl : lv_has ls 7 [(0, .ref (ad 15)), (1, .int r_), (2, .int q_), (3, .int w_)] := hl
  have hW : CW D tk ad g s.heap := hF
  refine lv_aload_n (pc := 0) hx hb dX3_over_0 rfl (lv_at hl 0 rfl) ?_
  refine lv_iload_n (pc := 1) hx hb dX3_over_1 rfl (lv_at hl 1 rfl) ?_
  have hZ := hS.1
  refine kx_r (pc := 2) (kx_V E hC hS hA hl.1 (c1.recv hC hW.obj rfl) rfl (c_X3_ratioAt l hlst D tk N0 sa hAD s.heap.size g r_ ) kw_809 kw_811 kp_15 kw_1 kw_812 (n := 1) (by decide +kernel) rfl ⟨⟨rfl, rfl⟩, ⟨by decide, by decide⟩, by decide, by decide⟩ rfl (Nat.le_of_ble_eq_true rfl) hW dX3_over_2) hS (fun q z w => absurd w (Nat.not_le.mpr z)) hn hlk htb hU (fun E9 h9 => by rcases h9 with ⟨rfl, h9⟩ <;> first | (simp [h9]; done) | (simp [xo, h9]; done)) ⟨by decide, by decide⟩ (fun r_1 H locs hR hz hk hS => ?_)
  have hU := fun q (hq : q < s.heap.size) => (hk q (Nat.lt_of_lt_of_le hq hZ) (Nat.not_le.mpr (Nat.lt_of_lt_of_le hq hZ))).trans (hU q hq)
  obtain ⟨ek_2, er_1⟩ := hR
  have hW := hW.new hk
  have hi_3 : nn r_ < 15 := Nat.lt_of_lt_of_le (bR_lt ek_2) (by decide)
  subst er_1
  refine lv_astore (pc := 5) (lv' := [(4, .ref (ad (nn r_))), (0, .ref (ad 15)), (1, .int r_), (2, .int q_), (3, .int w_)]) hx hb dX3_over_5 hl (by decide) rfl (fun ls hl => ?_)
  refine lv_aload_n (pc := 7) hx hb dX3_over_7 rfl (lv_at hl 1 rfl) ?_
  refine lv_iload_n (pc := 8) hx hb dX3_over_8 rfl (lv_at hl 3 rfl) ?_
  have hZ := hS.1
  refine kx_r (pc := 9) (kx_V E hC hS hA hl.1 (c1.recv hC hW.obj rfl) rfl (c_X3_ratioAt l hlst D tk N0 sa hAD H.size g q_ ) kw_809 kw_811 kp_15 kw_1 kw_812 (n := 1) (by decide +kernel) rfl ⟨⟨rfl, rfl⟩, ⟨by decide, by decide⟩, by decide, by decide⟩ rfl (Nat.le_of_ble_eq_true rfl) hW dX3_over_9) hS (fun q z w => absurd w (Nat.not_le.mpr z)) hn hlk htb hU (fun E9 h9 => by rcases h9 with ⟨rfl, h9⟩ <;> first | (simp [h9]; done) | (simp [xo, h9, ek_2]; done)) ⟨by decide, by decide⟩ (fun r_4 H locs hR hz hk hS => ?_)
  have hU := fun q (hq : q < s.heap.size) => (hk q (Nat.lt_of_lt_of_le hq hZ) (Nat.not_le.mpr (Nat.lt_of_lt_of_le hq hZ))).trans (hU q hq)
  obtain ⟨ek_5, er_4⟩ := hR
  have hW := hW.new hk
  have hi_6 : nn q_ < 15 := Nat.lt_of_lt_of_le (bR_lt ek_5) (by decide)
  subst er_4
  refine lv_astore (pc := 12) (lv' := [(5, .ref (ad (nn q_))), (4, .ref (ad (nn r_))), (0, .ref (ad 15)), (1, .int r_), (2, .int q_), (3, .int w_)]) hx hb dX3_over_12 hl (by decide) rfl (fun ls hl => ?_)
  refine lv_aload_n (pc := 14) hx hb dX3_over_14 rfl (lv_at hl 2 rfl) ?_
  refine lv_iload_n (pc := 15) hx hb dX3_over_15 rfl (lv_at hl 5 rfl) ?_
  have hZ := hS.1
  refine kx_r (pc := 16) (kx_V E hC hS hA hl.1 (c1.recv hC hW.obj rfl) rfl (c_X3_ratioAt l hlst D tk N0 sa hAD H.size g w_ ) kw_809 kw_811 kp_15 kw_1 kw_812 (n := 1) (by decide +kernel) rfl ⟨⟨rfl, rfl⟩, ⟨by decide, by decide⟩, by decide, by decide⟩ rfl (Nat.le_of_ble_eq_true rfl) hW dX3_over_16) hS (fun q z w => absurd w (Nat.not_le.mpr z)) hn hlk htb hU (fun E9 h9 => by rcases h9 with ⟨rfl, h9⟩ <;> first | (simp [h9]; done) | (simp [xo, h9, ek_2, ek_5]; done)) ⟨by decide, by decide⟩ (fun r_7 H locs hR hz hk hS => ?_)
  have hU := fun q (hq : q < s.heap.size) => (hk q (Nat.lt_of_lt_of_le hq hZ) (Nat.not_le.mpr (Nat.lt_of_lt_of_le hq hZ))).trans (hU q hq)
  obtain ⟨ek_8, er_7⟩ := hR
  have hW := hW.new hk
  have hi_9 : nn w_ < 15 := Nat.lt_of_lt_of_le (bR_lt ek_8) (by decide)
  subst er_7
  refine lv_astore (pc := 19) (lv' := [(6, .ref (ad (nn w_))), (5, .ref (ad (nn q_))), (4, .ref (ad (nn r_))), (0, .ref (ad 15)), (1, .int r_), (2, .int q_), (3, .int w_)]) hx hb dX3_over_19 hl (by decide) rfl (fun ls hl => ?_)
  refine lv_aload (pc := 21) hx hb dX3_over_21 (lv_at hl 0 rfl) ?_
  have hZ := hS.1
  refine k_i (pc := 23) (k_V E hC hS hA hl.1 (c1.recv hC (hW.fr (i := (nn w_)) hi_9) rfl) rfl (c_X0_sign l D tk N0 sa hAD H.size g ((nn w_)) hi_9 ) kw_613 kw_614 kw_615 kw_2 kw_616 (n := 0) (by decide +kernel) rfl ⟨⟨rfl, rfl⟩, ⟨by decide, by decide⟩, by decide, by decide⟩ rfl (Nat.le_of_ble_eq_true rfl) hW dX3_over_23) hS (fun q z w => absurd w (Nat.not_le.mpr z)) hn (fun r_10 H locs hR hz hk hS => ?_)
  have hU := fun q (hq : q < s.heap.size) => (hk q (Nat.lt_of_lt_of_le hq hZ) (Nat.not_le.mpr (Nat.lt_of_lt_of_le hq hZ))).trans (hU q hq)
  have er_10 := hR
  have hW := hW.new hk
  refine lv_if_ne (pc := 26) (tgt := 34) hx hb dX3_over_26 (by decide) (fun c_12 => ?_) (fun c_12 => ?_)
  · refine lv_aload_n (pc := 34) hx hb dX3_over_34 rfl (lv_at hl 3 rfl) ?_
    refine r_get (pc := 35) E hC hW.obj 5 (v := .ref (ad 6)) rfl rfl (by decide) uX3 (List.mem_cons_of_mem _ kw_119) (fun _ h => h) dX3_over_35 ?_
    refine lv_aload (pc := 38) hx hb dX3_over_38 (lv_at hl 1 rfl) ?_
    refine lv_aload (pc := 40) hx hb dX3_over_40 (lv_at hl 0 rfl) ?_
    refine k_v (pc := 42) (k_V E hC hS hA hl.1 (c1.recv hC (hW.fr (i := 6) (by decide)) rfl) rfl (c_X0_becomeQuotient l D tk N0 sa hAD H.size g 6 (by decide) ((nn q_)) hi_6 ((nn w_)) hi_9 ) kw_901 kw_902 kw_903 kw_2 kw_904 (n := 2) (by decide +kernel) rfl ⟨⟨rfl, rfl⟩, ⟨by decide, by decide⟩, by decide, by decide⟩ rfl (Nat.le_of_ble_eq_true rfl) hW dX3_over_42) hS (fun q _ w => cwA.go hS.1 q w) hn (fun H locs hR hz hk hS => ?_)
    have hW := hR
    obtain ⟨g_15, eg_15⟩ : ∃ z, z = f_quo g 6 ((nn q_)) ((nn w_)) := ⟨_, rfl⟩
    rw [← eg_15] at hW
    refine lv_aload_n (pc := 45) hx hb dX3_over_45 rfl (lv_at hl 3 rfl) ?_
    refine lv_aload (pc := 46) hx hb dX3_over_46 (lv_at hl 2 rfl) ?_
    refine k_i (pc := 48) (k_V E hC hS hA hl.1 (c1.recv hC hW.obj rfl) rfl (c_X3_settle l D tk N0 sa hAD H.size g_15 ((nn r_)) hi_3 ) kw_830 kw_832 kp_16 kw_1 kw_833 (n := 1) (by decide +kernel) rfl ⟨⟨rfl, rfl⟩, ⟨by decide, by decide⟩, by decide, by decide⟩ rfl (Nat.le_of_ble_eq_true rfl) hW dX3_over_48) hS (fun q _ w => cwA.go hS.1 q w) hn (fun r_16 H locs hR hz hk hS => ?_)
    obtain ⟨er_16, hW⟩ := hR
    obtain ⟨g_18, eg_18⟩ : ∃ z, z = f_setW g_15 ((nn r_)) := ⟨_, rfl⟩
    rw [← eg_18] at hW
    refine vx_ret ?_
    refine r_iret (pc := 51) E hr hlk hS (by decide) (by decide) ?_ dX3_over_51
    exact ⟨(by subst er_10 eg_15 eg_18 er_16; first | assumption | (simp [xo, ek_2, ek_5, ek_8, c_12]; done)), (by subst er_10 eg_15 eg_18 er_16; first | with_reducible rfl | (simp [f_overR, f_overW, c_12, p_TB, p_TV, p_TC, p_TI, p_BT, p_BV, p_BC, p_BI, p_VT, p_VB, p_VC, p_VI, p_CT, p_CB, p_CV, p_CI, p_IT, p_IB, p_IV, p_IC, p_TT, p_BB, p_CC, p_II]; done)), hW.to (by subst er_10 eg_15 eg_18 er_16; first | with_reducible rfl | (simp [f_overR, f_overW, c_12, p_TB, p_TV, p_TC, p_TI, p_BT, p_BV, p_BC, p_BI, p_VT, p_VB, p_VC, p_VI, p_CT, p_CB, p_CV, p_CI, p_IT, p_IB, p_IV, p_IC, p_TT, p_BB, p_CC, p_II]; done))⟩
  · refine lv_aload_n (pc := 29) hx hb dX3_over_29 rfl (lv_at hl 3 rfl) ?_
    refine k_i (pc := 30) (k_V E hC hS hA hl.1 (c1.recv hC hW.obj rfl) rfl (c_X3_refuse l D tk N0 sa hAD H.size g  ) kw_840 kw_842 kp_17 kw_1 kw_843 (n := 0) (by decide +kernel) rfl ⟨⟨rfl, rfl⟩, ⟨by decide, by decide⟩, by decide, by decide⟩ rfl (Nat.le_of_ble_eq_true rfl) hW dX3_over_30) hS (fun q _ w => cwA.go hS.1 q w) hn (fun r_19 H locs hR hz hk hS => ?_)
    obtain ⟨er_19, hW⟩ := hR
    obtain ⟨g_21, eg_21⟩ : ∃ z, z = f_refW g := ⟨_, rfl⟩
    rw [← eg_21] at hW
    refine vx_ret ?_
    refine r_iret (pc := 33) E hr hlk hS (by decide) (by decide) ?_ dX3_over_33
    exact ⟨(by subst er_10 eg_21 er_19; first | assumption | (simp [xo, ek_2, ek_5, ek_8, c_12]; done)), (by subst er_10 eg_21 er_19; first | with_reducible rfl | (simp [f_overR, f_overW, c_12, p_TB, p_TV, p_TC, p_TI, p_BT, p_BV, p_BC, p_BI, p_VT, p_VB, p_VC, p_VI, p_CT, p_CB, p_CV, p_CI, p_IT, p_IB, p_IV, p_IC, p_TT, p_BB, p_CC, p_II]; done)), hW.to (by subst er_10 eg_21 er_19; first | with_reducible rfl | (simp [f_overR, f_overW, c_12, p_TB, p_TV, p_TC, p_TI, p_BT, p_BV, p_BC, p_BI, p_VT, p_VB, p_VC, p_VI, p_CT, p_CB, p_CV, p_CI, p_IT, p_IB, p_IV, p_IC, p_TT, p_BB, p_CC, p_II]; done))⟩
set_option maxHeartbeats 4000000 in
set_option maxRecDepth 100000 in
/-- Bestratios.negate(I)I -/
theorem c_X3_negate (l : Launch) (hlst : l.stackTraces = false) (D : va_G) (tk : Nat → ClassId) (N0 : Nat) (sa : Nat → Nat) {ad : Nat → Nat} (hAD : ADok N0 ad) (sz : Nat) (g : CS) (r_ : Int32) : vx_Met l yX3_negate (wsy yX3_negate cX3_negate 3 (some .int)) ({ frames := 7, cells := 1, slots := 6, locals := 111 } : Room) (cP D tk N0 sa [.ref (ad 15), .int r_] sz (fun H => CW D tk ad g H)) (kQi (fun r H => bR r_ = 0 ∧ r = f_setR (f_become g 6 (-tT g (nn r_)) (tB g (nn r_))) (nn r_) ∧ CW D tk ad (f_setW (f_become g 6 (-tT g (nn r_)) (tB g (nn r_))) (nn r_)) H) (cwA ad sz)) (kX (fun E => (E = "java/lang/IndexOutOfBoundsException" ∧ bR r_ = 1)) sz) (1) (6) (cwA ad sz) := by
  refine mStartX RX3 rfl (by decide +kernel) (Nat.le_of_ble_eq_true rfl) ?_
  intro p e s m args below meth c E hr hlk htb hsz hC hF ls hl
  subst hsz
  obtain ⟨hx, hb, -⟩ := id E
  have hA : ∀ q, (cwA ad s.heap.size) q → N0 ≤ q := cwA.ge hAD hC.2.1
  have hn : ∀ q, s.heap.size ≤ q → (cwA ad s.heap.size) q := fun q h => Or.inr h
  have hS : va_S (cwA ad s.heap.size) s.heap s.heap [] := va_S.rf
  have hU : ∀ q, q < s.heap.size → s.heap[q]? = s.heap[q]? := fun _ _ => rfl
  have hl : lv_has ls 3 [(0, .ref (ad 15)), (1, .int r_)] := hl
  have hW : CW D tk ad g s.heap := hF
  refine lv_aload_n (pc := 0) hx hb dX3_negate_0 rfl (lv_at hl 0 rfl) ?_
  refine lv_iload_n (pc := 1) hx hb dX3_negate_1 rfl (lv_at hl 1 rfl) ?_
  have hZ := hS.1
  refine kx_r (pc := 2) (kx_V E hC hS hA hl.1 (c1.recv hC hW.obj rfl) rfl (c_X3_ratioAt l hlst D tk N0 sa hAD s.heap.size g r_ ) kw_809 kw_811 kp_15 kw_1 kw_812 (n := 1) (by decide +kernel) rfl ⟨⟨rfl, rfl⟩, ⟨by decide, by decide⟩, by decide, by decide⟩ rfl (Nat.le_of_ble_eq_true rfl) hW dX3_negate_2) hS (fun q z w => absurd w (Nat.not_le.mpr z)) hn hlk htb hU (fun E9 h9 => by rcases h9 with ⟨rfl, h9⟩ <;> first | (simp [h9]; done) | (simp [xo, h9]; done)) ⟨by decide, by decide⟩ (fun r_1 H locs hR hz hk hS => ?_)
  have hU := fun q (hq : q < s.heap.size) => (hk q (Nat.lt_of_lt_of_le hq hZ) (Nat.not_le.mpr (Nat.lt_of_lt_of_le hq hZ))).trans (hU q hq)
  obtain ⟨ek_2, er_1⟩ := hR
  have hW := hW.new hk
  have hi_3 : nn r_ < 15 := Nat.lt_of_lt_of_le (bR_lt ek_2) (by decide)
  subst er_1
  refine lv_astore_n (pc := 5) (lv' := [(2, .ref (ad (nn r_))), (0, .ref (ad 15)), (1, .int r_)]) hx hb dX3_negate_5 rfl hl (by decide) rfl (fun ls hl => ?_)
  refine lv_aload_n (pc := 6) hx hb dX3_negate_6 rfl (lv_at hl 1 rfl) ?_
  refine r_get (pc := 7) E hC hW.obj 5 (v := .ref (ad 6)) rfl rfl (by decide) uX3 (List.mem_cons_of_mem _ kw_119) (fun _ h => h) dX3_negate_7 ?_
  refine lv_aload_n (pc := 10) hx hb dX3_negate_10 rfl (lv_at hl 0 rfl) ?_
  refine r_getN (pc := 11) "Bestratios" E hC (hW.fr (i := (nn r_)) hi_3) 0 (v := .long (tT g ((nn r_)))) rfl rfl (by decide) uX0 kn_52 (fun _ h => h) dX3_negate_11 ?_
  refine lv_lneg (pc := 14) hx hb dX3_negate_14 ?_
  refine lv_aload_n (pc := 15) hx hb dX3_negate_15 rfl (lv_at hl 0 rfl) ?_
  refine r_getN (pc := 16) "Bestratios" E hC (hW.fr (i := (nn r_)) hi_3) 1 (v := .long (tB g ((nn r_)))) rfl rfl (by decide) uX0 kn_55 (fun _ h => h) dX3_negate_16 ?_
  refine k_v (pc := 19) (k_V E hC hS hA hl.1 (c1.recv hC (hW.fr (i := 6) (by decide)) rfl) rfl (c_X0_become l D tk N0 sa hAD H.size g 6 (by decide) (-(tT g ((nn r_)))) (tB g ((nn r_))) ) kw_829 kw_495 kw_496 kw_2 kw_497 (n := 2) (by decide +kernel) rfl ⟨⟨rfl, rfl⟩, ⟨by decide, by decide⟩, by decide, by decide⟩ rfl (Nat.le_of_ble_eq_true rfl) hW dX3_negate_19) hS (fun q _ w => cwA.go hS.1 q w) hn (fun H locs hR hz hk hS => ?_)
  have hW := hR
  obtain ⟨g_6, eg_6⟩ : ∃ z, z = f_become g 6 (-(tT g ((nn r_)))) (tB g ((nn r_))) := ⟨_, rfl⟩
  rw [← eg_6] at hW
  refine lv_aload_n (pc := 22) hx hb dX3_negate_22 rfl (lv_at hl 1 rfl) ?_
  refine lv_aload_n (pc := 23) hx hb dX3_negate_23 rfl (lv_at hl 0 rfl) ?_
  refine k_i (pc := 24) (k_V E hC hS hA hl.1 (c1.recv hC hW.obj rfl) rfl (c_X3_settle l D tk N0 sa hAD H.size g_6 ((nn r_)) hi_3 ) kw_830 kw_832 kp_16 kw_1 kw_833 (n := 1) (by decide +kernel) rfl ⟨⟨rfl, rfl⟩, ⟨by decide, by decide⟩, by decide, by decide⟩ rfl (Nat.le_of_ble_eq_true rfl) hW dX3_negate_24) hS (fun q _ w => cwA.go hS.1 q w) hn (fun r_7 H locs hR hz hk hS => ?_)
  obtain ⟨er_7, hW⟩ := hR
  obtain ⟨g_9, eg_9⟩ : ∃ z, z = f_setW g_6 ((nn r_)) := ⟨_, rfl⟩
  rw [← eg_9] at hW
  refine vx_ret ?_
  refine r_iret (pc := 27) E hr hlk hS (by decide) (by decide) ?_ dX3_negate_27
  exact ⟨(by subst eg_6 eg_9 er_7; first | assumption | (simp [xo, ek_2]; done)), (by subst eg_6 eg_9 er_7; first | with_reducible rfl | (simp [p_TB, p_TV, p_TC, p_TI, p_BT, p_BV, p_BC, p_BI, p_VT, p_VB, p_VC, p_VI, p_CT, p_CB, p_CV, p_CI, p_IT, p_IB, p_IV, p_IC, p_TT, p_BB, p_CC, p_II]; done) | rfl), hW.to (by subst eg_6 eg_9 er_7; first | with_reducible rfl | (simp [p_TB, p_TV, p_TC, p_TI, p_BT, p_BV, p_BC, p_BI, p_VT, p_VB, p_VC, p_VI, p_CT, p_CB, p_CV, p_CI, p_IT, p_IB, p_IV, p_IC, p_TT, p_BB, p_CC, p_II]; done) | rfl)⟩
set_option maxHeartbeats 4000000 in
set_option maxRecDepth 100000 in
/-- Bestratios.invert(I)I -/
theorem c_X3_invert (l : Launch) (hlst : l.stackTraces = false) (D : va_G) (tk : Nat → ClassId) (N0 : Nat) (sa : Nat → Nat) {ad : Nat → Nat} (hAD : ADok N0 ad) (sz : Nat) (g : CS) (r_ : Int32) : vx_Met l yX3_invert (wsy yX3_invert cX3_invert 3 (some .int)) ({ frames := 7, cells := 1, slots := 6, locals := 111 } : Room) (cP D tk N0 sa [.ref (ad 15), .int r_] sz (fun H => CW D tk ad g H)) (kQi (fun r H => bR r_ = 0 ∧ r = f_invR g (nn r_) ∧ CW D tk ad (f_invW g (nn r_)) H) (cwA ad sz)) (kX (fun E => (E = "java/lang/IndexOutOfBoundsException" ∧ bR r_ = 1)) sz) (1) (6) (cwA ad sz) := by
  refine mStartX RX3 rfl (by decide +kernel) (Nat.le_of_ble_eq_true rfl) ?_
  intro p e s m args below meth c E hr hlk htb hsz hC hF ls hl
  subst hsz
  obtain ⟨hx, hb, -⟩ := id E
  have hA : ∀ q, (cwA ad s.heap.size) q → N0 ≤ q := cwA.ge hAD hC.2.1
  have hn : ∀ q, s.heap.size ≤ q → (cwA ad s.heap.size) q := fun q h => Or.inr h
  have hS : va_S (cwA ad s.heap.size) s.heap s.heap [] := va_S.rf
  have hU : ∀ q, q < s.heap.size → s.heap[q]? = s.heap[q]? := fun _ _ => rfl
  have hl : lv_has ls 3 [(0, .ref (ad 15)), (1, .int r_)] := hl
  have hW : CW D tk ad g s.heap := hF
  refine lv_aload_n (pc := 0) hx hb dX3_invert_0 rfl (lv_at hl 0 rfl) ?_
  refine lv_iload_n (pc := 1) hx hb dX3_invert_1 rfl (lv_at hl 1 rfl) ?_
  have hZ := hS.1
  refine kx_r (pc := 2) (kx_V E hC hS hA hl.1 (c1.recv hC hW.obj rfl) rfl (c_X3_ratioAt l hlst D tk N0 sa hAD s.heap.size g r_ ) kw_809 kw_811 kp_15 kw_1 kw_812 (n := 1) (by decide +kernel) rfl ⟨⟨rfl, rfl⟩, ⟨by decide, by decide⟩, by decide, by decide⟩ rfl (Nat.le_of_ble_eq_true rfl) hW dX3_invert_2) hS (fun q z w => absurd w (Nat.not_le.mpr z)) hn hlk htb hU (fun E9 h9 => by rcases h9 with ⟨rfl, h9⟩ <;> first | (simp [h9]; done) | (simp [xo, h9]; done)) ⟨by decide, by decide⟩ (fun r_1 H locs hR hz hk hS => ?_)
  have hU := fun q (hq : q < s.heap.size) => (hk q (Nat.lt_of_lt_of_le hq hZ) (Nat.not_le.mpr (Nat.lt_of_lt_of_le hq hZ))).trans (hU q hq)
  obtain ⟨ek_2, er_1⟩ := hR
  have hW := hW.new hk
  have hi_3 : nn r_ < 15 := Nat.lt_of_lt_of_le (bR_lt ek_2) (by decide)
  subst er_1
  refine lv_astore_n (pc := 5) (lv' := [(2, .ref (ad (nn r_))), (0, .ref (ad 15)), (1, .int r_)]) hx hb dX3_invert_5 rfl hl (by decide) rfl (fun ls hl => ?_)
  refine lv_aload_n (pc := 6) hx hb dX3_invert_6 rfl (lv_at hl 0 rfl) ?_
  have hZ := hS.1
  refine k_i (pc := 7) (k_V E hC hS hA hl.1 (c1.recv hC (hW.fr (i := (nn r_)) hi_3) rfl) rfl (c_X0_sign l D tk N0 sa hAD H.size g ((nn r_)) hi_3 ) kw_613 kw_614 kw_615 kw_2 kw_616 (n := 0) (by decide +kernel) rfl ⟨⟨rfl, rfl⟩, ⟨by decide, by decide⟩, by decide, by decide⟩ rfl (Nat.le_of_ble_eq_true rfl) hW dX3_invert_7) hS (fun q z w => absurd w (Nat.not_le.mpr z)) hn (fun r_4 H locs hR hz hk hS => ?_)
  have hU := fun q (hq : q < s.heap.size) => (hk q (Nat.lt_of_lt_of_le hq hZ) (Nat.not_le.mpr (Nat.lt_of_lt_of_le hq hZ))).trans (hU q hq)
  have er_4 := hR
  have hW := hW.new hk
  refine lv_if_ne (pc := 10) (tgt := 18) hx hb dX3_invert_10 (by decide) (fun c_6 => ?_) (fun c_6 => ?_)
  · refine lv_aload_n (pc := 18) hx hb dX3_invert_18 rfl (lv_at hl 1 rfl) ?_
    refine r_get (pc := 19) E hC hW.obj 5 (v := .ref (ad 6)) rfl rfl (by decide) uX3 (List.mem_cons_of_mem _ kw_119) (fun _ h => h) dX3_invert_19 ?_
    refine lv_aload_n (pc := 22) hx hb dX3_invert_22 rfl (lv_at hl 0 rfl) ?_
    refine r_getN (pc := 23) "Bestratios" E hC (hW.fr (i := (nn r_)) hi_3) 1 (v := .long (tB g ((nn r_)))) rfl rfl (by decide) uX0 kn_55 (fun _ h => h) dX3_invert_23 ?_
    refine lv_aload_n (pc := 26) hx hb dX3_invert_26 rfl (lv_at hl 0 rfl) ?_
    refine r_getN (pc := 27) "Bestratios" E hC (hW.fr (i := (nn r_)) hi_3) 0 (v := .long (tT g ((nn r_)))) rfl rfl (by decide) uX0 kn_52 (fun _ h => h) dX3_invert_27 ?_
    refine k_v (pc := 30) (k_V E hC hS hA hl.1 (c1.recv hC (hW.fr (i := 6) (by decide)) rfl) rfl (c_X0_become l D tk N0 sa hAD H.size g 6 (by decide) (tB g ((nn r_))) (tT g ((nn r_))) ) kw_829 kw_495 kw_496 kw_2 kw_497 (n := 2) (by decide +kernel) rfl ⟨⟨rfl, rfl⟩, ⟨by decide, by decide⟩, by decide, by decide⟩ rfl (Nat.le_of_ble_eq_true rfl) hW dX3_invert_30) hS (fun q _ w => cwA.go hS.1 q w) hn (fun H locs hR hz hk hS => ?_)
    have hW := hR
    obtain ⟨g_9, eg_9⟩ : ∃ z, z = f_become g 6 (tB g ((nn r_))) (tT g ((nn r_))) := ⟨_, rfl⟩
    rw [← eg_9] at hW
    refine lv_aload_n (pc := 33) hx hb dX3_invert_33 rfl (lv_at hl 1 rfl) ?_
    refine lv_aload_n (pc := 34) hx hb dX3_invert_34 rfl (lv_at hl 0 rfl) ?_
    refine k_i (pc := 35) (k_V E hC hS hA hl.1 (c1.recv hC hW.obj rfl) rfl (c_X3_settle l D tk N0 sa hAD H.size g_9 ((nn r_)) hi_3 ) kw_830 kw_832 kp_16 kw_1 kw_833 (n := 1) (by decide +kernel) rfl ⟨⟨rfl, rfl⟩, ⟨by decide, by decide⟩, by decide, by decide⟩ rfl (Nat.le_of_ble_eq_true rfl) hW dX3_invert_35) hS (fun q _ w => cwA.go hS.1 q w) hn (fun r_10 H locs hR hz hk hS => ?_)
    obtain ⟨er_10, hW⟩ := hR
    obtain ⟨g_12, eg_12⟩ : ∃ z, z = f_setW g_9 ((nn r_)) := ⟨_, rfl⟩
    rw [← eg_12] at hW
    refine vx_ret ?_
    refine r_iret (pc := 38) E hr hlk hS (by decide) (by decide) ?_ dX3_invert_38
    exact ⟨(by subst er_4 eg_9 eg_12 er_10; first | assumption | (simp [xo, ek_2, c_6]; done)), (by subst er_4 eg_9 eg_12 er_10; first | with_reducible rfl | (simp [f_invR, f_invW, c_6, p_TB, p_TV, p_TC, p_TI, p_BT, p_BV, p_BC, p_BI, p_VT, p_VB, p_VC, p_VI, p_CT, p_CB, p_CV, p_CI, p_IT, p_IB, p_IV, p_IC, p_TT, p_BB, p_CC, p_II]; done)), hW.to (by subst er_4 eg_9 eg_12 er_10; first | with_reducible rfl | (simp [f_invR, f_invW, c_6, p_TB, p_TV, p_TC, p_TI, p_BT, p_BV, p_BC, p_BI, p_VT, p_VB, p_VC, p_VI, p_CT, p_CB, p_CV, p_CI, p_IT, p_IB, p_IV, p_IC, p_TT, p_BB, p_CC, p_II]; done))⟩
  · refine lv_aload_n (pc := 13) hx hb dX3_invert_13 rfl (lv_at hl 1 rfl) ?_
    refine k_i (pc := 14) (k_V E hC hS hA hl.1 (c1.recv hC hW.obj rfl) rfl (c_X3_refuse l D tk N0 sa hAD H.size g  ) kw_840 kw_842 kp_17 kw_1 kw_843 (n := 0) (by decide +kernel) rfl ⟨⟨rfl, rfl⟩, ⟨by decide, by decide⟩, by decide, by decide⟩ rfl (Nat.le_of_ble_eq_true rfl) hW dX3_invert_14) hS (fun q _ w => cwA.go hS.1 q w) hn (fun r_13 H locs hR hz hk hS => ?_)
    obtain ⟨er_13, hW⟩ := hR
    obtain ⟨g_15, eg_15⟩ : ∃ z, z = f_refW g := ⟨_, rfl⟩
    rw [← eg_15] at hW
    refine vx_ret ?_
    refine r_iret (pc := 17) E hr hlk hS (by decide) (by decide) ?_ dX3_invert_17
    exact ⟨(by subst er_4 eg_15 er_13; first | assumption | (simp [xo, ek_2, c_6]; done)), (by subst er_4 eg_15 er_13; first | with_reducible rfl | (simp [f_invR, f_invW, c_6, p_TB, p_TV, p_TC, p_TI, p_BT, p_BV, p_BC, p_BI, p_VT, p_VB, p_VC, p_VI, p_CT, p_CB, p_CV, p_CI, p_IT, p_IB, p_IV, p_IC, p_TT, p_BB, p_CC, p_II]; done)), hW.to (by subst er_4 eg_15 er_13; first | with_reducible rfl | (simp [f_invR, f_invW, c_6, p_TB, p_TV, p_TC, p_TI, p_BT, p_BV, p_BC, p_BI, p_VT, p_VB, p_VC, p_VI, p_CT, p_CB, p_CV, p_CI, p_IT, p_IB, p_IV, p_IC, p_TT, p_BB, p_CC, p_II]; done))⟩
set_option maxHeartbeats 4000000 in
set_option maxRecDepth 100000 in
/-- Bestratios.raise(II)I -/
theorem c_X3_raise (l : Launch) (hlst : l.stackTraces = false) (D : va_G) (tk : Nat → ClassId) (N0 : Nat) (sa : Nat → Nat) {ad : Nat → Nat} (hAD : ADok N0 ad) (sz : Nat) (g : CS) (r_ : Int32) (tm : Int32) : vx_Met l yX3_raise (wsy yX3_raise cX3_raise 4 (some .int)) ({ frames := 7, cells := 2, slots := 12, locals := 112 } : Room) (cP D tk N0 sa [.ref (ad 15), .int r_, .int tm] sz (fun H => CW D tk ad g H)) (kQi (fun r H => xo (bR r_) (2 * bW tm (-6) 6) = 0 ∧ r = f_raiR g (nn r_) tm ∧ CW D tk ad (f_raiW g (nn r_) tm) H) (cwA ad sz)) (kX (fun E => (E = "java/lang/IndexOutOfBoundsException" ∧ xo (bR r_) (2 * bW tm (-6) 6) = 1) ∨ (E = "java/lang/IllegalArgumentException" ∧ xo (bR r_) (2 * bW tm (-6) 6) = 2)) sz) (2) (12) (cwA ad sz) := by
  refine mStartX RX3 rfl (by decide +kernel) (Nat.le_of_ble_eq_true rfl) ?_
  intro p e s m args below meth c E hr hlk htb hsz hC hF ls hl
  subst hsz
  obtain ⟨hx, hb, -⟩ := id E
  have hA : ∀ q, (cwA ad s.heap.size) q → N0 ≤ q := cwA.ge hAD hC.2.1
  have hn : ∀ q, s.heap.size ≤ q → (cwA ad s.heap.size) q := fun q h => Or.inr h
  have hS : va_S (cwA ad s.heap.size) s.heap s.heap [] := va_S.rf
  have hU : ∀ q, q < s.heap.size → s.heap[q]? = s.heap[q]? := fun _ _ => rfl
  have hl : lv_has ls 4 [(0, .ref (ad 15)), (1, .int r_), (2, .int tm)] := hl
  have hW : CW D tk ad g s.heap := hF
  refine lv_aload_n (pc := 0) hx hb dX3_raise_0 rfl (lv_at hl 0 rfl) ?_
  refine lv_iload_n (pc := 1) hx hb dX3_raise_1 rfl (lv_at hl 1 rfl) ?_
  have hZ := hS.1
  refine kx_r (pc := 2) (kx_V E hC hS hA hl.1 (c1.recv hC hW.obj rfl) rfl (c_X3_ratioAt l hlst D tk N0 sa hAD s.heap.size g r_ ) kw_809 kw_811 kp_15 kw_1 kw_812 (n := 1) (by decide +kernel) rfl ⟨⟨rfl, rfl⟩, ⟨by decide, by decide⟩, by decide, by decide⟩ rfl (Nat.le_of_ble_eq_true rfl) hW dX3_raise_2) hS (fun q z w => absurd w (Nat.not_le.mpr z)) hn hlk htb hU (fun E9 h9 => by rcases h9 with ⟨rfl, h9⟩ <;> first | (simp [h9]; done) | (simp [xo, h9]; done)) ⟨by decide, by decide⟩ (fun r_1 H locs hR hz hk hS => ?_)
  have hU := fun q (hq : q < s.heap.size) => (hk q (Nat.lt_of_lt_of_le hq hZ) (Nat.not_le.mpr (Nat.lt_of_lt_of_le hq hZ))).trans (hU q hq)
  obtain ⟨ek_2, er_1⟩ := hR
  have hW := hW.new hk
  have hi_3 : nn r_ < 15 := Nat.lt_of_lt_of_le (bR_lt ek_2) (by decide)
  subst er_1
  refine lv_astore_n (pc := 5) (lv' := [(3, .ref (ad (nn r_))), (0, .ref (ad 15)), (1, .int r_), (2, .int tm)]) hx hb dX3_raise_5 rfl hl (by decide) rfl (fun ls hl => ?_)
  refine lv_iload_n (pc := 6) hx hb dX3_raise_6 rfl (lv_at hl 3 rfl) ?_
  refine lv_bipush (pc := 7) (v := (-6)) hx hb dX3_raise_7 (by decide) ?_
  refine lv_bipush (pc := 9) (v := 6) hx hb dX3_raise_9 (by decide) ?_
  have hZ := hS.1
  refine kx_v (pc := 11) (kx_S E hC hS hA hl.1 (c_X3_requireWithin l hlst D tk N0 sa H.size tm ((-6)) 6 ) kw_851 kw_852 kw_1 kw_853 (n := 3) (by decide +kernel) rfl ⟨⟨rfl, rfl⟩, ⟨by decide, by decide⟩, by decide, by decide⟩ rfl (Nat.le_of_ble_eq_true rfl) trivial dX3_raise_11) hS (fun q z w => absurd w (Nat.not_le.mpr z)) hn hlk htb hU (fun E9 h9 => by rcases h9 with ⟨rfl, h9⟩ <;> first | (simp [h9]; done) | (simp [xo, h9, ek_2]; done)) ⟨by decide, by decide⟩ (fun H locs hR hz hk hS => ?_)
  have hU := fun q (hq : q < s.heap.size) => (hk q (Nat.lt_of_lt_of_le hq hZ) (Nat.not_le.mpr (Nat.lt_of_lt_of_le hq hZ))).trans (hU q hq)
  have ek_5 := hR
  have hW := hW.new hk
  refine lv_iload_n (pc := 14) hx hb dX3_raise_14 rfl (lv_at hl 3 rfl) ?_
  refine lv_if_ge (pc := 15) (tgt := 30) hx hb dX3_raise_15 (by decide) (fun c_6 => ?_) (fun c_6 => ?_)
  · refine lv_aload_n (pc := 30) hx hb dX3_raise_30 rfl (lv_at hl 1 rfl) ?_
    refine r_get (pc := 31) E hC hW.obj 5 (v := .ref (ad 6)) rfl rfl (by decide) uX3 (List.mem_cons_of_mem _ kw_119) (fun _ h => h) dX3_raise_31 ?_
    refine lv_aload_n (pc := 34) hx hb dX3_raise_34 rfl (lv_at hl 0 rfl) ?_
    refine lv_iload_n (pc := 35) hx hb dX3_raise_35 rfl (lv_at hl 3 rfl) ?_
    refine k_v (pc := 36) (k_V E hC hS hA hl.1 (c1.recv hC (hW.fr (i := 6) (by decide)) rfl) rfl (c_X0_becomePower l D tk N0 sa hAD H.size g 6 (by decide) ((nn r_)) hi_3 tm ) kw_926 kw_927 kw_928 kw_2 kw_929 (n := 2) (by decide +kernel) rfl ⟨⟨rfl, rfl⟩, ⟨by decide, by decide⟩, by decide, by decide⟩ rfl (Nat.le_of_ble_eq_true rfl) hW dX3_raise_36) hS (fun q _ w => cwA.go hS.1 q w) hn (fun H locs hR hz hk hS => ?_)
    have hW := hR
    obtain ⟨g_9, eg_9⟩ : ∃ z, z = f_power g 6 ((nn r_)) tm := ⟨_, rfl⟩
    rw [← eg_9] at hW
    refine lv_aload_n (pc := 39) hx hb dX3_raise_39 rfl (lv_at hl 1 rfl) ?_
    refine lv_aload_n (pc := 40) hx hb dX3_raise_40 rfl (lv_at hl 0 rfl) ?_
    refine k_i (pc := 41) (k_V E hC hS hA hl.1 (c1.recv hC hW.obj rfl) rfl (c_X3_settle l D tk N0 sa hAD H.size g_9 ((nn r_)) hi_3 ) kw_830 kw_832 kp_16 kw_1 kw_833 (n := 1) (by decide +kernel) rfl ⟨⟨rfl, rfl⟩, ⟨by decide, by decide⟩, by decide, by decide⟩ rfl (Nat.le_of_ble_eq_true rfl) hW dX3_raise_41) hS (fun q _ w => cwA.go hS.1 q w) hn (fun r_10 H locs hR hz hk hS => ?_)
    obtain ⟨er_10, hW⟩ := hR
    obtain ⟨g_12, eg_12⟩ : ∃ z, z = f_setW g_9 ((nn r_)) := ⟨_, rfl⟩
    rw [← eg_12] at hW
    refine vx_ret ?_
    refine r_iret (pc := 44) E hr hlk hS (by decide) (by decide) ?_ dX3_raise_44
    exact ⟨(by subst eg_9 eg_12 er_10; first | assumption | (simp [xo, ek_2, ek_5, c_6, Int32.not_lt.mpr c_6]; done)), (by subst eg_9 eg_12 er_10; first | with_reducible rfl | (simp [f_raiR, f_raiW, c_6, Int32.not_lt.mpr c_6, p_TB, p_TV, p_TC, p_TI, p_BT, p_BV, p_BC, p_BI, p_VT, p_VB, p_VC, p_VI, p_CT, p_CB, p_CV, p_CI, p_IT, p_IB, p_IV, p_IC, p_TT, p_BB, p_CC, p_II]; done)), hW.to (by subst eg_9 eg_12 er_10; first | with_reducible rfl | (simp [f_raiR, f_raiW, c_6, Int32.not_lt.mpr c_6, p_TB, p_TV, p_TC, p_TI, p_BT, p_BV, p_BC, p_BI, p_VT, p_VB, p_VC, p_VI, p_CT, p_CB, p_CV, p_CI, p_IT, p_IB, p_IV, p_IC, p_TT, p_BB, p_CC, p_II]; done))⟩
  · refine lv_aload_n (pc := 18) hx hb dX3_raise_18 rfl (lv_at hl 0 rfl) ?_
    have hZ := hS.1
    refine k_i (pc := 19) (k_V E hC hS hA hl.1 (c1.recv hC (hW.fr (i := (nn r_)) hi_3) rfl) rfl (c_X0_sign l D tk N0 sa hAD H.size g ((nn r_)) hi_3 ) kw_613 kw_614 kw_615 kw_2 kw_616 (n := 0) (by decide +kernel) rfl ⟨⟨rfl, rfl⟩, ⟨by decide, by decide⟩, by decide, by decide⟩ rfl (Nat.le_of_ble_eq_true rfl) hW dX3_raise_19) hS (fun q z w => absurd w (Nat.not_le.mpr z)) hn (fun r_13 H locs hR hz hk hS => ?_)
    have hU := fun q (hq : q < s.heap.size) => (hk q (Nat.lt_of_lt_of_le hq hZ) (Nat.not_le.mpr (Nat.lt_of_lt_of_le hq hZ))).trans (hU q hq)
    have er_13 := hR
    have hW := hW.new hk
    refine lv_if_ne (pc := 22) (tgt := 30) hx hb dX3_raise_22 (by decide) (fun c_15 => ?_) (fun c_15 => ?_)
    · refine lv_aload_n (pc := 30) hx hb dX3_raise_30 rfl (lv_at hl 1 rfl) ?_
      refine r_get (pc := 31) E hC hW.obj 5 (v := .ref (ad 6)) rfl rfl (by decide) uX3 (List.mem_cons_of_mem _ kw_119) (fun _ h => h) dX3_raise_31 ?_
      refine lv_aload_n (pc := 34) hx hb dX3_raise_34 rfl (lv_at hl 0 rfl) ?_
      refine lv_iload_n (pc := 35) hx hb dX3_raise_35 rfl (lv_at hl 3 rfl) ?_
      refine k_v (pc := 36) (k_V E hC hS hA hl.1 (c1.recv hC (hW.fr (i := 6) (by decide)) rfl) rfl (c_X0_becomePower l D tk N0 sa hAD H.size g 6 (by decide) ((nn r_)) hi_3 tm ) kw_926 kw_927 kw_928 kw_2 kw_929 (n := 2) (by decide +kernel) rfl ⟨⟨rfl, rfl⟩, ⟨by decide, by decide⟩, by decide, by decide⟩ rfl (Nat.le_of_ble_eq_true rfl) hW dX3_raise_36) hS (fun q _ w => cwA.go hS.1 q w) hn (fun H locs hR hz hk hS => ?_)
      have hW := hR
      obtain ⟨g_18, eg_18⟩ : ∃ z, z = f_power g 6 ((nn r_)) tm := ⟨_, rfl⟩
      rw [← eg_18] at hW
      refine lv_aload_n (pc := 39) hx hb dX3_raise_39 rfl (lv_at hl 1 rfl) ?_
      refine lv_aload_n (pc := 40) hx hb dX3_raise_40 rfl (lv_at hl 0 rfl) ?_
      refine k_i (pc := 41) (k_V E hC hS hA hl.1 (c1.recv hC hW.obj rfl) rfl (c_X3_settle l D tk N0 sa hAD H.size g_18 ((nn r_)) hi_3 ) kw_830 kw_832 kp_16 kw_1 kw_833 (n := 1) (by decide +kernel) rfl ⟨⟨rfl, rfl⟩, ⟨by decide, by decide⟩, by decide, by decide⟩ rfl (Nat.le_of_ble_eq_true rfl) hW dX3_raise_41) hS (fun q _ w => cwA.go hS.1 q w) hn (fun r_19 H locs hR hz hk hS => ?_)
      obtain ⟨er_19, hW⟩ := hR
      obtain ⟨g_21, eg_21⟩ : ∃ z, z = f_setW g_18 ((nn r_)) := ⟨_, rfl⟩
      rw [← eg_21] at hW
      refine vx_ret ?_
      refine r_iret (pc := 44) E hr hlk hS (by decide) (by decide) ?_ dX3_raise_44
      exact ⟨(by subst er_13 eg_18 eg_21 er_19; first | assumption | (simp [xo, ek_2, ek_5, c_6, Int32.not_le.mp c_6, c_15]; done)), (by subst er_13 eg_18 eg_21 er_19; first | with_reducible rfl | (simp [f_raiR, f_raiW, c_6, Int32.not_le.mp c_6, c_15, p_TB, p_TV, p_TC, p_TI, p_BT, p_BV, p_BC, p_BI, p_VT, p_VB, p_VC, p_VI, p_CT, p_CB, p_CV, p_CI, p_IT, p_IB, p_IV, p_IC, p_TT, p_BB, p_CC, p_II]; done)), hW.to (by subst er_13 eg_18 eg_21 er_19; first | with_reducible rfl | (simp [f_raiR, f_raiW, c_6, Int32.not_le.mp c_6, c_15, p_TB, p_TV, p_TC, p_TI, p_BT, p_BV, p_BC, p_BI, p_VT, p_VB, p_VC, p_VI, p_CT, p_CB, p_CV, p_CI, p_IT, p_IB, p_IV, p_IC, p_TT, p_BB, p_CC, p_II]; done))⟩
    · refine lv_aload_n (pc := 25) hx hb dX3_raise_25 rfl (lv_at hl 1 rfl) ?_
      refine k_i (pc := 26) (k_V E hC hS hA hl.1 (c1.recv hC hW.obj rfl) rfl (c_X3_refuse l D tk N0 sa hAD H.size g  ) kw_840 kw_842 kp_17 kw_1 kw_843 (n := 0) (by decide +kernel) rfl ⟨⟨rfl, rfl⟩, ⟨by decide, by decide⟩, by decide, by decide⟩ rfl (Nat.le_of_ble_eq_true rfl) hW dX3_raise_26) hS (fun q _ w => cwA.go hS.1 q w) hn (fun r_22 H locs hR hz hk hS => ?_)
      obtain ⟨er_22, hW⟩ := hR
      obtain ⟨g_24, eg_24⟩ : ∃ z, z = f_refW g := ⟨_, rfl⟩
      rw [← eg_24] at hW
      refine vx_ret ?_
      refine r_iret (pc := 29) E hr hlk hS (by decide) (by decide) ?_ dX3_raise_29
      exact ⟨(by subst er_13 eg_24 er_22; first | assumption | (simp [xo, ek_2, ek_5, c_6, Int32.not_le.mp c_6, c_15]; done)), (by subst er_13 eg_24 er_22; first | with_reducible rfl | (simp [f_raiR, f_raiW, c_6, Int32.not_le.mp c_6, c_15, p_TB, p_TV, p_TC, p_TI, p_BT, p_BV, p_BC, p_BI, p_VT, p_VB, p_VC, p_VI, p_CT, p_CB, p_CV, p_CI, p_IT, p_IB, p_IV, p_IC, p_TT, p_BB, p_CC, p_II]; done)), hW.to (by subst er_13 eg_24 er_22; first | with_reducible rfl | (simp [f_raiR, f_raiW, c_6, Int32.not_le.mp c_6, c_15, p_TB, p_TV, p_TC, p_TI, p_BT, p_BV, p_BC, p_BI, p_VT, p_VB, p_VC, p_VI, p_CT, p_CB, p_CV, p_CI, p_IT, p_IB, p_IV, p_IC, p_TT, p_BB, p_CC, p_II]; done))⟩
set_option maxHeartbeats 4000000 in
set_option maxRecDepth 100000 in
/-- Bestratios.partOf(LBestratios$Fraction;I)J -/
theorem c_X3_partOf (l : Launch) (D : va_G) (tk : Nat → ClassId) (N0 : Nat) (sa : Nat → Nat) {ad : Nat → Nat} (hAD : ADok N0 ad) (sz : Nat) (g : CS) (i : Nat) (hi : i < 15) (w_ : Int32) : Met l yX3_partOf (wsy yX3_partOf cX3_partOf 2 (some .long)) ({ frames := 3, cells := 0, slots := 0, locals := 68 } : Room) (cP D tk N0 sa [.ref (ad i), .int w_] sz (fun H => CW D tk ad g H)) (kQl (fun r H => r = f_part g i w_) (nwA sz)) (0) (0) (nwA sz) := by
  refine mStart RX3 rfl (by decide +kernel) (Nat.le_of_ble_eq_true rfl) ?_
  intro p e s m args below meth c E hr hlk hnm hsz hC hF ls hl
  subst hsz
  obtain ⟨hx, hb, -⟩ := id E
  have hA : ∀ q, (nwA s.heap.size) q → N0 ≤ q := fun q h => Nat.le_trans hC.2.1 h
  have hn : ∀ q, s.heap.size ≤ q → (nwA s.heap.size) q := fun q h => h
  have hS : va_S (nwA s.heap.size) s.heap s.heap [] := va_S.rf
  have hl : lv_has ls 2 [(0, .ref (ad i)), (1, .int w_)] := hl
  have hW : CW D tk ad g s.heap := hF
  refine lv_iload_n (pc := 0) hx hb dX3_partOf_0 rfl (lv_at hl 1 rfl) ?_
  by_cases c_1_0 : w_ = 0
  · refine lv_tableIn (pc := 1) (tgt := 28) hx hb dX3_partOf_1 (by rw [c_1_0]; decide) (by rw [c_1_0]; decide) (by rw [c_1_0]; rfl) (by decide) ?_
    refine lv_aload_n (pc := 28) hx hb dX3_partOf_28 rfl (lv_at hl 0 rfl) ?_
    refine r_getN (pc := 29) "Bestratios" E hC (hW.fr (i := i) hi) 0 (v := .long (tT g i)) rfl rfl (by decide) uX0 kn_52 (fun _ h => h) dX3_partOf_29 ?_
    refine r_lret (pc := 32) E hr hlk hS (by decide) (by decide) ?_ dX3_partOf_32
    first | with_reducible rfl | (simp [f_part, c_1_0, p_TB, p_TV, p_TC, p_TI, p_BT, p_BV, p_BC, p_BI, p_VT, p_VB, p_VC, p_VI, p_CT, p_CB, p_CV, p_CI, p_IT, p_IB, p_IV, p_IC, p_TT, p_BB, p_CC, p_II]; done)
  · skip
    by_cases c_1_1 : w_ = 1
    · refine lv_tableIn (pc := 1) (tgt := 33) hx hb dX3_partOf_1 (by rw [c_1_1]; decide) (by rw [c_1_1]; decide) (by rw [c_1_1]; rfl) (by decide) ?_
      refine lv_aload_n (pc := 33) hx hb dX3_partOf_33 rfl (lv_at hl 0 rfl) ?_
      refine r_getN (pc := 34) "Bestratios" E hC (hW.fr (i := i) hi) 1 (v := .long (tB g i)) rfl rfl (by decide) uX0 kn_55 (fun _ h => h) dX3_partOf_34 ?_
      refine r_lret (pc := 37) E hr hlk hS (by decide) (by decide) ?_ dX3_partOf_37
      first | with_reducible rfl | (simp [f_part, c_1_1, p_TB, p_TV, p_TC, p_TI, p_BT, p_BV, p_BC, p_BI, p_VT, p_VB, p_VC, p_VI, p_CT, p_CB, p_CV, p_CI, p_IT, p_IB, p_IV, p_IC, p_TT, p_BB, p_CC, p_II]; done)
    · skip
      by_cases c_1_2 : w_ = 2
      · refine lv_tableIn (pc := 1) (tgt := 38) hx hb dX3_partOf_1 (by rw [c_1_2]; decide) (by rw [c_1_2]; decide) (by rw [c_1_2]; rfl) (by decide) ?_
        refine lv_aload_n (pc := 38) hx hb dX3_partOf_38 rfl (lv_at hl 0 rfl) ?_
        refine k_i (pc := 39) (k_V E hC hS hA hl.1 (c1.recv hC (hW.fr (i := i) hi) rfl) rfl (c_X0_sign l D tk N0 sa hAD s.heap.size g i hi ) kw_613 kw_614 kw_615 kw_2 kw_616 (n := 0) (by decide +kernel) rfl ⟨⟨rfl, rfl⟩, ⟨by decide, by decide⟩, by decide, by decide⟩ rfl (Nat.le_of_ble_eq_true rfl) hW dX3_partOf_39) hS (fun q z w => absurd w (Nat.not_le.mpr z)) hn (fun r_2 H locs hR hz hk hS => ?_)
        have er_2 := hR
        have hW := hW.new hk
        refine lv_i2l (pc := 42) (v := r_2.toInt64) hx hb dX3_partOf_42 rfl ?_
        refine r_lret (pc := 43) E hr hlk hS (by decide) (by decide) ?_ dX3_partOf_43
        subst er_2; first | with_reducible rfl | (simp [f_part, c_1_2, p_TB, p_TV, p_TC, p_TI, p_BT, p_BV, p_BC, p_BI, p_VT, p_VB, p_VC, p_VI, p_CT, p_CB, p_CV, p_CI, p_IT, p_IB, p_IV, p_IC, p_TT, p_BB, p_CC, p_II]; done)
      · skip
        refine lv_tableOut (pc := 1) (tgt := 44) hx hb dX3_partOf_1 (by have z0 := ne_ti (0) (0) (by decide) c_1_0; have z1 := ne_ti (1) (1) (by decide) c_1_1; have z2 := ne_ti (2) (2) (by decide) c_1_2; omega) (by decide) ?_
        refine lv_aload_n (pc := 44) hx hb dX3_partOf_44 rfl (lv_at hl 0 rfl) ?_
        refine k_l (pc := 45) (k_V E hC hS hA hl.1 (c1.recv hC (hW.fr (i := i) hi) rfl) rfl (c_X0_floorPart l D tk N0 sa hAD s.heap.size g i hi ) kw_693 kw_640 kw_641 kw_2 kw_642 (n := 0) (by decide +kernel) rfl ⟨⟨rfl, rfl⟩, ⟨by decide, by decide⟩, by decide, by decide⟩ rfl (Nat.le_of_ble_eq_true rfl) hW dX3_partOf_45) hS (fun q z w => absurd w (Nat.not_le.mpr z)) hn (fun r_4 H locs hR hz hk hS => ?_)
        have er_4 := hR
        have hW := hW.new hk
        refine r_lret (pc := 48) E hr hlk hS (by decide) (by decide) ?_ dX3_partOf_48
        subst er_4; first | with_reducible rfl | (simp [f_part, c_1_0, c_1_1, c_1_2, p_TB, p_TV, p_TC, p_TI, p_BT, p_BV, p_BC, p_BI, p_VT, p_VB, p_VC, p_VI, p_CT, p_CB, p_CV, p_CI, p_IT, p_IB, p_IV, p_IC, p_TT, p_BB, p_CC, p_II]; done)
set_option maxHeartbeats 4000000 in
set_option maxRecDepth 100000 in
/-- Bestratios.part(II)I -/
theorem c_X3_part (l : Launch) (hlst : l.stackTraces = false) (D : va_G) (tk : Nat → ClassId) (N0 : Nat) (sa : Nat → Nat) {ad : Nat → Nat} (hAD : ADok N0 ad) (sz : Nat) (g : CS) (r_ : Int32) (w_ : Int32) : vx_Met l yX3_part (wsy yX3_part cX3_part 4 (some .int)) ({ frames := 7, cells := 2, slots := 12, locals := 112 } : Room) (cP D tk N0 sa [.ref (ad 15), .int r_, .int w_] sz (fun H => CW D tk ad g H)) (kQi (fun r H => xo (bR r_) (2 * bW w_ 0 3) = 0 ∧ r = (f_part g (nn r_) w_).toInt32) (nwA sz)) (kX (fun E => (E = "java/lang/IndexOutOfBoundsException" ∧ xo (bR r_) (2 * bW w_ 0 3) = 1) ∨ (E = "java/lang/IllegalArgumentException" ∧ xo (bR r_) (2 * bW w_ 0 3) = 2)) sz) (2) (12) (nwA sz) := by
  refine mStartX RX3 rfl (by decide +kernel) (Nat.le_of_ble_eq_true rfl) ?_
  intro p e s m args below meth c E hr hlk htb hsz hC hF ls hl
  subst hsz
  obtain ⟨hx, hb, -⟩ := id E
  have hA : ∀ q, (nwA s.heap.size) q → N0 ≤ q := fun q h => Nat.le_trans hC.2.1 h
  have hn : ∀ q, s.heap.size ≤ q → (nwA s.heap.size) q := fun q h => h
  have hS : va_S (nwA s.heap.size) s.heap s.heap [] := va_S.rf
  have hU : ∀ q, q < s.heap.size → s.heap[q]? = s.heap[q]? := fun _ _ => rfl
  have hl : lv_has ls 4 [(0, .ref (ad 15)), (1, .int r_), (2, .int w_)] := hl
  have hW : CW D tk ad g s.heap := hF
  refine lv_aload_n (pc := 0) hx hb dX3_part_0 rfl (lv_at hl 0 rfl) ?_
  refine lv_iload_n (pc := 1) hx hb dX3_part_1 rfl (lv_at hl 1 rfl) ?_
  have hZ := hS.1
  refine kx_r (pc := 2) (kx_V E hC hS hA hl.1 (c1.recv hC hW.obj rfl) rfl (c_X3_ratioAt l hlst D tk N0 sa hAD s.heap.size g r_ ) kw_809 kw_811 kp_15 kw_1 kw_812 (n := 1) (by decide +kernel) rfl ⟨⟨rfl, rfl⟩, ⟨by decide, by decide⟩, by decide, by decide⟩ rfl (Nat.le_of_ble_eq_true rfl) hW dX3_part_2) hS (fun q z w => absurd w (Nat.not_le.mpr z)) hn hlk htb hU (fun E9 h9 => by rcases h9 with ⟨rfl, h9⟩ <;> first | (simp [h9]; done) | (simp [xo, h9]; done)) ⟨by decide, by decide⟩ (fun r_1 H locs hR hz hk hS => ?_)
  have hU := fun q (hq : q < s.heap.size) => (hk q (Nat.lt_of_lt_of_le hq hZ) (Nat.not_le.mpr (Nat.lt_of_lt_of_le hq hZ))).trans (hU q hq)
  obtain ⟨ek_2, er_1⟩ := hR
  have hW := hW.new hk
  have hi_3 : nn r_ < 15 := Nat.lt_of_lt_of_le (bR_lt ek_2) (by decide)
  subst er_1
  refine lv_astore_n (pc := 5) (lv' := [(3, .ref (ad (nn r_))), (0, .ref (ad 15)), (1, .int r_), (2, .int w_)]) hx hb dX3_part_5 rfl hl (by decide) rfl (fun ls hl => ?_)
  refine lv_iload_n (pc := 6) hx hb dX3_part_6 rfl (lv_at hl 3 rfl) ?_
  refine lv_iconst (pc := 7) (v := 0) hx hb dX3_part_7 (by decide) ?_
  refine lv_iconst (pc := 8) (v := 3) hx hb dX3_part_8 (by decide) ?_
  have hZ := hS.1
  refine kx_v (pc := 9) (kx_S E hC hS hA hl.1 (c_X3_requireWithin l hlst D tk N0 sa H.size w_ 0 3 ) kw_851 kw_852 kw_1 kw_853 (n := 3) (by decide +kernel) rfl ⟨⟨rfl, rfl⟩, ⟨by decide, by decide⟩, by decide, by decide⟩ rfl (Nat.le_of_ble_eq_true rfl) trivial dX3_part_9) hS (fun q z w => absurd w (Nat.not_le.mpr z)) hn hlk htb hU (fun E9 h9 => by rcases h9 with ⟨rfl, h9⟩ <;> first | (simp [h9]; done) | (simp [xo, h9, ek_2]; done)) ⟨by decide, by decide⟩ (fun H locs hR hz hk hS => ?_)
  have hU := fun q (hq : q < s.heap.size) => (hk q (Nat.lt_of_lt_of_le hq hZ) (Nat.not_le.mpr (Nat.lt_of_lt_of_le hq hZ))).trans (hU q hq)
  have ek_5 := hR
  have hW := hW.new hk
  refine lv_aload_n (pc := 12) hx hb dX3_part_12 rfl (lv_at hl 0 rfl) ?_
  refine lv_iload_n (pc := 13) hx hb dX3_part_13 rfl (lv_at hl 3 rfl) ?_
  have hZ := hS.1
  refine k_l (pc := 14) (k_S E hC hS hA hl.1 (c_X3_partOf l D tk N0 sa hAD H.size g ((nn r_)) hi_3 w_ ) kw_690 kw_691 kw_1 kw_692 (n := 2) (by decide +kernel) rfl ⟨⟨rfl, rfl⟩, ⟨by decide, by decide⟩, by decide, by decide⟩ rfl (Nat.le_of_ble_eq_true rfl) hW dX3_part_14) hS (fun q z w => absurd w (Nat.not_le.mpr z)) hn (fun r_6 H locs hR hz hk hS => ?_)
  have hU := fun q (hq : q < s.heap.size) => (hk q (Nat.lt_of_lt_of_le hq hZ) (Nat.not_le.mpr (Nat.lt_of_lt_of_le hq hZ))).trans (hU q hq)
  have er_6 := hR
  have hW := hW.new hk
  refine lv_l2i (pc := 17) (v := r_6.toInt32) hx hb dX3_part_17 rfl ?_
  refine vx_ret ?_
  refine r_iret (pc := 18) E hr hlk hS (by decide) (by decide) ?_ dX3_part_18
  exact ⟨(by subst er_6; first | assumption | (simp [xo, ek_2, ek_5]; done)), (by subst er_6; first | with_reducible rfl | (simp [p_TB, p_TV, p_TC, p_TI, p_BT, p_BV, p_BC, p_BI, p_VT, p_VB, p_VC, p_VI, p_CT, p_CB, p_CV, p_CI, p_IT, p_IB, p_IV, p_IC, p_TT, p_BB, p_CC, p_II]; done) | rfl)⟩
set_option maxHeartbeats 4000000 in
set_option maxRecDepth 100000 in
/-- Bestratios.compare(II)I -/
theorem c_X3_compare (l : Launch) (hlst : l.stackTraces = false) (D : va_G) (tk : Nat → ClassId) (N0 : Nat) (sa : Nat → Nat) {ad : Nat → Nat} (hAD : ADok N0 ad) (sz : Nat) (g : CS) (r_ : Int32) (q_ : Int32) : vx_Met l yX3_compare (wsy yX3_compare cX3_compare 3 (some .int)) ({ frames := 7, cells := 2, slots := 12, locals := 111 } : Room) (cP D tk N0 sa [.ref (ad 15), .int r_, .int q_] sz (fun H => CW D tk ad g H)) (kQi (fun r H => xo (bR r_) (bR q_) = 0 ∧ r = f_cmp (tT g (nn r_) * tB g (nn q_)) (tT g (nn q_) * tB g (nn r_))) (nwA sz)) (kX (fun E => (E = "java/lang/IndexOutOfBoundsException" ∧ xo (bR r_) (bR q_) = 1)) sz) (2) (12) (nwA sz) := by
  refine mStartX RX3 rfl (by decide +kernel) (Nat.le_of_ble_eq_true rfl) ?_
  intro p e s m args below meth c E hr hlk htb hsz hC hF ls hl
  subst hsz
  obtain ⟨hx, hb, -⟩ := id E
  have hA : ∀ q, (nwA s.heap.size) q → N0 ≤ q := fun q h => Nat.le_trans hC.2.1 h
  have hn : ∀ q, s.heap.size ≤ q → (nwA s.heap.size) q := fun q h => h
  have hS : va_S (nwA s.heap.size) s.heap s.heap [] := va_S.rf
  have hU : ∀ q, q < s.heap.size → s.heap[q]? = s.heap[q]? := fun _ _ => rfl
  have hl : lv_has ls 3 [(0, .ref (ad 15)), (1, .int r_), (2, .int q_)] := hl
  have hW : CW D tk ad g s.heap := hF
  refine lv_aload_n (pc := 0) hx hb dX3_compare_0 rfl (lv_at hl 0 rfl) ?_
  refine lv_iload_n (pc := 1) hx hb dX3_compare_1 rfl (lv_at hl 1 rfl) ?_
  have hZ := hS.1
  refine kx_r (pc := 2) (kx_V E hC hS hA hl.1 (c1.recv hC hW.obj rfl) rfl (c_X3_ratioAt l hlst D tk N0 sa hAD s.heap.size g r_ ) kw_809 kw_811 kp_15 kw_1 kw_812 (n := 1) (by decide +kernel) rfl ⟨⟨rfl, rfl⟩, ⟨by decide, by decide⟩, by decide, by decide⟩ rfl (Nat.le_of_ble_eq_true rfl) hW dX3_compare_2) hS (fun q z w => absurd w (Nat.not_le.mpr z)) hn hlk htb hU (fun E9 h9 => by rcases h9 with ⟨rfl, h9⟩ <;> first | (simp [h9]; done) | (simp [xo, h9]; done)) ⟨by decide, by decide⟩ (fun r_1 H locs hR hz hk hS => ?_)
  have hU := fun q (hq : q < s.heap.size) => (hk q (Nat.lt_of_lt_of_le hq hZ) (Nat.not_le.mpr (Nat.lt_of_lt_of_le hq hZ))).trans (hU q hq)
  obtain ⟨ek_2, er_1⟩ := hR
  have hW := hW.new hk
  have hi_3 : nn r_ < 15 := Nat.lt_of_lt_of_le (bR_lt ek_2) (by decide)
  subst er_1
  refine lv_aload_n (pc := 5) hx hb dX3_compare_5 rfl (lv_at hl 0 rfl) ?_
  refine lv_iload_n (pc := 6) hx hb dX3_compare_6 rfl (lv_at hl 2 rfl) ?_
  have hZ := hS.1
  refine kx_r (pc := 7) (kx_V E hC hS hA hl.1 (c1.recv hC hW.obj rfl) rfl (c_X3_ratioAt l hlst D tk N0 sa hAD H.size g q_ ) kw_809 kw_811 kp_15 kw_1 kw_812 (n := 1) (by decide +kernel) rfl ⟨⟨rfl, rfl⟩, ⟨by decide, by decide⟩, by decide, by decide⟩ rfl (Nat.le_of_ble_eq_true rfl) hW dX3_compare_7) hS (fun q z w => absurd w (Nat.not_le.mpr z)) hn hlk htb hU (fun E9 h9 => by rcases h9 with ⟨rfl, h9⟩ <;> first | (simp [h9]; done) | (simp [xo, h9, ek_2]; done)) ⟨by decide, by decide⟩ (fun r_4 H locs hR hz hk hS => ?_)
  have hU := fun q (hq : q < s.heap.size) => (hk q (Nat.lt_of_lt_of_le hq hZ) (Nat.not_le.mpr (Nat.lt_of_lt_of_le hq hZ))).trans (hU q hq)
  obtain ⟨ek_5, er_4⟩ := hR
  have hW := hW.new hk
  have hi_6 : nn q_ < 15 := Nat.lt_of_lt_of_le (bR_lt ek_5) (by decide)
  subst er_4
  have hZ := hS.1
  refine k_i (pc := 10) (k_V E hC hS hA hl.1 (c1.recv hC (hW.fr (i := (nn r_)) hi_3) rfl) rfl (c_X0_compareWith l D tk N0 sa hAD H.size g ((nn r_)) hi_3 ((nn q_)) hi_6 ) kw_594 kw_595 kw_596 kw_2 kw_597 (n := 1) (by decide +kernel) rfl ⟨⟨rfl, rfl⟩, ⟨by decide, by decide⟩, by decide, by decide⟩ rfl (Nat.le_of_ble_eq_true rfl) hW dX3_compare_10) hS (fun q z w => absurd w (Nat.not_le.mpr z)) hn (fun r_7 H locs hR hz hk hS => ?_)
  have hU := fun q (hq : q < s.heap.size) => (hk q (Nat.lt_of_lt_of_le hq hZ) (Nat.not_le.mpr (Nat.lt_of_lt_of_le hq hZ))).trans (hU q hq)
  have er_7 := hR
  have hW := hW.new hk
  refine vx_ret ?_
  refine r_iret (pc := 13) E hr hlk hS (by decide) (by decide) ?_ dX3_compare_13
  exact ⟨(by subst er_7; first | assumption | (simp [xo, ek_2, ek_5]; done)), (by subst er_7; first | with_reducible rfl | (simp [p_TB, p_TV, p_TC, p_TI, p_BT, p_BV, p_BC, p_BI, p_VT, p_VB, p_VC, p_VI, p_CT, p_CB, p_CV, p_CI, p_IT, p_IB, p_IV, p_IC, p_TT, p_BB, p_CC, p_II]; done) | rfl)⟩
set_option maxHeartbeats 4000000 in
set_option maxRecDepth 100000 in
/-- Bestratios.areNext(II)Z -/
theorem c_X3_areNext (l : Launch) (hlst : l.stackTraces = false) (D : va_G) (tk : Nat → ClassId) (N0 : Nat) (sa : Nat → Nat) {ad : Nat → Nat} (hAD : ADok N0 ad) (sz : Nat) (g : CS) (r_ : Int32) (q_ : Int32) : vx_Met l yX3_areNext (wsy yX3_areNext cX3_areNext 3 (some .boolean)) ({ frames := 7, cells := 2, slots := 12, locals := 111 } : Room) (cP D tk N0 sa [.ref (ad 15), .int r_, .int q_] sz (fun H => CW D tk ad g H)) (kQi (fun r H => xo (bR r_) (bR q_) = 0 ∧ r = f_next (tT g (nn r_)) (tB g (nn r_)) (tT g (nn q_)) (tB g (nn q_))) (nwA sz)) (kX (fun E => (E = "java/lang/IndexOutOfBoundsException" ∧ xo (bR r_) (bR q_) = 1)) sz) (2) (12) (nwA sz) := by
  refine mStartX RX3 rfl (by decide +kernel) (Nat.le_of_ble_eq_true rfl) ?_
  intro p e s m args below meth c E hr hlk htb hsz hC hF ls hl
  subst hsz
  obtain ⟨hx, hb, -⟩ := id E
  have hA : ∀ q, (nwA s.heap.size) q → N0 ≤ q := fun q h => Nat.le_trans hC.2.1 h
  have hn : ∀ q, s.heap.size ≤ q → (nwA s.heap.size) q := fun q h => h
  have hS : va_S (nwA s.heap.size) s.heap s.heap [] := va_S.rf
  have hU : ∀ q, q < s.heap.size → s.heap[q]? = s.heap[q]? := fun _ _ => rfl
  have hl : lv_has ls 3 [(0, .ref (ad 15)), (1, .int r_), (2, .int q_)] := hl
  have hW : CW D tk ad g s.heap := hF
  refine lv_aload_n (pc := 0) hx hb dX3_areNext_0 rfl (lv_at hl 0 rfl) ?_
  refine lv_iload_n (pc := 1) hx hb dX3_areNext_1 rfl (lv_at hl 1 rfl) ?_
  have hZ := hS.1
  refine kx_r (pc := 2) (kx_V E hC hS hA hl.1 (c1.recv hC hW.obj rfl) rfl (c_X3_ratioAt l hlst D tk N0 sa hAD s.heap.size g r_ ) kw_809 kw_811 kp_15 kw_1 kw_812 (n := 1) (by decide +kernel) rfl ⟨⟨rfl, rfl⟩, ⟨by decide, by decide⟩, by decide, by decide⟩ rfl (Nat.le_of_ble_eq_true rfl) hW dX3_areNext_2) hS (fun q z w => absurd w (Nat.not_le.mpr z)) hn hlk htb hU (fun E9 h9 => by rcases h9 with ⟨rfl, h9⟩ <;> first | (simp [h9]; done) | (simp [xo, h9]; done)) ⟨by decide, by decide⟩ (fun r_1 H locs hR hz hk hS => ?_)
  have hU := fun q (hq : q < s.heap.size) => (hk q (Nat.lt_of_lt_of_le hq hZ) (Nat.not_le.mpr (Nat.lt_of_lt_of_le hq hZ))).trans (hU q hq)
  obtain ⟨ek_2, er_1⟩ := hR
  have hW := hW.new hk
  have hi_3 : nn r_ < 15 := Nat.lt_of_lt_of_le (bR_lt ek_2) (by decide)
  subst er_1
  refine lv_aload_n (pc := 5) hx hb dX3_areNext_5 rfl (lv_at hl 0 rfl) ?_
  refine lv_iload_n (pc := 6) hx hb dX3_areNext_6 rfl (lv_at hl 2 rfl) ?_
  have hZ := hS.1
  refine kx_r (pc := 7) (kx_V E hC hS hA hl.1 (c1.recv hC hW.obj rfl) rfl (c_X3_ratioAt l hlst D tk N0 sa hAD H.size g q_ ) kw_809 kw_811 kp_15 kw_1 kw_812 (n := 1) (by decide +kernel) rfl ⟨⟨rfl, rfl⟩, ⟨by decide, by decide⟩, by decide, by decide⟩ rfl (Nat.le_of_ble_eq_true rfl) hW dX3_areNext_7) hS (fun q z w => absurd w (Nat.not_le.mpr z)) hn hlk htb hU (fun E9 h9 => by rcases h9 with ⟨rfl, h9⟩ <;> first | (simp [h9]; done) | (simp [xo, h9, ek_2]; done)) ⟨by decide, by decide⟩ (fun r_4 H locs hR hz hk hS => ?_)
  have hU := fun q (hq : q < s.heap.size) => (hk q (Nat.lt_of_lt_of_le hq hZ) (Nat.not_le.mpr (Nat.lt_of_lt_of_le hq hZ))).trans (hU q hq)
  obtain ⟨ek_5, er_4⟩ := hR
  have hW := hW.new hk
  have hi_6 : nn q_ < 15 := Nat.lt_of_lt_of_le (bR_lt ek_5) (by decide)
  subst er_4
  have hZ := hS.1
  refine k_i (pc := 10) (k_V E hC hS hA hl.1 (c1.recv hC (hW.fr (i := (nn r_)) hi_3) rfl) rfl (c_X0_isNextTo l D tk N0 sa hAD H.size g ((nn r_)) hi_3 ((nn q_)) hi_6 ) kw_601 kw_602 kw_603 kw_2 kw_604 (n := 1) (by decide +kernel) rfl ⟨⟨rfl, rfl⟩, ⟨by decide, by decide⟩, by decide, by decide⟩ rfl (Nat.le_of_ble_eq_true rfl) hW dX3_areNext_10) hS (fun q z w => absurd w (Nat.not_le.mpr z)) hn (fun r_7 H locs hR hz hk hS => ?_)
  have hU := fun q (hq : q < s.heap.size) => (hk q (Nat.lt_of_lt_of_le hq hZ) (Nat.not_le.mpr (Nat.lt_of_lt_of_le hq hZ))).trans (hU q hq)
  have er_7 := hR
  have hW := hW.new hk
  refine vx_ret ?_
  refine r_zret (pc := 13) E hr hlk hS (by decide) (by decide) (zb (by subst_vars; exact f_next_b _ _ _ _)) ?_ dX3_areNext_13
  exact ⟨(by subst er_7; first | assumption | (simp [xo, ek_2, ek_5]; done)), (by subst er_7; first | with_reducible rfl | (simp [p_TB, p_TV, p_TC, p_TI, p_BT, p_BV, p_BC, p_BI, p_VT, p_VB, p_VC, p_VI, p_CT, p_CB, p_CV, p_CI, p_IT, p_IB, p_IV, p_IC, p_TT, p_BB, p_CC, p_II]; done) | rfl)⟩
set_option maxHeartbeats 4000000 in
set_option maxRecDepth 100000 in
/-- Bestratios.term(II)I -/
theorem c_X3_term (l : Launch) (hlst : l.stackTraces = false) (D : va_G) (tk : Nat → ClassId) (N0 : Nat) (sa : Nat → Nat) {ad : Nat → Nat} (hAD : ADok N0 ad) (sz : Nat) (g : CS) (r_ : Int32) (kk : Int32) : vx_Met l yX3_term (wsy yX3_term cX3_term 4 (some .int)) ({ frames := 7, cells := 2, slots := 12, locals := 111 } : Room) (cP D tk N0 sa [.ref (ad 15), .int r_, .int kk] sz (fun H => CW D tk ad g H)) (kQi (fun r H => xo (bR r_) (2 * bN kk) = 0 ∧ r = f_term (f_apart g 1 (nn r_)) kk ∧ CW D tk ad (f_apart g 1 (nn r_)) H) (cwA ad sz)) (kX (fun E => (E = "java/lang/IndexOutOfBoundsException" ∧ xo (bR r_) (2 * bN kk) = 1) ∨ (E = "java/lang/IllegalArgumentException" ∧ xo (bR r_) (2 * bN kk) = 2)) sz) (2) (12) (cwA ad sz) := by
  refine mStartX RX3 rfl (by decide +kernel) (Nat.le_of_ble_eq_true rfl) ?_
  intro p e s m args below meth c E hr hlk htb hsz hC hF ls hl
  subst hsz
  obtain ⟨hx, hb, -⟩ := id E
  have hA : ∀ q, (cwA ad s.heap.size) q → N0 ≤ q := cwA.ge hAD hC.2.1
  have hn : ∀ q, s.heap.size ≤ q → (cwA ad s.heap.size) q := fun q h => Or.inr h
  have hS : va_S (cwA ad s.heap.size) s.heap s.heap [] := va_S.rf
  have hU : ∀ q, q < s.heap.size → s.heap[q]? = s.heap[q]? := fun _ _ => rfl
  have hl : lv_has ls 4 [(0, .ref (ad 15)), (1, .int r_), (2, .int kk)] := hl
  have hW : CW D tk ad g s.heap := hF
  refine lv_aload_n (pc := 0) hx hb dX3_term_0 rfl (lv_at hl 0 rfl) ?_
  refine lv_iload_n (pc := 1) hx hb dX3_term_1 rfl (lv_at hl 1 rfl) ?_
  have hZ := hS.1
  refine kx_r (pc := 2) (kx_V E hC hS hA hl.1 (c1.recv hC hW.obj rfl) rfl (c_X3_ratioAt l hlst D tk N0 sa hAD s.heap.size g r_ ) kw_809 kw_811 kp_15 kw_1 kw_812 (n := 1) (by decide +kernel) rfl ⟨⟨rfl, rfl⟩, ⟨by decide, by decide⟩, by decide, by decide⟩ rfl (Nat.le_of_ble_eq_true rfl) hW dX3_term_2) hS (fun q z w => absurd w (Nat.not_le.mpr z)) hn hlk htb hU (fun E9 h9 => by rcases h9 with ⟨rfl, h9⟩ <;> first | (simp [h9]; done) | (simp [xo, h9]; done)) ⟨by decide, by decide⟩ (fun r_1 H locs hR hz hk hS => ?_)
  have hU := fun q (hq : q < s.heap.size) => (hk q (Nat.lt_of_lt_of_le hq hZ) (Nat.not_le.mpr (Nat.lt_of_lt_of_le hq hZ))).trans (hU q hq)
  obtain ⟨ek_2, er_1⟩ := hR
  have hW := hW.new hk
  have hi_3 : nn r_ < 15 := Nat.lt_of_lt_of_le (bR_lt ek_2) (by decide)
  subst er_1
  refine lv_astore_n (pc := 5) (lv' := [(3, .ref (ad (nn r_))), (0, .ref (ad 15)), (1, .int r_), (2, .int kk)]) hx hb dX3_term_5 rfl hl (by decide) rfl (fun ls hl => ?_)
  refine lv_iload_n (pc := 6) hx hb dX3_term_6 rfl (lv_at hl 3 rfl) ?_
  have hZ := hS.1
  refine kx_v (pc := 7) (kx_S E hC hS hA hl.1 (c_X3_requireNotBelow0 l hlst D tk N0 sa H.size kk ) kw_987 kw_988 kw_1 kw_989 (n := 1) (by decide +kernel) rfl ⟨⟨rfl, rfl⟩, ⟨by decide, by decide⟩, by decide, by decide⟩ rfl (Nat.le_of_ble_eq_true rfl) trivial dX3_term_7) hS (fun q z w => absurd w (Nat.not_le.mpr z)) hn hlk htb hU (fun E9 h9 => by rcases h9 with ⟨rfl, h9⟩ <;> first | (simp [h9]; done) | (simp [xo, h9, ek_2]; done)) ⟨by decide, by decide⟩ (fun H locs hR hz hk hS => ?_)
  have hU := fun q (hq : q < s.heap.size) => (hk q (Nat.lt_of_lt_of_le hq hZ) (Nat.not_le.mpr (Nat.lt_of_lt_of_le hq hZ))).trans (hU q hq)
  have ek_5 := hR
  have hW := hW.new hk
  refine lv_aload_n (pc := 10) hx hb dX3_term_10 rfl (lv_at hl 1 rfl) ?_
  refine r_get (pc := 11) E hC hW.obj 8 (v := .ref (ad 19)) rfl rfl (by decide) uX3 (List.mem_cons_of_mem _ kw_122) (fun _ h => h) dX3_term_11 ?_
  refine lv_aload_n (pc := 14) hx hb dX3_term_14 rfl (lv_at hl 0 rfl) ?_
  refine k_v (pc := 15) (k_V E hC hS hA hl.1 (c1.recv hC (hW.tm (j := 1) (by decide)) rfl) rfl (c_X2_takeApart l D tk N0 sa hAD H.size g 1 (by decide) ((nn r_)) hi_3 ) kw_563 kw_564 kw_565 kw_3 kw_566 (n := 1) (by decide +kernel) rfl ⟨⟨rfl, rfl⟩, ⟨by decide, by decide⟩, by decide, by decide⟩ rfl (Nat.le_of_ble_eq_true rfl) hW dX3_term_15) hS (fun q _ w => cwA.go hS.1 q w) hn (fun H locs hR hz hk hS => ?_)
  have hW := hR
  obtain ⟨g_8, eg_8⟩ : ∃ z, z = f_apart g 1 ((nn r_)) := ⟨_, rfl⟩
  rw [← eg_8] at hW
  refine lv_iload_n (pc := 18) hx hb dX3_term_18 rfl (lv_at hl 3 rfl) ?_
  refine lv_aload_n (pc := 19) hx hb dX3_term_19 rfl (lv_at hl 1 rfl) ?_
  refine r_get (pc := 20) E hC hW.obj 8 (v := .ref (ad 19)) rfl rfl (by decide) uX3 (List.mem_cons_of_mem _ kw_122) (fun _ h => h) dX3_term_20 ?_
  refine r_getN (pc := 23) "Bestratios" E hC (hW.tm (j := 1) (by decide)) 1 (v := .int (tC g_8 1)) rfl rfl (by decide) uX2 kn_69 (fun _ h => h) dX3_term_23 ?_
  refine lv_icmp_ge (pc := 26) (tgt := 41) hx hb dX3_term_26 (by decide) (fun c_9 => ?_) (fun c_9 => ?_)
  · refine lv_bipush (pc := 41) (v := (-9)) hx hb dX3_term_41 (by decide) ?_
    refine vx_ret ?_
    refine r_iret (pc := 43) E hr hlk hS (by decide) (by decide) ?_ dX3_term_43
    exact ⟨(by subst eg_8; first | assumption | (simp [xo, ek_2, ek_5, c_9, Int32.not_lt.mpr c_9]; done)), (by subst eg_8; first | with_reducible rfl | (simp [f_term, c_9, Int32.not_lt.mpr c_9, p_TB, p_TV, p_TC, p_TI, p_BT, p_BV, p_BC, p_BI, p_VT, p_VB, p_VC, p_VI, p_CT, p_CB, p_CV, p_CI, p_IT, p_IB, p_IV, p_IC, p_TT, p_BB, p_CC, p_II]; done)), hW.to (by subst eg_8; first | with_reducible rfl | (simp [f_term, c_9, Int32.not_lt.mpr c_9, p_TB, p_TV, p_TC, p_TI, p_BT, p_BV, p_BC, p_BI, p_VT, p_VB, p_VC, p_VI, p_CT, p_CB, p_CV, p_CI, p_IT, p_IB, p_IV, p_IC, p_TT, p_BB, p_CC, p_II]; done))⟩
  · refine lv_aload_n (pc := 29) hx hb dX3_term_29 rfl (lv_at hl 1 rfl) ?_
    refine r_get (pc := 30) E hC hW.obj 8 (v := .ref (ad 19)) rfl rfl (by decide) uX3 (List.mem_cons_of_mem _ kw_122) (fun _ h => h) dX3_term_30 ?_
    refine lv_iload_n (pc := 33) hx hb dX3_term_33 rfl (lv_at hl 3 rfl) ?_
    refine k_l (pc := 34) (k_V E hC hS hA hl.1 (c1.recv hC (hW.tm (j := 1) (by decide)) rfl) rfl (c_X2_at l D tk N0 sa hAD H.size g_8 1 (by decide) kk ) kw_277 kw_278 kw_279 kw_3 kw_280 (n := 1) (by decide +kernel) rfl ⟨⟨rfl, rfl⟩, ⟨by decide, by decide⟩, by decide, by decide⟩ rfl (Nat.le_of_ble_eq_true rfl) hW dX3_term_34) hS (fun q z w => absurd w (Nat.not_le.mpr z)) hn (fun r_10 H locs hR hz hk hS => ?_)
    have er_10 := hR
    have hW := hW.new hk
    refine lv_l2i (pc := 37) (v := r_10.toInt32) hx hb dX3_term_37 rfl ?_
    refine lv_goto (pc := 38) (tgt := 43) hx hb dX3_term_38 (by decide) ?_
    refine vx_ret ?_
    refine r_iret (pc := 43) E hr hlk hS (by decide) (by decide) ?_ dX3_term_43
    exact ⟨(by subst eg_8 er_10; first | assumption | (simp [xo, ek_2, ek_5, c_9, Int32.not_le.mp c_9]; done)), (by subst eg_8 er_10; first | with_reducible rfl | (simp [f_term, c_9, Int32.not_le.mp c_9, p_TB, p_TV, p_TC, p_TI, p_BT, p_BV, p_BC, p_BI, p_VT, p_VB, p_VC, p_VI, p_CT, p_CB, p_CV, p_CI, p_IT, p_IB, p_IV, p_IC, p_TT, p_BB, p_CC, p_II]; done)), hW.to (by subst eg_8 er_10; first | with_reducible rfl | (simp [f_term, c_9, Int32.not_le.mp c_9, p_TB, p_TV, p_TC, p_TI, p_BT, p_BV, p_BC, p_BI, p_VT, p_VB, p_VC, p_VI, p_CT, p_CB, p_CV, p_CI, p_IT, p_IB, p_IV, p_IC, p_TT, p_BB, p_CC, p_II]; done))⟩
