set_option maxHeartbeats 4000000 in
set_option maxRecDepth 100000 in
/-- Bestratios.isFoldSound(LBestratios$Fraction;)Z -/
theorem c_X3_isFoldSound (l : Launch) (D : va_G) (tk : Nat → ClassId) (N0 : Nat) (sa : Nat → Nat) {ad : Nat → Nat} (hAD : ADok N0 ad) (sz : Nat) (g : CS) (i : Nat) (hi : i < 15) : Met l yX3_isFoldSound (wsy yX3_isFoldSound cX3_isFoldSound 2 (some .boolean)) ({ frames := 4, cells := 0, slots := 0, locals := 104 } : Room) (cP D tk N0 sa [.ref (ad 15), .ref (ad i)] sz (fun H => CW D tk ad g H)) (kQi (fun r H => r = f_fsndR g i ∧ CW D tk ad (f_fsndW g i) H) (cwA ad sz)) (0) (0) (cwA ad sz) := by
  refine mStart RX3 rfl (by decide +kernel) (Nat.le_of_ble_eq_true rfl) ?_
  intro p e s m args below meth c E hr hlk hnm hsz hC hF ls hl
  subst hsz
  obtain ⟨hx, hb, -⟩ := id E
  have hA : ∀ q, (cwA ad s.heap.size) q → N0 ≤ q := cwA.ge hAD hC.2.1
  have hn : ∀ q, s.heap.size ≤ q → (cwA ad s.heap.size) q := fun q h => Or.inr h
  have hS : va_S (cwA ad s.heap.size) s.heap s.heap [] := va_S.rf
  have hl : lv_has ls 2 [(0, .ref (ad 15)), (1, .ref (ad i))] := hl
  have hW : CW D tk ad g s.heap := hF
  refine lv_aload_n (pc := 0) hx hb dX3_isFoldSound_0 rfl (lv_at hl 0 rfl) ?_
  refine r_get (pc := 1) E hC hW.obj 8 (v := .ref (ad 19)) rfl rfl (by decide) uX3 (List.mem_cons_of_mem _ kw_122) (fun _ h => h) dX3_isFoldSound_1 ?_
  refine lv_aload_n (pc := 4) hx hb dX3_isFoldSound_4 rfl (lv_at hl 1 rfl) ?_
  refine k_v (pc := 5) (k_V E hC hS hA hl.1 (c1.recv hC (hW.tm (j := 1) (by decide)) rfl) rfl (c_X2_takeApart l D tk N0 sa hAD s.heap.size g 1 (by decide) i hi ) kw_563 kw_564 kw_565 kw_3 kw_566 (n := 1) (by decide +kernel) rfl ⟨⟨rfl, rfl⟩, ⟨by decide, by decide⟩, by decide, by decide⟩ rfl (Nat.le_of_ble_eq_true rfl) hW dX3_isFoldSound_5) hS (fun q _ w => cwA.go hS.1 q w) hn (fun H locs hR hz hk hS => ?_)
  have hW := hR
  obtain ⟨g_3, eg_3⟩ : ∃ z, z = f_apart g 1 i := ⟨_, rfl⟩
  rw [← eg_3] at hW
  refine lv_aload_n (pc := 8) hx hb dX3_isFoldSound_8 rfl (lv_at hl 1 rfl) ?_
  refine r_getN (pc := 9) "Bestratios" E hC (hW.fr (i := i) hi) 0 (v := .long (tT g_3 i)) rfl rfl (by decide) uX0 kn_52 (fun _ h => h) dX3_isFoldSound_9 ?_
  refine lv_aload_n (pc := 12) hx hb dX3_isFoldSound_12 rfl (lv_at hl 1 rfl) ?_
  refine r_getN (pc := 13) "Bestratios" E hC (hW.fr (i := i) hi) 1 (v := .long (tB g_3 i)) rfl rfl (by decide) uX0 kn_55 (fun _ h => h) dX3_isFoldSound_13 ?_
  refine k_l (pc := 16) (k_S E hC hS hA hl.1 (c_X3_commonDivisor l D tk N0 sa H.size (tT g_3 i) (tB g_3 i) ) kw_572 kw_499 kw_1 kw_500 (n := 2) (by decide +kernel) rfl ⟨⟨rfl, rfl⟩, ⟨by decide, by decide⟩, by decide, by decide⟩ rfl (Nat.le_of_ble_eq_true rfl) trivial dX3_isFoldSound_16) hS (fun q z w => absurd w (Nat.not_le.mpr z)) hn (fun r_4 H locs hR hz hk hS => ?_)
  have er_4 := hR
  have hW := hW.new hk
  refine lv_lconst (pc := 19) (v := 1) hx hb dX3_isFoldSound_19 (by decide) ?_
  refine r_lcne (pc := 20) (tgt := 53) E dX3_isFoldSound_20 dX3_isFoldSound_21 (by decide) (fun c_6 => ?_) (fun c_6 => ?_)
  · refine lv_iconst (pc := 53) (v := 0) hx hb dX3_isFoldSound_53 (by decide) ?_
    refine r_zret (pc := 54) E hr hlk hS (by decide) (by decide) rfl ?_ dX3_isFoldSound_54
    exact ⟨(by subst eg_3 er_4; first | with_reducible rfl | (simp [f_fsndR, f_fsndW, f_fsG, c_6, p_TB, p_TV, p_TC, p_TI, p_BT, p_BV, p_BC, p_BI, p_VT, p_VB, p_VC, p_VI, p_CT, p_CB, p_CV, p_CI, p_IT, p_IB, p_IV, p_IC, p_TT, p_BB, p_CC, p_II]; done)), hW.to (by subst eg_3 er_4; first | with_reducible rfl | (simp [f_fsndR, f_fsndW, f_fsG, c_6, p_TB, p_TV, p_TC, p_TI, p_BT, p_BV, p_BC, p_BI, p_VT, p_VB, p_VC, p_VI, p_CT, p_CB, p_CV, p_CI, p_IT, p_IB, p_IV, p_IC, p_TT, p_BB, p_CC, p_II]; done))⟩
  · refine lv_aload_n (pc := 24) hx hb dX3_isFoldSound_24 rfl (lv_at hl 0 rfl) ?_
    refine r_get (pc := 25) E hC hW.obj 8 (v := .ref (ad 19)) rfl rfl (by decide) uX3 (List.mem_cons_of_mem _ kw_122) (fun _ h => h) dX3_isFoldSound_25 ?_
    refine lv_aload_n (pc := 28) hx hb dX3_isFoldSound_28 rfl (lv_at hl 0 rfl) ?_
    refine r_get (pc := 29) E hC hW.obj 5 (v := .ref (ad 6)) rfl rfl (by decide) uX3 (List.mem_cons_of_mem _ kw_119) (fun _ h => h) dX3_isFoldSound_29 ?_
    refine k_i (pc := 32) (k_V E hC hS hA hl.1 (c1.recv hC (hW.tm (j := 1) (by decide)) rfl) rfl (c_X2_foldInto l D tk N0 sa hAD H.size g_3 1 (by decide) 6 (by decide) ) kw_573 kw_574 kw_575 kw_3 kw_576 (n := 1) (by decide +kernel) rfl ⟨⟨rfl, rfl⟩, ⟨by decide, by decide⟩, by decide, by decide⟩ rfl (Nat.le_of_ble_eq_true rfl) hW dX3_isFoldSound_32) hS (fun q _ w => cwA.go hS.1 q w) hn (fun r_7 H locs hR hz hk hS => ?_)
    obtain ⟨er_7, hW⟩ := hR
    obtain ⟨g_9, eg_9⟩ : ∃ z, z = f_foldW g_3 1 6 := ⟨_, rfl⟩
    rw [← eg_9] at hW
    refine lv_if_eq (pc := 35) (tgt := 53) hx hb dX3_isFoldSound_35 (by decide) (fun c_10 => ?_) (fun c_10 => ?_)
    · refine lv_iconst (pc := 53) (v := 0) hx hb dX3_isFoldSound_53 (by decide) ?_
      refine r_zret (pc := 54) E hr hlk hS (by decide) (by decide) rfl ?_ dX3_isFoldSound_54
      exact ⟨(by subst eg_3 er_4 eg_9 er_7; first | with_reducible rfl | (simp [f_fsndR, f_fsndW, f_fsG, c_6, c_10, p_TB, p_TV, p_TC, p_TI, p_BT, p_BV, p_BC, p_BI, p_VT, p_VB, p_VC, p_VI, p_CT, p_CB, p_CV, p_CI, p_IT, p_IB, p_IV, p_IC, p_TT, p_BB, p_CC, p_II]; done)), hW.to (by subst eg_3 er_4 eg_9 er_7; first | with_reducible rfl | (simp [f_fsndR, f_fsndW, f_fsG, c_6, c_10, p_TB, p_TV, p_TC, p_TI, p_BT, p_BV, p_BC, p_BI, p_VT, p_VB, p_VC, p_VI, p_CT, p_CB, p_CV, p_CI, p_IT, p_IB, p_IV, p_IC, p_TT, p_BB, p_CC, p_II]; done))⟩
    · refine lv_aload_n (pc := 38) hx hb dX3_isFoldSound_38 rfl (lv_at hl 0 rfl) ?_
      refine r_get (pc := 39) E hC hW.obj 5 (v := .ref (ad 6)) rfl rfl (by decide) uX3 (List.mem_cons_of_mem _ kw_119) (fun _ h => h) dX3_isFoldSound_39 ?_
      refine lv_aload_n (pc := 42) hx hb dX3_isFoldSound_42 rfl (lv_at hl 1 rfl) ?_
      refine k_i (pc := 43) (k_V E hC hS hA hl.1 (c1.recv hC (hW.fr (i := 6) (by decide)) rfl) rfl (c_X0_isSameAs l D tk N0 sa hAD H.size g_9 6 (by decide) i hi ) kw_580 kw_581 kw_582 kw_2 kw_583 (n := 1) (by decide +kernel) rfl ⟨⟨rfl, rfl⟩, ⟨by decide, by decide⟩, by decide, by decide⟩ rfl (Nat.le_of_ble_eq_true rfl) hW dX3_isFoldSound_43) hS (fun q z w => absurd w (Nat.not_le.mpr z)) hn (fun r_11 H locs hR hz hk hS => ?_)
      have er_11 := hR
      have hW := hW.new hk
      refine lv_if_eq (pc := 46) (tgt := 53) hx hb dX3_isFoldSound_46 (by decide) (fun c_13 => ?_) (fun c_13 => ?_)
      · refine lv_iconst (pc := 53) (v := 0) hx hb dX3_isFoldSound_53 (by decide) ?_
        refine r_zret (pc := 54) E hr hlk hS (by decide) (by decide) rfl ?_ dX3_isFoldSound_54
        exact ⟨(by subst eg_3 er_4 eg_9 er_7 er_11; first | with_reducible rfl | (simp [f_fsndR, f_fsndW, f_fsG, c_6, c_10, c_13, p_TB, p_TV, p_TC, p_TI, p_BT, p_BV, p_BC, p_BI, p_VT, p_VB, p_VC, p_VI, p_CT, p_CB, p_CV, p_CI, p_IT, p_IB, p_IV, p_IC, p_TT, p_BB, p_CC, p_II]; done)), hW.to (by subst eg_3 er_4 eg_9 er_7 er_11; first | with_reducible rfl | (simp [f_fsndR, f_fsndW, f_fsG, c_6, c_10, c_13, p_TB, p_TV, p_TC, p_TI, p_BT, p_BV, p_BC, p_BI, p_VT, p_VB, p_VC, p_VI, p_CT, p_CB, p_CV, p_CI, p_IT, p_IB, p_IV, p_IC, p_TT, p_BB, p_CC, p_II]; done))⟩
      · refine lv_iconst (pc := 49) (v := 1) hx hb dX3_isFoldSound_49 (by decide) ?_
        refine lv_goto (pc := 50) (tgt := 54) hx hb dX3_isFoldSound_50 (by decide) ?_
        refine r_zret (pc := 54) E hr hlk hS (by decide) (by decide) rfl ?_ dX3_isFoldSound_54
        exact ⟨(by subst eg_3 er_4 eg_9 er_7 er_11; first | with_reducible rfl | (simp [f_fsndR, f_fsndW, f_fsG, c_6, c_10, c_13, p_TB, p_TV, p_TC, p_TI, p_BT, p_BV, p_BC, p_BI, p_VT, p_VB, p_VC, p_VI, p_CT, p_CB, p_CV, p_CI, p_IT, p_IB, p_IV, p_IC, p_TT, p_BB, p_CC, p_II]; done)), hW.to (by subst eg_3 er_4 eg_9 er_7 er_11; first | with_reducible rfl | (simp [f_fsndR, f_fsndW, f_fsG, c_6, c_10, c_13, p_TB, p_TV, p_TC, p_TI, p_BT, p_BV, p_BC, p_BI, p_VT, p_VB, p_VC, p_VI, p_CT, p_CB, p_CV, p_CI, p_IT, p_IB, p_IV, p_IC, p_TT, p_BB, p_CC, p_II]; done))⟩
