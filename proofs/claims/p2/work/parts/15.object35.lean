set_option maxHeartbeats 4000000 in
set_option maxRecDepth 100000 in
/-- Bestratios.depthOf(LBestratios$Fraction;)J -/
theorem c_X3_depthOf (l : Launch) (D : va_G) (tk : Nat → ClassId) (N0 : Nat) (sa : Nat → Nat) {ad : Nat → Nat} (hAD : ADok N0 ad) (sz : Nat) (g : CS) (i : Nat) (hi : i < 15) : Met l yX3_depthOf (wsy yX3_depthOf cX3_depthOf 2 (some .long)) ({ frames := 3, cells := 0, slots := 0, locals := 78 } : Room) (cP D tk N0 sa [.ref (ad 15), .ref (ad i)] sz (fun H => CW D tk ad g H)) (kQl (fun r H => r = f_depR g i ∧ CW D tk ad (f_depW g i) H) (cwA ad sz)) (0) (0) (cwA ad sz) := by
  refine mStart RX3 rfl (by decide +kernel) (Nat.le_of_ble_eq_true rfl) ?_
  intro p e s m args below meth c E hr hlk hnm hsz hC hF ls hl
  subst hsz
  obtain ⟨hx, hb, -⟩ := id E
  have hA : ∀ q, (cwA ad s.heap.size) q → N0 ≤ q := cwA.ge hAD hC.2.1
  have hn : ∀ q, s.heap.size ≤ q → (cwA ad s.heap.size) q := fun q h => Or.inr h
  have hS : va_S (cwA ad s.heap.size) s.heap s.heap [] := va_S.rf
  have hl : lv_has ls 2 [(0, .ref (ad 15)), (1, .ref (ad i))] := hl
  have hW : CW D tk ad g s.heap := hF
  refine lv_aload_n (pc := 0) hx hb dX3_depthOf_0 rfl (lv_at hl 1 rfl) ?_
  refine k_i (pc := 1) (k_V E hC hS hA hl.1 (c1.recv hC (hW.fr (i := i) hi) rfl) rfl (c_X0_sign l D tk N0 sa hAD s.heap.size g i hi ) kw_613 kw_614 kw_615 kw_2 kw_616 (n := 0) (by decide +kernel) rfl ⟨⟨rfl, rfl⟩, ⟨by decide, by decide⟩, by decide, by decide⟩ rfl (Nat.le_of_ble_eq_true rfl) hW dX3_depthOf_1) hS (fun q z w => absurd w (Nat.not_le.mpr z)) hn (fun r_1 H locs hR hz hk hS => ?_)
  have er_1 := hR
  have hW := hW.new hk
  refine lv_if_gt (pc := 4) (tgt := 11) hx hb dX3_depthOf_4 (by decide) (fun c_3 => ?_) (fun c_3 => ?_)
  · refine lv_aload_n (pc := 11) hx hb dX3_depthOf_11 rfl (lv_at hl 0 rfl) ?_
    refine r_get (pc := 12) E hC hW.obj 8 (v := .ref (ad 19)) rfl rfl (by decide) uX3 (List.mem_cons_of_mem _ kw_122) (fun _ h => h) dX3_depthOf_12 ?_
    refine lv_aload_n (pc := 15) hx hb dX3_depthOf_15 rfl (lv_at hl 1 rfl) ?_
    refine k_v (pc := 16) (k_V E hC hS hA hl.1 (c1.recv hC (hW.tm (j := 1) (by decide)) rfl) rfl (c_X2_takeApart l D tk N0 sa hAD H.size g 1 (by decide) i hi ) kw_563 kw_564 kw_565 kw_3 kw_566 (n := 1) (by decide +kernel) rfl ⟨⟨rfl, rfl⟩, ⟨by decide, by decide⟩, by decide, by decide⟩ rfl (Nat.le_of_ble_eq_true rfl) hW dX3_depthOf_16) hS (fun q _ w => cwA.go hS.1 q w) hn (fun H locs hR hz hk hS => ?_)
    have hW := hR
    obtain ⟨g_6, eg_6⟩ : ∃ z, z = f_apart g 1 i := ⟨_, rfl⟩
    rw [← eg_6] at hW
    refine lv_aload_n (pc := 19) hx hb dX3_depthOf_19 rfl (lv_at hl 0 rfl) ?_
    refine r_get (pc := 20) E hC hW.obj 8 (v := .ref (ad 19)) rfl rfl (by decide) uX3 (List.mem_cons_of_mem _ kw_122) (fun _ h => h) dX3_depthOf_20 ?_
    refine k_l (pc := 23) (k_V E hC hS hA hl.1 (c1.recv hC (hW.tm (j := 1) (by decide)) rfl) rfl (c_X2_total l D tk N0 sa hAD H.size g_6 1 (by decide) ) kw_699 kw_700 kw_701 kw_3 kw_702 (n := 0) (by decide +kernel) rfl ⟨⟨rfl, rfl⟩, ⟨by decide, by decide⟩, by decide, by decide⟩ rfl (Nat.le_of_ble_eq_true rfl) hW dX3_depthOf_23) hS (fun q z w => absurd w (Nat.not_le.mpr z)) hn (fun r_7 H locs hR hz hk hS => ?_)
    have er_7 := hR
    have hW := hW.new hk
    refine lv_lconst (pc := 26) (v := 1) hx hb dX3_depthOf_26 (by decide) ?_
    refine lv_lsub (pc := 27) hx hb dX3_depthOf_27 ?_
    refine r_lret (pc := 28) E hr hlk hS (by decide) (by decide) ?_ dX3_depthOf_28
    exact ⟨(by subst er_1 eg_6 er_7; first | with_reducible rfl | (simp [f_depR, f_depW, c_3, Int32.not_le.mpr c_3, p_TB, p_TV, p_TC, p_TI, p_BT, p_BV, p_BC, p_BI, p_VT, p_VB, p_VC, p_VI, p_CT, p_CB, p_CV, p_CI, p_IT, p_IB, p_IV, p_IC, p_TT, p_BB, p_CC, p_II]; done)), hW.to (by subst er_1 eg_6 er_7; first | with_reducible rfl | (simp [f_depR, f_depW, c_3, Int32.not_le.mpr c_3, p_TB, p_TV, p_TC, p_TI, p_BT, p_BV, p_BC, p_BI, p_VT, p_VB, p_VC, p_VI, p_CT, p_CB, p_CV, p_CI, p_IT, p_IB, p_IV, p_IC, p_TT, p_BB, p_CC, p_II]; done))⟩
  · refine lv_ldc2 (pc := 7) (v := (-9)) hx hb E.2.2.2.1 (E.2.2.2.2 _ (List.mem_cons_of_mem _ kw_698)) dX3_depthOf_7 ?_
    refine r_lret (pc := 10) E hr hlk hS (by decide) (by decide) ?_ dX3_depthOf_10
    exact ⟨(by subst er_1; first | with_reducible rfl | (simp [f_depR, f_depW, c_3, Int32.not_lt.mp c_3, p_TB, p_TV, p_TC, p_TI, p_BT, p_BV, p_BC, p_BI, p_VT, p_VB, p_VC, p_VI, p_CT, p_CB, p_CV, p_CI, p_IT, p_IB, p_IV, p_IC, p_TT, p_BB, p_CC, p_II]; done)), hW.to (by subst er_1; first | with_reducible rfl | (simp [f_depR, f_depW, c_3, Int32.not_lt.mp c_3, p_TB, p_TV, p_TC, p_TI, p_BT, p_BV, p_BC, p_BI, p_VT, p_VB, p_VC, p_VI, p_CT, p_CB, p_CV, p_CI, p_IT, p_IB, p_IV, p_IC, p_TT, p_BB, p_CC, p_II]; done))⟩
