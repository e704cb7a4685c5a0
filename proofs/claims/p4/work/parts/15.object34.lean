set_option maxHeartbeats 4000000 in
set_option maxRecDepth 100000 in
/-- Bestratios.down(IZ)I -/
theorem c_X3_down (l : Launch) (hlst : l.stackTraces = false) (D : va_G) (tk : Nat → ClassId) (N0 : Nat) (sa : Nat → Nat) {ad : Nat → Nat} (hAD : ADok N0 ad) (sz : Nat) (g : CS) (r_ : Int32) (b_ : Int32) : vx_Met l yX3_down (wsy yX3_down cX3_down 4 (some .int)) ({ frames := 7, cells := 1, slots := 6, locals := 127 } : Room) (cP D tk N0 sa [.ref (ad 15), .int r_, .int b_] sz (fun H => CW D tk ad g H)) (kQi (fun r H => bR r_ = 0 ∧ r = f_dnR g (nn r_) b_ ∧ CW D tk ad (f_dnX g (nn r_) b_) H) (cwA ad sz)) (kX (fun E => (E = "java/lang/IndexOutOfBoundsException" ∧ bR r_ = 1)) sz) (1) (6) (cwA ad sz) := by
  refine mStartX RX3 rfl (by decide +kernel) (Nat.le_of_ble_eq_true rfl) ?_
  intro p e s m args below meth c E hr hlk htb hsz hC hF ls hl
  subst hsz
  obtain ⟨hx, hb, -⟩ := id E
  have hA : ∀ q, (cwA ad s.heap.size) q → N0 ≤ q := cwA.ge hAD hC.2.1
  have hn : ∀ q, s.heap.size ≤ q → (cwA ad s.heap.size) q := fun q h => Or.inr h
  have hS : va_S (cwA ad s.heap.size) s.heap s.heap [] := va_S.rf
  have hU : ∀ q, q < s.heap.size → s.heap[q]? = s.heap[q]? := fun _ _ => rfl
  have hl : lv_has ls 4 [(0, .ref (ad 15)), (1, .int r_), (2, .int b_)] := hl
  have hW : CW D tk ad g s.heap := hF
  refine lv_aload_n (pc := 0) hx hb dX3_down_0 rfl (lv_at hl 0 rfl) ?_
  refine lv_iload_n (pc := 1) hx hb dX3_down_1 rfl (lv_at hl 1 rfl) ?_
  have hZ := hS.1
  refine kx_r (pc := 2) (kx_V E hC hS hA hl.1 (c1.recv hC hW.obj rfl) rfl (c_X3_ratioAt l hlst D tk N0 sa hAD s.heap.size g r_ ) kw_809 kw_811 kp_15 kw_1 kw_812 (n := 1) (by decide +kernel) rfl ⟨⟨rfl, rfl⟩, ⟨by decide, by decide⟩, by decide, by decide⟩ rfl (Nat.le_of_ble_eq_true rfl) hW dX3_down_2) hS (fun q z w => absurd w (Nat.not_le.mpr z)) hn hlk htb hU (fun E9 h9 => by rcases h9 with ⟨rfl, h9⟩ <;> first | (simp [h9]; done) | (simp [xo, h9]; done)) ⟨by decide, by decide⟩ (fun r_1 H locs hR hz hk hS => ?_)
  have hU := fun q (hq : q < s.heap.size) => (hk q (Nat.lt_of_lt_of_le hq hZ) (Nat.not_le.mpr (Nat.lt_of_lt_of_le hq hZ))).trans (hU q hq)
  obtain ⟨ek_2, er_1⟩ := hR
  have hW := hW.new hk
  have hi_3 : nn r_ < 15 := Nat.lt_of_lt_of_le (bR_lt ek_2) (by decide)
  subst er_1
  refine lv_astore_n (pc := 5) (lv' := [(3, .ref (ad (nn r_))), (0, .ref (ad 15)), (1, .int r_), (2, .int b_)]) hx hb dX3_down_5 rfl hl (by decide) rfl (fun ls hl => ?_)
  refine lv_aload_n (pc := 6) hx hb dX3_down_6 rfl (lv_at hl 0 rfl) ?_
  have hZ := hS.1
  refine k_i (pc := 7) (k_V E hC hS hA hl.1 (c1.recv hC (hW.fr (i := (nn r_)) hi_3) rfl) rfl (c_X0_sign l D tk N0 sa hAD H.size g ((nn r_)) hi_3 ) kw_613 kw_614 kw_615 kw_2 kw_616 (n := 0) (by decide +kernel) rfl ⟨⟨rfl, rfl⟩, ⟨by decide, by decide⟩, by decide, by decide⟩ rfl (Nat.le_of_ble_eq_true rfl) hW dX3_down_7) hS (fun q z w => absurd w (Nat.not_le.mpr z)) hn (fun r_4 H locs hR hz hk hS => ?_)
  have hU := fun q (hq : q < s.heap.size) => (hk q (Nat.lt_of_lt_of_le hq hZ) (Nat.not_le.mpr (Nat.lt_of_lt_of_le hq hZ))).trans (hU q hq)
  have er_4 := hR
  have hW := hW.new hk
  refine lv_if_gt (pc := 10) (tgt := 18) hx hb dX3_down_10 (by decide) (fun c_6 => ?_) (fun c_6 => ?_)
  · refine lv_aload_n (pc := 18) hx hb dX3_down_18 rfl (lv_at hl 1 rfl) ?_
    refine lv_aload_n (pc := 19) hx hb dX3_down_19 rfl (lv_at hl 0 rfl) ?_
    refine lv_iload_n (pc := 20) hx hb dX3_down_20 rfl (lv_at hl 3 rfl) ?_
    refine k_i (pc := 21) (k_V E hC hS hA hl.1 (c1.recv hC hW.obj rfl) rfl (c_X3_stepDown l D tk N0 sa hAD H.size g ((nn r_)) hi_3 b_ ) kw_617 kw_619 kp_5 kw_1 kw_620 (n := 2) (by decide +kernel) rfl ⟨⟨rfl, rfl⟩, ⟨by decide, by decide⟩, by decide, by decide⟩ rfl (Nat.le_of_ble_eq_true rfl) hW dX3_down_21) hS (fun q _ w => cwA.go hS.1 q w) hn (fun r_7 H locs hR hz hk hS => ?_)
    obtain ⟨er_7, hW⟩ := hR
    obtain ⟨g_9, eg_9⟩ : ∃ z, z = f_stDW g ((nn r_)) b_ := ⟨_, rfl⟩
    rw [← eg_9] at hW
    refine lv_if_eq (pc := 24) (tgt := 35) hx hb dX3_down_24 (by decide) (fun c_10 => ?_) (fun c_10 => ?_)
    · refine lv_aload_n (pc := 35) hx hb dX3_down_35 rfl (lv_at hl 1 rfl) ?_
      refine k_i (pc := 36) (k_V E hC hS hA hl.1 (c1.recv hC hW.obj rfl) rfl (c_X3_refuse l D tk N0 sa hAD H.size g_9  ) kw_840 kw_842 kp_17 kw_1 kw_843 (n := 0) (by decide +kernel) rfl ⟨⟨rfl, rfl⟩, ⟨by decide, by decide⟩, by decide, by decide⟩ rfl (Nat.le_of_ble_eq_true rfl) hW dX3_down_36) hS (fun q _ w => cwA.go hS.1 q w) hn (fun r_11 H locs hR hz hk hS => ?_)
      obtain ⟨er_11, hW⟩ := hR
      obtain ⟨g_13, eg_13⟩ : ∃ z, z = f_refW g_9 := ⟨_, rfl⟩
      rw [← eg_13] at hW
      refine vx_ret ?_
      refine r_iret (pc := 39) E hr hlk hS (by decide) (by decide) ?_ dX3_down_39
      exact ⟨(by subst er_4 eg_9 er_7 eg_13 er_11; first | assumption | (simp [xo, ek_2, c_6, Int32.not_le.mpr c_6, c_10]; done)), (by subst er_4 eg_9 er_7 eg_13 er_11; first | with_reducible rfl | (simp [f_dnR, f_dnX, c_6, Int32.not_le.mpr c_6, c_10, p_TB, p_TV, p_TC, p_TI, p_BT, p_BV, p_BC, p_BI, p_VT, p_VB, p_VC, p_VI, p_CT, p_CB, p_CV, p_CI, p_IT, p_IB, p_IV, p_IC, p_TT, p_BB, p_CC, p_II]; done)), hW.to (by subst er_4 eg_9 er_7 eg_13 er_11; first | with_reducible rfl | (simp [f_dnR, f_dnX, c_6, Int32.not_le.mpr c_6, c_10, p_TB, p_TV, p_TC, p_TI, p_BT, p_BV, p_BC, p_BI, p_VT, p_VB, p_VC, p_VI, p_CT, p_CB, p_CV, p_CI, p_IT, p_IB, p_IV, p_IC, p_TT, p_BB, p_CC, p_II]; done))⟩
    · refine lv_aload_n (pc := 27) hx hb dX3_down_27 rfl (lv_at hl 1 rfl) ?_
      refine lv_aload_n (pc := 28) hx hb dX3_down_28 rfl (lv_at hl 0 rfl) ?_
      refine k_i (pc := 29) (k_V E hC hS hA hl.1 (c1.recv hC hW.obj rfl) rfl (c_X3_settle l D tk N0 sa hAD H.size g_9 ((nn r_)) hi_3 ) kw_830 kw_832 kp_16 kw_1 kw_833 (n := 1) (by decide +kernel) rfl ⟨⟨rfl, rfl⟩, ⟨by decide, by decide⟩, by decide, by decide⟩ rfl (Nat.le_of_ble_eq_true rfl) hW dX3_down_29) hS (fun q _ w => cwA.go hS.1 q w) hn (fun r_14 H locs hR hz hk hS => ?_)
      obtain ⟨er_14, hW⟩ := hR
      obtain ⟨g_16, eg_16⟩ : ∃ z, z = f_setW g_9 ((nn r_)) := ⟨_, rfl⟩
      rw [← eg_16] at hW
      refine lv_goto (pc := 32) (tgt := 39) hx hb dX3_down_32 (by decide) ?_
      refine vx_ret ?_
      refine r_iret (pc := 39) E hr hlk hS (by decide) (by decide) ?_ dX3_down_39
      exact ⟨(by subst er_4 eg_9 er_7 eg_16 er_14; first | assumption | (simp [xo, ek_2, c_6, Int32.not_le.mpr c_6, c_10]; done)), (by subst er_4 eg_9 er_7 eg_16 er_14; first | with_reducible rfl | (simp [f_dnR, f_dnX, c_6, Int32.not_le.mpr c_6, c_10, p_TB, p_TV, p_TC, p_TI, p_BT, p_BV, p_BC, p_BI, p_VT, p_VB, p_VC, p_VI, p_CT, p_CB, p_CV, p_CI, p_IT, p_IB, p_IV, p_IC, p_TT, p_BB, p_CC, p_II]; done)), hW.to (by subst er_4 eg_9 er_7 eg_16 er_14; first | with_reducible rfl | (simp [f_dnR, f_dnX, c_6, Int32.not_le.mpr c_6, c_10, p_TB, p_TV, p_TC, p_TI, p_BT, p_BV, p_BC, p_BI, p_VT, p_VB, p_VC, p_VI, p_CT, p_CB, p_CV, p_CI, p_IT, p_IB, p_IV, p_IC, p_TT, p_BB, p_CC, p_II]; done))⟩
  · refine lv_aload_n (pc := 13) hx hb dX3_down_13 rfl (lv_at hl 1 rfl) ?_
    refine k_i (pc := 14) (k_V E hC hS hA hl.1 (c1.recv hC hW.obj rfl) rfl (c_X3_refuse l D tk N0 sa hAD H.size g  ) kw_840 kw_842 kp_17 kw_1 kw_843 (n := 0) (by decide +kernel) rfl ⟨⟨rfl, rfl⟩, ⟨by decide, by decide⟩, by decide, by decide⟩ rfl (Nat.le_of_ble_eq_true rfl) hW dX3_down_14) hS (fun q _ w => cwA.go hS.1 q w) hn (fun r_17 H locs hR hz hk hS => ?_)
    obtain ⟨er_17, hW⟩ := hR
    obtain ⟨g_19, eg_19⟩ : ∃ z, z = f_refW g := ⟨_, rfl⟩
    rw [← eg_19] at hW
    refine vx_ret ?_
    refine r_iret (pc := 17) E hr hlk hS (by decide) (by decide) ?_ dX3_down_17
    exact ⟨(by subst er_4 eg_19 er_17; first | assumption | (simp [xo, ek_2, c_6, Int32.not_lt.mp c_6]; done)), (by subst er_4 eg_19 er_17; first | with_reducible rfl | (simp [f_dnR, f_dnX, c_6, Int32.not_lt.mp c_6, p_TB, p_TV, p_TC, p_TI, p_BT, p_BV, p_BC, p_BI, p_VT, p_VB, p_VC, p_VI, p_CT, p_CB, p_CV, p_CI, p_IT, p_IB, p_IV, p_IC, p_TT, p_BB, p_CC, p_II]; done)), hW.to (by subst er_4 eg_19 er_17; first | with_reducible rfl | (simp [f_dnR, f_dnX, c_6, Int32.not_lt.mp c_6, p_TB, p_TV, p_TC, p_TI, p_BT, p_BV, p_BC, p_BI, p_VT, p_VB, p_VC, p_VI, p_CT, p_CB, p_CV, p_CI, p_IT, p_IB, p_IV, p_IC, p_TT, p_BB, p_CC, p_II]; done))⟩
set_option maxHeartbeats 4000000 in
set_option maxRecDepth 100000 in
/-- Bestratios.depthOf(LBestratios$Fraction;)J -/
theorem c_X3_depthOf (l : Launch) (D : va_G) (tk : Nat → ClassId) (N0 : Nat) (sa : Nat → Nat) {ad : Nat → Nat} (hAD : ADok N0 ad) (sz : Nat) (g : CS) (i : Nat) (hi : i < 15) : Met l yX3_depthOf (wsy yX3_depthOf cX3_depthOf 2 (some .long)) ({ frames := 3, cells := 0, slots := 0, locals := 78 } : Room) (cP D tk N0 sa [.ref (ad 15), .ref (ad i)] sz (fun H => CW D tk ad g H)) (kQl (fun r H => r = f_depR g i ∧ CW D tk ad (f_depW g i) H) (cwA ad sz)) (0) (0) (cwA ad sz) := by
  refine mStart RX3 rfl (by decide +kernel) (Nat.le_of_ble_eq_true rfl) ?_
  intro p e s m args below meth c E hr hlk hnm hsz hC hF ls hl
  subst hsz
  obtain ⟨hx, hb, -⟩ := id E
  have hA : ∀ q, (cwA ad s.heap.size) q → N0 ≤ q := cwA.ge hAD hC.2.1
  have hn : ∀ q, s.heap.size ≤ q → (cwA ad s.heap.size) q := fun q h => Or.inr h
  have hS : va_S (cwA ad s.heap.size) s.heap s.heap [] := va_S.rf
  have hl : lv_has ls 2 [(0, .ref (ad 15)), (1, .ref (ad i))] := hl
  have hW : CW D tk ad g s.heap := hF
  refine lv_aload_n (pc := 0) hx hb dX3_depthOf_0 rfl (lv_at hl 1 rfl) ?_
  refine k_i (pc := 1) (k_V E hC hS hA hl.1 (c1.recv hC (hW.fr (i := i) hi) rfl) rfl (c_X0_sign l D tk N0 sa hAD s.heap.size g i hi ) kw_613 kw_614 kw_615 kw_2 kw_616 (n := 0) (by decide +kernel) rfl ⟨⟨rfl, rfl⟩, ⟨by decide, by decide⟩, by decide, by decide⟩ rfl (Nat.le_of_ble_eq_true rfl) hW dX3_depthOf_1) hS (fun q z w => absurd w (Nat.not_le.mpr z)) hn (fun r_1 H locs hR hz hk hS => ?_)
  have er_1 := hR
  have hW := hW.new hk
  refine lv_if_gt (pc := 4) (tgt := 11) hx hb dX3_depthOf_4 (by decide) (fun c_3 => ?_) (fun c_3 => ?_)
  · refine lv_aload_n (pc := 11) hx hb dX3_depthOf_11 rfl (lv_at hl 0 rfl) ?_
    refine r_get (pc := 12) E hC hW.obj 8 (v := .ref (ad 19)) rfl rfl (by decide) uX3 (List.mem_cons_of_mem _ kw_122) (fun _ h => h) dX3_depthOf_12 ?_
    refine lv_aload_n (pc := 15) hx hb dX3_depthOf_15 rfl (lv_at hl 1 rfl) ?_
    refine k_v (pc := 16) (k_V E hC hS hA hl.1 (c1.recv hC (hW.tm (j := 1) (by decide)) rfl) rfl (c_X2_takeApart l D tk N0 sa hAD H.size g 1 (by decide) i hi ) kw_563 kw_564 kw_565 kw_3 kw_566 (n := 1) (by decide +kernel) rfl ⟨⟨rfl, rfl⟩, ⟨by decide, by decide⟩, by decide, by decide⟩ rfl (Nat.le_of_ble_eq_true rfl) hW dX3_depthOf_16) hS (fun q _ w => cwA.go hS.1 q w) hn (fun H locs hR hz hk hS => ?_)
    have hW := hR
    obtain ⟨g_6, eg_6⟩ : ∃ z, z = f_apart g 1 i := ⟨_, rfl⟩
    rw [← eg_6] at hW
    refine lv_aload_n (pc := 19) hx hb dX3_depthOf_19 rfl (lv_at hl 0 rfl) ?_
    refine r_get (pc := 20) E hC hW.obj 8 (v := .ref (ad 19)) rfl rfl (by decide) uX3 (List.mem_cons_of_mem _ kw_122) (fun _ h => h) dX3_depthOf_20 ?_
    refine k_l (pc := 23) (k_V E hC hS hA hl.1 (c1.recv hC (hW.tm (j := 1) (by decide)) rfl) rfl (c_X2_total l D tk N0 sa hAD H.size g_6 1 (by decide) ) kw_699 kw_700 kw_701 kw_3 kw_702 (n := 0) (by decide +kernel) rfl ⟨⟨rfl, rfl⟩, ⟨by decide, by decide⟩, by decide, by decide⟩ rfl (Nat.le_of_ble_eq_true rfl) hW dX3_depthOf_23) hS (fun q z w => absurd w (Nat.not_le.mpr z)) hn (fun r_7 H locs hR hz hk hS => ?_)
    have er_7 := hR
    have hW := hW.new hk
    refine lv_lconst (pc := 26) (v := 1) hx hb dX3_depthOf_26 (by decide) ?_
    refine lv_lsub (pc := 27) hx hb dX3_depthOf_27 ?_
    refine r_lret (pc := 28) E hr hlk hS (by decide) (by decide) ?_ dX3_depthOf_28
    exact ⟨(by subst er_1 eg_6 er_7; first | with_reducible rfl | (simp [f_depR, f_depW, c_3, Int32.not_le.mpr c_3, p_TB, p_TV, p_TC, p_TI, p_BT, p_BV, p_BC, p_BI, p_VT, p_VB, p_VC, p_VI, p_CT, p_CB, p_CV, p_CI, p_IT, p_IB, p_IV, p_IC, p_TT, p_BB, p_CC, p_II]; done)), hW.to (by subst er_1 eg_6 er_7; first | with_reducible rfl | (simp [f_depR, f_depW, c_3, Int32.not_le.mpr c_3, p_TB, p_TV, p_TC, p_TI, p_BT, p_BV, p_BC, p_BI, p_VT, p_VB, p_VC, p_VI, p_CT, p_CB, p_CV, p_CI, p_IT, p_IB, p_IV, p_IC, p_TT, p_BB, p_CC, p_II]; done))⟩
  · refine lv_ldc2 (pc := 7) (v := (-9)) hx hb E.2.2.2.1 (E.2.2.2.2 _ (List.mem_cons_of_mem _ kw_698)) dX3_depthOf_7 ?_
    refine r_lret (pc := 10) E hr hlk hS (by decide) (by decide) ?_ dX3_depthOf_10
    exact ⟨(by subst er_1; first | with_reducible rfl | (simp [f_depR, f_depW, c_3, Int32.not_lt.mp c_3, p_TB, p_TV, p_TC, p_TI, p_BT, p_BV, p_BC, p_BI, p_VT, p_VB, p_VC, p_VI, p_CT, p_CB, p_CV, p_CI, p_IT, p_IB, p_IV, p_IC, p_TT, p_BB, p_CC, p_II]; done)), hW.to (by subst er_1; first | with_reducible rfl | (simp [f_depR, f_depW, c_3, Int32.not_lt.mp c_3, p_TB, p_TV, p_TC, p_TI, p_BT, p_BV, p_BC, p_BI, p_VT, p_VB, p_VC, p_VI, p_CT, p_CB, p_CV, p_CI, p_IT, p_IB, p_IV, p_IC, p_TT, p_BB, p_CC, p_II]; done))⟩
set_option maxHeartbeats 4000000 in
set_option maxRecDepth 100000 in
/-- Bestratios.depth(I)I -/
theorem c_X3_depth (l : Launch) (hlst : l.stackTraces = false) (D : va_G) (tk : Nat → ClassId) (N0 : Nat) (sa : Nat → Nat) {ad : Nat → Nat} (hAD : ADok N0 ad) (sz : Nat) (g : CS) (r_ : Int32) : vx_Met l yX3_depth (wsy yX3_depth cX3_depth 2 (some .int)) ({ frames := 7, cells := 1, slots := 6, locals := 111 } : Room) (cP D tk N0 sa [.ref (ad 15), .int r_] sz (fun H => CW D tk ad g H)) (kQi (fun r H => bR r_ = 0 ∧ r = (f_depR g (nn r_)).toInt32 ∧ CW D tk ad (f_depW g (nn r_)) H) (cwA ad sz)) (kX (fun E => (E = "java/lang/IndexOutOfBoundsException" ∧ bR r_ = 1)) sz) (1) (6) (cwA ad sz) := by
  refine mStartX RX3 rfl (by decide +kernel) (Nat.le_of_ble_eq_true rfl) ?_
  intro p e s m args below meth c E hr hlk htb hsz hC hF ls hl
  subst hsz
  obtain ⟨hx, hb, -⟩ := id E
  have hA : ∀ q, (cwA ad s.heap.size) q → N0 ≤ q := cwA.ge hAD hC.2.1
  have hn : ∀ q, s.heap.size ≤ q → (cwA ad s.heap.size) q := fun q h => Or.inr h
  have hS : va_S (cwA ad s.heap.size) s.heap s.heap [] := va_S.rf
  have hU : ∀ q, q < s.heap.size → s.heap[q]? = s.heap[q]? := fun _ _ => rfl
  have hl : lv_has ls 2 [(0, .ref (ad 15)), (1, .int r_)] := hl
  have hW : CW D tk ad g s.heap := hF
  refine lv_aload_n (pc := 0) hx hb dX3_depth_0 rfl (lv_at hl 0 rfl) ?_
  refine lv_aload_n (pc := 1) hx hb dX3_depth_1 rfl (lv_at hl 0 rfl) ?_
  refine lv_iload_n (pc := 2) hx hb dX3_depth_2 rfl (lv_at hl 1 rfl) ?_
  have hZ := hS.1
  refine kx_r (pc := 3) (kx_V E hC hS hA hl.1 (c1.recv hC hW.obj rfl) rfl (c_X3_ratioAt l hlst D tk N0 sa hAD s.heap.size g r_ ) kw_809 kw_811 kp_15 kw_1 kw_812 (n := 1) (by decide +kernel) rfl ⟨⟨rfl, rfl⟩, ⟨by decide, by decide⟩, by decide, by decide⟩ rfl (Nat.le_of_ble_eq_true rfl) hW dX3_depth_3) hS (fun q z w => absurd w (Nat.not_le.mpr z)) hn hlk htb hU (fun E9 h9 => by rcases h9 with ⟨rfl, h9⟩ <;> first | (simp [h9]; done) | (simp [xo, h9]; done)) ⟨by decide, by decide⟩ (fun r_1 H locs hR hz hk hS => ?_)
  have hU := fun q (hq : q < s.heap.size) => (hk q (Nat.lt_of_lt_of_le hq hZ) (Nat.not_le.mpr (Nat.lt_of_lt_of_le hq hZ))).trans (hU q hq)
  obtain ⟨ek_2, er_1⟩ := hR
  have hW := hW.new hk
  have hi_3 : nn r_ < 15 := Nat.lt_of_lt_of_le (bR_lt ek_2) (by decide)
  subst er_1
  refine k_l (pc := 6) (k_V E hC hS hA hl.1 (c1.recv hC hW.obj rfl) rfl (c_X3_depthOf l D tk N0 sa hAD H.size g ((nn r_)) hi_3 ) kw_694 kw_696 kp_11 kw_1 kw_697 (n := 1) (by decide +kernel) rfl ⟨⟨rfl, rfl⟩, ⟨by decide, by decide⟩, by decide, by decide⟩ rfl (Nat.le_of_ble_eq_true rfl) hW dX3_depth_6) hS (fun q _ w => cwA.go hS.1 q w) hn (fun r_4 H locs hR hz hk hS => ?_)
  obtain ⟨er_4, hW⟩ := hR
  obtain ⟨g_6, eg_6⟩ : ∃ z, z = f_depW g ((nn r_)) := ⟨_, rfl⟩
  rw [← eg_6] at hW
  refine lv_l2i (pc := 9) (v := r_4.toInt32) hx hb dX3_depth_9 rfl ?_
  refine vx_ret ?_
  refine r_iret (pc := 10) E hr hlk hS (by decide) (by decide) ?_ dX3_depth_10
  exact ⟨(by subst eg_6 er_4; first | assumption | (simp [xo, ek_2]; done)), (by subst eg_6 er_4; first | with_reducible rfl | (simp [p_TB, p_TV, p_TC, p_TI, p_BT, p_BV, p_BC, p_BI, p_VT, p_VB, p_VC, p_VI, p_CT, p_CB, p_CV, p_CI, p_IT, p_IB, p_IV, p_IC, p_TT, p_BB, p_CC, p_II]; done) | rfl), hW.to (by subst eg_6 er_4; first | with_reducible rfl | (simp [p_TB, p_TV, p_TC, p_TI, p_BT, p_BV, p_BC, p_BI, p_VT, p_VB, p_VC, p_VI, p_CT, p_CB, p_CV, p_CI, p_IT, p_IB, p_IV, p_IC, p_TT, p_BB, p_CC, p_II]; done) | rfl)⟩
set_option maxHeartbeats 4000000 in
set_option maxRecDepth 100000 in
/-- Bestratios.before(I)I -/
theorem c_X3_before (l : Launch) (hlst : l.stackTraces = false) (D : va_G) (tk : Nat → ClassId) (N0 : Nat) (sa : Nat → Nat) {ad : Nat → Nat} (hAD : ADok N0 ad) (sz : Nat) (g : CS) (r_ : Int32) : vx_Met l yX3_before (wsy yX3_before cX3_before 3 (some .int)) ({ frames := 7, cells := 1, slots := 6, locals := 111 } : Room) (cP D tk N0 sa [.ref (ad 15), .int r_] sz (fun H => CW D tk ad g H)) (kQi (fun r H => bR r_ = 0 ∧ r = f_befR g (nn r_) ∧ CW D tk ad (f_befW g (nn r_)) H) (cwA ad sz)) (kX (fun E => (E = "java/lang/IndexOutOfBoundsException" ∧ bR r_ = 1)) sz) (1) (6) (cwA ad sz) := by
  refine mStartX RX3 rfl (by decide +kernel) (Nat.le_of_ble_eq_true rfl) ?_
  intro p e s m args below meth c E hr hlk htb hsz hC hF ls hl
  subst hsz
  obtain ⟨hx, hb, -⟩ := id E
  have hA : ∀ q, (cwA ad s.heap.size) q → N0 ≤ q := cwA.ge hAD hC.2.1
  have hn : ∀ q, s.heap.size ≤ q → (cwA ad s.heap.size) q := fun q h => Or.inr h
  have hS : va_S (cwA ad s.heap.size) s.heap s.heap [] := va_S.rf
  have hU : ∀ q, q < s.heap.size → s.heap[q]? = s.heap[q]? := fun _ _ => rfl
  have hl : lv_has ls 3 [(0, .ref (ad 15)), (1, .int r_)] := hl
  have hW : CW D tk ad g s.heap := hF
  refine lv_aload_n (pc := 0) hx hb dX3_before_0 rfl (lv_at hl 0 rfl) ?_
  refine lv_iload_n (pc := 1) hx hb dX3_before_1 rfl (lv_at hl 1 rfl) ?_
  have hZ := hS.1
  refine kx_r (pc := 2) (kx_V E hC hS hA hl.1 (c1.recv hC hW.obj rfl) rfl (c_X3_ratioAt l hlst D tk N0 sa hAD s.heap.size g r_ ) kw_809 kw_811 kp_15 kw_1 kw_812 (n := 1) (by decide +kernel) rfl ⟨⟨rfl, rfl⟩, ⟨by decide, by decide⟩, by decide, by decide⟩ rfl (Nat.le_of_ble_eq_true rfl) hW dX3_before_2) hS (fun q z w => absurd w (Nat.not_le.mpr z)) hn hlk htb hU (fun E9 h9 => by rcases h9 with ⟨rfl, h9⟩ <;> first | (simp [h9]; done) | (simp [xo, h9]; done)) ⟨by decide, by decide⟩ (fun r_1 H locs hR hz hk hS => ?_)
  have hU := fun q (hq : q < s.heap.size) => (hk q (Nat.lt_of_lt_of_le hq hZ) (Nat.not_le.mpr (Nat.lt_of_lt_of_le hq hZ))).trans (hU q hq)
  obtain ⟨ek_2, er_1⟩ := hR
  have hW := hW.new hk
  have hi_3 : nn r_ < 15 := Nat.lt_of_lt_of_le (bR_lt ek_2) (by decide)
  subst er_1
  refine lv_astore_n (pc := 5) (lv' := [(2, .ref (ad (nn r_))), (0, .ref (ad 15)), (1, .int r_)]) hx hb dX3_before_5 rfl hl (by decide) rfl (fun ls hl => ?_)
  refine lv_aload_n (pc := 6) hx hb dX3_before_6 rfl (lv_at hl 0 rfl) ?_
  have hZ := hS.1
  refine k_i (pc := 7) (k_V E hC hS hA hl.1 (c1.recv hC (hW.fr (i := (nn r_)) hi_3) rfl) rfl (c_X0_sign l D tk N0 sa hAD H.size g ((nn r_)) hi_3 ) kw_613 kw_614 kw_615 kw_2 kw_616 (n := 0) (by decide +kernel) rfl ⟨⟨rfl, rfl⟩, ⟨by decide, by decide⟩, by decide, by decide⟩ rfl (Nat.le_of_ble_eq_true rfl) hW dX3_before_7) hS (fun q z w => absurd w (Nat.not_le.mpr z)) hn (fun r_4 H locs hR hz hk hS => ?_)
  have hU := fun q (hq : q < s.heap.size) => (hk q (Nat.lt_of_lt_of_le hq hZ) (Nat.not_le.mpr (Nat.lt_of_lt_of_le hq hZ))).trans (hU q hq)
  have er_4 := hR
  have hW := hW.new hk
  refine lv_if_le (pc := 10) (tgt := 20) hx hb dX3_before_10 (by decide) (fun c_6 => ?_) (fun c_6 => ?_)
  · refine lv_aload_n (pc := 20) hx hb dX3_before_20 rfl (lv_at hl 1 rfl) ?_
    refine k_i (pc := 21) (k_V E hC hS hA hl.1 (c1.recv hC hW.obj rfl) rfl (c_X3_refuse l D tk N0 sa hAD H.size g  ) kw_840 kw_842 kp_17 kw_1 kw_843 (n := 0) (by decide +kernel) rfl ⟨⟨rfl, rfl⟩, ⟨by decide, by decide⟩, by decide, by decide⟩ rfl (Nat.le_of_ble_eq_true rfl) hW dX3_before_21) hS (fun q _ w => cwA.go hS.1 q w) hn (fun r_7 H locs hR hz hk hS => ?_)
    obtain ⟨er_7, hW⟩ := hR
    obtain ⟨g_9, eg_9⟩ : ∃ z, z = f_refW g := ⟨_, rfl⟩
    rw [← eg_9] at hW
    refine vx_ret ?_
    refine r_iret (pc := 24) E hr hlk hS (by decide) (by decide) ?_ dX3_before_24
    exact ⟨(by subst er_4 eg_9 er_7; first | assumption | (simp [xo, ek_2, c_6, Int32.not_lt.mpr c_6]; done)), (by subst er_4 eg_9 er_7; first | with_reducible rfl | (simp [f_befR, f_befW, c_6, Int32.not_lt.mpr c_6, p_TB, p_TV, p_TC, p_TI, p_BT, p_BV, p_BC, p_BI, p_VT, p_VB, p_VC, p_VI, p_CT, p_CB, p_CV, p_CI, p_IT, p_IB, p_IV, p_IC, p_TT, p_BB, p_CC, p_II]; done)), hW.to (by subst er_4 eg_9 er_7; first | with_reducible rfl | (simp [f_befR, f_befW, c_6, Int32.not_lt.mpr c_6, p_TB, p_TV, p_TC, p_TI, p_BT, p_BV, p_BC, p_BI, p_VT, p_VB, p_VC, p_VI, p_CT, p_CB, p_CV, p_CI, p_IT, p_IB, p_IV, p_IC, p_TT, p_BB, p_CC, p_II]; done))⟩
  · refine lv_aload_n (pc := 13) hx hb dX3_before_13 rfl (lv_at hl 0 rfl) ?_
    have hZ := hS.1
    refine k_i (pc := 14) (k_V E hC hS hA hl.1 (c1.recv hC (hW.fr (i := (nn r_)) hi_3) rfl) rfl (c_X0_isOne l D tk N0 sa hAD H.size g ((nn r_)) hi_3 ) kw_1078 kw_1079 kw_1080 kw_2 kw_1081 (n := 0) (by decide +kernel) rfl ⟨⟨rfl, rfl⟩, ⟨by decide, by decide⟩, by decide, by decide⟩ rfl (Nat.le_of_ble_eq_true rfl) hW dX3_before_14) hS (fun q z w => absurd w (Nat.not_le.mpr z)) hn (fun r_10 H locs hR hz hk hS => ?_)
    have hU := fun q (hq : q < s.heap.size) => (hk q (Nat.lt_of_lt_of_le hq hZ) (Nat.not_le.mpr (Nat.lt_of_lt_of_le hq hZ))).trans (hU q hq)
    have er_10 := hR
    have hW := hW.new hk
    refine lv_if_eq (pc := 17) (tgt := 25) hx hb dX3_before_17 (by decide) (fun c_12 => ?_) (fun c_12 => ?_)
    · refine lv_aload_n (pc := 25) hx hb dX3_before_25 rfl (lv_at hl 1 rfl) ?_
      refine r_get (pc := 26) E hC hW.obj 5 (v := .ref (ad 6)) rfl rfl (by decide) uX3 (List.mem_cons_of_mem _ kw_119) (fun _ h => h) dX3_before_26 ?_
      refine lv_aload_n (pc := 29) hx hb dX3_before_29 rfl (lv_at hl 0 rfl) ?_
      refine k_v (pc := 30) (k_V E hC hS hA hl.1 (c1.recv hC (hW.fr (i := 6) (by decide)) rfl) rfl (c_X0_becomeForerunner l D tk N0 sa hAD H.size g 6 (by decide) ((nn r_)) hi_3 ) kw_643 kw_644 kw_645 kw_2 kw_646 (n := 1) (by decide +kernel) rfl ⟨⟨rfl, rfl⟩, ⟨by decide, by decide⟩, by decide, by decide⟩ rfl (Nat.le_of_ble_eq_true rfl) hW dX3_before_30) hS (fun q _ w => cwA.go hS.1 q w) hn (fun H locs hR hz hk hS => ?_)
      have hW := hR
      obtain ⟨g_15, eg_15⟩ : ∃ z, z = f_fore g 6 ((nn r_)) := ⟨_, rfl⟩
      rw [← eg_15] at hW
      refine lv_aload_n (pc := 33) hx hb dX3_before_33 rfl (lv_at hl 1 rfl) ?_
      refine lv_aload_n (pc := 34) hx hb dX3_before_34 rfl (lv_at hl 0 rfl) ?_
      refine k_i (pc := 35) (k_V E hC hS hA hl.1 (c1.recv hC hW.obj rfl) rfl (c_X3_settle l D tk N0 sa hAD H.size g_15 ((nn r_)) hi_3 ) kw_830 kw_832 kp_16 kw_1 kw_833 (n := 1) (by decide +kernel) rfl ⟨⟨rfl, rfl⟩, ⟨by decide, by decide⟩, by decide, by decide⟩ rfl (Nat.le_of_ble_eq_true rfl) hW dX3_before_35) hS (fun q _ w => cwA.go hS.1 q w) hn (fun r_16 H locs hR hz hk hS => ?_)
      obtain ⟨er_16, hW⟩ := hR
      obtain ⟨g_18, eg_18⟩ : ∃ z, z = f_setW g_15 ((nn r_)) := ⟨_, rfl⟩
      rw [← eg_18] at hW
      refine vx_ret ?_
      refine r_iret (pc := 38) E hr hlk hS (by decide) (by decide) ?_ dX3_before_38
      exact ⟨(by subst er_4 er_10 eg_15 eg_18 er_16; first | assumption | (simp [xo, ek_2, c_6, Int32.not_le.mp c_6, c_12]; done)), (by subst er_4 er_10 eg_15 eg_18 er_16; first | with_reducible rfl | (simp [f_befR, f_befW, c_6, Int32.not_le.mp c_6, c_12, p_TB, p_TV, p_TC, p_TI, p_BT, p_BV, p_BC, p_BI, p_VT, p_VB, p_VC, p_VI, p_CT, p_CB, p_CV, p_CI, p_IT, p_IB, p_IV, p_IC, p_TT, p_BB, p_CC, p_II]; done)), hW.to (by subst er_4 er_10 eg_15 eg_18 er_16; first | with_reducible rfl | (simp [f_befR, f_befW, c_6, Int32.not_le.mp c_6, c_12, p_TB, p_TV, p_TC, p_TI, p_BT, p_BV, p_BC, p_BI, p_VT, p_VB, p_VC, p_VI, p_CT, p_CB, p_CV, p_CI, p_IT, p_IB, p_IV, p_IC, p_TT, p_BB, p_CC, p_II]; done))⟩
    · refine lv_aload_n (pc := 20) hx hb dX3_before_20 rfl (lv_at hl 1 rfl) ?_
      refine k_i (pc := 21) (k_V E hC hS hA hl.1 (c1.recv hC hW.obj rfl) rfl (c_X3_refuse l D tk N0 sa hAD H.size g  ) kw_840 kw_842 kp_17 kw_1 kw_843 (n := 0) (by decide +kernel) rfl ⟨⟨rfl, rfl⟩, ⟨by decide, by decide⟩, by decide, by decide⟩ rfl (Nat.le_of_ble_eq_true rfl) hW dX3_before_21) hS (fun q _ w => cwA.go hS.1 q w) hn (fun r_19 H locs hR hz hk hS => ?_)
      obtain ⟨er_19, hW⟩ := hR
      obtain ⟨g_21, eg_21⟩ : ∃ z, z = f_refW g := ⟨_, rfl⟩
      rw [← eg_21] at hW
      refine vx_ret ?_
      refine r_iret (pc := 24) E hr hlk hS (by decide) (by decide) ?_ dX3_before_24
      exact ⟨(by subst er_4 er_10 eg_21 er_19; first | assumption | (simp [xo, ek_2, c_6, Int32.not_le.mp c_6, c_12]; done)), (by subst er_4 er_10 eg_21 er_19; first | with_reducible rfl | (simp [f_befR, f_befW, c_6, Int32.not_le.mp c_6, c_12, p_TB, p_TV, p_TC, p_TI, p_BT, p_BV, p_BC, p_BI, p_VT, p_VB, p_VC, p_VI, p_CT, p_CB, p_CV, p_CI, p_IT, p_IB, p_IV, p_IC, p_TT, p_BB, p_CC, p_II]; done)), hW.to (by subst er_4 er_10 eg_21 er_19; first | with_reducible rfl | (simp [f_befR, f_befW, c_6, Int32.not_le.mp c_6, c_12, p_TB, p_TV, p_TC, p_TI, p_BT, p_BV, p_BC, p_BI, p_VT, p_VB, p_VC, p_VI, p_CT, p_CB, p_CV, p_CI, p_IT, p_IB, p_IV, p_IC, p_TT, p_BB, p_CC, p_II]; done))⟩
