set_option maxHeartbeats 4000000 in
set_option maxRecDepth 100000 in
/-- Bestratios.over(III)I -/
theorem c_X3_over (l : Launch) (hlst : l.stackTraces = false) (D : va_G) (tk : Nat → ClassId) (N0 : Nat) (sa : Nat → Nat) {ad : Nat → Nat} (hAD : ADok N0 ad) (sz : Nat) (g : CS) (r_ : Int32) (q_ : Int32) (w_ : Int32) : vx_Met l yX3_over (wsy yX3_over cX3_over 7 (some .int)) ({ frames := 7, cells := 3, slots := 18, locals := 111 } : Room) (cP D tk N0 sa [.ref (ad 15), .int r_, .int q_, .int w_] sz (fun H => CW D tk ad g H)) (kQi (fun r H => xo (bR r_) (xo (bR q_) (bR w_)) = 0 ∧ r = f_overR g (nn r_) (nn q_) (nn w_) ∧ CW D tk ad (f_overW g (nn r_) (nn q_) (nn w_)) H) (cwA ad sz)) (kX (fun E => (E = "java/lang/IndexOutOfBoundsException" ∧ xo (bR r_) (xo (bR q_) (bR w_)) = 1)) sz) (3) (18) (cwA ad sz) := by
  refine mStartX RX3 rfl (by decide +kernel) (Nat.le_of_ble_eq_true rfl) ?_
  intro p e s m args below meth c E hr hlk htb hsz hC hF ls hl
  subst hsz
  obtain ⟨hx, hb, -⟩ := id E
  have hA : ∀ q, (cwA ad s.heap.size) q → N0 ≤ q := cwA.ge hAD hC.2.1
  have hn : ∀ q, s.heap.size ≤ q → (cwA ad s.heap.size) q := fun q h => Or.inr h
  have hS : va_S (cwA ad s.heap.size) s.heap s.heap [] := va_S.rf
  have hU : ∀ q, q < s.heap.size → s.heap[q]? = s.heap[q]? := fun _ _ => rfl
  have hl : lv_has ls 7 [(0, .ref (ad 15)), (1, .int r_), (2, .int q_), (3, .int w_)] := hl
  have hW : CW D tk ad g s.heap := hF
  refine lv_aload_n (pc := 0) hx hb dX3_over_0 rfl (lv_at hl 0 rfl) ?_
  refine lv_iload_n (pc := 1) hx hb dX3_over_1 rfl (lv_at hl 1 rfl) ?_
  have hZ := hS.1
  refine kx_r (pc := 2) (kx_V E hC hS hA hl.1 (c1.recv hC hW.obj rfl) rfl (c_X3_ratioAt l hlst D tk N0 sa hAD s.heap.size g r_ ) kw_809 kw_811 kp_15 kw_1 kw_812 (n := 1) (by decide +kernel) rfl ⟨⟨rfl, rfl⟩, ⟨by decide, by decide⟩, by decide, by decide⟩ rfl (Nat.le_of_ble_eq_true rfl) hW dX3_over_2) hS (fun q z w => absurd w (Nat.not_le.mpr z)) hn hlk htb hU (fun E9 h9 => by rcases h9 with ⟨rfl, h9⟩ <;> first | (simp [h9]; done) | (simp [xo, h9]; done)) ⟨by decide, by decide⟩ (fun r_1 H locs hR hz hk hS => ?_)
  have hU := fun q (hq : q < s.heap.size) => (hk q (Nat.lt_of_lt_of_le hq hZ) (Nat.not_le.mpr (Nat.lt_of_lt_of_le hq hZ))).trans (hU q hq)
  obtain ⟨ek_2, er_1⟩ := hR
  have hW := hW.new hk
  have hi_3 : nn r_ < 15 := Nat.lt_of_lt_of_le (bR_lt ek_2) (by decide)
  subst er_1
  refine lv_astore (pc := 5) (lv' := [(4, .ref (ad (nn r_))), (0, .ref (ad 15)), (1, .int r_), (2, .int q_), (3, .int w_)]) hx hb dX3_over_5 hl (by decide) rfl (fun ls hl => ?_)
  refine lv_aload_n (pc := 7) hx hb dX3_over_7 rfl (lv_at hl 1 rfl) ?_
  refine lv_iload_n (pc := 8) hx hb dX3_over_8 rfl (lv_at hl 3 rfl) ?_
  have hZ := hS.1
  refine kx_r (pc := 9) (kx_V E hC hS hA hl.1 (c1.recv hC hW.obj rfl) rfl (c_X3_ratioAt l hlst D tk N0 sa hAD H.size g q_ ) kw_809 kw_811 kp_15 kw_1 kw_812 (n := 1) (by decide +kernel) rfl ⟨⟨rfl, rfl⟩, ⟨by decide, by decide⟩, by decide, by decide⟩ rfl (Nat.le_of_ble_eq_true rfl) hW dX3_over_9) hS (fun q z w => absurd w (Nat.not_le.mpr z)) hn hlk htb hU (fun E9 h9 => by rcases h9 with ⟨rfl, h9⟩ <;> first | (simp [h9]; done) | (simp [xo, h9, ek_2]; done)) ⟨by decide, by decide⟩ (fun r_4 H locs hR hz hk hS => ?_)
  have hU := fun q (hq : q < s.heap.size) => (hk q (Nat.lt_of_lt_of_le hq hZ) (Nat.not_le.mpr (Nat.lt_of_lt_of_le hq hZ))).trans (hU q hq)
  obtain ⟨ek_5, er_4⟩ := hR
  have hW := hW.new hk
  have hi_6 : nn q_ < 15 := Nat.lt_of_lt_of_le (bR_lt ek_5) (by decide)
  subst er_4
  refine lv_astore (pc := 12) (lv' := [(5, .ref (ad (nn q_))), (4, .ref (ad (nn r_))), (0, .ref (ad 15)), (1, .int r_), (2, .int q_), (3, .int w_)]) hx hb dX3_over_12 hl (by decide) rfl (fun ls hl => ?_)
  refine lv_aload_n (pc := 14) hx hb dX3_over_14 rfl (lv_at hl 2 rfl) ?_
  refine lv_iload_n (pc := 15) hx hb dX3_over_15 rfl (lv_at hl 5 rfl) ?_
  have hZ := hS.1
  refine kx_r (pc := 16) (kx_V E hC hS hA hl.1 (c1.recv hC hW.obj rfl) rfl (c_X3_ratioAt l hlst D tk N0 sa hAD H.size g w_ ) kw_809 kw_811 kp_15 kw_1 kw_812 (n := 1) (by decide +kernel) rfl ⟨⟨rfl, rfl⟩, ⟨by decide, by decide⟩, by decide, by decide⟩ rfl (Nat.le_of_ble_eq_true rfl) hW dX3_over_16) hS (fun q z w => absurd w (Nat.not_le.mpr z)) hn hlk htb hU (fun E9 h9 => by rcases h9 with ⟨rfl, h9⟩ <;> first | (simp [h9]; done) | (simp [xo, h9, ek_2, ek_5]; done)) ⟨by decide, by decide⟩ (fun r_7 H locs hR hz hk hS => ?_)
  have hU := fun q (hq : q < s.heap.size) => (hk q (Nat.lt_of_lt_of_le hq hZ) (Nat.not_le.mpr (Nat.lt_of_lt_of_le hq hZ))).trans (hU q hq)
  obtain ⟨ek_8, er_7⟩ := hR
  have hW := hW.new hk
  have hi_9 : nn w_ < 15 := Nat.lt_of_lt_of_le (bR_lt ek_8) (by decide)
  subst er_7
  refine lv_astore (pc := 19) (lv' := [(6, .ref (ad (nn w_))), (5, .ref (ad (nn q_))), (4, .ref (ad (nn r_))), (0, .ref (ad 15)), (1, .int r_), (2, .int q_), (3, .int w_)]) hx hb dX3_over_19 hl (by decide) rfl (fun ls hl => ?_)
  refine lv_aload (pc := 21) hx hb dX3_over_21 (lv_at hl 0 rfl) ?_
  have hZ := hS.1
  refine k_i (pc := 23) (k_V E hC hS hA hl.1 (c1.recv hC (hW.fr (i := (nn w_)) hi_9) rfl) rfl (c_X0_sign l D tk N0 sa hAD H.size g ((nn w_)) hi_9 ) kw_613 kw_614 kw_615 kw_2 kw_616 (n := 0) (by decide +kernel) rfl ⟨⟨rfl, rfl⟩, ⟨by decide, by decide⟩, by decide, by decide⟩ rfl (Nat.le_of_ble_eq_true rfl) hW dX3_over_23) hS (fun q z w => absurd w (Nat.not_le.mpr z)) hn (fun r_10 H locs hR hz hk hS => ?_)
  have hU := fun q (hq : q < s.heap.size) => (hk q (Nat.lt_of_lt_of_le hq hZ) (Nat.not_le.mpr (Nat.lt_of_lt_of_le hq hZ))).trans (hU q hq)
  have er_10 := hR
  have hW := hW.new hk
  refine lv_if_ne (pc := 26) (tgt := 34) hx hb dX3_over_26 (by decide) (fun c_12 => ?_) (fun c_12 => ?_)
  · refine lv_aload_n (pc := 34) hx hb dX3_over_34 rfl (lv_at hl 3 rfl) ?_
    refine r_get (pc := 35) E hC hW.obj 5 (v := .ref (ad 6)) rfl rfl (by decide) uX3 (List.mem_cons_of_mem _ kw_119) (fun _ h => h) dX3_over_35 ?_
    refine lv_aload (pc := 38) hx hb dX3_over_38 (lv_at hl 1 rfl) ?_
    refine lv_aload (pc := 40) hx hb dX3_over_40 (lv_at hl 0 rfl) ?_
    refine k_v (pc := 42) (k_V E hC hS hA hl.1 (c1.recv hC (hW.fr (i := 6) (by decide)) rfl) rfl (c_X0_becomeQuotient l D tk N0 sa hAD H.size g 6 (by decide) ((nn q_)) hi_6 ((nn w_)) hi_9 ) kw_901 kw_902 kw_903 kw_2 kw_904 (n := 2) (by decide +kernel) rfl ⟨⟨rfl, rfl⟩, ⟨by decide, by decide⟩, by decide, by decide⟩ rfl (Nat.le_of_ble_eq_true rfl) hW dX3_over_42) hS (fun q _ w => cwA.go hS.1 q w) hn (fun H locs hR hz hk hS => ?_)
    have hW := hR
    obtain ⟨g_15, eg_15⟩ : ∃ z, z = f_quo g 6 ((nn q_)) ((nn w_)) := ⟨_, rfl⟩
    rw [← eg_15] at hW
    refine lv_aload_n (pc := 45) hx hb dX3_over_45 rfl (lv_at hl 3 rfl) ?_
    refine lv_aload (pc := 46) hx hb dX3_over_46 (lv_at hl 2 rfl) ?_
    refine k_i (pc := 48) (k_V E hC hS hA hl.1 (c1.recv hC hW.obj rfl) rfl (c_X3_settle l D tk N0 sa hAD H.size g_15 ((nn r_)) hi_3 ) kw_830 kw_832 kp_16 kw_1 kw_833 (n := 1) (by decide +kernel) rfl ⟨⟨rfl, rfl⟩, ⟨by decide, by decide⟩, by decide, by decide⟩ rfl (Nat.le_of_ble_eq_true rfl) hW dX3_over_48) hS (fun q _ w => cwA.go hS.1 q w) hn (fun r_16 H locs hR hz hk hS => ?_)
    obtain ⟨er_16, hW⟩ := hR
    obtain ⟨g_18, eg_18⟩ : ∃ z, z = f_setW g_15 ((nn r_)) := ⟨_, rfl⟩
    rw [← eg_18] at hW
    refine vx_ret ?_
    refine r_iret (pc := 51) E hr hlk hS (by decide) (by decide) ?_ dX3_over_51
    exact ⟨(by subst er_10 eg_15 eg_18 er_16; first | assumption | (simp [xo, ek_2, ek_5, ek_8, c_12]; done)), (by subst er_10 eg_15 eg_18 er_16; first | with_reducible rfl | (simp [f_overR, f_overW, c_12, p_TB, p_TV, p_TC, p_TI, p_BT, p_BV, p_BC, p_BI, p_VT, p_VB, p_VC, p_VI, p_CT, p_CB, p_CV, p_CI, p_IT, p_IB, p_IV, p_IC, p_TT, p_BB, p_CC, p_II]; done)), hW.to (by subst er_10 eg_15 eg_18 er_16; first | with_reducible rfl | (simp [f_overR, f_overW, c_12, p_TB, p_TV, p_TC, p_TI, p_BT, p_BV, p_BC, p_BI, p_VT, p_VB, p_VC, p_VI, p_CT, p_CB, p_CV, p_CI, p_IT, p_IB, p_IV, p_IC, p_TT, p_BB, p_CC, p_II]; done))⟩
  · refine lv_aload_n (pc := 29) hx hb dX3_over_29 rfl (lv_at hl 3 rfl) ?_
    refine k_i (pc := 30) (k_V E hC hS hA hl.1 (c1.recv hC hW.obj rfl) rfl (c_X3_refuse l D tk N0 sa hAD H.size g  ) kw_840 kw_842 kp_17 kw_1 kw_843 (n := 0) (by decide +kernel) rfl ⟨⟨rfl, rfl⟩, ⟨by decide, by decide⟩, by decide, by decide⟩ rfl (Nat.le_of_ble_eq_true rfl) hW dX3_over_30) hS (fun q _ w => cwA.go hS.1 q w) hn (fun r_19 H locs hR hz hk hS => ?_)
    obtain ⟨er_19, hW⟩ := hR
    obtain ⟨g_21, eg_21⟩ : ∃ z, z = f_refW g := ⟨_, rfl⟩
    rw [← eg_21] at hW
    refine vx_ret ?_
    refine r_iret (pc := 33) E hr hlk hS (by decide) (by decide) ?_ dX3_over_33
    exact ⟨(by subst er_10 eg_21 er_19; first | assumption | (simp [xo, ek_2, ek_5, ek_8, c_12]; done)), (by subst er_10 eg_21 er_19; first | with_reducible rfl | (simp [f_overR, f_overW, c_12, p_TB, p_TV, p_TC, p_TI, p_BT, p_BV, p_BC, p_BI, p_VT, p_VB, p_VC, p_VI, p_CT, p_CB, p_CV, p_CI, p_IT, p_IB, p_IV, p_IC, p_TT, p_BB, p_CC, p_II]; done)), hW.to (by subst er_10 eg_21 er_19; first | with_reducible rfl | (simp [f_overR, f_overW, c_12, p_TB, p_TV, p_TC, p_TI, p_BT, p_BV, p_BC, p_BI, p_VT, p_VB, p_VC, p_VI, p_CT, p_CB, p_CV, p_CI, p_IT, p_IB, p_IV, p_IC, p_TT, p_BB, p_CC, p_II]; done))⟩
