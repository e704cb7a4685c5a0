set_option maxHeartbeats 4000000 in
set_option maxRecDepth 100000 in
/-- Bestratios.raise(II)I -/
theorem c_X3_raise (l : Launch) (hlst : l.stackTraces = false) (D : va_G) (tk : Nat → ClassId) (N0 : Nat) (sa : Nat → Nat) {ad : Nat → Nat} (hAD : ADok N0 ad) (sz : Nat) (g : CS) (r_ : Int32) (tm : Int32) : vx_Met l yX3_raise (wsy yX3_raise cX3_raise 4 (some .int)) ({ frames := 7, cells := 2, slots := 12, locals := 112 } : Room) (cP D tk N0 sa [.ref (ad 15), .int r_, .int tm] sz (fun H => CW D tk ad g H)) (kQi (fun r H => xo (bR r_) (2 * bW tm (-6) 6) = 0 ∧ r = f_raiR g (nn r_) tm ∧ CW D tk ad (f_raiW g (nn r_) tm) H) (cwA ad sz)) (kX (fun E => (E = "java/lang/IndexOutOfBoundsException" ∧ xo (bR r_) (2 * bW tm (-6) 6) = 1) ∨ (E = "java/lang/IllegalArgumentException" ∧ xo (bR r_) (2 * bW tm (-6) 6) = 2)) sz) (2) (12) (cwA ad sz) := by
  refine mStartX RX3 rfl (by decide +kernel) (Nat.le_of_ble_eq_true rfl) ?_
  intro p e s m args below meth c E hr hlk htb hsz hC hF ls hl
  subst hsz
  obtain ⟨hx, hb, -⟩ := id E
  have hA : ∀ q, (cwA ad s.heap.size) q → N0 ≤ q := cwA.ge hAD hC.2.1
  have hn : ∀ q, s.heap.size ≤ q → (cwA ad s.heap.size) q := fun q h => Or.inr h
  have hS : va_S (cwA ad s.heap.size) s.heap s.heap [] := va_S.rf
  have hU : ∀ q, q < s.heap.size → s.heap[q]? = s.heap[q]? := fun _ _ => rfl
  have hl : lv_has ls 4 [(0, .ref (ad 15)), (1, .int r_), (2, .int tm)] := hl
  have hW : CW D tk ad g s.heap := hF
  refine lv_aload_n (pc := 0) hx hb dX3_raise_0 rfl (lv_at hl 0 rfl) ?_
  refine lv_iload_n (pc := 1) hx hb dX3_raise_1 rfl (lv_at hl 1 rfl) ?_
  have hZ := hS.1
  refine kx_r (pc := 2) (kx_V E hC hS hA hl.1 (c1.recv hC hW.obj rfl) rfl (c_X3_ratioAt l hlst D tk N0 sa hAD s.heap.size g r_ ) kw_809 kw_811 kp_15 kw_1 kw_812 (n := 1) (by decide +kernel) rfl ⟨⟨rfl, rfl⟩, ⟨by decide, by decide⟩, by decide, by decide⟩ rfl (Nat.le_of_ble_eq_true rfl) hW dX3_raise_2) hS (fun q z w => absurd w (Nat.not_le.mpr z)) hn hlk htb hU (fun E9 h9 => by rcases h9 with ⟨rfl, h9⟩ <;> first | (simp [h9]; done) | (simp [xo, h9]; done)) ⟨by decide, by decide⟩ (fun r_1 H locs hR hz hk hS => ?_)
  have hU := fun q (hq : q < s.heap.size) => (hk q (Nat.lt_of_lt_of_le hq hZ) (Nat.not_le.mpr (Nat.lt_of_lt_of_le hq hZ))).trans (hU q hq)
  obtain ⟨ek_2, er_1⟩ := hR
  have hW := hW.new hk
  have hi_3 : nn r_ < 15 := Nat.lt_of_lt_of_le (bR_lt ek_2) (by decide)
  subst er_1
  refine lv_astore_n (pc := 5) (lv' := [(3, .ref (ad (nn r_))), (0, .ref (ad 15)), (1, .int r_), (2, .int tm)]) hx hb dX3_raise_5 rfl hl (by decide) rfl (fun ls hl => ?_)
  refine lv_iload_n (pc := 6) hx hb dX3_raise_6 rfl (lv_at hl 3 rfl) ?_
  refine lv_bipush (pc := 7) (v := (-6)) hx hb dX3_raise_7 (by decide) ?_
  refine lv_bipush (pc := 9) (v := 6) hx hb dX3_raise_9 (by decide) ?_
  have hZ := hS.1
  refine kx_v (pc := 11) (kx_S E hC hS hA hl.1 (c_X3_requireWithin l hlst D tk N0 sa H.size tm ((-6)) 6 ) kw_851 kw_852 kw_1 kw_853 (n := 3) (by decide +kernel) rfl ⟨⟨rfl, rfl⟩, ⟨by decide, by decide⟩, by decide, by decide⟩ rfl (Nat.le_of_ble_eq_true rfl) trivial dX3_raise_11) hS (fun q z w => absurd w (Nat.not_le.mpr z)) hn hlk htb hU (fun E9 h9 => by rcases h9 with ⟨rfl, h9⟩ <;> first | (simp [h9]; done) | (simp [xo, h9, ek_2]; done)) ⟨by decide, by decide⟩ (fun H locs hR hz hk hS => ?_)
  have hU := fun q (hq : q < s.heap.size) => (hk q (Nat.lt_of_lt_of_le hq hZ) (Nat.not_le.mpr (Nat.lt_of_lt_of_le hq hZ))).trans (hU q hq)
  have ek_5 := hR
  have hW := hW.new hk
  refine lv_iload_n (pc := 14) hx hb dX3_raise_14 rfl (lv_at hl 3 rfl) ?_
  refine lv_if_ge (pc := 15) (tgt := 30) hx hb dX3_raise_15 (by decide) (fun c_6 => ?_) (fun c_6 => ?_)
  · refine lv_aload_n (pc := 30) hx hb dX3_raise_30 rfl (lv_at hl 1 rfl) ?_
    refine r_get (pc := 31) E hC hW.obj 5 (v := .ref (ad 6)) rfl rfl (by decide) uX3 (List.mem_cons_of_mem _ kw_119) (fun _ h => h) dX3_raise_31 ?_
    refine lv_aload_n (pc := 34) hx hb dX3_raise_34 rfl (lv_at hl 0 rfl) ?_
    refine lv_iload_n (pc := 35) hx hb dX3_raise_35 rfl (lv_at hl 3 rfl) ?_
    refine k_v (pc := 36) (k_V E hC hS hA hl.1 (c1.recv hC (hW.fr (i := 6) (by decide)) rfl) rfl (c_X0_becomePower l D tk N0 sa hAD H.size g 6 (by decide) ((nn r_)) hi_3 tm ) kw_926 kw_927 kw_928 kw_2 kw_929 (n := 2) (by decide +kernel) rfl ⟨⟨rfl, rfl⟩, ⟨by decide, by decide⟩, by decide, by decide⟩ rfl (Nat.le_of_ble_eq_true rfl) hW dX3_raise_36) hS (fun q _ w => cwA.go hS.1 q w) hn (fun H locs hR hz hk hS => ?_)
    have hW := hR
    obtain ⟨g_9, eg_9⟩ : ∃ z, z = f_power g 6 ((nn r_)) tm := ⟨_, rfl⟩
    rw [← eg_9] at hW
    refine lv_aload_n (pc := 39) hx hb dX3_raise_39 rfl (lv_at hl 1 rfl) ?_
    refine lv_aload_n (pc := 40) hx hb dX3_raise_40 rfl (lv_at hl 0 rfl) ?_
    refine k_i (pc := 41) (k_V E hC hS hA hl.1 (c1.recv hC hW.obj rfl) rfl (c_X3_settle l D tk N0 sa hAD H.size g_9 ((nn r_)) hi_3 ) kw_830 kw_832 kp_16 kw_1 kw_833 (n := 1) (by decide +kernel) rfl ⟨⟨rfl, rfl⟩, ⟨by decide, by decide⟩, by decide, by decide⟩ rfl (Nat.le_of_ble_eq_true rfl) hW dX3_raise_41) hS (fun q _ w => cwA.go hS.1 q w) hn (fun r_10 H locs hR hz hk hS => ?_)
    obtain ⟨er_10, hW⟩ := hR
    obtain ⟨g_12, eg_12⟩ : ∃ z, z = f_setW g_9 ((nn r_)) := ⟨_, rfl⟩
    rw [← eg_12] at hW
    refine vx_ret ?_
    refine r_iret (pc := 44) E hr hlk hS (by decide) (by decide) ?_ dX3_raise_44
    exact ⟨(by subst eg_9 eg_12 er_10; first | assumption | (simp [xo, ek_2, ek_5, c_6, Int32.not_lt.mpr c_6]; done)), (by subst eg_9 eg_12 er_10; first | with_reducible rfl | (simp [f_raiR, f_raiW, c_6, Int32.not_lt.mpr c_6, p_TB, p_TV, p_TC, p_TI, p_BT, p_BV, p_BC, p_BI, p_VT, p_VB, p_VC, p_VI, p_CT, p_CB, p_CV, p_CI, p_IT, p_IB, p_IV, p_IC, p_TT, p_BB, p_CC, p_II]; done)), hW.to (by subst eg_9 eg_12 er_10; first | with_reducible rfl | (simp [f_raiR, f_raiW, c_6, Int32.not_lt.mpr c_6, p_TB, p_TV, p_TC, p_TI, p_BT, p_BV, p_BC, p_BI, p_VT, p_VB, p_VC, p_VI, p_CT, p_CB, p_CV, p_CI, p_IT, p_IB, p_IV, p_IC, p_TT, p_BB, p_CC, p_II]; done))⟩
  · refine lv_aload_n (pc := 18) hx hb dX3_raise_18 rfl (lv_at hl 0 rfl) ?_
    have hZ := hS.1
    refine k_i (pc := 19) (k_V E hC hS hA hl.1 (c1.recv hC (hW.fr (i := (nn r_)) hi_3) rfl) rfl (c_X0_sign l D tk N0 sa hAD H.size g ((nn r_)) hi_3 ) kw_613 kw_614 kw_615 kw_2 kw_616 (n := 0) (by decide +kernel) rfl ⟨⟨rfl, rfl⟩, ⟨by decide, by decide⟩, by decide, by decide⟩ rfl (Nat.le_of_ble_eq_true rfl) hW dX3_raise_19) hS (fun q z w => absurd w (Nat.not_le.mpr z)) hn (fun r_13 H locs hR hz hk hS => ?_)
    have hU := fun q (hq : q < s.heap.size) => (hk q (Nat.lt_of_lt_of_le hq hZ) (Nat.not_le.mpr (Nat.lt_of_lt_of_le hq hZ))).trans (hU q hq)
    have er_13 := hR
    have hW := hW.new hk
    refine lv_if_ne (pc := 22) (tgt := 30) hx hb dX3_raise_22 (by decide) (fun c_15 => ?_) (fun c_15 => ?_)
    · refine lv_aload_n (pc := 30) hx hb dX3_raise_30 rfl (lv_at hl 1 rfl) ?_
      refine r_get (pc := 31) E hC hW.obj 5 (v := .ref (ad 6)) rfl rfl (by decide) uX3 (List.mem_cons_of_mem _ kw_119) (fun _ h => h) dX3_raise_31 ?_
      refine lv_aload_n (pc := 34) hx hb dX3_raise_34 rfl (lv_at hl 0 rfl) ?_
      refine lv_iload_n (pc := 35) hx hb dX3_raise_35 rfl (lv_at hl 3 rfl) ?_
      refine k_v (pc := 36) (k_V E hC hS hA hl.1 (c1.recv hC (hW.fr (i := 6) (by decide)) rfl) rfl (c_X0_becomePower l D tk N0 sa hAD H.size g 6 (by decide) ((nn r_)) hi_3 tm ) kw_926 kw_927 kw_928 kw_2 kw_929 (n := 2) (by decide +kernel) rfl ⟨⟨rfl, rfl⟩, ⟨by decide, by decide⟩, by decide, by decide⟩ rfl (Nat.le_of_ble_eq_true rfl) hW dX3_raise_36) hS (fun q _ w => cwA.go hS.1 q w) hn (fun H locs hR hz hk hS => ?_)
      have hW := hR
      obtain ⟨g_18, eg_18⟩ : ∃ z, z = f_power g 6 ((nn r_)) tm := ⟨_, rfl⟩
      rw [← eg_18] at hW
      refine lv_aload_n (pc := 39) hx hb dX3_raise_39 rfl (lv_at hl 1 rfl) ?_
      refine lv_aload_n (pc := 40) hx hb dX3_raise_40 rfl (lv_at hl 0 rfl) ?_
      refine k_i (pc := 41) (k_V E hC hS hA hl.1 (c1.recv hC hW.obj rfl) rfl (c_X3_settle l D tk N0 sa hAD H.size g_18 ((nn r_)) hi_3 ) kw_830 kw_832 kp_16 kw_1 kw_833 (n := 1) (by decide +kernel) rfl ⟨⟨rfl, rfl⟩, ⟨by decide, by decide⟩, by decide, by decide⟩ rfl (Nat.le_of_ble_eq_true rfl) hW dX3_raise_41) hS (fun q _ w => cwA.go hS.1 q w) hn (fun r_19 H locs hR hz hk hS => ?_)
      obtain ⟨er_19, hW⟩ := hR
      obtain ⟨g_21, eg_21⟩ : ∃ z, z = f_setW g_18 ((nn r_)) := ⟨_, rfl⟩
      rw [← eg_21] at hW
      refine vx_ret ?_
      refine r_iret (pc := 44) E hr hlk hS (by decide) (by decide) ?_ dX3_raise_44
      exact ⟨(by subst er_13 eg_18 eg_21 er_19; first | assumption | (simp [xo, ek_2, ek_5, c_6, Int32.not_le.mp c_6, c_15]; done)), (by subst er_13 eg_18 eg_21 er_19; first | with_reducible rfl | (simp [f_raiR, f_raiW, c_6, Int32.not_le.mp c_6, c_15, p_TB, p_TV, p_TC, p_TI, p_BT, p_BV, p_BC, p_BI, p_VT, p_VB, p_VC, p_VI, p_CT, p_CB, p_CV, p_CI, p_IT, p_IB, p_IV, p_IC, p_TT, p_BB, p_CC, p_II]; done)), hW.to (by subst er_13 eg_18 eg_21 er_19; first | with_reducible rfl | (simp [f_raiR, f_raiW, c_6, Int32.not_le.mp c_6, c_15, p_TB, p_TV, p_TC, p_TI, p_BT, p_BV, p_BC, p_BI, p_VT, p_VB, p_VC, p_VI, p_CT, p_CB, p_CV, p_CI, p_IT, p_IB, p_IV, p_IC, p_TT, p_BB, p_CC, p_II]; done))⟩
    · refine lv_aload_n (pc := 25) hx hb dX3_raise_25 rfl (lv_at hl 1 rfl) ?_
      refine k_i (pc := 26) (k_V E hC hS hA hl.1 (c1.recv hC hW.obj rfl) rfl (c_X3_refuse l D tk N0 sa hAD H.size g  ) kw_840 kw_842 kp_17 kw_1 kw_843 (n := 0) (by decide +kernel) rfl ⟨⟨rfl, rfl⟩, ⟨by decide, by decide⟩, by decide, by decide⟩ rfl (Nat.le_of_ble_eq_true rfl) hW dX3_raise_26) hS (fun q _ w => cwA.go hS.1 q w) hn (fun r_22 H locs hR hz hk hS => ?_)
      obtain ⟨er_22, hW⟩ := hR
      obtain ⟨g_24, eg_24⟩ : ∃ z, z = f_refW g := ⟨_, rfl⟩
      rw [← eg_24] at hW
      refine vx_ret ?_
      refine r_iret (pc := 29) E hr hlk hS (by decide) (by decide) ?_ dX3_raise_29
      exact ⟨(by subst er_13 eg_24 er_22; first | assumption | (simp [xo, ek_2, ek_5, c_6, Int32.not_le.mp c_6, c_15]; done)), (by subst er_13 eg_24 er_22; first | with_reducible rfl | (simp [f_raiR, f_raiW, c_6, Int32.not_le.mp c_6, c_15, p_TB, p_TV, p_TC, p_TI, p_BT, p_BV, p_BC, p_BI, p_VT, p_VB, p_VC, p_VI, p_CT, p_CB, p_CV, p_CI, p_IT, p_IB, p_IV, p_IC, p_TT, p_BB, p_CC, p_II]; done)), hW.to (by subst er_13 eg_24 er_22; first | with_reducible rfl | (simp [f_raiR, f_raiW, c_6, Int32.not_le.mp c_6, c_15, p_TB, p_TV, p_TC, p_TI, p_BT, p_BV, p_BC, p_BI, p_VT, p_VB, p_VC, p_VI, p_CT, p_CB, p_CV, p_CI, p_IT, p_IB, p_IV, p_IC, p_TT, p_BB, p_CC, p_II]; done))⟩
