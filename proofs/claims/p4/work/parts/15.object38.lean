set_option maxHeartbeats 4000000 in
set_option maxRecDepth 100000 in
/-- Bestratios.tally(III)I -/
theorem c_X3_tally (l : Launch) (hlst : l.stackTraces = false) (D : va_G) (tk : Nat → ClassId) (N0 : Nat) (sa : Nat → Nat) {ad : Nat → Nat} (hAD : ADok N0 ad) (sz : Nat) (g : CS) (r_ : Int32) (np : Int32) (md : Int32) : vx_Met l yX3_tally (wsy yX3_tally cX3_tally 5 (some .int)) ({ frames := 7, cells := 3, slots := 18, locals := 152 } : Room) (cP D tk N0 sa [.ref (ad 15), .int r_, .int np, .int md] sz (fun H => CW D tk ad g H)) (kQi (fun r H => xo (bR r_) (xo (2 * bW np 0 4) (2 * bW md 0 4)) = 0 ∧ r = f_talR g (nn r_) np md ∧ CW D tk ad (f_talW g (nn r_) np md) H) (cwA ad sz)) (kX (fun E => (E = "java/lang/IndexOutOfBoundsException" ∧ xo (bR r_) (xo (2 * bW np 0 4) (2 * bW md 0 4)) = 1) ∨ (E = "java/lang/IllegalArgumentException" ∧ xo (bR r_) (xo (2 * bW np 0 4) (2 * bW md 0 4)) = 2)) sz) (3) (18) (cwA ad sz) := by
  refine mStartX RX3 rfl (by decide +kernel) (Nat.le_of_ble_eq_true rfl) ?_
  intro p e s m args below meth c E hr hlk htb hsz hC hF ls hl
  subst hsz
  obtain ⟨hx, hb, -⟩ := id E
  have hA : ∀ q, (cwA ad s.heap.size) q → N0 ≤ q := cwA.ge hAD hC.2.1
  have hn : ∀ q, s.heap.size ≤ q → (cwA ad s.heap.size) q := fun q h => Or.inr h
  have hS : va_S (cwA ad s.heap.size) s.heap s.heap [] := va_S.rf
  have hU : ∀ q, q < s.heap.size → s.heap[q]? = s.heap[q]? := fun _ _ => rfl
  have hl : lv_has ls 5 [(0, .ref (ad 15)), (1, .int r_), (2, .int np), (3, .int md)] := hl
  have hW : CW D tk ad g s.heap := hF
  refine lv_aload_n (pc := 0) hx hb dX3_tally_0 rfl (lv_at hl 0 rfl) ?_
  refine lv_iload_n (pc := 1) hx hb dX3_tally_1 rfl (lv_at hl 1 rfl) ?_
  have hZ := hS.1
  refine kx_r (pc := 2) (kx_V E hC hS hA hl.1 (c1.recv hC hW.obj rfl) rfl (c_X3_ratioAt l hlst D tk N0 sa hAD s.heap.size g r_ ) kw_809 kw_811 kp_15 kw_1 kw_812 (n := 1) (by decide +kernel) rfl ⟨⟨rfl, rfl⟩, ⟨by decide, by decide⟩, by decide, by decide⟩ rfl (Nat.le_of_ble_eq_true rfl) hW dX3_tally_2) hS (fun q z w => absurd w (Nat.not_le.mpr z)) hn hlk htb hU (fun E9 h9 => by rcases h9 with ⟨rfl, h9⟩ <;> first | (simp [h9]; done) | (simp [xo, h9]; done)) ⟨by decide, by decide⟩ (fun r_1 H locs hR hz hk hS => ?_)
  have hU := fun q (hq : q < s.heap.size) => (hk q (Nat.lt_of_lt_of_le hq hZ) (Nat.not_le.mpr (Nat.lt_of_lt_of_le hq hZ))).trans (hU q hq)
  obtain ⟨ek_2, er_1⟩ := hR
  have hW := hW.new hk
  have hi_3 : nn r_ < 15 := Nat.lt_of_lt_of_le (bR_lt ek_2) (by decide)
  subst er_1
  refine lv_astore (pc := 5) (lv' := [(4, .ref (ad (nn r_))), (0, .ref (ad 15)), (1, .int r_), (2, .int np), (3, .int md)]) hx hb dX3_tally_5 hl (by decide) rfl (fun ls hl => ?_)
  refine lv_iload_n (pc := 7) hx hb dX3_tally_7 rfl (lv_at hl 3 rfl) ?_
  refine lv_iconst (pc := 8) (v := 0) hx hb dX3_tally_8 (by decide) ?_
  refine lv_iconst (pc := 9) (v := 4) hx hb dX3_tally_9 (by decide) ?_
  have hZ := hS.1
  refine kx_v (pc := 10) (kx_S E hC hS hA hl.1 (c_X3_requireWithin l hlst D tk N0 sa H.size np 0 4 ) kw_851 kw_852 kw_1 kw_853 (n := 3) (by decide +kernel) rfl ⟨⟨rfl, rfl⟩, ⟨by decide, by decide⟩, by decide, by decide⟩ rfl (Nat.le_of_ble_eq_true rfl) trivial dX3_tally_10) hS (fun q z w => absurd w (Nat.not_le.mpr z)) hn hlk htb hU (fun E9 h9 => by rcases h9 with ⟨rfl, h9⟩ <;> first | (simp [h9]; done) | (simp [xo, h9, ek_2]; done)) ⟨by decide, by decide⟩ (fun H locs hR hz hk hS => ?_)
  have hU := fun q (hq : q < s.heap.size) => (hk q (Nat.lt_of_lt_of_le hq hZ) (Nat.not_le.mpr (Nat.lt_of_lt_of_le hq hZ))).trans (hU q hq)
  have ek_5 := hR
  have hW := hW.new hk
  refine lv_iload_n (pc := 13) hx hb dX3_tally_13 rfl (lv_at hl 4 rfl) ?_
  refine lv_iconst (pc := 14) (v := 0) hx hb dX3_tally_14 (by decide) ?_
  refine lv_iconst (pc := 15) (v := 4) hx hb dX3_tally_15 (by decide) ?_
  have hZ := hS.1
  refine kx_v (pc := 16) (kx_S E hC hS hA hl.1 (c_X3_requireWithin l hlst D tk N0 sa H.size md 0 4 ) kw_851 kw_852 kw_1 kw_853 (n := 3) (by decide +kernel) rfl ⟨⟨rfl, rfl⟩, ⟨by decide, by decide⟩, by decide, by decide⟩ rfl (Nat.le_of_ble_eq_true rfl) trivial dX3_tally_16) hS (fun q z w => absurd w (Nat.not_le.mpr z)) hn hlk htb hU (fun E9 h9 => by rcases h9 with ⟨rfl, h9⟩ <;> first | (simp [h9]; done) | (simp [xo, h9, ek_2, ek_5]; done)) ⟨by decide, by decide⟩ (fun H locs hR hz hk hS => ?_)
  have hU := fun q (hq : q < s.heap.size) => (hk q (Nat.lt_of_lt_of_le hq hZ) (Nat.not_le.mpr (Nat.lt_of_lt_of_le hq hZ))).trans (hU q hq)
  have ek_7 := hR
  have hW := hW.new hk
  refine lv_aload_n (pc := 19) hx hb dX3_tally_19 rfl (lv_at hl 1 rfl) ?_
  refine r_get (pc := 20) E hC hW.obj 2 (v := .ref (ad 21)) rfl rfl (by decide) uX3 (List.mem_cons_of_mem _ kw_116) (fun _ h => h) dX3_tally_20 ?_
  refine lv_aload (pc := 23) hx hb dX3_tally_23 (lv_at hl 0 rfl) ?_
  refine lv_iload_n (pc := 25) hx hb dX3_tally_25 rfl (lv_at hl 3 rfl) ?_
  refine lv_iload_n (pc := 26) hx hb dX3_tally_26 rfl (lv_at hl 4 rfl) ?_
  refine k_i (pc := 27) (k_V E hC hS hA hl.1 (c1.recv hC hW.tal rfl) rfl (c_X1_takeIn l D tk N0 sa hAD H.size g ((nn r_)) hi_3 np md ) kw_1144 kw_1145 kw_1146 kw_4 kw_1147 (n := 3) (by decide +kernel) rfl ⟨⟨rfl, rfl⟩, ⟨by decide, by decide⟩, by decide, by decide⟩ rfl (Nat.le_of_ble_eq_true rfl) hW dX3_tally_27) hS (fun q _ w => cwA.go hS.1 q w) hn (fun r_8 H locs hR hz hk hS => ?_)
  obtain ⟨er_8, hW⟩ := hR
  obtain ⟨g_10, eg_10⟩ : ∃ z, z = f_tk2W (f_tk1 g ((nn r_)) np md) np := ⟨_, rfl⟩
  rw [← eg_10] at hW
  refine lv_if_eq (pc := 30) (tgt := 43) hx hb dX3_tally_30 (by decide) (fun c_11 => ?_) (fun c_11 => ?_)
  · refine lv_aload_n (pc := 43) hx hb dX3_tally_43 rfl (lv_at hl 1 rfl) ?_
    refine k_i (pc := 44) (k_V E hC hS hA hl.1 (c1.recv hC hW.obj rfl) rfl (c_X3_refuse l D tk N0 sa hAD H.size g_10  ) kw_840 kw_842 kp_17 kw_1 kw_843 (n := 0) (by decide +kernel) rfl ⟨⟨rfl, rfl⟩, ⟨by decide, by decide⟩, by decide, by decide⟩ rfl (Nat.le_of_ble_eq_true rfl) hW dX3_tally_44) hS (fun q _ w => cwA.go hS.1 q w) hn (fun r_12 H locs hR hz hk hS => ?_)
    obtain ⟨er_12, hW⟩ := hR
    obtain ⟨g_14, eg_14⟩ : ∃ z, z = f_refW g_10 := ⟨_, rfl⟩
    rw [← eg_14] at hW
    refine vx_ret ?_
    refine r_iret (pc := 47) E hr hlk hS (by decide) (by decide) ?_ dX3_tally_47
    exact ⟨(by subst eg_10 er_8 eg_14 er_12; first | assumption | (simp [xo, ek_2, ek_5, ek_7, c_11]; done)), (by subst eg_10 er_8 eg_14 er_12; first | with_reducible rfl | (simp [f_talR, f_talW, c_11, p_TB, p_TV, p_TC, p_TI, p_BT, p_BV, p_BC, p_BI, p_VT, p_VB, p_VC, p_VI, p_CT, p_CB, p_CV, p_CI, p_IT, p_IB, p_IV, p_IC, p_TT, p_BB, p_CC, p_II]; done)), hW.to (by subst eg_10 er_8 eg_14 er_12; first | with_reducible rfl | (simp [f_talR, f_talW, c_11, p_TB, p_TV, p_TC, p_TI, p_BT, p_BV, p_BC, p_BI, p_VT, p_VB, p_VC, p_VI, p_CT, p_CB, p_CV, p_CI, p_IT, p_IB, p_IV, p_IC, p_TT, p_BB, p_CC, p_II]; done))⟩
  · refine lv_aload_n (pc := 33) hx hb dX3_tally_33 rfl (lv_at hl 1 rfl) ?_
    refine r_get (pc := 34) E hC hW.obj 2 (v := .ref (ad 21)) rfl rfl (by decide) uX3 (List.mem_cons_of_mem _ kw_116) (fun _ h => h) dX3_tally_34 ?_
    refine r_getN (pc := 37) "Bestratios" E hC hW.tal 6 (v := .int (tI g_10 2)) rfl rfl (by decide) uX1 kn_94 (fun _ h => h) dX3_tally_37 ?_
    refine lv_goto (pc := 40) (tgt := 47) hx hb dX3_tally_40 (by decide) ?_
    refine vx_ret ?_
    refine r_iret (pc := 47) E hr hlk hS (by decide) (by decide) ?_ dX3_tally_47
    exact ⟨(by subst eg_10 er_8; first | assumption | (simp [xo, ek_2, ek_5, ek_7, c_11]; done)), (by subst eg_10 er_8; first | with_reducible rfl | (simp [f_talR, f_talW, c_11, p_TB, p_TV, p_TC, p_TI, p_BT, p_BV, p_BC, p_BI, p_VT, p_VB, p_VC, p_VI, p_CT, p_CB, p_CV, p_CI, p_IT, p_IB, p_IV, p_IC, p_TT, p_BB, p_CC, p_II]; done)), hW.to (by subst eg_10 er_8; first | with_reducible rfl | (simp [f_talR, f_talW, c_11, p_TB, p_TV, p_TC, p_TI, p_BT, p_BV, p_BC, p_BI, p_VT, p_VB, p_VC, p_VI, p_CT, p_CB, p_CV, p_CI, p_IT, p_IB, p_IV, p_IC, p_TT, p_BB, p_CC, p_II]; done))⟩
