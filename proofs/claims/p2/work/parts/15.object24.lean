set_option maxHeartbeats 4000000 in
set_option maxRecDepth 100000 in
/-- Bestratios.unsay(I)I -/
theorem c_X3_unsay (l : Launch) (hlst : l.stackTraces = false) (D : va_G) (tk : Nat → ClassId) (N0 : Nat) (sa : Nat → Nat) {ad : Nat → Nat} (hAD : ADok N0 ad) (sz : Nat) (g : CS) (x_ : Int32) : vx_Met l yX3_unsay (wsy yX3_unsay cX3_unsay 2 (some .int)) ({ frames := 7, cells := 1, slots := 6, locals := 112 } : Room) (cP D tk N0 sa [.ref (ad 15), .int x_] sz (fun H => CW D tk ad g H)) (kQi (fun r H => bW x_ 0 16 = 0 ∧ r = tC (f_uns g x_) 0 ∧ CW D tk ad (f_uns g x_) H) (cwA ad sz)) (kX (fun E => (E = "java/lang/IllegalArgumentException" ∧ bW x_ 0 16 = 1)) sz) (1) (6) (cwA ad sz) := by
  refine mStartX RX3 rfl (by decide +kernel) (Nat.le_of_ble_eq_true rfl) ?_
  intro p e s m args below meth c E hr hlk htb hsz hC hF ls hl
  subst hsz
  obtain ⟨hx, hb, -⟩ := id E
  have hA : ∀ q, (cwA ad s.heap.size) q → N0 ≤ q := cwA.ge hAD hC.2.1
  have hn : ∀ q, s.heap.size ≤ q → (cwA ad s.heap.size) q := fun q h => Or.inr h
  have hS : va_S (cwA ad s.heap.size) s.heap s.heap [] := va_S.rf
  have hU : ∀ q, q < s.heap.size → s.heap[q]? = s.heap[q]? := fun _ _ => rfl
  have hl : lv_has ls 2 [(0, .ref (ad 15)), (1, .int x_)] := hl
  have hW : CW D tk ad g s.heap := hF
  refine lv_iload_n (pc := 0) hx hb dX3_unsay_0 rfl (lv_at hl 1 rfl) ?_
  refine lv_iconst (pc := 1) (v := 0) hx hb dX3_unsay_1 (by decide) ?_
  refine lv_bipush (pc := 2) (v := 16) hx hb dX3_unsay_2 (by decide) ?_
  have hZ := hS.1
  refine kx_v (pc := 4) (kx_S E hC hS hA hl.1 (c_X3_requireWithin l hlst D tk N0 sa s.heap.size x_ 0 16 ) kw_851 kw_852 kw_1 kw_853 (n := 3) (by decide +kernel) rfl ⟨⟨rfl, rfl⟩, ⟨by decide, by decide⟩, by decide, by decide⟩ rfl (Nat.le_of_ble_eq_true rfl) trivial dX3_unsay_4) hS (fun q z w => absurd w (Nat.not_le.mpr z)) hn hlk htb hU (fun E9 h9 => by rcases h9 with ⟨rfl, h9⟩ <;> first | (simp [h9]; done) | (simp [xo, h9]; done)) ⟨by decide, by decide⟩ (fun H locs hR hz hk hS => ?_)
  have hU := fun q (hq : q < s.heap.size) => (hk q (Nat.lt_of_lt_of_le hq hZ) (Nat.not_le.mpr (Nat.lt_of_lt_of_le hq hZ))).trans (hU q hq)
  have ek_2 := hR
  have hW := hW.new hk
  refine lv_aload_n (pc := 7) hx hb dX3_unsay_7 rfl (lv_at hl 0 rfl) ?_
  refine r_get (pc := 8) E hC hW.obj 1 (v := .ref (ad 17)) rfl rfl (by decide) uX3 (List.mem_cons_of_mem _ kw_115) (fun _ h => h) dX3_unsay_8 ?_
  refine lv_iload_n (pc := 11) hx hb dX3_unsay_11 rfl (lv_at hl 1 rfl) ?_
  refine lv_aload_n (pc := 12) hx hb dX3_unsay_12 rfl (lv_at hl 0 rfl) ?_
  refine r_get (pc := 13) E hC hW.obj 1 (v := .ref (ad 17)) rfl rfl (by decide) uX3 (List.mem_cons_of_mem _ kw_115) (fun _ h => h) dX3_unsay_13 ?_
  refine r_getN (pc := 16) "Bestratios" E hC (hW.tm (j := 0) (by decide)) 1 (v := .int (tC g 0)) rfl rfl (by decide) uX2 kn_69 (fun _ h => h) dX3_unsay_16 ?_
  refine lv_icmp_ge (pc := 19) (tgt := 34) hx hb dX3_unsay_19 (by decide) (fun c_3 => ?_) (fun c_3 => ?_)
  · refine lv_iconst (pc := 34) (v := 0) hx hb dX3_unsay_34 (by decide) ?_
    refine k_v (pc := 35) (k_V E hC hS hA hl.1 (c1.recv hC (hW.tm (j := 0) (by decide)) rfl) rfl (c_X2_keepFirst l D tk N0 sa hAD H.size g 0 (by decide) 0 ) kw_998 kw_999 kw_1000 kw_3 kw_1001 (n := 1) (by decide +kernel) rfl ⟨⟨rfl, rfl⟩, ⟨by decide, by decide⟩, by decide, by decide⟩ rfl (Nat.le_of_ble_eq_true rfl) hW dX3_unsay_35) hS (fun q _ w => cwA.go hS.1 q w) hn (fun H locs hR hz hk hS => ?_)
    have hW := hR
    obtain ⟨g_6, eg_6⟩ : ∃ z, z = f_keep g 0 0 := ⟨_, rfl⟩
    rw [← eg_6] at hW
    refine lv_aload_n (pc := 38) hx hb dX3_unsay_38 rfl (lv_at hl 0 rfl) ?_
    refine r_get (pc := 39) E hC hW.obj 1 (v := .ref (ad 17)) rfl rfl (by decide) uX3 (List.mem_cons_of_mem _ kw_115) (fun _ h => h) dX3_unsay_39 ?_
    refine r_getN (pc := 42) "Bestratios" E hC (hW.tm (j := 0) (by decide)) 1 (v := .int (tC g_6 0)) rfl rfl (by decide) uX2 kn_69 (fun _ h => h) dX3_unsay_42 ?_
    refine vx_ret ?_
    refine r_iret (pc := 45) E hr hlk hS (by decide) (by decide) ?_ dX3_unsay_45
    exact ⟨(by subst eg_6; first | assumption | (simp [xo, ek_2, c_3, Int32.not_lt.mpr c_3]; done)), (by subst eg_6; first | with_reducible rfl | (simp [f_uns, c_3, Int32.not_lt.mpr c_3, p_TB, p_TV, p_TC, p_TI, p_BT, p_BV, p_BC, p_BI, p_VT, p_VB, p_VC, p_VI, p_CT, p_CB, p_CV, p_CI, p_IT, p_IB, p_IV, p_IC, p_TT, p_BB, p_CC, p_II]; done)), hW.to (by subst eg_6; first | with_reducible rfl | (simp [f_uns, c_3, Int32.not_lt.mpr c_3, p_TB, p_TV, p_TC, p_TI, p_BT, p_BV, p_BC, p_BI, p_VT, p_VB, p_VC, p_VI, p_CT, p_CB, p_CV, p_CI, p_IT, p_IB, p_IV, p_IC, p_TT, p_BB, p_CC, p_II]; done))⟩
  · refine lv_aload_n (pc := 22) hx hb dX3_unsay_22 rfl (lv_at hl 0 rfl) ?_
    refine r_get (pc := 23) E hC hW.obj 1 (v := .ref (ad 17)) rfl rfl (by decide) uX3 (List.mem_cons_of_mem _ kw_115) (fun _ h => h) dX3_unsay_23 ?_
    refine r_getN (pc := 26) "Bestratios" E hC (hW.tm (j := 0) (by decide)) 1 (v := .int (tC g 0)) rfl rfl (by decide) uX2 kn_69 (fun _ h => h) dX3_unsay_26 ?_
    refine lv_iload_n (pc := 29) hx hb dX3_unsay_29 rfl (lv_at hl 1 rfl) ?_
    refine lv_isub (pc := 30) hx hb dX3_unsay_30 ?_
    refine lv_goto (pc := 31) (tgt := 35) hx hb dX3_unsay_31 (by decide) ?_
    refine k_v (pc := 35) (k_V E hC hS hA hl.1 (c1.recv hC (hW.tm (j := 0) (by decide)) rfl) rfl (c_X2_keepFirst l D tk N0 sa hAD H.size g 0 (by decide) ((tC g 0) - x_) ) kw_998 kw_999 kw_1000 kw_3 kw_1001 (n := 1) (by decide +kernel) rfl ⟨⟨rfl, rfl⟩, ⟨by decide, by decide⟩, by decide, by decide⟩ rfl (Nat.le_of_ble_eq_true rfl) hW dX3_unsay_35) hS (fun q _ w => cwA.go hS.1 q w) hn (fun H locs hR hz hk hS => ?_)
    have hW := hR
    obtain ⟨g_9, eg_9⟩ : ∃ z, z = f_keep g 0 ((tC g 0) - x_) := ⟨_, rfl⟩
    rw [← eg_9] at hW
    refine lv_aload_n (pc := 38) hx hb dX3_unsay_38 rfl (lv_at hl 0 rfl) ?_
    refine r_get (pc := 39) E hC hW.obj 1 (v := .ref (ad 17)) rfl rfl (by decide) uX3 (List.mem_cons_of_mem _ kw_115) (fun _ h => h) dX3_unsay_39 ?_
    refine r_getN (pc := 42) "Bestratios" E hC (hW.tm (j := 0) (by decide)) 1 (v := .int (tC g_9 0)) rfl rfl (by decide) uX2 kn_69 (fun _ h => h) dX3_unsay_42 ?_
    refine vx_ret ?_
    refine r_iret (pc := 45) E hr hlk hS (by decide) (by decide) ?_ dX3_unsay_45
    exact ⟨(by subst eg_9; first | assumption | (simp [xo, ek_2, c_3, Int32.not_le.mp c_3]; done)), (by subst eg_9; first | with_reducible rfl | (simp [f_uns, c_3, Int32.not_le.mp c_3, p_TB, p_TV, p_TC, p_TI, p_BT, p_BV, p_BC, p_BI, p_VT, p_VB, p_VC, p_VI, p_CT, p_CB, p_CV, p_CI, p_IT, p_IB, p_IV, p_IC, p_TT, p_BB, p_CC, p_II]; done)), hW.to (by subst eg_9; first | with_reducible rfl | (simp [f_uns, c_3, Int32.not_le.mp c_3, p_TB, p_TV, p_TC, p_TI, p_BT, p_BV, p_BC, p_BI, p_VT, p_VB, p_VC, p_VI, p_CT, p_CB, p_CV, p_CI, p_IT, p_IB, p_IV, p_IC, p_TT, p_BB, p_CC, p_II]; done))⟩
