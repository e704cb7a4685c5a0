set_option maxHeartbeats 4000000 in
set_option maxRecDepth 100000 in
/-- Bestratios.term(II)I -/
theorem c_X3_term (l : Launch) (hlst : l.stackTraces = false) (D : va_G) (tk : Nat → ClassId) (N0 : Nat) (sa : Nat → Nat) {ad : Nat → Nat} (hAD : ADok N0 ad) (sz : Nat) (g : CS) (r_ : Int32) (kk : Int32) : vx_Met l yX3_term (wsy yX3_term cX3_term 4 (some .int)) ({ frames := 7, cells := 2, slots := 12, locals := 111 } : Room) (cP D tk N0 sa [.ref (ad 15), .int r_, .int kk] sz (fun H => CW D tk ad g H)) (kQi (fun r H => xo (bR r_) (2 * bN kk) = 0 ∧ r = f_term (f_apart g 1 (nn r_)) kk ∧ CW D tk ad (f_apart g 1 (nn r_)) H) (cwA ad sz)) (kX (fun E => (E = "java/lang/IndexOutOfBoundsException" ∧ xo (bR r_) (2 * bN kk) = 1) ∨ (E = "java/lang/IllegalArgumentException" ∧ xo (bR r_) (2 * bN kk) = 2)) sz) (2) (12) (cwA ad sz) := by
  refine mStartX RX3 rfl (by decide +kernel) (Nat.le_of_ble_eq_true rfl) ?_
  intro p e s m args below meth c E hr hlk htb hsz hC hF ls hl
  subst hsz
  obtain ⟨hx, hb, -⟩ := id E
  have hA : ∀ q, (cwA ad s.heap.size) q → N0 ≤ q := cwA.ge hAD hC.2.1
  have hn : ∀ q, s.heap.size ≤ q → (cwA ad s.heap.size) q := fun q h => Or.inr h
  have hS : va_S (cwA ad s.heap.size) s.heap s.heap [] := va_S.rf
  have hU : ∀ q, q < s.heap.size → s.heap[q]? = s.heap[q]? := fun _ _ => rfl
  have hl : lv_has ls 4 [(0, .ref (ad 15)), (1, .int r_), (2, .int kk)] := hl
  have hW : CW D tk ad g s.heap := hF
  refine lv_aload_n (pc := 0) hx hb dX3_term_0 rfl (lv_at hl 0 rfl) ?_
  refine lv_iload_n (pc := 1) hx hb dX3_term_1 rfl (lv_at hl 1 rfl) ?_
  have hZ := hS.1
  refine kx_r (pc := 2) (kx_V E hC hS hA hl.1 (c1.recv hC hW.obj rfl) rfl (c_X3_ratioAt l hlst D tk N0 sa hAD s.heap.size g r_ ) kw_809 kw_811 kp_15 kw_1 kw_812 (n := 1) (by decide +kernel) rfl ⟨⟨rfl, rfl⟩, ⟨by decide, by decide⟩, by decide, by decide⟩ rfl (Nat.le_of_ble_eq_true rfl) hW dX3_term_2) hS (fun q z w => absurd w (Nat.not_le.mpr z)) hn hlk htb hU (fun E9 h9 => by rcases h9 with ⟨rfl, h9⟩ <;> first | (simp [h9]; done) | (simp [xo, h9]; done)) ⟨by decide, by decide⟩ (fun r_1 H locs hR hz hk hS => ?_)
  have hU := fun q (hq : q < s.heap.size) => (hk q (Nat.lt_of_lt_of_le hq hZ) (Nat.not_le.mpr (Nat.lt_of_lt_of_le hq hZ))).trans (hU q hq)
  obtain ⟨ek_2, er_1⟩ := hR
  have hW := hW.new hk
  have hi_3 : nn r_ < 15 := Nat.lt_of_lt_of_le (bR_lt ek_2) (by decide)
  subst er_1
  refine lv_astore_n (pc := 5) (lv' := [(3, .ref (ad (nn r_))), (0, .ref (ad 15)), (1, .int r_), (2, .int kk)]) hx hb dX3_term_5 rfl hl (by decide) rfl (fun ls hl => ?_)
  refine lv_iload_n (pc := 6) hx hb dX3_term_6 rfl (lv_at hl 3 rfl) ?_
  have hZ := hS.1
  refine kx_v (pc := 7) (kx_S E hC hS hA hl.1 (c_X3_requireNotBelow0 l hlst D tk N0 sa H.size kk ) kw_987 kw_988 kw_1 kw_989 (n := 1) (by decide +kernel) rfl ⟨⟨rfl, rfl⟩, ⟨by decide, by decide⟩, by decide, by decide⟩ rfl (Nat.le_of_ble_eq_true rfl) trivial dX3_term_7) hS (fun q z w => absurd w (Nat.not_le.mpr z)) hn hlk htb hU (fun E9 h9 => by rcases h9 with ⟨rfl, h9⟩ <;> first | (simp [h9]; done) | (simp [xo, h9, ek_2]; done)) ⟨by decide, by decide⟩ (fun H locs hR hz hk hS => ?_)
  have hU := fun q (hq : q < s.heap.size) => (hk q (Nat.lt_of_lt_of_le hq hZ) (Nat.not_le.mpr (Nat.lt_of_lt_of_le hq hZ))).trans (hU q hq)
  have ek_5 := hR
  have hW := hW.new hk
  refine lv_aload_n (pc := 10) hx hb dX3_term_10 rfl (lv_at hl 1 rfl) ?_
  refine r_get (pc := 11) E hC hW.obj 8 (v := .ref (ad 19)) rfl rfl (by decide) uX3 (List.mem_cons_of_mem _ kw_122) (fun _ h => h) dX3_term_11 ?_
  refine lv_aload_n (pc := 14) hx hb dX3_term_14 rfl (lv_at hl 0 rfl) ?_
  refine k_v (pc := 15) (k_V E hC hS hA hl.1 (c1.recv hC (hW.tm (j := 1) (by decide)) rfl) rfl (c_X2_takeApart l D tk N0 sa hAD H.size g 1 (by decide) ((nn r_)) hi_3 ) kw_563 kw_564 kw_565 kw_3 kw_566 (n := 1) (by decide +kernel) rfl ⟨⟨rfl, rfl⟩, ⟨by decide, by decide⟩, by decide, by decide⟩ rfl (Nat.le_of_ble_eq_true rfl) hW dX3_term_15) hS (fun q _ w => cwA.go hS.1 q w) hn (fun H locs hR hz hk hS => ?_)
  have hW := hR
  obtain ⟨g_8, eg_8⟩ : ∃ z, z = f_apart g 1 ((nn r_)) := ⟨_, rfl⟩
  rw [← eg_8] at hW
  refine lv_iload_n (pc := 18) hx hb dX3_term_18 rfl (lv_at hl 3 rfl) ?_
  refine lv_aload_n (pc := 19) hx hb dX3_term_19 rfl (lv_at hl 1 rfl) ?_
  refine r_get (pc := 20) E hC hW.obj 8 (v := .ref (ad 19)) rfl rfl (by decide) uX3 (List.mem_cons_of_mem _ kw_122) (fun _ h => h) dX3_term_20 ?_
  refine r_getN (pc := 23) "Bestratios" E hC (hW.tm (j := 1) (by decide)) 1 (v := .int (tC g_8 1)) rfl rfl (by decide) uX2 kn_69 (fun _ h => h) dX3_term_23 ?_
  refine lv_icmp_ge (pc := 26) (tgt := 41) hx hb dX3_term_26 (by decide) (fun c_9 => ?_) (fun c_9 => ?_)
  · refine lv_bipush (pc := 41) (v := (-9)) hx hb dX3_term_41 (by decide) ?_
    refine vx_ret ?_
    refine r_iret (pc := 43) E hr hlk hS (by decide) (by decide) ?_ dX3_term_43
    exact ⟨(by subst eg_8; first | assumption | (simp [xo, ek_2, ek_5, c_9, Int32.not_lt.mpr c_9]; done)), (by subst eg_8; first | with_reducible rfl | (simp [f_term, c_9, Int32.not_lt.mpr c_9, p_TB, p_TV, p_TC, p_TI, p_BT, p_BV, p_BC, p_BI, p_VT, p_VB, p_VC, p_VI, p_CT, p_CB, p_CV, p_CI, p_IT, p_IB, p_IV, p_IC, p_TT, p_BB, p_CC, p_II]; done)), hW.to (by subst eg_8; first | with_reducible rfl | (simp [f_term, c_9, Int32.not_lt.mpr c_9, p_TB, p_TV, p_TC, p_TI, p_BT, p_BV, p_BC, p_BI, p_VT, p_VB, p_VC, p_VI, p_CT, p_CB, p_CV, p_CI, p_IT, p_IB, p_IV, p_IC, p_TT, p_BB, p_CC, p_II]; done))⟩
  · refine lv_aload_n (pc := 29) hx hb dX3_term_29 rfl (lv_at hl 1 rfl) ?_
    refine r_get (pc := 30) E hC hW.obj 8 (v := .ref (ad 19)) rfl rfl (by decide) uX3 (List.mem_cons_of_mem _ kw_122) (fun _ h => h) dX3_term_30 ?_
    refine lv_iload_n (pc := 33) hx hb dX3_term_33 rfl (lv_at hl 3 rfl) ?_
    refine k_l (pc := 34) (k_V E hC hS hA hl.1 (c1.recv hC (hW.tm (j := 1) (by decide)) rfl) rfl (c_X2_at l D tk N0 sa hAD H.size g_8 1 (by decide) kk ) kw_277 kw_278 kw_279 kw_3 kw_280 (n := 1) (by decide +kernel) rfl ⟨⟨rfl, rfl⟩, ⟨by decide, by decide⟩, by decide, by decide⟩ rfl (Nat.le_of_ble_eq_true rfl) hW dX3_term_34) hS (fun q z w => absurd w (Nat.not_le.mpr z)) hn (fun r_10 H locs hR hz hk hS => ?_)
    have er_10 := hR
    have hW := hW.new hk
    refine lv_l2i (pc := 37) (v := r_10.toInt32) hx hb dX3_term_37 rfl ?_
    refine lv_goto (pc := 38) (tgt := 43) hx hb dX3_term_38 (by decide) ?_
    refine vx_ret ?_
    refine r_iret (pc := 43) E hr hlk hS (by decide) (by decide) ?_ dX3_term_43
    exact ⟨(by subst eg_8 er_10; first | assumption | (simp [xo, ek_2, ek_5, c_9, Int32.not_le.mp c_9]; done)), (by subst eg_8 er_10; first | with_reducible rfl | (simp [f_term, c_9, Int32.not_le.mp c_9, p_TB, p_TV, p_TC, p_TI, p_BT, p_BV, p_BC, p_BI, p_VT, p_VB, p_VC, p_VI, p_CT, p_CB, p_CV, p_CI, p_IT, p_IB, p_IV, p_IC, p_TT, p_BB, p_CC, p_II]; done)), hW.to (by subst eg_8 er_10; first | with_reducible rfl | (simp [f_term, c_9, Int32.not_le.mp c_9, p_TB, p_TV, p_TC, p_TI, p_BT, p_BV, p_BC, p_BI, p_VT, p_VB, p_VC, p_VI, p_CT, p_CB, p_CV, p_CI, p_IT, p_IB, p_IV, p_IC, p_TT, p_BB, p_CC, p_II]; done))⟩
