set_option maxHeartbeats 4000000 in
set_option maxRecDepth 100000 in
/-- Bestratios.swap(II)I -/
theorem c_X3_swap (l : Launch) (hlst : l.stackTraces = false) (D : va_G) (tk : Nat → ClassId) (N0 : Nat) (sa : Nat → Nat) {ad : Nat → Nat} (hAD : ADok N0 ad) (sz : Nat) (g : CS) (r_ : Int32) (q_ : Int32) : vx_Met l yX3_swap (wsy yX3_swap cX3_swap 5 (some .int)) ({ frames := 7, cells := 2, slots := 12, locals := 111 } : Room) (cP D tk N0 sa [.ref (ad 15), .int r_, .int q_] sz (fun H => CW D tk ad g H)) (kQi (fun r H => xo (bR r_) (bR q_) = 0 ∧ r = f_setR (f_swap g (nn r_) (nn q_)) (nn r_) ∧ CW D tk ad (f_setW (f_swap g (nn r_) (nn q_)) (nn r_)) H) (cwA ad sz)) (kX (fun E => (E = "java/lang/IndexOutOfBoundsException" ∧ xo (bR r_) (bR q_) = 1)) sz) (2) (12) (cwA ad sz) := by
  refine mStartX RX3 rfl (by decide +kernel) (Nat.le_of_ble_eq_true rfl) ?_
  intro p e s m args below meth c E hr hlk htb hsz hC hF ls hl
  subst hsz
  obtain ⟨hx, hb, -⟩ := id E
  have hA : ∀ q, (cwA ad s.heap.size) q → N0 ≤ q := cwA.ge hAD hC.2.1
  have hn : ∀ q, s.heap.size ≤ q → (cwA ad s.heap.size) q := fun q h => Or.inr h
  have hS : va_S (cwA ad s.heap.size) s.heap s.heap [] := va_S.rf
  have hU : ∀ q, q < s.heap.size → s.heap[q]? = s.heap[q]? := fun _ _ => rfl
  have hl : lv_has ls 5 [(0, .ref (ad 15)), (1, .int r_), (2, .int q_)] := hl
  have hW : CW D tk ad g s.heap := hF
  refine lv_aload_n (pc := 0) hx hb dX3_swap_0 rfl (lv_at hl 0 rfl) ?_
  refine lv_iload_n (pc := 1) hx hb dX3_swap_1 rfl (lv_at hl 1 rfl) ?_
  have hZ := hS.1
  refine kx_r (pc := 2) (kx_V E hC hS hA hl.1 (c1.recv hC hW.obj rfl) rfl (c_X3_ratioAt l hlst D tk N0 sa hAD s.heap.size g r_ ) kw_809 kw_811 kp_15 kw_1 kw_812 (n := 1) (by decide +kernel) rfl ⟨⟨rfl, rfl⟩, ⟨by decide, by decide⟩, by decide, by decide⟩ rfl (Nat.le_of_ble_eq_true rfl) hW dX3_swap_2) hS (fun q z w => absurd w (Nat.not_le.mpr z)) hn hlk htb hU (fun E9 h9 => by rcases h9 with ⟨rfl, h9⟩ <;> first | (simp [h9]; done) | (simp [xo, h9]; done)) ⟨by decide, by decide⟩ (fun r_1 H locs hR hz hk hS => ?_)
  have hU := fun q (hq : q < s.heap.size) => (hk q (Nat.lt_of_lt_of_le hq hZ) (Nat.not_le.mpr (Nat.lt_of_lt_of_le hq hZ))).trans (hU q hq)
  obtain ⟨ek_2, er_1⟩ := hR
  have hW := hW.new hk
  have hi_3 : nn r_ < 15 := Nat.lt_of_lt_of_le (bR_lt ek_2) (by decide)
  subst er_1
  refine lv_astore_n (pc := 5) (lv' := [(3, .ref (ad (nn r_))), (0, .ref (ad 15)), (1, .int r_), (2, .int q_)]) hx hb dX3_swap_5 rfl hl (by decide) rfl (fun ls hl => ?_)
  refine lv_aload_n (pc := 6) hx hb dX3_swap_6 rfl (lv_at hl 1 rfl) ?_
  refine lv_iload_n (pc := 7) hx hb dX3_swap_7 rfl (lv_at hl 3 rfl) ?_
  have hZ := hS.1
  refine kx_r (pc := 8) (kx_V E hC hS hA hl.1 (c1.recv hC hW.obj rfl) rfl (c_X3_ratioAt l hlst D tk N0 sa hAD H.size g q_ ) kw_809 kw_811 kp_15 kw_1 kw_812 (n := 1) (by decide +kernel) rfl ⟨⟨rfl, rfl⟩, ⟨by decide, by decide⟩, by decide, by decide⟩ rfl (Nat.le_of_ble_eq_true rfl) hW dX3_swap_8) hS (fun q z w => absurd w (Nat.not_le.mpr z)) hn hlk htb hU (fun E9 h9 => by rcases h9 with ⟨rfl, h9⟩ <;> first | (simp [h9]; done) | (simp [xo, h9, ek_2]; done)) ⟨by decide, by decide⟩ (fun r_4 H locs hR hz hk hS => ?_)
  have hU := fun q (hq : q < s.heap.size) => (hk q (Nat.lt_of_lt_of_le hq hZ) (Nat.not_le.mpr (Nat.lt_of_lt_of_le hq hZ))).trans (hU q hq)
  obtain ⟨ek_5, er_4⟩ := hR
  have hW := hW.new hk
  have hi_6 : nn q_ < 15 := Nat.lt_of_lt_of_le (bR_lt ek_5) (by decide)
  subst er_4
  refine lv_astore (pc := 11) (lv' := [(4, .ref (ad (nn q_))), (3, .ref (ad (nn r_))), (0, .ref (ad 15)), (1, .int r_), (2, .int q_)]) hx hb dX3_swap_11 hl (by decide) rfl (fun ls hl => ?_)
  refine lv_aload_n (pc := 13) hx hb dX3_swap_13 rfl (lv_at hl 2 rfl) ?_
  refine r_get (pc := 14) E hC hW.obj 5 (v := .ref (ad 6)) rfl rfl (by decide) uX3 (List.mem_cons_of_mem _ kw_119) (fun _ h => h) dX3_swap_14 ?_
  refine lv_aload (pc := 17) hx hb dX3_swap_17 (lv_at hl 0 rfl) ?_
  refine k_v (pc := 19) (k_V E hC hS hA hl.1 (c1.recv hC (hW.fr (i := 6) (by decide)) rfl) rfl (c_X0_assign l D tk N0 sa hAD H.size g 6 (by decide) ((nn q_)) hi_6 ) kw_627 kw_628 kw_629 kw_2 kw_630 (n := 1) (by decide +kernel) rfl ⟨⟨rfl, rfl⟩, ⟨by decide, by decide⟩, by decide, by decide⟩ rfl (Nat.le_of_ble_eq_true rfl) hW dX3_swap_19) hS (fun q _ w => cwA.go hS.1 q w) hn (fun H locs hR hz hk hS => ?_)
  have hW := hR
  obtain ⟨g_9, eg_9⟩ : ∃ z, z = f_assign g 6 ((nn q_)) := ⟨_, rfl⟩
  rw [← eg_9] at hW
  refine lv_aload (pc := 22) hx hb dX3_swap_22 (lv_at hl 0 rfl) ?_
  refine lv_aload_n (pc := 24) hx hb dX3_swap_24 rfl (lv_at hl 1 rfl) ?_
  refine k_v (pc := 25) (k_V E hC hS hA hl.1 (c1.recv hC (hW.fr (i := (nn q_)) hi_6) rfl) rfl (c_X0_assign l D tk N0 sa hAD H.size g_9 ((nn q_)) hi_6 ((nn r_)) hi_3 ) kw_627 kw_628 kw_629 kw_2 kw_630 (n := 1) (by decide +kernel) rfl ⟨⟨rfl, rfl⟩, ⟨by decide, by decide⟩, by decide, by decide⟩ rfl (Nat.le_of_ble_eq_true rfl) hW dX3_swap_25) hS (fun q _ w => cwA.go hS.1 q w) hn (fun H locs hR hz hk hS => ?_)
  have hW := hR
  obtain ⟨g_12, eg_12⟩ : ∃ z, z = f_assign g_9 ((nn q_)) ((nn r_)) := ⟨_, rfl⟩
  rw [← eg_12] at hW
  refine lv_aload_n (pc := 28) hx hb dX3_swap_28 rfl (lv_at hl 2 rfl) ?_
  refine lv_aload_n (pc := 29) hx hb dX3_swap_29 rfl (lv_at hl 1 rfl) ?_
  refine k_i (pc := 30) (k_V E hC hS hA hl.1 (c1.recv hC hW.obj rfl) rfl (c_X3_settle l D tk N0 sa hAD H.size g_12 ((nn r_)) hi_3 ) kw_830 kw_832 kp_16 kw_1 kw_833 (n := 1) (by decide +kernel) rfl ⟨⟨rfl, rfl⟩, ⟨by decide, by decide⟩, by decide, by decide⟩ rfl (Nat.le_of_ble_eq_true rfl) hW dX3_swap_30) hS (fun q _ w => cwA.go hS.1 q w) hn (fun r_13 H locs hR hz hk hS => ?_)
  obtain ⟨er_13, hW⟩ := hR
  obtain ⟨g_15, eg_15⟩ : ∃ z, z = f_setW g_12 ((nn r_)) := ⟨_, rfl⟩
  rw [← eg_15] at hW
  refine vx_ret ?_
  refine r_iret (pc := 33) E hr hlk hS (by decide) (by decide) ?_ dX3_swap_33
  exact ⟨(by subst eg_9 eg_12 eg_15 er_13; first | assumption | (simp [xo, ek_2, ek_5]; done)), (by subst eg_9 eg_12 eg_15 er_13; first | with_reducible rfl | (simp [f_swap, p_TB, p_TV, p_TC, p_TI, p_BT, p_BV, p_BC, p_BI, p_VT, p_VB, p_VC, p_VI, p_CT, p_CB, p_CV, p_CI, p_IT, p_IB, p_IV, p_IC, p_TT, p_BB, p_CC, p_II]; done)), hW.to (by subst eg_9 eg_12 eg_15 er_13; first | with_reducible rfl | (simp [f_swap, p_TB, p_TV, p_TC, p_TI, p_BT, p_BV, p_BC, p_BI, p_VT, p_VB, p_VC, p_VI, p_CT, p_CB, p_CV, p_CI, p_IT, p_IB, p_IV, p_IC, p_TT, p_BB, p_CC, p_II]; done))⟩
