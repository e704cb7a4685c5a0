set_option maxHeartbeats 4000000 in
set_option maxRecDepth 100000 in
/-- Bestratios.best(III)I -/
theorem c_X3_best (l : Launch) (hlst : l.stackTraces = false) (D : va_G) (tk : Nat → ClassId) (N0 : Nat) (sa : Nat → Nat) {ad : Nat → Nat} (hAD : ADok N0 ad) (sz : Nat) (g : CS) (r_ : Int32) (q_ : Int32) (n_ : Int32) : vx_Met l yX3_best (wsy yX3_best cX3_best 6 (some .int)) ({ frames := 7, cells := 3, slots := 18, locals := 112 } : Room) (cP D tk N0 sa [.ref (ad 15), .int r_, .int q_, .int n_] sz (fun H => CW D tk ad g H)) (kQi (fun r H => xo (bR r_) (xo (bR q_) (2 * bW n_ 1 200)) = 0 ∧ r = f_setR (f_best g (nn q_) n_) (nn r_) ∧ CW D tk ad (f_setW (f_best g (nn q_) n_) (nn r_)) H) (cwA ad sz)) (kX (fun E => (E = "java/lang/IndexOutOfBoundsException" ∧ xo (bR r_) (xo (bR q_) (2 * bW n_ 1 200)) = 1) ∨ (E = "java/lang/IllegalArgumentException" ∧ xo (bR r_) (xo (bR q_) (2 * bW n_ 1 200)) = 2)) sz) (3) (18) (cwA ad sz) := by
  refine mStartX RX3 rfl (by decide +kernel) (Nat.le_of_ble_eq_true rfl) ?_
  intro p e s m args below meth c E hr hlk htb hsz hC hF ls hl
  subst hsz
  obtain ⟨hx, hb, -⟩ := id E
  have hA : ∀ q, (cwA ad s.heap.size) q → N0 ≤ q := cwA.ge hAD hC.2.1
  have hn : ∀ q, s.heap.size ≤ q → (cwA ad s.heap.size) q := fun q h => Or.inr h
  have hS : va_S (cwA ad s.heap.size) s.heap s.heap [] := va_S.rf
  have hU : ∀ q, q < s.heap.size → s.heap[q]? = s.heap[q]? := fun _ _ => rfl
  have hl : lv_has ls 6 [(0, .ref (ad 15)), (1, .int r_), (2, .int q_), (3, .int n_)] := hl
  have hW : CW D tk ad g s.heap := hF
  refine lv_aload_n (pc := 0) hx hb dX3_best_0 rfl (lv_at hl 0 rfl) ?_
  refine lv_iload_n (pc := 1) hx hb dX3_best_1 rfl (lv_at hl 1 rfl) ?_
  have hZ := hS.1
  refine kx_r (pc := 2) (kx_V E hC hS hA hl.1 (c1.recv hC hW.obj rfl) rfl (c_X3_ratioAt l hlst D tk N0 sa hAD s.heap.size g r_ ) kw_809 kw_811 kp_15 kw_1 kw_812 (n := 1) (by decide +kernel) rfl ⟨⟨rfl, rfl⟩, ⟨by decide, by decide⟩, by decide, by decide⟩ rfl (Nat.le_of_ble_eq_true rfl) hW dX3_best_2) hS (fun q z w => absurd w (Nat.not_le.mpr z)) hn hlk htb hU (fun E9 h9 => by rcases h9 with ⟨rfl, h9⟩ <;> first | (simp [h9]; done) | (simp [xo, h9]; done)) ⟨by decide, by decide⟩ (fun r_1 H locs hR hz hk hS => ?_)
  have hU := fun q (hq : q < s.heap.size) => (hk q (Nat.lt_of_lt_of_le hq hZ) (Nat.not_le.mpr (Nat.lt_of_lt_of_le hq hZ))).trans (hU q hq)
  obtain ⟨ek_2, er_1⟩ := hR
  have hW := hW.new hk
  have hi_3 : nn r_ < 15 := Nat.lt_of_lt_of_le (bR_lt ek_2) (by decide)
  subst er_1
  refine lv_astore (pc := 5) (lv' := [(4, .ref (ad (nn r_))), (0, .ref (ad 15)), (1, .int r_), (2, .int q_), (3, .int n_)]) hx hb dX3_best_5 hl (by decide) rfl (fun ls hl => ?_)
  refine lv_aload_n (pc := 7) hx hb dX3_best_7 rfl (lv_at hl 1 rfl) ?_
  refine lv_iload_n (pc := 8) hx hb dX3_best_8 rfl (lv_at hl 3 rfl) ?_
  have hZ := hS.1
  refine kx_r (pc := 9) (kx_V E hC hS hA hl.1 (c1.recv hC hW.obj rfl) rfl (c_X3_ratioAt l hlst D tk N0 sa hAD H.size g q_ ) kw_809 kw_811 kp_15 kw_1 kw_812 (n := 1) (by decide +kernel) rfl ⟨⟨rfl, rfl⟩, ⟨by decide, by decide⟩, by decide, by decide⟩ rfl (Nat.le_of_ble_eq_true rfl) hW dX3_best_9) hS (fun q z w => absurd w (Nat.not_le.mpr z)) hn hlk htb hU (fun E9 h9 => by rcases h9 with ⟨rfl, h9⟩ <;> first | (simp [h9]; done) | (simp [xo, h9, ek_2]; done)) ⟨by decide, by decide⟩ (fun r_4 H locs hR hz hk hS => ?_)
  have hU := fun q (hq : q < s.heap.size) => (hk q (Nat.lt_of_lt_of_le hq hZ) (Nat.not_le.mpr (Nat.lt_of_lt_of_le hq hZ))).trans (hU q hq)
  obtain ⟨ek_5, er_4⟩ := hR
  have hW := hW.new hk
  have hi_6 : nn q_ < 15 := Nat.lt_of_lt_of_le (bR_lt ek_5) (by decide)
  subst er_4
  refine lv_astore (pc := 12) (lv' := [(5, .ref (ad (nn q_))), (4, .ref (ad (nn r_))), (0, .ref (ad 15)), (1, .int r_), (2, .int q_), (3, .int n_)]) hx hb dX3_best_12 hl (by decide) rfl (fun ls hl => ?_)
  refine lv_iload_n (pc := 14) hx hb dX3_best_14 rfl (lv_at hl 5 rfl) ?_
  refine lv_iconst (pc := 15) (v := 1) hx hb dX3_best_15 (by decide) ?_
  refine lv_sipush (pc := 16) (v := 200) hx hb dX3_best_16 (by decide) ?_
  have hZ := hS.1
  refine kx_v (pc := 19) (kx_S E hC hS hA hl.1 (c_X3_requireWithin l hlst D tk N0 sa H.size n_ 1 200 ) kw_851 kw_852 kw_1 kw_853 (n := 3) (by decide +kernel) rfl ⟨⟨rfl, rfl⟩, ⟨by decide, by decide⟩, by decide, by decide⟩ rfl (Nat.le_of_ble_eq_true rfl) trivial dX3_best_19) hS (fun q z w => absurd w (Nat.not_le.mpr z)) hn hlk htb hU (fun E9 h9 => by rcases h9 with ⟨rfl, h9⟩ <;> first | (simp [h9]; done) | (simp [xo, h9, ek_2, ek_5]; done)) ⟨by decide, by decide⟩ (fun H locs hR hz hk hS => ?_)
  have hU := fun q (hq : q < s.heap.size) => (hk q (Nat.lt_of_lt_of_le hq hZ) (Nat.not_le.mpr (Nat.lt_of_lt_of_le hq hZ))).trans (hU q hq)
  have ek_8 := hR
  have hW := hW.new hk
  refine lv_aload_n (pc := 22) hx hb dX3_best_22 rfl (lv_at hl 2 rfl) ?_
  refine r_get (pc := 23) E hC hW.obj 6 (v := .ref (ad 7)) rfl rfl (by decide) uX3 (List.mem_cons_of_mem _ kw_120) (fun _ h => h) dX3_best_23 ?_
  refine lv_aload (pc := 26) hx hb dX3_best_26 (lv_at hl 0 rfl) ?_
  refine lv_iload_n (pc := 28) hx hb dX3_best_28 rfl (lv_at hl 5 rfl) ?_
  refine lv_iconst (pc := 29) (v := 1) hx hb dX3_best_29 (by decide) ?_
  refine k_v (pc := 30) (k_V E hC hS hA hl.1 (c1.recv hC (hW.fr (i := 7) (by decide)) rfl) rfl (c_X0_becomeNeighbour l D tk N0 sa hAD H.size g 7 (by decide) ((nn q_)) hi_6 n_ 1 ) kw_588 kw_589 kw_590 kw_2 kw_591 (n := 3) (by decide +kernel) rfl ⟨⟨rfl, rfl⟩, ⟨by decide, by decide⟩, by decide, by decide⟩ rfl (Nat.le_of_ble_eq_true rfl) hW dX3_best_30) hS (fun q _ w => cwA.go hS.1 q w) hn (fun H locs hR hz hk hS => ?_)
  have hW := hR
  obtain ⟨g_11, eg_11⟩ : ∃ z, z = f_nb g 7 ((nn q_)) n_ 1 := ⟨_, rfl⟩
  rw [← eg_11] at hW
  refine lv_aload_n (pc := 33) hx hb dX3_best_33 rfl (lv_at hl 2 rfl) ?_
  refine r_get (pc := 34) E hC hW.obj 7 (v := .ref (ad 8)) rfl rfl (by decide) uX3 (List.mem_cons_of_mem _ kw_121) (fun _ h => h) dX3_best_34 ?_
  refine lv_aload (pc := 37) hx hb dX3_best_37 (lv_at hl 0 rfl) ?_
  refine lv_iload_n (pc := 39) hx hb dX3_best_39 rfl (lv_at hl 5 rfl) ?_
  refine lv_iconst (pc := 40) (v := (-1)) hx hb dX3_best_40 (by decide) ?_
  refine k_v (pc := 41) (k_V E hC hS hA hl.1 (c1.recv hC (hW.fr (i := 8) (by decide)) rfl) rfl (c_X0_becomeNeighbour l D tk N0 sa hAD H.size g_11 8 (by decide) ((nn q_)) hi_6 n_ ((-1)) ) kw_588 kw_589 kw_590 kw_2 kw_591 (n := 3) (by decide +kernel) rfl ⟨⟨rfl, rfl⟩, ⟨by decide, by decide⟩, by decide, by decide⟩ rfl (Nat.le_of_ble_eq_true rfl) hW dX3_best_41) hS (fun q _ w => cwA.go hS.1 q w) hn (fun H locs hR hz hk hS => ?_)
  have hW := hR
  obtain ⟨g_14, eg_14⟩ : ∃ z, z = f_nb g_11 8 ((nn q_)) n_ ((-1)) := ⟨_, rfl⟩
  rw [← eg_14] at hW
  refine lv_aload_n (pc := 44) hx hb dX3_best_44 rfl (lv_at hl 2 rfl) ?_
  refine r_get (pc := 45) E hC hW.obj 5 (v := .ref (ad 6)) rfl rfl (by decide) uX3 (List.mem_cons_of_mem _ kw_119) (fun _ h => h) dX3_best_45 ?_
  refine lv_aload_n (pc := 48) hx hb dX3_best_48 rfl (lv_at hl 2 rfl) ?_
  refine lv_aload (pc := 49) hx hb dX3_best_49 (lv_at hl 0 rfl) ?_
  refine k_i (pc := 51) (k_V E hC hS hA hl.1 (c1.recv hC hW.obj rfl) rfl (c_X3_isLowerBetter l D tk N0 sa hAD H.size g_14 ((nn q_)) hi_6 ) kw_1067 kw_1069 kp_19 kw_1 kw_1070 (n := 1) (by decide +kernel) rfl ⟨⟨rfl, rfl⟩, ⟨by decide, by decide⟩, by decide, by decide⟩ rfl (Nat.le_of_ble_eq_true rfl) hW dX3_best_51) hS (fun q z w => absurd w (Nat.not_le.mpr z)) hn (fun r_15 H locs hR hz hk hS => ?_)
  have er_15 := hR
  have hW := hW.new hk
  refine lv_if_eq (pc := 54) (tgt := 64) hx hb dX3_best_54 (by decide) (fun c_17 => ?_) (fun c_17 => ?_)
  · refine lv_aload_n (pc := 64) hx hb dX3_best_64 rfl (lv_at hl 2 rfl) ?_
    refine r_get (pc := 65) E hC hW.obj 7 (v := .ref (ad 8)) rfl rfl (by decide) uX3 (List.mem_cons_of_mem _ kw_121) (fun _ h => h) dX3_best_65 ?_
    refine k_v (pc := 68) (k_V E hC hS hA hl.1 (c1.recv hC (hW.fr (i := 6) (by decide)) rfl) rfl (c_X0_assign l D tk N0 sa hAD H.size g_14 6 (by decide) 8 (by decide) ) kw_627 kw_628 kw_629 kw_2 kw_630 (n := 1) (by decide +kernel) rfl ⟨⟨rfl, rfl⟩, ⟨by decide, by decide⟩, by decide, by decide⟩ rfl (Nat.le_of_ble_eq_true rfl) hW dX3_best_68) hS (fun q _ w => cwA.go hS.1 q w) hn (fun H locs hR hz hk hS => ?_)
    have hW := hR
    obtain ⟨g_20, eg_20⟩ : ∃ z, z = f_assign g_14 6 8 := ⟨_, rfl⟩
    rw [← eg_20] at hW
    refine lv_aload_n (pc := 71) hx hb dX3_best_71 rfl (lv_at hl 2 rfl) ?_
    refine lv_aload (pc := 72) hx hb dX3_best_72 (lv_at hl 1 rfl) ?_
    refine k_i (pc := 74) (k_V E hC hS hA hl.1 (c1.recv hC hW.obj rfl) rfl (c_X3_settle l D tk N0 sa hAD H.size g_20 ((nn r_)) hi_3 ) kw_830 kw_832 kp_16 kw_1 kw_833 (n := 1) (by decide +kernel) rfl ⟨⟨rfl, rfl⟩, ⟨by decide, by decide⟩, by decide, by decide⟩ rfl (Nat.le_of_ble_eq_true rfl) hW dX3_best_74) hS (fun q _ w => cwA.go hS.1 q w) hn (fun r_21 H locs hR hz hk hS => ?_)
    obtain ⟨er_21, hW⟩ := hR
    obtain ⟨g_23, eg_23⟩ : ∃ z, z = f_setW g_20 ((nn r_)) := ⟨_, rfl⟩
    rw [← eg_23] at hW
    refine vx_ret ?_
    refine r_iret (pc := 77) E hr hlk hS (by decide) (by decide) ?_ dX3_best_77
    exact ⟨(by subst eg_11 eg_14 er_15 eg_20 eg_23 er_21; first | assumption | (simp [xo, ek_2, ek_5, ek_8, c_17]; done)), (by subst eg_11 eg_14 er_15 eg_20 eg_23 er_21; first | with_reducible rfl | (simp [f_best, f_bestG, c_17, p_TB, p_TV, p_TC, p_TI, p_BT, p_BV, p_BC, p_BI, p_VT, p_VB, p_VC, p_VI, p_CT, p_CB, p_CV, p_CI, p_IT, p_IB, p_IV, p_IC, p_TT, p_BB, p_CC, p_II]; done)), hW.to (by subst eg_11 eg_14 er_15 eg_20 eg_23 er_21; first | with_reducible rfl | (simp [f_best, f_bestG, c_17, p_TB, p_TV, p_TC, p_TI, p_BT, p_BV, p_BC, p_BI, p_VT, p_VB, p_VC, p_VI, p_CT, p_CB, p_CV, p_CI, p_IT, p_IB, p_IV, p_IC, p_TT, p_BB, p_CC, p_II]; done))⟩
  · refine lv_aload_n (pc := 57) hx hb dX3_best_57 rfl (lv_at hl 2 rfl) ?_
    refine r_get (pc := 58) E hC hW.obj 6 (v := .ref (ad 7)) rfl rfl (by decide) uX3 (List.mem_cons_of_mem _ kw_120) (fun _ h => h) dX3_best_58 ?_
    refine lv_goto (pc := 61) (tgt := 68) hx hb dX3_best_61 (by decide) ?_
    refine k_v (pc := 68) (k_V E hC hS hA hl.1 (c1.recv hC (hW.fr (i := 6) (by decide)) rfl) rfl (c_X0_assign l D tk N0 sa hAD H.size g_14 6 (by decide) 7 (by decide) ) kw_627 kw_628 kw_629 kw_2 kw_630 (n := 1) (by decide +kernel) rfl ⟨⟨rfl, rfl⟩, ⟨by decide, by decide⟩, by decide, by decide⟩ rfl (Nat.le_of_ble_eq_true rfl) hW dX3_best_68) hS (fun q _ w => cwA.go hS.1 q w) hn (fun H locs hR hz hk hS => ?_)
    have hW := hR
    obtain ⟨g_26, eg_26⟩ : ∃ z, z = f_assign g_14 6 7 := ⟨_, rfl⟩
    rw [← eg_26] at hW
    refine lv_aload_n (pc := 71) hx hb dX3_best_71 rfl (lv_at hl 2 rfl) ?_
    refine lv_aload (pc := 72) hx hb dX3_best_72 (lv_at hl 1 rfl) ?_
    refine k_i (pc := 74) (k_V E hC hS hA hl.1 (c1.recv hC hW.obj rfl) rfl (c_X3_settle l D tk N0 sa hAD H.size g_26 ((nn r_)) hi_3 ) kw_830 kw_832 kp_16 kw_1 kw_833 (n := 1) (by decide +kernel) rfl ⟨⟨rfl, rfl⟩, ⟨by decide, by decide⟩, by decide, by decide⟩ rfl (Nat.le_of_ble_eq_true rfl) hW dX3_best_74) hS (fun q _ w => cwA.go hS.1 q w) hn (fun r_27 H locs hR hz hk hS => ?_)
    obtain ⟨er_27, hW⟩ := hR
    obtain ⟨g_29, eg_29⟩ : ∃ z, z = f_setW g_26 ((nn r_)) := ⟨_, rfl⟩
    rw [← eg_29] at hW
    refine vx_ret ?_
    refine r_iret (pc := 77) E hr hlk hS (by decide) (by decide) ?_ dX3_best_77
    exact ⟨(by subst eg_11 eg_14 er_15 eg_26 eg_29 er_27; first | assumption | (simp [xo, ek_2, ek_5, ek_8, c_17]; done)), (by subst eg_11 eg_14 er_15 eg_26 eg_29 er_27; first | with_reducible rfl | (simp [f_best, f_bestG, c_17, p_TB, p_TV, p_TC, p_TI, p_BT, p_BV, p_BC, p_BI, p_VT, p_VB, p_VC, p_VI, p_CT, p_CB, p_CV, p_CI, p_IT, p_IB, p_IV, p_IC, p_TT, p_BB, p_CC, p_II]; done)), hW.to (by subst eg_11 eg_14 er_15 eg_26 eg_29 er_27; first | with_reducible rfl | (simp [f_best, f_bestG, c_17, p_TB, p_TV, p_TC, p_TI, p_BT, p_BV, p_BC, p_BI, p_VT, p_VB, p_VC, p_VI, p_CT, p_CB, p_CV, p_CI, p_IT, p_IB, p_IV, p_IC, p_TT, p_BB, p_CC, p_II]; done))⟩
