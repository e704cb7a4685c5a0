set_option maxHeartbeats 4000000 in
set_option maxRecDepth 100000 in
/-- Bestratios.fold(I)I -/
theorem c_X3_fold (l : Launch) (hlst : l.stackTraces = false) (D : va_G) (tk : Nat → ClassId) (N0 : Nat) (sa : Nat → Nat) {ad : Nat → Nat} (hAD : ADok N0 ad) (sz : Nat) (g : CS) (r_ : Int32) : vx_Met l yX3_fold (wsy yX3_fold cX3_fold 3 (some .int)) ({ frames := 7, cells := 1, slots := 6, locals := 111 } : Room) (cP D tk N0 sa [.ref (ad 15), .int r_] sz (fun H => CW D tk ad g H)) (kQi (fun r H => bR r_ = 0 ∧ r = f_fsR g 0 (nn r_) ∧ CW D tk ad (f_fsW g 0 (nn r_)) H) (cwA ad sz)) (kX (fun E => (E = "java/lang/IndexOutOfBoundsException" ∧ bR r_ = 1)) sz) (1) (6) (cwA ad sz) := by
  refine mStartX RX3 rfl (by decide +kernel) (Nat.le_of_ble_eq_true rfl) ?_
  intro p e s m args below meth c E hr hlk htb hsz hC hF ls hl
  subst hsz
  obtain ⟨hx, hb, -⟩ := id E
  have hA : ∀ q, (cwA ad s.heap.size) q → N0 ≤ q := cwA.ge hAD hC.2.1
  have hn : ∀ q, s.heap.size ≤ q → (cwA ad s.heap.size) q := fun q h => Or.inr h
  have hS : va_S (cwA ad s.heap.size) s.heap s.heap [] := va_S.rf
  have hU : ∀ q, q < s.heap.size → s.heap[q]? = s.heap[q]? := fun _ _ => rfl
  have hl : lv_has ls 3 [(0, .ref (ad 15)), (1, .int r_)] := hl
  have hW : CW D tk ad g s.heap := hF
  refine lv_aload_n (pc := 0) hx hb dX3_fold_0 rfl (lv_at hl 0 rfl) ?_
  refine lv_iload_n (pc := 1) hx hb dX3_fold_1 rfl (lv_at hl 1 rfl) ?_
  have hZ := hS.1
  refine kx_r (pc := 2) (kx_V E hC hS hA hl.1 (c1.recv hC hW.obj rfl) rfl (c_X3_ratioAt l hlst D tk N0 sa hAD s.heap.size g r_ ) kw_809 kw_811 kp_15 kw_1 kw_812 (n := 1) (by decide +kernel) rfl ⟨⟨rfl, rfl⟩, ⟨by decide, by decide⟩, by decide, by decide⟩ rfl (Nat.le_of_ble_eq_true rfl) hW dX3_fold_2) hS (fun q z w => absurd w (Nat.not_le.mpr z)) hn hlk htb hU (fun E9 h9 => by rcases h9 with ⟨rfl, h9⟩ <;> first | (simp [h9]; done) | (simp [xo, h9]; done)) ⟨by decide, by decide⟩ (fun r_1 H locs hR hz hk hS => ?_)
  have hU := fun q (hq : q < s.heap.size) => (hk q (Nat.lt_of_lt_of_le hq hZ) (Nat.not_le.mpr (Nat.lt_of_lt_of_le hq hZ))).trans (hU q hq)
  obtain ⟨ek_2, er_1⟩ := hR
  have hW := hW.new hk
  have hi_3 : nn r_ < 15 := Nat.lt_of_lt_of_le (bR_lt ek_2) (by decide)
  subst er_1
  refine lv_astore_n (pc := 5) (lv' := [(2, .ref (ad (nn r_))), (0, .ref (ad 15)), (1, .int r_)]) hx hb dX3_fold_5 rfl hl (by decide) rfl (fun ls hl => ?_)
  refine lv_aload_n (pc := 6) hx hb dX3_fold_6 rfl (lv_at hl 1 rfl) ?_
  refine r_get (pc := 7) E hC hW.obj 1 (v := .ref (ad 17)) rfl rfl (by decide) uX3 (List.mem_cons_of_mem _ kw_115) (fun _ h => h) dX3_fold_7 ?_
  refine lv_aload_n (pc := 10) hx hb dX3_fold_10 rfl (lv_at hl 1 rfl) ?_
  refine r_get (pc := 11) E hC hW.obj 5 (v := .ref (ad 6)) rfl rfl (by decide) uX3 (List.mem_cons_of_mem _ kw_119) (fun _ h => h) dX3_fold_11 ?_
  refine k_i (pc := 14) (k_V E hC hS hA hl.1 (c1.recv hC (hW.tm (j := 0) (by decide)) rfl) rfl (c_X2_foldInto l D tk N0 sa hAD H.size g 0 (by decide) 6 (by decide) ) kw_573 kw_574 kw_575 kw_3 kw_576 (n := 1) (by decide +kernel) rfl ⟨⟨rfl, rfl⟩, ⟨by decide, by decide⟩, by decide, by decide⟩ rfl (Nat.le_of_ble_eq_true rfl) hW dX3_fold_14) hS (fun q _ w => cwA.go hS.1 q w) hn (fun r_4 H locs hR hz hk hS => ?_)
  obtain ⟨er_4, hW⟩ := hR
  obtain ⟨g_6, eg_6⟩ : ∃ z, z = f_foldW g 0 6 := ⟨_, rfl⟩
  rw [← eg_6] at hW
  refine lv_if_eq (pc := 17) (tgt := 28) hx hb dX3_fold_17 (by decide) (fun c_7 => ?_) (fun c_7 => ?_)
  · refine lv_aload_n (pc := 28) hx hb dX3_fold_28 rfl (lv_at hl 1 rfl) ?_
    refine k_i (pc := 29) (k_V E hC hS hA hl.1 (c1.recv hC hW.obj rfl) rfl (c_X3_refuse l D tk N0 sa hAD H.size g_6  ) kw_840 kw_842 kp_17 kw_1 kw_843 (n := 0) (by decide +kernel) rfl ⟨⟨rfl, rfl⟩, ⟨by decide, by decide⟩, by decide, by decide⟩ rfl (Nat.le_of_ble_eq_true rfl) hW dX3_fold_29) hS (fun q _ w => cwA.go hS.1 q w) hn (fun r_8 H locs hR hz hk hS => ?_)
    obtain ⟨er_8, hW⟩ := hR
    obtain ⟨g_10, eg_10⟩ : ∃ z, z = f_refW g_6 := ⟨_, rfl⟩
    rw [← eg_10] at hW
    refine vx_ret ?_
    refine r_iret (pc := 32) E hr hlk hS (by decide) (by decide) ?_ dX3_fold_32
    exact ⟨(by subst eg_6 er_4 eg_10 er_8; first | assumption | (simp [xo, ek_2, c_7]; done)), (by subst eg_6 er_4 eg_10 er_8; first | with_reducible rfl | (simp [f_fsR, f_fsW, c_7, p_TB, p_TV, p_TC, p_TI, p_BT, p_BV, p_BC, p_BI, p_VT, p_VB, p_VC, p_VI, p_CT, p_CB, p_CV, p_CI, p_IT, p_IB, p_IV, p_IC, p_TT, p_BB, p_CC, p_II]; done)), hW.to (by subst eg_6 er_4 eg_10 er_8; first | with_reducible rfl | (simp [f_fsR, f_fsW, c_7, p_TB, p_TV, p_TC, p_TI, p_BT, p_BV, p_BC, p_BI, p_VT, p_VB, p_VC, p_VI, p_CT, p_CB, p_CV, p_CI, p_IT, p_IB, p_IV, p_IC, p_TT, p_BB, p_CC, p_II]; done))⟩
  · refine lv_aload_n (pc := 20) hx hb dX3_fold_20 rfl (lv_at hl 1 rfl) ?_
    refine lv_aload_n (pc := 21) hx hb dX3_fold_21 rfl (lv_at hl 0 rfl) ?_
    refine k_i (pc := 22) (k_V E hC hS hA hl.1 (c1.recv hC hW.obj rfl) rfl (c_X3_settle l D tk N0 sa hAD H.size g_6 ((nn r_)) hi_3 ) kw_830 kw_832 kp_16 kw_1 kw_833 (n := 1) (by decide +kernel) rfl ⟨⟨rfl, rfl⟩, ⟨by decide, by decide⟩, by decide, by decide⟩ rfl (Nat.le_of_ble_eq_true rfl) hW dX3_fold_22) hS (fun q _ w => cwA.go hS.1 q w) hn (fun r_11 H locs hR hz hk hS => ?_)
    obtain ⟨er_11, hW⟩ := hR
    obtain ⟨g_13, eg_13⟩ : ∃ z, z = f_setW g_6 ((nn r_)) := ⟨_, rfl⟩
    rw [← eg_13] at hW
    refine lv_goto (pc := 25) (tgt := 32) hx hb dX3_fold_25 (by decide) ?_
    refine vx_ret ?_
    refine r_iret (pc := 32) E hr hlk hS (by decide) (by decide) ?_ dX3_fold_32
    exact ⟨(by subst eg_6 er_4 eg_13 er_11; first | assumption | (simp [xo, ek_2, c_7]; done)), (by subst eg_6 er_4 eg_13 er_11; first | with_reducible rfl | (simp [f_fsR, f_fsW, c_7, p_TB, p_TV, p_TC, p_TI, p_BT, p_BV, p_BC, p_BI, p_VT, p_VB, p_VC, p_VI, p_CT, p_CB, p_CV, p_CI, p_IT, p_IB, p_IV, p_IC, p_TT, p_BB, p_CC, p_II]; done)), hW.to (by subst eg_6 er_4 eg_13 er_11; first | with_reducible rfl | (simp [f_fsR, f_fsW, c_7, p_TB, p_TV, p_TC, p_TI, p_BT, p_BV, p_BC, p_BI, p_VT, p_VB, p_VC, p_VI, p_CT, p_CB, p_CV, p_CI, p_IT, p_IB, p_IV, p_IC, p_TT, p_BB, p_CC, p_II]; done))⟩
