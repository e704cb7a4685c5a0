set_option maxHeartbeats 4000000 in
set_option maxRecDepth 100000 in
/-- Bestratios.convergent(III)I -/
theorem c_X3_convergent (l : Launch) (hlst : l.stackTraces = false) (D : va_G) (tk : Nat → ClassId) (N0 : Nat) (sa : Nat → Nat) {ad : Nat → Nat} (hAD : ADok N0 ad) (sz : Nat) (g : CS) (r_ : Int32) (q_ : Int32) (kk : Int32) : vx_Met l yX3_convergent (wsy yX3_convergent cX3_convergent 6 (some .int)) ({ frames := 7, cells := 3, slots := 18, locals := 111 } : Room) (cP D tk N0 sa [.ref (ad 15), .int r_, .int q_, .int kk] sz (fun H => CW D tk ad g H)) (kQi (fun r H => xo (bR r_) (xo (bR q_) (2 * bN kk)) = 0 ∧ r = f_conR (f_apart g 1 (nn q_)) (nn r_) kk ∧ CW D tk ad (f_conW (f_apart g 1 (nn q_)) (nn r_) kk) H) (cwA ad sz)) (kX (fun E => (E = "java/lang/IndexOutOfBoundsException" ∧ xo (bR r_) (xo (bR q_) (2 * bN kk)) = 1) ∨ (E = "java/lang/IllegalArgumentException" ∧ xo (bR r_) (xo (bR q_) (2 * bN kk)) = 2)) sz) (3) (18) (cwA ad sz) := by
  refine mStartX RX3 rfl (by decide +kernel) (Nat.le_of_ble_eq_true rfl) ?_
  intro p e s m args below meth c E hr hlk htb hsz hC hF ls hl
  subst hsz
  obtain ⟨hx, hb, -⟩ := id E
  have hA : ∀ q, (cwA ad s.heap.size) q → N0 ≤ q := cwA.ge hAD hC.2.1
  have hn : ∀ q, s.heap.size ≤ q → (cwA ad s.heap.size) q := fun q h => Or.inr h
  have hS : va_S (cwA ad s.heap.size) s.heap s.heap [] := va_S.rf
  have hU : ∀ q, q < s.heap.size → s.heap[q]? = s.heap[q]? := fun _ _ => rfl
  have hl : lv_has ls 6 [(0, .ref (ad 15)), (1, .int r_), (2, .int q_), (3, .int kk)] := hl
  have hW : CW D tk ad g s.heap := hF
  refine lv_aload_n (pc := 0) hx hb dX3_convergent_0 rfl (lv_at hl 0 rfl) ?_
  refine lv_iload_n (pc := 1) hx hb dX3_convergent_1 rfl (lv_at hl 1 rfl) ?_
  have hZ := hS.1
  refine kx_r (pc := 2) (kx_V E hC hS hA hl.1 (c1.recv hC hW.obj rfl) rfl (c_X3_ratioAt l hlst D tk N0 sa hAD s.heap.size g r_ ) kw_809 kw_811 kp_15 kw_1 kw_812 (n := 1) (by decide +kernel) rfl ⟨⟨rfl, rfl⟩, ⟨by decide, by decide⟩, by decide, by decide⟩ rfl (Nat.le_of_ble_eq_true rfl) hW dX3_convergent_2) hS (fun q z w => absurd w (Nat.not_le.mpr z)) hn hlk htb hU (fun E9 h9 => by rcases h9 with ⟨rfl, h9⟩ <;> first | (simp [h9]; done) | (simp [xo, h9]; done)) ⟨by decide, by decide⟩ (fun r_1 H locs hR hz hk hS => ?_)
  have hU := fun q (hq : q < s.heap.size) => (hk q (Nat.lt_of_lt_of_le hq hZ) (Nat.not_le.mpr (Nat.lt_of_lt_of_le hq hZ))).trans (hU q hq)
  obtain ⟨ek_2, er_1⟩ := hR
  have hW := hW.new hk
  have hi_3 : nn r_ < 15 := Nat.lt_of_lt_of_le (bR_lt ek_2) (by decide)
  subst er_1
  refine lv_astore (pc := 5) (lv' := [(4, .ref (ad (nn r_))), (0, .ref (ad 15)), (1, .int r_), (2, .int q_), (3, .int kk)]) hx hb dX3_convergent_5 hl (by decide) rfl (fun ls hl => ?_)
  refine lv_aload_n (pc := 7) hx hb dX3_convergent_7 rfl (lv_at hl 1 rfl) ?_
  refine lv_iload_n (pc := 8) hx hb dX3_convergent_8 rfl (lv_at hl 3 rfl) ?_
  have hZ := hS.1
  refine kx_r (pc := 9) (kx_V E hC hS hA hl.1 (c1.recv hC hW.obj rfl) rfl (c_X3_ratioAt l hlst D tk N0 sa hAD H.size g q_ ) kw_809 kw_811 kp_15 kw_1 kw_812 (n := 1) (by decide +kernel) rfl ⟨⟨rfl, rfl⟩, ⟨by decide, by decide⟩, by decide, by decide⟩ rfl (Nat.le_of_ble_eq_true rfl) hW dX3_convergent_9) hS (fun q z w => absurd w (Nat.not_le.mpr z)) hn hlk htb hU (fun E9 h9 => by rcases h9 with ⟨rfl, h9⟩ <;> first | (simp [h9]; done) | (simp [xo, h9, ek_2]; done)) ⟨by decide, by decide⟩ (fun r_4 H locs hR hz hk hS => ?_)
  have hU := fun q (hq : q < s.heap.size) => (hk q (Nat.lt_of_lt_of_le hq hZ) (Nat.not_le.mpr (Nat.lt_of_lt_of_le hq hZ))).trans (hU q hq)
  obtain ⟨ek_5, er_4⟩ := hR
  have hW := hW.new hk
  have hi_6 : nn q_ < 15 := Nat.lt_of_lt_of_le (bR_lt ek_5) (by decide)
  subst er_4
  refine lv_astore (pc := 12) (lv' := [(5, .ref (ad (nn q_))), (4, .ref (ad (nn r_))), (0, .ref (ad 15)), (1, .int r_), (2, .int q_), (3, .int kk)]) hx hb dX3_convergent_12 hl (by decide) rfl (fun ls hl => ?_)
  refine lv_iload_n (pc := 14) hx hb dX3_convergent_14 rfl (lv_at hl 5 rfl) ?_
  have hZ := hS.1
  refine kx_v (pc := 15) (kx_S E hC hS hA hl.1 (c_X3_requireNotBelow0 l hlst D tk N0 sa H.size kk ) kw_987 kw_988 kw_1 kw_989 (n := 1) (by decide +kernel) rfl ⟨⟨rfl, rfl⟩, ⟨by decide, by decide⟩, by decide, by decide⟩ rfl (Nat.le_of_ble_eq_true rfl) trivial dX3_convergent_15) hS (fun q z w => absurd w (Nat.not_le.mpr z)) hn hlk htb hU (fun E9 h9 => by rcases h9 with ⟨rfl, h9⟩ <;> first | (simp [h9]; done) | (simp [xo, h9, ek_2, ek_5]; done)) ⟨by decide, by decide⟩ (fun H locs hR hz hk hS => ?_)
  have hU := fun q (hq : q < s.heap.size) => (hk q (Nat.lt_of_lt_of_le hq hZ) (Nat.not_le.mpr (Nat.lt_of_lt_of_le hq hZ))).trans (hU q hq)
  have ek_8 := hR
  have hW := hW.new hk
  refine lv_aload_n (pc := 18) hx hb dX3_convergent_18 rfl (lv_at hl 2 rfl) ?_
  refine r_get (pc := 19) E hC hW.obj 8 (v := .ref (ad 19)) rfl rfl (by decide) uX3 (List.mem_cons_of_mem _ kw_122) (fun _ h => h) dX3_convergent_19 ?_
  refine lv_aload (pc := 22) hx hb dX3_convergent_22 (lv_at hl 0 rfl) ?_
  refine k_v (pc := 24) (k_V E hC hS hA hl.1 (c1.recv hC (hW.tm (j := 1) (by decide)) rfl) rfl (c_X2_takeApart l D tk N0 sa hAD H.size g 1 (by decide) ((nn q_)) hi_6 ) kw_563 kw_564 kw_565 kw_3 kw_566 (n := 1) (by decide +kernel) rfl ⟨⟨rfl, rfl⟩, ⟨by decide, by decide⟩, by decide, by decide⟩ rfl (Nat.le_of_ble_eq_true rfl) hW dX3_convergent_24) hS (fun q _ w => cwA.go hS.1 q w) hn (fun H locs hR hz hk hS => ?_)
  have hW := hR
  obtain ⟨g_11, eg_11⟩ : ∃ z, z = f_apart g 1 ((nn q_)) := ⟨_, rfl⟩
  rw [← eg_11] at hW
  refine lv_iload_n (pc := 27) hx hb dX3_convergent_27 rfl (lv_at hl 5 rfl) ?_
  refine lv_aload_n (pc := 28) hx hb dX3_convergent_28 rfl (lv_at hl 2 rfl) ?_
  refine r_get (pc := 29) E hC hW.obj 8 (v := .ref (ad 19)) rfl rfl (by decide) uX3 (List.mem_cons_of_mem _ kw_122) (fun _ h => h) dX3_convergent_29 ?_
  refine r_getN (pc := 32) "Bestratios" E hC (hW.tm (j := 1) (by decide)) 1 (v := .int (tC g_11 1)) rfl rfl (by decide) uX2 kn_69 (fun _ h => h) dX3_convergent_32 ?_
  refine lv_icmp_lt (pc := 35) (tgt := 43) hx hb dX3_convergent_35 (by decide) (fun c_12 => ?_) (fun c_12 => ?_)
  · refine lv_aload_n (pc := 43) hx hb dX3_convergent_43 rfl (lv_at hl 2 rfl) ?_
    refine r_get (pc := 44) E hC hW.obj 8 (v := .ref (ad 19)) rfl rfl (by decide) uX3 (List.mem_cons_of_mem _ kw_122) (fun _ h => h) dX3_convergent_44 ?_
    refine lv_iload_n (pc := 47) hx hb dX3_convergent_47 rfl (lv_at hl 5 rfl) ?_
    refine lv_iconst (pc := 48) (v := 1) hx hb dX3_convergent_48 (by decide) ?_
    refine lv_iadd (pc := 49) hx hb dX3_convergent_49 ?_
    refine k_v (pc := 50) (k_V E hC hS hA hl.1 (c1.recv hC (hW.tm (j := 1) (by decide)) rfl) rfl (c_X2_keepFirst l D tk N0 sa hAD H.size g_11 1 (by decide) (kk + 1) ) kw_998 kw_999 kw_1000 kw_3 kw_1001 (n := 1) (by decide +kernel) rfl ⟨⟨rfl, rfl⟩, ⟨by decide, by decide⟩, by decide, by decide⟩ rfl (Nat.le_of_ble_eq_true rfl) hW dX3_convergent_50) hS (fun q _ w => cwA.go hS.1 q w) hn (fun H locs hR hz hk hS => ?_)
    have hW := hR
    obtain ⟨g_15, eg_15⟩ : ∃ z, z = f_keep g_11 1 (kk + 1) := ⟨_, rfl⟩
    rw [← eg_15] at hW
    refine lv_aload_n (pc := 53) hx hb dX3_convergent_53 rfl (lv_at hl 2 rfl) ?_
    refine r_get (pc := 54) E hC hW.obj 8 (v := .ref (ad 19)) rfl rfl (by decide) uX3 (List.mem_cons_of_mem _ kw_122) (fun _ h => h) dX3_convergent_54 ?_
    refine lv_aload_n (pc := 57) hx hb dX3_convergent_57 rfl (lv_at hl 2 rfl) ?_
    refine r_get (pc := 58) E hC hW.obj 5 (v := .ref (ad 6)) rfl rfl (by decide) uX3 (List.mem_cons_of_mem _ kw_119) (fun _ h => h) dX3_convergent_58 ?_
    refine k_i (pc := 61) (k_V E hC hS hA hl.1 (c1.recv hC (hW.tm (j := 1) (by decide)) rfl) rfl (c_X2_foldInto l D tk N0 sa hAD H.size g_15 1 (by decide) 6 (by decide) ) kw_573 kw_574 kw_575 kw_3 kw_576 (n := 1) (by decide +kernel) rfl ⟨⟨rfl, rfl⟩, ⟨by decide, by decide⟩, by decide, by decide⟩ rfl (Nat.le_of_ble_eq_true rfl) hW dX3_convergent_61) hS (fun q _ w => cwA.go hS.1 q w) hn (fun r_16 H locs hR hz hk hS => ?_)
    obtain ⟨er_16, hW⟩ := hR
    obtain ⟨g_18, eg_18⟩ : ∃ z, z = f_foldW g_15 1 6 := ⟨_, rfl⟩
    rw [← eg_18] at hW
    refine lv_if_eq (pc := 64) (tgt := 76) hx hb dX3_convergent_64 (by decide) (fun c_19 => ?_) (fun c_19 => ?_)
    · refine lv_aload_n (pc := 76) hx hb dX3_convergent_76 rfl (lv_at hl 2 rfl) ?_
      refine k_i (pc := 77) (k_V E hC hS hA hl.1 (c1.recv hC hW.obj rfl) rfl (c_X3_refuse l D tk N0 sa hAD H.size g_18  ) kw_840 kw_842 kp_17 kw_1 kw_843 (n := 0) (by decide +kernel) rfl ⟨⟨rfl, rfl⟩, ⟨by decide, by decide⟩, by decide, by decide⟩ rfl (Nat.le_of_ble_eq_true rfl) hW dX3_convergent_77) hS (fun q _ w => cwA.go hS.1 q w) hn (fun r_20 H locs hR hz hk hS => ?_)
      obtain ⟨er_20, hW⟩ := hR
      obtain ⟨g_22, eg_22⟩ : ∃ z, z = f_refW g_18 := ⟨_, rfl⟩
      rw [← eg_22] at hW
      refine vx_ret ?_
      refine r_iret (pc := 80) E hr hlk hS (by decide) (by decide) ?_ dX3_convergent_80
      exact ⟨(by subst eg_11 eg_15 eg_18 er_16 eg_22 er_20; first | assumption | (simp [xo, ek_2, ek_5, ek_8, c_12, Int32.not_le.mpr c_12, c_19]; done)), (by subst eg_11 eg_15 eg_18 er_16 eg_22 er_20; first | with_reducible rfl | (simp [f_conR, f_conW, f_fsR, f_fsW, c_12, Int32.not_le.mpr c_12, c_19, p_TB, p_TV, p_TC, p_TI, p_BT, p_BV, p_BC, p_BI, p_VT, p_VB, p_VC, p_VI, p_CT, p_CB, p_CV, p_CI, p_IT, p_IB, p_IV, p_IC, p_TT, p_BB, p_CC, p_II]; done)), hW.to (by subst eg_11 eg_15 eg_18 er_16 eg_22 er_20; first | with_reducible rfl | (simp [f_conR, f_conW, f_fsR, f_fsW, c_12, Int32.not_le.mpr c_12, c_19, p_TB, p_TV, p_TC, p_TI, p_BT, p_BV, p_BC, p_BI, p_VT, p_VB, p_VC, p_VI, p_CT, p_CB, p_CV, p_CI, p_IT, p_IB, p_IV, p_IC, p_TT, p_BB, p_CC, p_II]; done))⟩
    · refine lv_aload_n (pc := 67) hx hb dX3_convergent_67 rfl (lv_at hl 2 rfl) ?_
      refine lv_aload (pc := 68) hx hb dX3_convergent_68 (lv_at hl 1 rfl) ?_
      refine k_i (pc := 70) (k_V E hC hS hA hl.1 (c1.recv hC hW.obj rfl) rfl (c_X3_settle l D tk N0 sa hAD H.size g_18 ((nn r_)) hi_3 ) kw_830 kw_832 kp_16 kw_1 kw_833 (n := 1) (by decide +kernel) rfl ⟨⟨rfl, rfl⟩, ⟨by decide, by decide⟩, by decide, by decide⟩ rfl (Nat.le_of_ble_eq_true rfl) hW dX3_convergent_70) hS (fun q _ w => cwA.go hS.1 q w) hn (fun r_23 H locs hR hz hk hS => ?_)
      obtain ⟨er_23, hW⟩ := hR
      obtain ⟨g_25, eg_25⟩ : ∃ z, z = f_setW g_18 ((nn r_)) := ⟨_, rfl⟩
      rw [← eg_25] at hW
      refine lv_goto (pc := 73) (tgt := 80) hx hb dX3_convergent_73 (by decide) ?_
      refine vx_ret ?_
      refine r_iret (pc := 80) E hr hlk hS (by decide) (by decide) ?_ dX3_convergent_80
      exact ⟨(by subst eg_11 eg_15 eg_18 er_16 eg_25 er_23; first | assumption | (simp [xo, ek_2, ek_5, ek_8, c_12, Int32.not_le.mpr c_12, c_19]; done)), (by subst eg_11 eg_15 eg_18 er_16 eg_25 er_23; first | with_reducible rfl | (simp [f_conR, f_conW, f_fsR, f_fsW, c_12, Int32.not_le.mpr c_12, c_19, p_TB, p_TV, p_TC, p_TI, p_BT, p_BV, p_BC, p_BI, p_VT, p_VB, p_VC, p_VI, p_CT, p_CB, p_CV, p_CI, p_IT, p_IB, p_IV, p_IC, p_TT, p_BB, p_CC, p_II]; done)), hW.to (by subst eg_11 eg_15 eg_18 er_16 eg_25 er_23; first | with_reducible rfl | (simp [f_conR, f_conW, f_fsR, f_fsW, c_12, Int32.not_le.mpr c_12, c_19, p_TB, p_TV, p_TC, p_TI, p_BT, p_BV, p_BC, p_BI, p_VT, p_VB, p_VC, p_VI, p_CT, p_CB, p_CV, p_CI, p_IT, p_IB, p_IV, p_IC, p_TT, p_BB, p_CC, p_II]; done))⟩
  · refine lv_aload_n (pc := 38) hx hb dX3_convergent_38 rfl (lv_at hl 2 rfl) ?_
    refine k_i (pc := 39) (k_V E hC hS hA hl.1 (c1.recv hC hW.obj rfl) rfl (c_X3_refuse l D tk N0 sa hAD H.size g_11  ) kw_840 kw_842 kp_17 kw_1 kw_843 (n := 0) (by decide +kernel) rfl ⟨⟨rfl, rfl⟩, ⟨by decide, by decide⟩, by decide, by decide⟩ rfl (Nat.le_of_ble_eq_true rfl) hW dX3_convergent_39) hS (fun q _ w => cwA.go hS.1 q w) hn (fun r_26 H locs hR hz hk hS => ?_)
    obtain ⟨er_26, hW⟩ := hR
    obtain ⟨g_28, eg_28⟩ : ∃ z, z = f_refW g_11 := ⟨_, rfl⟩
    rw [← eg_28] at hW
    refine vx_ret ?_
    refine r_iret (pc := 42) E hr hlk hS (by decide) (by decide) ?_ dX3_convergent_42
    exact ⟨(by subst eg_11 eg_28 er_26; first | assumption | (simp [xo, ek_2, ek_5, ek_8, c_12, Int32.not_lt.mp c_12]; done)), (by subst eg_11 eg_28 er_26; first | with_reducible rfl | (simp [f_conR, f_conW, f_fsR, f_fsW, c_12, Int32.not_lt.mp c_12, p_TB, p_TV, p_TC, p_TI, p_BT, p_BV, p_BC, p_BI, p_VT, p_VB, p_VC, p_VI, p_CT, p_CB, p_CV, p_CI, p_IT, p_IB, p_IV, p_IC, p_TT, p_BB, p_CC, p_II]; done)), hW.to (by subst eg_11 eg_28 er_26; first | with_reducible rfl | (simp [f_conR, f_conW, f_fsR, f_fsW, c_12, Int32.not_lt.mp c_12, p_TB, p_TV, p_TC, p_TI, p_BT, p_BV, p_BC, p_BI, p_VT, p_VB, p_VC, p_VI, p_CT, p_CB, p_CV, p_CI, p_IT, p_IB, p_IV, p_IC, p_TT, p_BB, p_CC, p_II]; done))⟩
