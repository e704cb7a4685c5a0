set_option maxHeartbeats 4000000 in
set_option maxRecDepth 100000 in
/-- Bestratios.settle(LBestratios$Fraction;)I -/
theorem c_X3_settle (l : Launch) (D : va_G) (tk : Nat → ClassId) (N0 : Nat) (sa : Nat → Nat) {ad : Nat → Nat} (hAD : ADok N0 ad) (sz : Nat) (g : CS) (i : Nat) (hi : i < 15) : Met l yX3_settle (wsy yX3_settle cX3_settle 2 (some .int)) ({ frames := 1, cells := 0, slots := 0, locals := 21 } : Room) (cP D tk N0 sa [.ref (ad 15), .ref (ad i)] sz (fun H => CW D tk ad g H)) (kQi (fun r H => r = f_setR g i ∧ CW D tk ad (f_setW g i) H) (cwA ad sz)) (0) (0) (cwA ad sz) := by
  refine mStart RX3 rfl (by decide +kernel) (Nat.le_of_ble_eq_true rfl) ?_
  intro p e s m args below meth c E hr hlk hnm hsz hC hF ls hl
  subst hsz
  obtain ⟨hx, hb, -⟩ := id E
  have hA : ∀ q, (cwA ad s.heap.size) q → N0 ≤ q := cwA.ge hAD hC.2.1
  have hn : ∀ q, s.heap.size ≤ q → (cwA ad s.heap.size) q := fun q h => Or.inr h
  have hS : va_S (cwA ad s.heap.size) s.heap s.heap [] := va_S.rf
  have hl : lv_has ls 2 [(0, .ref (ad 15)), (1, .ref (ad i))] := hl
  have hW : CW D tk ad g s.heap := hF
  refine lv_aload_n (pc := 0) hx hb dX3_settle_0 rfl (lv_at hl 0 rfl) ?_
  refine r_get (pc := 1) E hC hW.obj 5 (v := .ref (ad 6)) rfl rfl (by decide) uX3 (List.mem_cons_of_mem _ kw_119) (fun _ h => h) dX3_settle_1 ?_
  refine k_i (pc := 4) (k_V E hC hS hA hl.1 (c1.recv hC (hW.fr (i := 6) (by decide)) rfl) rfl (c_X0_isFitting l D tk N0 sa hAD s.heap.size g 6 (by decide) ) kw_834 kw_835 kw_836 kw_2 kw_837 (n := 0) (by decide +kernel) rfl ⟨⟨rfl, rfl⟩, ⟨by decide, by decide⟩, by decide, by decide⟩ rfl (Nat.le_of_ble_eq_true rfl) hW dX3_settle_4) hS (fun q z w => absurd w (Nat.not_le.mpr z)) hn (fun r_1 H locs hR hz hk hS => ?_)
  have er_1 := hR
  have hW := hW.new hk
  refine lv_if_ne (pc := 7) (tgt := 15) hx hb dX3_settle_7 (by decide) (fun c_3 => ?_) (fun c_3 => ?_)
  · refine lv_aload_n (pc := 15) hx hb dX3_settle_15 rfl (lv_at hl 0 rfl) ?_
    refine r_get (pc := 16) E hC hW.obj 5 (v := .ref (ad 6)) rfl rfl (by decide) uX3 (List.mem_cons_of_mem _ kw_119) (fun _ h => h) dX3_settle_16 ?_
    refine lv_aload_n (pc := 19) hx hb dX3_settle_19 rfl (lv_at hl 1 rfl) ?_
    refine k_i (pc := 20) (k_V E hC hS hA hl.1 (c1.recv hC (hW.fr (i := 6) (by decide)) rfl) rfl (c_X0_isSameAs l D tk N0 sa hAD H.size g 6 (by decide) i hi ) kw_580 kw_581 kw_582 kw_2 kw_583 (n := 1) (by decide +kernel) rfl ⟨⟨rfl, rfl⟩, ⟨by decide, by decide⟩, by decide, by decide⟩ rfl (Nat.le_of_ble_eq_true rfl) hW dX3_settle_20) hS (fun q z w => absurd w (Nat.not_le.mpr z)) hn (fun r_4 H locs hR hz hk hS => ?_)
    have er_4 := hR
    have hW := hW.new hk
    refine lv_if_eq (pc := 23) (tgt := 28) hx hb dX3_settle_23 (by decide) (fun c_6 => ?_) (fun c_6 => ?_)
    · refine lv_aload_n (pc := 28) hx hb dX3_settle_28 rfl (lv_at hl 1 rfl) ?_
      refine lv_aload_n (pc := 29) hx hb dX3_settle_29 rfl (lv_at hl 0 rfl) ?_
      refine r_get (pc := 30) E hC hW.obj 5 (v := .ref (ad 6)) rfl rfl (by decide) uX3 (List.mem_cons_of_mem _ kw_119) (fun _ h => h) dX3_settle_30 ?_
      refine k_v (pc := 33) (k_V E hC hS hA hl.1 (c1.recv hC (hW.fr (i := i) hi) rfl) rfl (c_X0_assign l D tk N0 sa hAD H.size g i hi 6 (by decide) ) kw_627 kw_628 kw_629 kw_2 kw_630 (n := 1) (by decide +kernel) rfl ⟨⟨rfl, rfl⟩, ⟨by decide, by decide⟩, by decide, by decide⟩ rfl (Nat.le_of_ble_eq_true rfl) hW dX3_settle_33) hS (fun q _ w => cwA.go hS.1 q w) hn (fun H locs hR hz hk hS => ?_)
      have hW := hR
      obtain ⟨g_9, eg_9⟩ : ∃ z, z = f_assign g i 6 := ⟨_, rfl⟩
      rw [← eg_9] at hW
      refine lv_iconst (pc := 36) (v := 1) hx hb dX3_settle_36 (by decide) ?_
      refine r_iret (pc := 37) E hr hlk hS (by decide) (by decide) ?_ dX3_settle_37
      exact ⟨(by subst er_1 er_4 eg_9; first | with_reducible rfl | (simp [f_setR, f_setW, c_3, c_6, p_TB, p_TV, p_TC, p_TI, p_BT, p_BV, p_BC, p_BI, p_VT, p_VB, p_VC, p_VI, p_CT, p_CB, p_CV, p_CI, p_IT, p_IB, p_IV, p_IC, p_TT, p_BB, p_CC, p_II]; done)), hW.to (by subst er_1 er_4 eg_9; first | with_reducible rfl | (simp [f_setR, f_setW, c_3, c_6, p_TB, p_TV, p_TC, p_TI, p_BT, p_BV, p_BC, p_BI, p_VT, p_VB, p_VC, p_VI, p_CT, p_CB, p_CV, p_CI, p_IT, p_IB, p_IV, p_IC, p_TT, p_BB, p_CC, p_II]; done))⟩
    · refine lv_iconst (pc := 26) (v := 0) hx hb dX3_settle_26 (by decide) ?_
      refine r_iret (pc := 27) E hr hlk hS (by decide) (by decide) ?_ dX3_settle_27
      exact ⟨(by subst er_1 er_4; first | with_reducible rfl | (simp [f_setR, f_setW, c_3, c_6, p_TB, p_TV, p_TC, p_TI, p_BT, p_BV, p_BC, p_BI, p_VT, p_VB, p_VC, p_VI, p_CT, p_CB, p_CV, p_CI, p_IT, p_IB, p_IV, p_IC, p_TT, p_BB, p_CC, p_II]; done)), hW.to (by subst er_1 er_4; first | with_reducible rfl | (simp [f_setR, f_setW, c_3, c_6, p_TB, p_TV, p_TC, p_TI, p_BT, p_BV, p_BC, p_BI, p_VT, p_VB, p_VC, p_VI, p_CT, p_CB, p_CV, p_CI, p_IT, p_IB, p_IV, p_IC, p_TT, p_BB, p_CC, p_II]; done))⟩
  · refine lv_aload_n (pc := 10) hx hb dX3_settle_10 rfl (lv_at hl 0 rfl) ?_
    refine k_i (pc := 11) (k_V E hC hS hA hl.1 (c1.recv hC hW.obj rfl) rfl (c_X3_refuse l D tk N0 sa hAD H.size g  ) kw_840 kw_842 kp_17 kw_1 kw_843 (n := 0) (by decide +kernel) rfl ⟨⟨rfl, rfl⟩, ⟨by decide, by decide⟩, by decide, by decide⟩ rfl (Nat.le_of_ble_eq_true rfl) hW dX3_settle_11) hS (fun q _ w => cwA.go hS.1 q w) hn (fun r_10 H locs hR hz hk hS => ?_)
    obtain ⟨er_10, hW⟩ := hR
    obtain ⟨g_12, eg_12⟩ : ∃ z, z = f_refW g := ⟨_, rfl⟩
    rw [← eg_12] at hW
    refine r_iret (pc := 14) E hr hlk hS (by decide) (by decide) ?_ dX3_settle_14
    exact ⟨(by subst er_1 eg_12 er_10; first | with_reducible rfl | (simp [f_setR, f_setW, c_3, p_TB, p_TV, p_TC, p_TI, p_BT, p_BV, p_BC, p_BI, p_VT, p_VB, p_VC, p_VI, p_CT, p_CB, p_CV, p_CI, p_IT, p_IB, p_IV, p_IC, p_TT, p_BB, p_CC, p_II]; done)), hW.to (by subst er_1 eg_12 er_10; first | with_reducible rfl | (simp [f_setR, f_setW, c_3, p_TB, p_TV, p_TC, p_TI, p_BT, p_BV, p_BC, p_BI, p_VT, p_VB, p_VC, p_VI, p_CT, p_CB, p_CV, p_CI, p_IT, p_IB, p_IV, p_IC, p_TT, p_BB, p_CC, p_II]; done))⟩
