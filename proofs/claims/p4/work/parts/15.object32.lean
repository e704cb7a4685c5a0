set_option maxHeartbeats 4000000 in
set_option maxRecDepth 100000 in
/-- Bestratios.stepDown(LBestratios$Fraction;Z)Z -/
theorem c_X3_stepDown (l : Launch) (D : va_G) (tk : Nat → ClassId) (N0 : Nat) (sa : Nat → Nat) {ad : Nat → Nat} (hAD : ADok N0 ad) (sz : Nat) (g : CS) (i : Nat) (hi : i < 15) (b_ : Int32) : Met l yX3_stepDown (wsy yX3_stepDown cX3_stepDown 4 (some .boolean)) ({ frames := 4, cells := 0, slots := 0, locals := 104 } : Room) (cP D tk N0 sa [.ref (ad 15), .ref (ad i), .int b_] sz (fun H => CW D tk ad g H)) (kQi (fun r H => r = f_stDR g i b_ ∧ CW D tk ad (f_stDW g i b_) H) (cwA ad sz)) (0) (0) (cwA ad sz) := by
  refine mStart RX3 rfl (by decide +kernel) (Nat.le_of_ble_eq_true rfl) ?_
  intro p e s m args below meth c E hr hlk hnm hsz hC hF ls hl
  subst hsz
  obtain ⟨hx, hb, -⟩ := id E
  have hA : ∀ q, (cwA ad s.heap.size) q → N0 ≤ q := cwA.ge hAD hC.2.1
  have hn : ∀ q, s.heap.size ≤ q → (cwA ad s.heap.size) q := fun q h => Or.inr h
  have hS : va_S (cwA ad s.heap.size) s.heap s.heap [] := va_S.rf
  have hl : lv_has ls 4 [(0, .ref (ad 15)), (1, .ref (ad i)), (2, .int b_)] := hl
  have hW : CW D tk ad g s.heap := hF
  refine lv_aload_n (pc := 0) hx hb dX3_stepDown_0 rfl (lv_at hl 0 rfl) ?_
  refine r_get (pc := 1) E hC hW.obj 8 (v := .ref (ad 19)) rfl rfl (by decide) uX3 (List.mem_cons_of_mem _ kw_122) (fun _ h => h) dX3_stepDown_1 ?_
  refine lv_aload_n (pc := 4) hx hb dX3_stepDown_4 rfl (lv_at hl 1 rfl) ?_
  refine k_v (pc := 5) (k_V E hC hS hA hl.1 (c1.recv hC (hW.tm (j := 1) (by decide)) rfl) rfl (c_X2_takeApart l D tk N0 sa hAD s.heap.size g 1 (by decide) i hi ) kw_563 kw_564 kw_565 kw_3 kw_566 (n := 1) (by decide +kernel) rfl ⟨⟨rfl, rfl⟩, ⟨by decide, by decide⟩, by decide, by decide⟩ rfl (Nat.le_of_ble_eq_true rfl) hW dX3_stepDown_5) hS (fun q _ w => cwA.go hS.1 q w) hn (fun H locs hR hz hk hS => ?_)
  have hW := hR
  obtain ⟨g_3, eg_3⟩ : ∃ z, z = f_apart g 1 i := ⟨_, rfl⟩
  rw [← eg_3] at hW
  refine lv_aload_n (pc := 8) hx hb dX3_stepDown_8 rfl (lv_at hl 0 rfl) ?_
  refine r_get (pc := 9) E hC hW.obj 8 (v := .ref (ad 19)) rfl rfl (by decide) uX3 (List.mem_cons_of_mem _ kw_122) (fun _ h => h) dX3_stepDown_9 ?_
  refine r_getN (pc := 12) "Bestratios" E hC (hW.tm (j := 1) (by decide)) 1 (v := .int (tC g_3 1)) rfl rfl (by decide) uX2 kn_69 (fun _ h => h) dX3_stepDown_12 ?_
  refine lv_iconst (pc := 15) (v := 1) hx hb dX3_stepDown_15 (by decide) ?_
  refine lv_iand (pc := 16) hx hb dX3_stepDown_16 ?_
  refine lv_iconst (pc := 17) (v := 1) hx hb dX3_stepDown_17 (by decide) ?_
  refine lv_icmp_ne (pc := 18) (tgt := 25) hx hb dX3_stepDown_18 (by decide) (fun c_4 => ?_) (fun c_4 => ?_)
  · refine lv_iconst (pc := 25) (v := 0) hx hb dX3_stepDown_25 (by decide) ?_
    refine lv_istore_n (pc := 26) (lv' := [(3, .int 0), (0, .ref (ad 15)), (1, .ref (ad i)), (2, .int b_)]) hx hb dX3_stepDown_26 rfl hl (by decide) rfl (fun ls hl => ?_)
    refine lv_iload_n (pc := 27) hx hb dX3_stepDown_27 rfl (lv_at hl 3 rfl) ?_
    refine lv_iload_n (pc := 28) hx hb dX3_stepDown_28 rfl (lv_at hl 0 rfl) ?_
    refine lv_icmp_ne (pc := 29) (tgt := 43) hx hb dX3_stepDown_29 (by decide) (fun c_5 => ?_) (fun c_5 => ?_)
    · refine lv_aload_n (pc := 43) hx hb dX3_stepDown_43 rfl (lv_at hl 1 rfl) ?_
      refine r_get (pc := 44) E hC hW.obj 8 (v := .ref (ad 19)) rfl rfl (by decide) uX3 (List.mem_cons_of_mem _ kw_122) (fun _ h => h) dX3_stepDown_44 ?_
      refine lv_ldc2 (pc := 47) (v := (-1)) hx hb E.2.2.2.1 (E.2.2.2.2 _ (List.mem_cons_of_mem _ kw_625)) dX3_stepDown_47 ?_
      refine k_v (pc := 50) (k_V E hC hS hA hl.1 (c1.recv hC (hW.tm (j := 1) (by decide)) rfl) rfl (c_X2_addToLast l D tk N0 sa hAD H.size g_3 1 (by decide) ((-1)) ) kw_621 kw_622 kw_623 kw_3 kw_624 (n := 1) (by decide +kernel) rfl ⟨⟨rfl, rfl⟩, ⟨by decide, by decide⟩, by decide, by decide⟩ rfl (Nat.le_of_ble_eq_true rfl) hW dX3_stepDown_50) hS (fun q _ w => cwA.go hS.1 q w) hn (fun H locs hR hz hk hS => ?_)
      have hW := hR
      obtain ⟨g_8, eg_8⟩ : ∃ z, z = f_addTo g_3 1 ((-1)) := ⟨_, rfl⟩
      rw [← eg_8] at hW
      refine lv_aload_n (pc := 53) hx hb dX3_stepDown_53 rfl (lv_at hl 1 rfl) ?_
      refine r_get (pc := 54) E hC hW.obj 8 (v := .ref (ad 19)) rfl rfl (by decide) uX3 (List.mem_cons_of_mem _ kw_122) (fun _ h => h) dX3_stepDown_54 ?_
      refine lv_ldc2 (pc := 57) (v := 2) hx hb E.2.2.2.1 (E.2.2.2.2 _ (List.mem_cons_of_mem _ kw_541)) dX3_stepDown_57 ?_
      refine k_v (pc := 60) (k_V E hC hS hA hl.1 (c1.recv hC (hW.tm (j := 1) (by decide)) rfl) rfl (c_X2_addLast l D tk N0 sa hAD H.size g_8 1 (by decide) 2 ) kw_626 kw_569 kw_570 kw_3 kw_571 (n := 1) (by decide +kernel) rfl ⟨⟨rfl, rfl⟩, ⟨by decide, by decide⟩, by decide, by decide⟩ rfl (Nat.le_of_ble_eq_true rfl) hW dX3_stepDown_60) hS (fun q _ w => cwA.go hS.1 q w) hn (fun H locs hR hz hk hS => ?_)
      have hW := hR
      obtain ⟨g_11, eg_11⟩ : ∃ z, z = f_addLast g_8 1 2 := ⟨_, rfl⟩
      rw [← eg_11] at hW
      refine lv_aload_n (pc := 63) hx hb dX3_stepDown_63 rfl (lv_at hl 1 rfl) ?_
      refine r_get (pc := 64) E hC hW.obj 8 (v := .ref (ad 19)) rfl rfl (by decide) uX3 (List.mem_cons_of_mem _ kw_122) (fun _ h => h) dX3_stepDown_64 ?_
      refine lv_aload_n (pc := 67) hx hb dX3_stepDown_67 rfl (lv_at hl 1 rfl) ?_
      refine r_get (pc := 68) E hC hW.obj 5 (v := .ref (ad 6)) rfl rfl (by decide) uX3 (List.mem_cons_of_mem _ kw_119) (fun _ h => h) dX3_stepDown_68 ?_
      refine k_i (pc := 71) (k_V E hC hS hA hl.1 (c1.recv hC (hW.tm (j := 1) (by decide)) rfl) rfl (c_X2_foldInto l D tk N0 sa hAD H.size g_11 1 (by decide) 6 (by decide) ) kw_573 kw_574 kw_575 kw_3 kw_576 (n := 1) (by decide +kernel) rfl ⟨⟨rfl, rfl⟩, ⟨by decide, by decide⟩, by decide, by decide⟩ rfl (Nat.le_of_ble_eq_true rfl) hW dX3_stepDown_71) hS (fun q _ w => cwA.go hS.1 q w) hn (fun r_12 H locs hR hz hk hS => ?_)
      obtain ⟨er_12, hW⟩ := hR
      obtain ⟨g_14, eg_14⟩ : ∃ z, z = f_foldW g_11 1 6 := ⟨_, rfl⟩
      rw [← eg_14] at hW
      refine r_zret (pc := 74) E hr hlk hS (by decide) (by decide) (zb (by subst_vars; exact f_foldR_b _ _)) ?_ dX3_stepDown_74
      exact ⟨(by subst eg_3 eg_8 eg_11 eg_14 er_12; first | with_reducible rfl | (simp [f_stDR, f_stDW, f_dnG, c_4, c_5, p_TB, p_TV, p_TC, p_TI, p_BT, p_BV, p_BC, p_BI, p_VT, p_VB, p_VC, p_VI, p_CT, p_CB, p_CV, p_CI, p_IT, p_IB, p_IV, p_IC, p_TT, p_BB, p_CC, p_II]; done)), hW.to (by subst eg_3 eg_8 eg_11 eg_14 er_12; first | with_reducible rfl | (simp [f_stDR, f_stDW, f_dnG, c_4, c_5, p_TB, p_TV, p_TC, p_TI, p_BT, p_BV, p_BC, p_BI, p_VT, p_VB, p_VC, p_VI, p_CT, p_CB, p_CV, p_CI, p_IT, p_IB, p_IV, p_IC, p_TT, p_BB, p_CC, p_II]; done))⟩
    · refine lv_aload_n (pc := 32) hx hb dX3_stepDown_32 rfl (lv_at hl 1 rfl) ?_
      refine r_get (pc := 33) E hC hW.obj 8 (v := .ref (ad 19)) rfl rfl (by decide) uX3 (List.mem_cons_of_mem _ kw_122) (fun _ h => h) dX3_stepDown_33 ?_
      refine lv_lconst (pc := 36) (v := 1) hx hb dX3_stepDown_36 (by decide) ?_
      refine k_v (pc := 37) (k_V E hC hS hA hl.1 (c1.recv hC (hW.tm (j := 1) (by decide)) rfl) rfl (c_X2_addToLast l D tk N0 sa hAD H.size g_3 1 (by decide) 1 ) kw_621 kw_622 kw_623 kw_3 kw_624 (n := 1) (by decide +kernel) rfl ⟨⟨rfl, rfl⟩, ⟨by decide, by decide⟩, by decide, by decide⟩ rfl (Nat.le_of_ble_eq_true rfl) hW dX3_stepDown_37) hS (fun q _ w => cwA.go hS.1 q w) hn (fun H locs hR hz hk hS => ?_)
      have hW := hR
      obtain ⟨g_17, eg_17⟩ : ∃ z, z = f_addTo g_3 1 1 := ⟨_, rfl⟩
      rw [← eg_17] at hW
      refine lv_goto (pc := 40) (tgt := 63) hx hb dX3_stepDown_40 (by decide) ?_
      refine lv_aload_n (pc := 63) hx hb dX3_stepDown_63 rfl (lv_at hl 1 rfl) ?_
      refine r_get (pc := 64) E hC hW.obj 8 (v := .ref (ad 19)) rfl rfl (by decide) uX3 (List.mem_cons_of_mem _ kw_122) (fun _ h => h) dX3_stepDown_64 ?_
      refine lv_aload_n (pc := 67) hx hb dX3_stepDown_67 rfl (lv_at hl 1 rfl) ?_
      refine r_get (pc := 68) E hC hW.obj 5 (v := .ref (ad 6)) rfl rfl (by decide) uX3 (List.mem_cons_of_mem _ kw_119) (fun _ h => h) dX3_stepDown_68 ?_
      refine k_i (pc := 71) (k_V E hC hS hA hl.1 (c1.recv hC (hW.tm (j := 1) (by decide)) rfl) rfl (c_X2_foldInto l D tk N0 sa hAD H.size g_17 1 (by decide) 6 (by decide) ) kw_573 kw_574 kw_575 kw_3 kw_576 (n := 1) (by decide +kernel) rfl ⟨⟨rfl, rfl⟩, ⟨by decide, by decide⟩, by decide, by decide⟩ rfl (Nat.le_of_ble_eq_true rfl) hW dX3_stepDown_71) hS (fun q _ w => cwA.go hS.1 q w) hn (fun r_18 H locs hR hz hk hS => ?_)
      obtain ⟨er_18, hW⟩ := hR
      obtain ⟨g_20, eg_20⟩ : ∃ z, z = f_foldW g_17 1 6 := ⟨_, rfl⟩
      rw [← eg_20] at hW
      refine r_zret (pc := 74) E hr hlk hS (by decide) (by decide) (zb (by subst_vars; exact f_foldR_b _ _)) ?_ dX3_stepDown_74
      exact ⟨(by subst eg_3 eg_17 eg_20 er_18; first | with_reducible rfl | (simp [f_stDR, f_stDW, f_dnG, c_4, c_5, p_TB, p_TV, p_TC, p_TI, p_BT, p_BV, p_BC, p_BI, p_VT, p_VB, p_VC, p_VI, p_CT, p_CB, p_CV, p_CI, p_IT, p_IB, p_IV, p_IC, p_TT, p_BB, p_CC, p_II]; done)), hW.to (by subst eg_3 eg_17 eg_20 er_18; first | with_reducible rfl | (simp [f_stDR, f_stDW, f_dnG, c_4, c_5, p_TB, p_TV, p_TC, p_TI, p_BT, p_BV, p_BC, p_BI, p_VT, p_VB, p_VC, p_VI, p_CT, p_CB, p_CV, p_CI, p_IT, p_IB, p_IV, p_IC, p_TT, p_BB, p_CC, p_II]; done))⟩
  · refine lv_iconst (pc := 21) (v := 1) hx hb dX3_stepDown_21 (by decide) ?_
    refine lv_goto (pc := 22) (tgt := 26) hx hb dX3_stepDown_22 (by decide) ?_
    refine lv_istore_n (pc := 26) (lv' := [(3, .int 1), (0, .ref (ad 15)), (1, .ref (ad i)), (2, .int b_)]) hx hb dX3_stepDown_26 rfl hl (by decide) rfl (fun ls hl => ?_)
    refine lv_iload_n (pc := 27) hx hb dX3_stepDown_27 rfl (lv_at hl 3 rfl) ?_
    refine lv_iload_n (pc := 28) hx hb dX3_stepDown_28 rfl (lv_at hl 0 rfl) ?_
    refine lv_icmp_ne (pc := 29) (tgt := 43) hx hb dX3_stepDown_29 (by decide) (fun c_21 => ?_) (fun c_21 => ?_)
    · refine lv_aload_n (pc := 43) hx hb dX3_stepDown_43 rfl (lv_at hl 1 rfl) ?_
      refine r_get (pc := 44) E hC hW.obj 8 (v := .ref (ad 19)) rfl rfl (by decide) uX3 (List.mem_cons_of_mem _ kw_122) (fun _ h => h) dX3_stepDown_44 ?_
      refine lv_ldc2 (pc := 47) (v := (-1)) hx hb E.2.2.2.1 (E.2.2.2.2 _ (List.mem_cons_of_mem _ kw_625)) dX3_stepDown_47 ?_
      refine k_v (pc := 50) (k_V E hC hS hA hl.1 (c1.recv hC (hW.tm (j := 1) (by decide)) rfl) rfl (c_X2_addToLast l D tk N0 sa hAD H.size g_3 1 (by decide) ((-1)) ) kw_621 kw_622 kw_623 kw_3 kw_624 (n := 1) (by decide +kernel) rfl ⟨⟨rfl, rfl⟩, ⟨by decide, by decide⟩, by decide, by decide⟩ rfl (Nat.le_of_ble_eq_true rfl) hW dX3_stepDown_50) hS (fun q _ w => cwA.go hS.1 q w) hn (fun H locs hR hz hk hS => ?_)
      have hW := hR
      obtain ⟨g_24, eg_24⟩ : ∃ z, z = f_addTo g_3 1 ((-1)) := ⟨_, rfl⟩
      rw [← eg_24] at hW
      refine lv_aload_n (pc := 53) hx hb dX3_stepDown_53 rfl (lv_at hl 1 rfl) ?_
      refine r_get (pc := 54) E hC hW.obj 8 (v := .ref (ad 19)) rfl rfl (by decide) uX3 (List.mem_cons_of_mem _ kw_122) (fun _ h => h) dX3_stepDown_54 ?_
      refine lv_ldc2 (pc := 57) (v := 2) hx hb E.2.2.2.1 (E.2.2.2.2 _ (List.mem_cons_of_mem _ kw_541)) dX3_stepDown_57 ?_
      refine k_v (pc := 60) (k_V E hC hS hA hl.1 (c1.recv hC (hW.tm (j := 1) (by decide)) rfl) rfl (c_X2_addLast l D tk N0 sa hAD H.size g_24 1 (by decide) 2 ) kw_626 kw_569 kw_570 kw_3 kw_571 (n := 1) (by decide +kernel) rfl ⟨⟨rfl, rfl⟩, ⟨by decide, by decide⟩, by decide, by decide⟩ rfl (Nat.le_of_ble_eq_true rfl) hW dX3_stepDown_60) hS (fun q _ w => cwA.go hS.1 q w) hn (fun H locs hR hz hk hS => ?_)
      have hW := hR
      obtain ⟨g_27, eg_27⟩ : ∃ z, z = f_addLast g_24 1 2 := ⟨_, rfl⟩
      rw [← eg_27] at hW
      refine lv_aload_n (pc := 63) hx hb dX3_stepDown_63 rfl (lv_at hl 1 rfl) ?_
      refine r_get (pc := 64) E hC hW.obj 8 (v := .ref (ad 19)) rfl rfl (by decide) uX3 (List.mem_cons_of_mem _ kw_122) (fun _ h => h) dX3_stepDown_64 ?_
      refine lv_aload_n (pc := 67) hx hb dX3_stepDown_67 rfl (lv_at hl 1 rfl) ?_
      refine r_get (pc := 68) E hC hW.obj 5 (v := .ref (ad 6)) rfl rfl (by decide) uX3 (List.mem_cons_of_mem _ kw_119) (fun _ h => h) dX3_stepDown_68 ?_
      refine k_i (pc := 71) (k_V E hC hS hA hl.1 (c1.recv hC (hW.tm (j := 1) (by decide)) rfl) rfl (c_X2_foldInto l D tk N0 sa hAD H.size g_27 1 (by decide) 6 (by decide) ) kw_573 kw_574 kw_575 kw_3 kw_576 (n := 1) (by decide +kernel) rfl ⟨⟨rfl, rfl⟩, ⟨by decide, by decide⟩, by decide, by decide⟩ rfl (Nat.le_of_ble_eq_true rfl) hW dX3_stepDown_71) hS (fun q _ w => cwA.go hS.1 q w) hn (fun r_28 H locs hR hz hk hS => ?_)
      obtain ⟨er_28, hW⟩ := hR
      obtain ⟨g_30, eg_30⟩ : ∃ z, z = f_foldW g_27 1 6 := ⟨_, rfl⟩
      rw [← eg_30] at hW
      refine r_zret (pc := 74) E hr hlk hS (by decide) (by decide) (zb (by subst_vars; exact f_foldR_b _ _)) ?_ dX3_stepDown_74
      exact ⟨(by subst eg_3 eg_24 eg_27 eg_30 er_28; first | with_reducible rfl | (simp [f_stDR, f_stDW, f_dnG, c_4, c_21, p_TB, p_TV, p_TC, p_TI, p_BT, p_BV, p_BC, p_BI, p_VT, p_VB, p_VC, p_VI, p_CT, p_CB, p_CV, p_CI, p_IT, p_IB, p_IV, p_IC, p_TT, p_BB, p_CC, p_II]; done)), hW.to (by subst eg_3 eg_24 eg_27 eg_30 er_28; first | with_reducible rfl | (simp [f_stDR, f_stDW, f_dnG, c_4, c_21, p_TB, p_TV, p_TC, p_TI, p_BT, p_BV, p_BC, p_BI, p_VT, p_VB, p_VC, p_VI, p_CT, p_CB, p_CV, p_CI, p_IT, p_IB, p_IV, p_IC, p_TT, p_BB, p_CC, p_II]; done))⟩
    · refine lv_aload_n (pc := 32) hx hb dX3_stepDown_32 rfl (lv_at hl 1 rfl) ?_
      refine r_get (pc := 33) E hC hW.obj 8 (v := .ref (ad 19)) rfl rfl (by decide) uX3 (List.mem_cons_of_mem _ kw_122) (fun _ h => h) dX3_stepDown_33 ?_
      refine lv_lconst (pc := 36) (v := 1) hx hb dX3_stepDown_36 (by decide) ?_
      refine k_v (pc := 37) (k_V E hC hS hA hl.1 (c1.recv hC (hW.tm (j := 1) (by decide)) rfl) rfl (c_X2_addToLast l D tk N0 sa hAD H.size g_3 1 (by decide) 1 ) kw_621 kw_622 kw_623 kw_3 kw_624 (n := 1) (by decide +kernel) rfl ⟨⟨rfl, rfl⟩, ⟨by decide, by decide⟩, by decide, by decide⟩ rfl (Nat.le_of_ble_eq_true rfl) hW dX3_stepDown_37) hS (fun q _ w => cwA.go hS.1 q w) hn (fun H locs hR hz hk hS => ?_)
      have hW := hR
      obtain ⟨g_33, eg_33⟩ : ∃ z, z = f_addTo g_3 1 1 := ⟨_, rfl⟩
      rw [← eg_33] at hW
      refine lv_goto (pc := 40) (tgt := 63) hx hb dX3_stepDown_40 (by decide) ?_
      refine lv_aload_n (pc := 63) hx hb dX3_stepDown_63 rfl (lv_at hl 1 rfl) ?_
      refine r_get (pc := 64) E hC hW.obj 8 (v := .ref (ad 19)) rfl rfl (by decide) uX3 (List.mem_cons_of_mem _ kw_122) (fun _ h => h) dX3_stepDown_64 ?_
      refine lv_aload_n (pc := 67) hx hb dX3_stepDown_67 rfl (lv_at hl 1 rfl) ?_
      refine r_get (pc := 68) E hC hW.obj 5 (v := .ref (ad 6)) rfl rfl (by decide) uX3 (List.mem_cons_of_mem _ kw_119) (fun _ h => h) dX3_stepDown_68 ?_
      refine k_i (pc := 71) (k_V E hC hS hA hl.1 (c1.recv hC (hW.tm (j := 1) (by decide)) rfl) rfl (c_X2_foldInto l D tk N0 sa hAD H.size g_33 1 (by decide) 6 (by decide) ) kw_573 kw_574 kw_575 kw_3 kw_576 (n := 1) (by decide +kernel) rfl ⟨⟨rfl, rfl⟩, ⟨by decide, by decide⟩, by decide, by decide⟩ rfl (Nat.le_of_ble_eq_true rfl) hW dX3_stepDown_71) hS (fun q _ w => cwA.go hS.1 q w) hn (fun r_34 H locs hR hz hk hS => ?_)
      obtain ⟨er_34, hW⟩ := hR
      obtain ⟨g_36, eg_36⟩ : ∃ z, z = f_foldW g_33 1 6 := ⟨_, rfl⟩
      rw [← eg_36] at hW
      refine r_zret (pc := 74) E hr hlk hS (by decide) (by decide) (zb (by subst_vars; exact f_foldR_b _ _)) ?_ dX3_stepDown_74
      exact ⟨(by subst eg_3 eg_33 eg_36 er_34; first | with_reducible rfl | (simp [f_stDR, f_stDW, f_dnG, c_4, c_21, p_TB, p_TV, p_TC, p_TI, p_BT, p_BV, p_BC, p_BI, p_VT, p_VB, p_VC, p_VI, p_CT, p_CB, p_CV, p_CI, p_IT, p_IB, p_IV, p_IC, p_TT, p_BB, p_CC, p_II]; done)), hW.to (by subst eg_3 eg_33 eg_36 er_34; first | with_reducible rfl | (simp [f_stDR, f_stDW, f_dnG, c_4, c_21, p_TB, p_TV, p_TC, p_TI, p_BT, p_BV, p_BC, p_BI, p_VT, p_VB, p_VC, p_VI, p_CT, p_CB, p_CV, p_CI, p_IT, p_IB, p_IV, p_IC, p_TT, p_BB, p_CC, p_II]; done))⟩
