set_option maxHeartbeats 4000000 in
set_option maxRecDepth 100000 in
/-- Bestratios.stepUp(LBestratios$Fraction;)Z -/
theorem c_X3_stepUp (l : Launch) (D : va_G) (tk : Nat → ClassId) (N0 : Nat) (sa : Nat → Nat) {ad : Nat → Nat} (hAD : ADok N0 ad) (sz : Nat) (g : CS) (i : Nat) (hi : i < 15) : Met l yX3_stepUp (wsy yX3_stepUp cX3_stepUp 2 (some .boolean)) ({ frames := 4, cells := 0, slots := 0, locals := 104 } : Room) (cP D tk N0 sa [.ref (ad 15), .ref (ad i)] sz (fun H => CW D tk ad g H)) (kQi (fun r H => r = f_stUR g i ∧ CW D tk ad (f_stUW g i) H) (cwA ad sz)) (0) (0) (cwA ad sz) := by
  refine mStart RX3 rfl (by decide +kernel) (Nat.le_of_ble_eq_true rfl) ?_
  intro p e s m args below meth c E hr hlk hnm hsz hC hF ls hl
  subst hsz
  obtain ⟨hx, hb, -⟩ := id E
  have hA : ∀ q, (cwA ad s.heap.size) q → N0 ≤ q := cwA.ge hAD hC.2.1
  have hn : ∀ q, s.heap.size ≤ q → (cwA ad s.heap.size) q := fun q h => Or.inr h
  have hS : va_S (cwA ad s.heap.size) s.heap s.heap [] := va_S.rf
  have hl : lv_has ls 2 [(0, .ref (ad 15)), (1, .ref (ad i))] := hl
  have hW : CW D tk ad g s.heap := hF
  refine lv_aload_n (pc := 0) hx hb dX3_stepUp_0 rfl (lv_at hl 0 rfl) ?_
  refine r_get (pc := 1) E hC hW.obj 8 (v := .ref (ad 19)) rfl rfl (by decide) uX3 (List.mem_cons_of_mem _ kw_122) (fun _ h => h) dX3_stepUp_1 ?_
  refine lv_aload_n (pc := 4) hx hb dX3_stepUp_4 rfl (lv_at hl 1 rfl) ?_
  refine k_v (pc := 5) (k_V E hC hS hA hl.1 (c1.recv hC (hW.tm (j := 1) (by decide)) rfl) rfl (c_X2_takeApart l D tk N0 sa hAD s.heap.size g 1 (by decide) i hi ) kw_563 kw_564 kw_565 kw_3 kw_566 (n := 1) (by decide +kernel) rfl ⟨⟨rfl, rfl⟩, ⟨by decide, by decide⟩, by decide, by decide⟩ rfl (Nat.le_of_ble_eq_true rfl) hW dX3_stepUp_5) hS (fun q _ w => cwA.go hS.1 q w) hn (fun H locs hR hz hk hS => ?_)
  have hW := hR
  obtain ⟨g_3, eg_3⟩ : ∃ z, z = f_apart g 1 i := ⟨_, rfl⟩
  rw [← eg_3] at hW
  refine lv_aload_n (pc := 8) hx hb dX3_stepUp_8 rfl (lv_at hl 0 rfl) ?_
  refine r_get (pc := 9) E hC hW.obj 8 (v := .ref (ad 19)) rfl rfl (by decide) uX3 (List.mem_cons_of_mem _ kw_122) (fun _ h => h) dX3_stepUp_9 ?_
  refine lv_ldc2 (pc := 12) (v := (-1)) hx hb E.2.2.2.1 (E.2.2.2.2 _ (List.mem_cons_of_mem _ kw_625)) dX3_stepUp_12 ?_
  refine k_v (pc := 15) (k_V E hC hS hA hl.1 (c1.recv hC (hW.tm (j := 1) (by decide)) rfl) rfl (c_X2_addToLast l D tk N0 sa hAD H.size g_3 1 (by decide) ((-1)) ) kw_621 kw_622 kw_623 kw_3 kw_624 (n := 1) (by decide +kernel) rfl ⟨⟨rfl, rfl⟩, ⟨by decide, by decide⟩, by decide, by decide⟩ rfl (Nat.le_of_ble_eq_true rfl) hW dX3_stepUp_15) hS (fun q _ w => cwA.go hS.1 q w) hn (fun H locs hR hz hk hS => ?_)
  have hW := hR
  obtain ⟨g_6, eg_6⟩ : ∃ z, z = f_addTo g_3 1 ((-1)) := ⟨_, rfl⟩
  rw [← eg_6] at hW
  refine lv_aload_n (pc := 18) hx hb dX3_stepUp_18 rfl (lv_at hl 0 rfl) ?_
  refine r_get (pc := 19) E hC hW.obj 8 (v := .ref (ad 19)) rfl rfl (by decide) uX3 (List.mem_cons_of_mem _ kw_122) (fun _ h => h) dX3_stepUp_19 ?_
  refine lv_aload_n (pc := 22) hx hb dX3_stepUp_22 rfl (lv_at hl 0 rfl) ?_
  refine r_get (pc := 23) E hC hW.obj 5 (v := .ref (ad 6)) rfl rfl (by decide) uX3 (List.mem_cons_of_mem _ kw_119) (fun _ h => h) dX3_stepUp_23 ?_
  refine k_i (pc := 26) (k_V E hC hS hA hl.1 (c1.recv hC (hW.tm (j := 1) (by decide)) rfl) rfl (c_X2_foldInto l D tk N0 sa hAD H.size g_6 1 (by decide) 6 (by decide) ) kw_573 kw_574 kw_575 kw_3 kw_576 (n := 1) (by decide +kernel) rfl ⟨⟨rfl, rfl⟩, ⟨by decide, by decide⟩, by decide, by decide⟩ rfl (Nat.le_of_ble_eq_true rfl) hW dX3_stepUp_26) hS (fun q _ w => cwA.go hS.1 q w) hn (fun r_7 H locs hR hz hk hS => ?_)
  obtain ⟨er_7, hW⟩ := hR
  obtain ⟨g_9, eg_9⟩ : ∃ z, z = f_foldW g_6 1 6 := ⟨_, rfl⟩
  rw [← eg_9] at hW
  refine r_zret (pc := 29) E hr hlk hS (by decide) (by decide) (zb (by subst_vars; exact f_foldR_b _ _)) ?_ dX3_stepUp_29
  exact ⟨(by subst eg_3 eg_6 eg_9 er_7; first | with_reducible rfl | (simp [f_stUR, f_stUW, f_upW, p_TB, p_TV, p_TC, p_TI, p_BT, p_BV, p_BC, p_BI, p_VT, p_VB, p_VC, p_VI, p_CT, p_CB, p_CV, p_CI, p_IT, p_IB, p_IV, p_IC, p_TT, p_BB, p_CC, p_II]; done)), hW.to (by subst eg_3 eg_6 eg_9 er_7; first | with_reducible rfl | (simp [f_stUR, f_stUW, f_upW, p_TB, p_TV, p_TC, p_TI, p_BT, p_BV, p_BC, p_BI, p_VT, p_VB, p_VC, p_VI, p_CT, p_CB, p_CV, p_CI, p_IT, p_IB, p_IV, p_IC, p_TT, p_BB, p_CC, p_II]; done))⟩
