set_option maxHeartbeats 4000000 in
set_option maxRecDepth 100000 in
/-- Bestratios.wipe()I -/
theorem c_X3_wipe (l : Launch) (D : va_G) (tk : Nat → ClassId) (N0 : Nat) (sa : Nat → Nat) {ad : Nat → Nat} (hAD : ADok N0 ad) (sz : Nat) (g : CS)  : Met l yX3_wipe (wsy yX3_wipe cX3_wipe 2 (some .int)) ({ frames := 4, cells := 0, slots := 0, locals := 96 } : Room) (cP D tk N0 sa [.ref (ad 15)] sz (fun H => CW D tk ad g H)) (kQi (fun r H => r = tI g 2 ∧ CW D tk ad (f_clr g) H) (cwA ad sz)) (0) (0) (cwA ad sz) := by
  refine mStart RX3 rfl (by decide +kernel) (Nat.le_of_ble_eq_true rfl) ?_
  intro p e s m args below meth c E hr hlk hnm hsz hC hF ls hl
  subst hsz
  obtain ⟨hx, hb, -⟩ := id E
  have hA : ∀ q, (cwA ad s.heap.size) q → N0 ≤ q := cwA.ge hAD hC.2.1
  have hn : ∀ q, s.heap.size ≤ q → (cwA ad s.heap.size) q := fun q h => Or.inr h
  have hS : va_S (cwA ad s.heap.size) s.heap s.heap [] := va_S.rf
  have hl : lv_has ls 2 [(0, .ref (ad 15))] := hl
  have hW : CW D tk ad g s.heap := hF
  refine lv_aload_n (pc := 0) hx hb dX3_wipe_0 rfl (lv_at hl 0 rfl) ?_
  refine r_get (pc := 1) E hC hW.obj 2 (v := .ref (ad 21)) rfl rfl (by decide) uX3 (List.mem_cons_of_mem _ kw_116) (fun _ h => h) dX3_wipe_1 ?_
  refine r_getN (pc := 4) "Bestratios" E hC hW.tal 6 (v := .int (tI g 2)) rfl rfl (by decide) uX1 kn_94 (fun _ h => h) dX3_wipe_4 ?_
  obtain ⟨x_1, ex_1⟩ : ∃ z9 : Int32, z9 = tI g 2 := ⟨_, rfl⟩
  rw [← ex_1]
  refine lv_istore_n (pc := 7) (lv' := [(1, .int x_1), (0, .ref (ad 15))]) hx hb dX3_wipe_7 rfl hl (by decide) rfl (fun ls hl => ?_)
  refine lv_aload_n (pc := 8) hx hb dX3_wipe_8 rfl (lv_at hl 1 rfl) ?_
  refine r_get (pc := 9) E hC hW.obj 2 (v := .ref (ad 21)) rfl rfl (by decide) uX3 (List.mem_cons_of_mem _ kw_116) (fun _ h => h) dX3_wipe_9 ?_
  refine k_v (pc := 12) (k_V E hC hS hA hl.1 (c1.recv hC hW.tal rfl) rfl (c_X1_clear l D tk N0 sa hAD s.heap.size g  ) kw_490 kw_491 kw_492 kw_4 kw_493 (n := 0) (by decide +kernel) rfl ⟨⟨rfl, rfl⟩, ⟨by decide, by decide⟩, by decide, by decide⟩ rfl (Nat.le_of_ble_eq_true rfl) hW dX3_wipe_12) hS (fun q _ w => cwA.go hS.1 q w) hn (fun H locs hR hz hk hS => ?_)
  have hW := hR
  obtain ⟨g_4, eg_4⟩ : ∃ z, z = f_clr g := ⟨_, rfl⟩
  rw [← eg_4] at hW
  refine lv_iload_n (pc := 15) hx hb dX3_wipe_15 rfl (lv_at hl 0 rfl) ?_
  refine r_iret (pc := 16) E hr hlk hS (by decide) (by decide) ?_ dX3_wipe_16
  exact ⟨(by subst ex_1 eg_4; first | with_reducible rfl | (simp [p_TB, p_TV, p_TC, p_TI, p_BT, p_BV, p_BC, p_BI, p_VT, p_VB, p_VC, p_VI, p_CT, p_CB, p_CV, p_CI, p_IT, p_IB, p_IV, p_IC, p_TT, p_BB, p_CC, p_II]; done) | rfl), hW.to (by subst ex_1 eg_4; first | with_reducible rfl | (simp [p_TB, p_TV, p_TC, p_TI, p_BT, p_BV, p_BC, p_BI, p_VT, p_VB, p_VC, p_VI, p_CT, p_CB, p_CV, p_CI, p_IT, p_IB, p_IV, p_IC, p_TT, p_BB, p_CC, p_II]; done) | rfl)⟩
