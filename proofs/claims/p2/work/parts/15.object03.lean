set_option maxHeartbeats 4000000 in
set_option maxRecDepth 100000 in
/-- Bestratios.refuse()I -/
theorem c_X3_refuse (l : Launch) (D : va_G) (tk : Nat → ClassId) (N0 : Nat) (sa : Nat → Nat) {ad : Nat → Nat} (hAD : ADok N0 ad) (sz : Nat) (g : CS)  : Met l yX3_refuse (wsy yX3_refuse cX3_refuse 1 (some .int)) ({ frames := 0, cells := 0, slots := 0, locals := 0 } : Room) (cP D tk N0 sa [.ref (ad 15)] sz (fun H => CW D tk ad g H)) (kQi (fun r H => r = -9 ∧ CW D tk ad (f_refW g) H) (cwA ad sz)) (0) (0) (cwA ad sz) := by
  refine mStart RX3 rfl (by decide +kernel) (Nat.le_of_ble_eq_true rfl) ?_
  intro p e s m args below meth c E hr hlk hnm hsz hC hF ls hl
  subst hsz
  obtain ⟨hx, hb, -⟩ := id E
  have hA : ∀ q, (cwA ad s.heap.size) q → N0 ≤ q := cwA.ge hAD hC.2.1
  have hn : ∀ q, s.heap.size ≤ q → (cwA ad s.heap.size) q := fun q h => Or.inr h
  have hS : va_S (cwA ad s.heap.size) s.heap s.heap [] := va_S.rf
  have hl : lv_has ls 1 [(0, .ref (ad 15))] := hl
  have hW : CW D tk ad g s.heap := hF
  refine lv_aload_n (pc := 0) hx hb dX3_refuse_0 rfl (lv_at hl 0 rfl) ?_
  refine lv_dup (pc := 1) hx hb dX3_refuse_1 rfl ?_
  refine r_get (pc := 2) E hC hW.obj 3 (v := .int (tI g 0)) rfl rfl (by decide) uX3 (List.mem_cons_of_mem _ kw_117) (fun _ h => h) dX3_refuse_2 ?_
  refine lv_iconst (pc := 5) (v := 1) hx hb dX3_refuse_5 (by decide) ?_
  refine lv_iadd (pc := 6) hx hb dX3_refuse_6 ?_
  refine r_put (pc := 7) E hC hW.obj hS (Or.inl ⟨15, by decide, rfl⟩) 3 tyX3 tyX3_ok nmX3 rfl (by decide) (Nat.le_of_ble_eq_true rfl) uX3 (List.mem_cons_of_mem _ kw_117) (fun _ h => h) rfl rfl rfl dX3_refuse_7 (fun H locs h1 ho hz hS => ?_)
  have hW := hW.setO hAD (j := 0) (by decide) h1 ho
  obtain ⟨g_1, eg_1⟩ : ∃ z, z = uI g 0 ((tI g 0) + 1) := ⟨_, rfl⟩
  rw [← eg_1] at hW
  refine lv_bipush (pc := 10) (v := (-9)) hx hb dX3_refuse_10 (by decide) ?_
  refine r_iret (pc := 12) E hr hlk hS (by decide) (by decide) ?_ dX3_refuse_12
  exact ⟨(by subst eg_1; first | with_reducible rfl | (simp [f_refW, p_TB, p_TV, p_TC, p_TI, p_BT, p_BV, p_BC, p_BI, p_VT, p_VB, p_VC, p_VI, p_CT, p_CB, p_CV, p_CI, p_IT, p_IB, p_IV, p_IC, p_TT, p_BB, p_CC, p_II]; done)), hW.to (by subst eg_1; first | with_reducible rfl | (simp [f_refW, p_TB, p_TV, p_TC, p_TI, p_BT, p_BV, p_BC, p_BI, p_VT, p_VB, p_VC, p_VI, p_CT, p_CB, p_CV, p_CI, p_IT, p_IB, p_IV, p_IC, p_TT, p_BB, p_CC, p_II]; done))⟩
