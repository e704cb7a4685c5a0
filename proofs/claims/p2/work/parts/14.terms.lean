set_option maxHeartbeats 4000000 in
set_option maxRecDepth 100000 in
/-- Bestratios$Terms.at(I)J -/
theorem c_X2_at (l : Launch) (D : va_G) (tk : Nat → ClassId) (N0 : Nat) (sa : Nat → Nat) {ad : Nat → Nat} (hAD : ADok N0 ad) (sz : Nat) (g : CS) (j : Nat) (hj : j < 2) (kk : Int32) : Met l yX2_at (wsy yX2_at cX2_at 2 (some .long)) ({ frames := 0, cells := 0, slots := 0, locals := 0 } : Room) (cP D tk N0 sa [.ref (ad (17 + 2 * j)), .int kk] sz (fun H => CW D tk ad g H)) (kQl (fun r H => r = f_at g j kk) (nwA sz)) (0) (0) (nwA sz) := by
  refine mStart RX2 rfl (by decide +kernel) (Nat.le_of_ble_eq_true rfl) ?_
  intro p e s m args below meth c E hr hlk hnm hsz hC hF ls hl
  subst hsz
  obtain ⟨hx, hb, -⟩ := id E
  have hA : ∀ q, (nwA s.heap.size) q → N0 ≤ q := fun q h => Nat.le_trans hC.2.1 h
  have hn : ∀ q, s.heap.size ≤ q → (nwA s.heap.size) q := fun q h => h
  have hS : va_S (nwA s.heap.size) s.heap s.heap [] := va_S.rf
  have hl : lv_has ls 2 [(0, .ref (ad (17 + 2 * j))), (1, .int kk)] := hl
  have hW : CW D tk ad g s.heap := hF
  refine lv_iload_n (pc := 0) hx hb dX2_at_0 rfl (lv_at hl 1 rfl) ?_
  refine lv_if_lt (pc := 1) (tgt := 30) hx hb dX2_at_1 (by decide) (fun c_1 => ?_) (fun c_1 => ?_)
  · refine lv_lconst (pc := 30) (v := 0) hx hb dX2_at_30 (by decide) ?_
    refine r_lret (pc := 31) E hr hlk hS (by decide) (by decide) ?_ dX2_at_31
    first | with_reducible rfl | (simp [f_at, c_1, Int32.not_le.mpr c_1, p_TB, p_TV, p_TC, p_TI, p_BT, p_BV, p_BC, p_BI, p_VT, p_VB, p_VC, p_VI, p_CT, p_CB, p_CV, p_CI, p_IT, p_IB, p_IV, p_IC, p_TT, p_BB, p_CC, p_II]; done)
  · refine lv_iload_n (pc := 4) hx hb dX2_at_4 rfl (lv_at hl 1 rfl) ?_
    refine lv_aload_n (pc := 5) hx hb dX2_at_5 rfl (lv_at hl 0 rfl) ?_
    refine r_get (pc := 6) E hC (hW.tm (j := j) hj) 1 (v := .int (tC g j)) rfl rfl (by decide) uX2 (List.mem_cons_of_mem _ kw_68) (fun _ h => h) dX2_at_6 ?_
    refine lv_icmp_ge (pc := 9) (tgt := 30) hx hb dX2_at_9 (by decide) (fun c_2 => ?_) (fun c_2 => ?_)
    · refine lv_lconst (pc := 30) (v := 0) hx hb dX2_at_30 (by decide) ?_
      refine r_lret (pc := 31) E hr hlk hS (by decide) (by decide) ?_ dX2_at_31
      first | with_reducible rfl | (simp [f_at, c_1, Int32.not_lt.mp c_1, c_2, Int32.not_lt.mpr c_2, p_TB, p_TV, p_TC, p_TI, p_BT, p_BV, p_BC, p_BI, p_VT, p_VB, p_VC, p_VI, p_CT, p_CB, p_CV, p_CI, p_IT, p_IB, p_IV, p_IC, p_TT, p_BB, p_CC, p_II]; done)
    · refine lv_iload_n (pc := 12) hx hb dX2_at_12 rfl (lv_at hl 1 rfl) ?_
      refine lv_aload_n (pc := 13) hx hb dX2_at_13 rfl (lv_at hl 0 rfl) ?_
      refine r_get (pc := 14) E hC (hW.tm (j := j) hj) 0 (v := .ref (ad (18 + 2 * j))) rfl rfl (by decide) uX2 (List.mem_cons_of_mem _ kw_67) (fun _ h => h) dX2_at_14 ?_
      refine r_alen (pc := 17) E hC (hW.vl (j := j) hj) 0 rfl (v := 64) rfl dX2_at_17 ?_
      refine lv_icmp_ge (pc := 18) (tgt := 30) hx hb dX2_at_18 (by decide) (fun c_3 => ?_) (fun c_3 => ?_)
      · refine lv_lconst (pc := 30) (v := 0) hx hb dX2_at_30 (by decide) ?_
        refine r_lret (pc := 31) E hr hlk hS (by decide) (by decide) ?_ dX2_at_31
        first | with_reducible rfl | (simp [f_at, c_1, Int32.not_lt.mp c_1, c_2, Int32.not_le.mp c_2, c_3, Int32.not_lt.mpr c_3, p_TB, p_TV, p_TC, p_TI, p_BT, p_BV, p_BC, p_BI, p_VT, p_VB, p_VC, p_VI, p_CT, p_CB, p_CV, p_CI, p_IT, p_IB, p_IV, p_IC, p_TT, p_BB, p_CC, p_II]; done)
      · refine lv_aload_n (pc := 21) hx hb dX2_at_21 rfl (lv_at hl 0 rfl) ?_
        refine r_get (pc := 22) E hC (hW.tm (j := j) hj) 0 (v := .ref (ad (18 + 2 * j))) rfl rfl (by decide) uX2 (List.mem_cons_of_mem _ kw_67) (fun _ h => h) dX2_at_22 ?_
        refine lv_iload_n (pc := 25) hx hb dX2_at_25 rfl (lv_at hl 1 rfl) ?_
        refine r_lald (pc := 26) E hC (hW.vl (j := j) hj) (by first | exact vp_of2 (n := 64) (k := 64) rfl (by assumption) (by assumption) | exact vp_of3 (n := 64) (k := 64) rfl (by assumption) (by assumption)) dX2_at_26 ?_
        refine lv_goto (pc := 27) (tgt := 31) hx hb dX2_at_27 (by decide) ?_
        refine r_lret (pc := 31) E hr hlk hS (by decide) (by decide) ?_ dX2_at_31
        first | with_reducible rfl | (simp [f_at, c_1, Int32.not_lt.mp c_1, c_2, Int32.not_le.mp c_2, c_3, Int32.not_le.mp c_3, p_TB, p_TV, p_TC, p_TI, p_BT, p_BV, p_BC, p_BI, p_VT, p_VB, p_VC, p_VI, p_CT, p_CB, p_CV, p_CI, p_IT, p_IB, p_IV, p_IC, p_TT, p_BB, p_CC, p_II]; done)

set_option maxHeartbeats 4000000 in
set_option maxRecDepth 100000 in
/-- Bestratios$Terms.addLast(J)V -/
theorem c_X2_addLast (l : Launch) (D : va_G) (tk : Nat → ClassId) (N0 : Nat) (sa : Nat → Nat) {ad : Nat → Nat} (hAD : ADok N0 ad) (sz : Nat) (g : CS) (j : Nat) (hj : j < 2) (v : Int64) : Met l yX2_addLast (wsy yX2_addLast cX2_addLast 3 none) ({ frames := 0, cells := 0, slots := 0, locals := 0 } : Room) (cP D tk N0 sa [.ref (ad (17 + 2 * j)), .long v] sz (fun H => CW D tk ad g H)) (kQv (fun H => CW D tk ad (f_addLast g j v) H) (cwA ad sz)) (0) (0) (cwA ad sz) := by
  refine mStart RX2 rfl (by decide +kernel) (Nat.le_of_ble_eq_true rfl) ?_
  intro p e s m args below meth c E hr hlk hnm hsz hC hF ls hl
  subst hsz
  obtain ⟨hx, hb, -⟩ := id E
  have hA : ∀ q, (cwA ad s.heap.size) q → N0 ≤ q := cwA.ge hAD hC.2.1
  have hn : ∀ q, s.heap.size ≤ q → (cwA ad s.heap.size) q := fun q h => Or.inr h
  have hS : va_S (cwA ad s.heap.size) s.heap s.heap [] := va_S.rf
  have hl : lv_has ls 3 [(0, .ref (ad (17 + 2 * j))), (1, .long v)] := hl
  have hW : CW D tk ad g s.heap := hF
  refine lv_aload_n (pc := 0) hx hb dX2_addLast_0 rfl (lv_at hl 0 rfl) ?_
  refine r_get (pc := 1) E hC (hW.tm (j := j) hj) 1 (v := .int (tC g j)) rfl rfl (by decide) uX2 (List.mem_cons_of_mem _ kw_68) (fun _ h => h) dX2_addLast_1 ?_
  refine lv_if_lt (pc := 4) (tgt := 39) hx hb dX2_addLast_4 (by decide) (fun c_1 => ?_) (fun c_1 => ?_)
  · refine r_vret (pc := 39) E hr hlk hS (by decide) (by decide) ?_ dX2_addLast_39
    exact hW.to (by first | with_reducible rfl | (simp [f_addLast, c_1, Int32.not_le.mpr c_1, p_TB, p_TV, p_TC, p_TI, p_BT, p_BV, p_BC, p_BI, p_VT, p_VB, p_VC, p_VI, p_CT, p_CB, p_CV, p_CI, p_IT, p_IB, p_IV, p_IC, p_TT, p_BB, p_CC, p_II]; done))
  · refine lv_aload_n (pc := 7) hx hb dX2_addLast_7 rfl (lv_at hl 0 rfl) ?_
    refine r_get (pc := 8) E hC (hW.tm (j := j) hj) 1 (v := .int (tC g j)) rfl rfl (by decide) uX2 (List.mem_cons_of_mem _ kw_68) (fun _ h => h) dX2_addLast_8 ?_
    refine lv_aload_n (pc := 11) hx hb dX2_addLast_11 rfl (lv_at hl 0 rfl) ?_
    refine r_get (pc := 12) E hC (hW.tm (j := j) hj) 0 (v := .ref (ad (18 + 2 * j))) rfl rfl (by decide) uX2 (List.mem_cons_of_mem _ kw_67) (fun _ h => h) dX2_addLast_12 ?_
    refine r_alen (pc := 15) E hC (hW.vl (j := j) hj) 0 rfl (v := 64) rfl dX2_addLast_15 ?_
    refine lv_icmp_ge (pc := 16) (tgt := 39) hx hb dX2_addLast_16 (by decide) (fun c_2 => ?_) (fun c_2 => ?_)
    · refine r_vret (pc := 39) E hr hlk hS (by decide) (by decide) ?_ dX2_addLast_39
      exact hW.to (by first | with_reducible rfl | (simp [f_addLast, c_1, Int32.not_lt.mp c_1, c_2, Int32.not_lt.mpr c_2, p_TB, p_TV, p_TC, p_TI, p_BT, p_BV, p_BC, p_BI, p_VT, p_VB, p_VC, p_VI, p_CT, p_CB, p_CV, p_CI, p_IT, p_IB, p_IV, p_IC, p_TT, p_BB, p_CC, p_II]; done))
    · refine lv_aload_n (pc := 19) hx hb dX2_addLast_19 rfl (lv_at hl 0 rfl) ?_
      refine r_get (pc := 20) E hC (hW.tm (j := j) hj) 0 (v := .ref (ad (18 + 2 * j))) rfl rfl (by decide) uX2 (List.mem_cons_of_mem _ kw_67) (fun _ h => h) dX2_addLast_20 ?_
      refine lv_aload_n (pc := 23) hx hb dX2_addLast_23 rfl (lv_at hl 0 rfl) ?_
      refine r_get (pc := 24) E hC (hW.tm (j := j) hj) 1 (v := .int (tC g j)) rfl rfl (by decide) uX2 (List.mem_cons_of_mem _ kw_68) (fun _ h => h) dX2_addLast_24 ?_
      refine lv_lload_n (pc := 27) hx hb dX2_addLast_27 rfl (lv_at hl 1 rfl) ?_
      refine r_last (pc := 28) E hC (hW.vl (j := j) hj) hS (Or.inl ⟨18 + 2 * j, by have := (hj : j < 2); omega, rfl⟩) (by first | exact vp_of2 (n := 64) (k := 64) rfl (by assumption) (by assumption) | exact vp_of3 (n := 64) (k := 64) rfl (by assumption) (by assumption)) dX2_addLast_28 (fun H locs h1 ho hz hS => ?_)
      have hW := hW.setV hAD hj h1 ho
      obtain ⟨g_3, eg_3⟩ : ∃ z, z = uV g j (tC g j).toNatClampNeg v := ⟨_, rfl⟩
      rw [← eg_3] at hW
      refine lv_aload_n (pc := 29) hx hb dX2_addLast_29 rfl (lv_at hl 0 rfl) ?_
      refine lv_dup (pc := 30) hx hb dX2_addLast_30 rfl ?_
      refine r_get (pc := 31) E hC (hW.tm (j := j) hj) 1 (v := .int (tC g_3 j)) rfl rfl (by decide) uX2 (List.mem_cons_of_mem _ kw_68) (fun _ h => h) dX2_addLast_31 ?_
      refine lv_iconst (pc := 34) (v := 1) hx hb dX2_addLast_34 (by decide) ?_
      refine lv_iadd (pc := 35) hx hb dX2_addLast_35 ?_
      refine r_put (pc := 36) E hC (hW.tm (j := j) hj) hS (Or.inl ⟨17 + 2 * j, by have := (hj : j < 2); omega, rfl⟩) 1 tyX2 tyX2_ok nmX2 rfl (by decide) (Nat.le_of_ble_eq_true rfl) uX2 (List.mem_cons_of_mem _ kw_68) (fun _ h => h) rfl rfl rfl dX2_addLast_36 (fun H locs h1 ho hz hS => ?_)
      have hW := hW.setC hAD hj h1 ho
      obtain ⟨g_4, eg_4⟩ : ∃ z, z = uC g_3 j ((tC g_3 j) + 1) := ⟨_, rfl⟩
      rw [← eg_4] at hW
      refine r_vret (pc := 39) E hr hlk hS (by decide) (by decide) ?_ dX2_addLast_39
      exact hW.to (by subst eg_3 eg_4; first | with_reducible rfl | (simp [f_addLast, c_1, Int32.not_lt.mp c_1, c_2, Int32.not_le.mp c_2, p_TB, p_TV, p_TC, p_TI, p_BT, p_BV, p_BC, p_BI, p_VT, p_VB, p_VC, p_VI, p_CT, p_CB, p_CV, p_CI, p_IT, p_IB, p_IV, p_IC, p_TT, p_BB, p_CC, p_II]; done))

set_option maxHeartbeats 4000000 in
set_option maxRecDepth 100000 in
/-- Bestratios$Terms.addToLast(J)V -/
theorem c_X2_addToLast (l : Launch) (D : va_G) (tk : Nat → ClassId) (N0 : Nat) (sa : Nat → Nat) {ad : Nat → Nat} (hAD : ADok N0 ad) (sz : Nat) (g : CS) (j : Nat) (hj : j < 2) (v : Int64) : Met l yX2_addToLast (wsy yX2_addToLast cX2_addToLast 4 none) ({ frames := 0, cells := 0, slots := 0, locals := 0 } : Room) (cP D tk N0 sa [.ref (ad (17 + 2 * j)), .long v] sz (fun H => CW D tk ad g H)) (kQv (fun H => CW D tk ad (f_addTo g j v) H) (cwA ad sz)) (0) (0) (cwA ad sz) := by
  refine mStart RX2 rfl (by decide +kernel) (Nat.le_of_ble_eq_true rfl) ?_
  intro p e s m args below meth c E hr hlk hnm hsz hC hF ls hl
  subst hsz
  obtain ⟨hx, hb, -⟩ := id E
  have hA : ∀ q, (cwA ad s.heap.size) q → N0 ≤ q := cwA.ge hAD hC.2.1
  have hn : ∀ q, s.heap.size ≤ q → (cwA ad s.heap.size) q := fun q h => Or.inr h
  have hS : va_S (cwA ad s.heap.size) s.heap s.heap [] := va_S.rf
  have hl : lv_has ls 4 [(0, .ref (ad (17 + 2 * j))), (1, .long v)] := hl
  have hW : CW D tk ad g s.heap := hF
  refine lv_aload_n (pc := 0) hx hb dX2_addToLast_0 rfl (lv_at hl 0 rfl) ?_
  refine r_get (pc := 1) E hC (hW.tm (j := j) hj) 1 (v := .int (tC g j)) rfl rfl (by decide) uX2 (List.mem_cons_of_mem _ kw_68) (fun _ h => h) dX2_addToLast_1 ?_
  refine lv_iconst (pc := 4) (v := 1) hx hb dX2_addToLast_4 (by decide) ?_
  refine lv_isub (pc := 5) hx hb dX2_addToLast_5 ?_
  obtain ⟨x_1, ex_1⟩ : ∃ z9 : Int32, z9 = (tC g j) - 1 := ⟨_, rfl⟩
  rw [← ex_1]
  refine lv_istore_n (pc := 6) (lv' := [(3, .int x_1), (0, .ref (ad (17 + 2 * j))), (1, .long v)]) hx hb dX2_addToLast_6 rfl hl (by decide) rfl (fun ls hl => ?_)
  refine lv_iload_n (pc := 7) hx hb dX2_addToLast_7 rfl (lv_at hl 0 rfl) ?_
  refine lv_if_lt (pc := 8) (tgt := 30) hx hb dX2_addToLast_8 (by decide) (fun c_2 => ?_) (fun c_2 => ?_)
  · refine r_vret (pc := 30) E hr hlk hS (by decide) (by decide) ?_ dX2_addToLast_30
    exact hW.to (by subst ex_1; first | with_reducible rfl | (simp [f_addTo, c_2, Int32.not_le.mpr c_2, p_TB, p_TV, p_TC, p_TI, p_BT, p_BV, p_BC, p_BI, p_VT, p_VB, p_VC, p_VI, p_CT, p_CB, p_CV, p_CI, p_IT, p_IB, p_IV, p_IC, p_TT, p_BB, p_CC, p_II]; done))
  · refine lv_iload_n (pc := 11) hx hb dX2_addToLast_11 rfl (lv_at hl 0 rfl) ?_
    refine lv_aload_n (pc := 12) hx hb dX2_addToLast_12 rfl (lv_at hl 1 rfl) ?_
    refine r_get (pc := 13) E hC (hW.tm (j := j) hj) 0 (v := .ref (ad (18 + 2 * j))) rfl rfl (by decide) uX2 (List.mem_cons_of_mem _ kw_67) (fun _ h => h) dX2_addToLast_13 ?_
    refine r_alen (pc := 16) E hC (hW.vl (j := j) hj) 0 rfl (v := 64) rfl dX2_addToLast_16 ?_
    refine lv_icmp_ge (pc := 17) (tgt := 30) hx hb dX2_addToLast_17 (by decide) (fun c_3 => ?_) (fun c_3 => ?_)
    · refine r_vret (pc := 30) E hr hlk hS (by decide) (by decide) ?_ dX2_addToLast_30
      exact hW.to (by subst ex_1; first | with_reducible rfl | (simp [f_addTo, c_2, Int32.not_lt.mp c_2, c_3, Int32.not_lt.mpr c_3, p_TB, p_TV, p_TC, p_TI, p_BT, p_BV, p_BC, p_BI, p_VT, p_VB, p_VC, p_VI, p_CT, p_CB, p_CV, p_CI, p_IT, p_IB, p_IV, p_IC, p_TT, p_BB, p_CC, p_II]; done))
    · refine lv_aload_n (pc := 20) hx hb dX2_addToLast_20 rfl (lv_at hl 1 rfl) ?_
      refine r_get (pc := 21) E hC (hW.tm (j := j) hj) 0 (v := .ref (ad (18 + 2 * j))) rfl rfl (by decide) uX2 (List.mem_cons_of_mem _ kw_67) (fun _ h => h) dX2_addToLast_21 ?_
      refine lv_iload_n (pc := 24) hx hb dX2_addToLast_24 rfl (lv_at hl 0 rfl) ?_
      refine lv_dup2_11 (pc := 25) hx hb dX2_addToLast_25 rfl rfl ?_
      refine r_lald (pc := 26) E hC (hW.vl (j := j) hj) (by first | exact vp_of2 (n := 64) (k := 64) rfl (by assumption) (by assumption) | exact vp_of3 (n := 64) (k := 64) rfl (by assumption) (by assumption)) dX2_addToLast_26 ?_
      refine lv_lload_n (pc := 27) hx hb dX2_addToLast_27 rfl (lv_at hl 2 rfl) ?_
      refine lv_ladd (pc := 28) hx hb dX2_addToLast_28 ?_
      refine r_last (pc := 29) E hC (hW.vl (j := j) hj) hS (Or.inl ⟨18 + 2 * j, by have := (hj : j < 2); omega, rfl⟩) (by first | exact vp_of2 (n := 64) (k := 64) rfl (by assumption) (by assumption) | exact vp_of3 (n := 64) (k := 64) rfl (by assumption) (by assumption)) dX2_addToLast_29 (fun H locs h1 ho hz hS => ?_)
      have hW := hW.setV hAD hj h1 ho
      obtain ⟨g_4, eg_4⟩ : ∃ z, z = uV g j (x_1).toNatClampNeg ((tV g j (x_1).toNatClampNeg) + v) := ⟨_, rfl⟩
      rw [← eg_4] at hW
      refine r_vret (pc := 30) E hr hlk hS (by decide) (by decide) ?_ dX2_addToLast_30
      exact hW.to (by subst ex_1 eg_4; first | with_reducible rfl | (simp [f_addTo, c_2, Int32.not_lt.mp c_2, c_3, Int32.not_le.mp c_3, p_TB, p_TV, p_TC, p_TI, p_BT, p_BV, p_BC, p_BI, p_VT, p_VB, p_VC, p_VI, p_CT, p_CB, p_CV, p_CI, p_IT, p_IB, p_IV, p_IC, p_TT, p_BB, p_CC, p_II]; done))

set_option maxHeartbeats 4000000 in
set_option maxRecDepth 100000 in
/-- Bestratios$Terms.keepFirst(I)V -/
theorem c_X2_keepFirst (l : Launch) (D : va_G) (tk : Nat → ClassId) (N0 : Nat) (sa : Nat → Nat) {ad : Nat → Nat} (hAD : ADok N0 ad) (sz : Nat) (g : CS) (j : Nat) (hj : j < 2) (mn : Int32) : Met l yX2_keepFirst (wsy yX2_keepFirst cX2_keepFirst 2 none) ({ frames := 0, cells := 0, slots := 0, locals := 0 } : Room) (cP D tk N0 sa [.ref (ad (17 + 2 * j)), .int mn] sz (fun H => CW D tk ad g H)) (kQv (fun H => CW D tk ad (f_keep g j mn) H) (cwA ad sz)) (0) (0) (cwA ad sz) := by
  refine mStart RX2 rfl (by decide +kernel) (Nat.le_of_ble_eq_true rfl) ?_
  intro p e s m args below meth c E hr hlk hnm hsz hC hF ls hl
  subst hsz
  obtain ⟨hx, hb, -⟩ := id E
  have hA : ∀ q, (cwA ad s.heap.size) q → N0 ≤ q := cwA.ge hAD hC.2.1
  have hn : ∀ q, s.heap.size ≤ q → (cwA ad s.heap.size) q := fun q h => Or.inr h
  have hS : va_S (cwA ad s.heap.size) s.heap s.heap [] := va_S.rf
  have hl : lv_has ls 2 [(0, .ref (ad (17 + 2 * j))), (1, .int mn)] := hl
  have hW : CW D tk ad g s.heap := hF
  refine lv_iload_n (pc := 0) hx hb dX2_keepFirst_0 rfl (lv_at hl 1 rfl) ?_
  refine lv_if_lt (pc := 1) (tgt := 17) hx hb dX2_keepFirst_1 (by decide) (fun c_1 => ?_) (fun c_1 => ?_)
  · refine r_vret (pc := 17) E hr hlk hS (by decide) (by decide) ?_ dX2_keepFirst_17
    exact hW.to (by first | with_reducible rfl | (simp [f_keep, c_1, Int32.not_le.mpr c_1, p_TB, p_TV, p_TC, p_TI, p_BT, p_BV, p_BC, p_BI, p_VT, p_VB, p_VC, p_VI, p_CT, p_CB, p_CV, p_CI, p_IT, p_IB, p_IV, p_IC, p_TT, p_BB, p_CC, p_II]; done))
  · refine lv_iload_n (pc := 4) hx hb dX2_keepFirst_4 rfl (lv_at hl 1 rfl) ?_
    refine lv_aload_n (pc := 5) hx hb dX2_keepFirst_5 rfl (lv_at hl 0 rfl) ?_
    refine r_get (pc := 6) E hC (hW.tm (j := j) hj) 1 (v := .int (tC g j)) rfl rfl (by decide) uX2 (List.mem_cons_of_mem _ kw_68) (fun _ h => h) dX2_keepFirst_6 ?_
    refine lv_icmp_ge (pc := 9) (tgt := 17) hx hb dX2_keepFirst_9 (by decide) (fun c_2 => ?_) (fun c_2 => ?_)
    · refine r_vret (pc := 17) E hr hlk hS (by decide) (by decide) ?_ dX2_keepFirst_17
      exact hW.to (by first | with_reducible rfl | (simp [f_keep, c_1, Int32.not_lt.mp c_1, c_2, Int32.not_lt.mpr c_2, p_TB, p_TV, p_TC, p_TI, p_BT, p_BV, p_BC, p_BI, p_VT, p_VB, p_VC, p_VI, p_CT, p_CB, p_CV, p_CI, p_IT, p_IB, p_IV, p_IC, p_TT, p_BB, p_CC, p_II]; done))
    · refine lv_aload_n (pc := 12) hx hb dX2_keepFirst_12 rfl (lv_at hl 0 rfl) ?_
      refine lv_iload_n (pc := 13) hx hb dX2_keepFirst_13 rfl (lv_at hl 1 rfl) ?_
      refine r_put (pc := 14) E hC (hW.tm (j := j) hj) hS (Or.inl ⟨17 + 2 * j, by have := (hj : j < 2); omega, rfl⟩) 1 tyX2 tyX2_ok nmX2 rfl (by decide) (Nat.le_of_ble_eq_true rfl) uX2 (List.mem_cons_of_mem _ kw_68) (fun _ h => h) rfl rfl rfl dX2_keepFirst_14 (fun H locs h1 ho hz hS => ?_)
      have hW := hW.setC hAD hj h1 ho
      obtain ⟨g_3, eg_3⟩ : ∃ z, z = uC g j mn := ⟨_, rfl⟩
      rw [← eg_3] at hW
      refine r_vret (pc := 17) E hr hlk hS (by decide) (by decide) ?_ dX2_keepFirst_17
      exact hW.to (by subst eg_3; first | with_reducible rfl | (simp [f_keep, c_1, Int32.not_lt.mp c_1, c_2, Int32.not_le.mp c_2, p_TB, p_TV, p_TC, p_TI, p_BT, p_BV, p_BC, p_BI, p_VT, p_VB, p_VC, p_VI, p_CT, p_CB, p_CV, p_CI, p_IT, p_IB, p_IV, p_IC, p_TT, p_BB, p_CC, p_II]; done))

set_option maxHeartbeats 4000000 in
set_option maxRecDepth 100000 in
/-- Bestratios$Terms.total()J -/
theorem c_X2_total (l : Launch) (D : va_G) (tk : Nat → ClassId) (N0 : Nat) (sa : Nat → Nat) {ad : Nat → Nat} (hAD : ADok N0 ad) (sz : Nat) (g : CS) (j : Nat) (hj : j < 2) : Met l yX2_total (wsy yX2_total cX2_total 4 (some .long)) ({ frames := 1, cells := 0, slots := 0, locals := 21 } : Room) (cP D tk N0 sa [.ref (ad (17 + 2 * j))] sz (fun H => CW D tk ad g H)) (kQl (fun r H => r = f_total g j) (nwA sz)) (0) (0) (nwA sz) := by
  refine mStart RX2 rfl (by decide +kernel) (Nat.le_of_ble_eq_true rfl) ?_
  intro p e s m args below meth c E hr hlk hnm hsz hC hF ls hl
  subst hsz
  obtain ⟨hx, hb, -⟩ := id E
  have hA : ∀ q, (nwA s.heap.size) q → N0 ≤ q := fun q h => Nat.le_trans hC.2.1 h
  have hn : ∀ q, s.heap.size ≤ q → (nwA s.heap.size) q := fun q h => h
  have hS : va_S (nwA s.heap.size) s.heap s.heap [] := va_S.rf
  have hl : lv_has ls 4 [(0, .ref (ad (17 + 2 * j)))] := hl
  obtain ⟨Q, hQ⟩ : ∃ Q, Q = MQ below (kQl (fun r H => r = f_total g j) (nwA s.heap.size)) args s (0) (0) (nwA s.heap.size) := ⟨_, rfl⟩
  rw [← hQ]
  have hW : CW D tk ad g s.heap := hF
  refine lv_lconst (pc := 0) (v := 0) hx hb dX2_total_0 (by decide) ?_
  refine lv_lstore_n (pc := 1) (lv' := [(1, .long 0), (0, .ref (ad (17 + 2 * j)))]) hx hb dX2_total_1 rfl hl (by decide) rfl (fun ls hl => ?_)
  refine lv_iconst (pc := 2) (v := 0) hx hb dX2_total_2 (by decide) ?_
  refine lv_istore_n (pc := 3) (lv' := [(3, .int 0), (1, .long 0), (0, .ref (ad (17 + 2 * j)))]) hx hb dX2_total_3 rfl hl (by decide) rfl (fun ls hl => ?_)
  have loop_4 : ∀ (n : Nat) (k : Nat)(a9 : Int64) (x : Int32), (tC g j).toNatClampNeg - k < n → k ≤ (tC g j).toNatClampNeg → x = nI k → totL g j ((tC g j).toNatClampNeg - k) k a9 = f_total g j → ∀ (H : Heap) (locs : List Loc) (ls : Array Slot), va_S (nwA s.heap.size) s.heap H locs → CW D tk ad g H → lv_has ls 4 [(0, .ref (ad (17 + 2 * j))), (1, .long a9), (3, .int x)] → W p l e ({ frames := 1, cells := 0, slots := 0, locals := 21 } : Room) s m args below meth c H locs (0) (0) Q (F0 m 4 ls []) := by
    intro n
    induction n with
    | zero =>
      intro k a9 x hf9 hk9 hx9 hg9 H locs ls hS hW hl
      omega
    | succ n ih_4 =>
      intro k a9 x hf9 hk9 hx9 hg9 H locs ls hS hW hl
      refine lv_iload_n (pc := 4) hx hb dX2_total_4 rfl (lv_at hl 2 rfl) ?_
      refine lv_aload_n (pc := 5) hx hb dX2_total_5 rfl (lv_at hl 0 rfl) ?_
      refine r_get (pc := 6) E hC (hW.tm (j := j) hj) 1 (v := .int (tC g j)) rfl rfl (by decide) uX2 (List.mem_cons_of_mem _ kw_68) (fun _ h => h) dX2_total_6 ?_
      refine lv_icmp_ge (pc := 9) (tgt := 26) hx hb dX2_total_9 (by decide) (fun c_1 => ?_) (fun c_1 => ?_)
      · refine lv_lload_n (pc := 26) hx hb dX2_total_26 rfl (lv_at hl 1 rfl) ?_
        try rw [hQ]
        refine r_lret (pc := 27) E hr hlk hS (by decide) (by decide) ?_ dX2_total_27
        rw [← hg9]
        have e0 := (i_mle hx9 hk9).mp c_1
        (rw [e0]) <;> simp [totL]
      · refine lv_lload_n (pc := 12) hx hb dX2_total_12 rfl (lv_at hl 1 rfl) ?_
        refine lv_aload_n (pc := 13) hx hb dX2_total_13 rfl (lv_at hl 0 rfl) ?_
        refine lv_iload_n (pc := 14) hx hb dX2_total_14 rfl (lv_at hl 2 rfl) ?_
        refine k_l (pc := 15) (k_V E hC hS hA hl.1 (c1.recv hC (hW.tm (j := j) hj) rfl) rfl (c_X2_at l D tk N0 sa hAD H.size g j hj x ) kw_577 kw_278 kw_279 kw_3 kw_280 (n := 1) (by decide +kernel) rfl ⟨⟨rfl, rfl⟩, ⟨by decide, by decide⟩, by decide, by decide⟩ rfl (Nat.le_of_ble_eq_true rfl) hW dX2_total_15) hS (fun q z w => absurd w (Nat.not_le.mpr z)) hn (fun r_2 H locs hR hz hk hS => ?_)
        have er_2 := hR
        have hW := hW.new hk
        refine lv_ladd (pc := 18) hx hb dX2_total_18 ?_
        obtain ⟨x_4, ex_4⟩ : ∃ z9 : Int64, z9 = a9 + r_2 := ⟨_, rfl⟩
        rw [← ex_4]
        refine lv_lstore_n (pc := 19) (lv' := [(1, .long x_4), (0, .ref (ad (17 + 2 * j))), (3, .int x)]) hx hb dX2_total_19 rfl hl (by decide) rfl (fun ls hl => ?_)
        obtain ⟨x_5, ex_5⟩ : ∃ z9 : Int32, z9 = x + 1 := ⟨_, rfl⟩
        refine lv_iinc (pc := 20) (v := x_5) (lv' := [(3, .int x_5), (1, .long x_4), (0, .ref (ad (17 + 2 * j)))]) hx hb dX2_total_20 hl (k := 2) rfl (by rw [ex_5]; rfl) (by decide) rfl (fun ls hl => ?_)
        refine lv_goto (pc := 23) (tgt := 4) hx hb dX2_total_23 (by decide) ?_
        have hlt := (i_mlt hx9 hk9).mp c_1
        have e200 : (tC g j).toNatClampNeg - k = ((tC g j).toNatClampNeg - (k + 1)) + 1 := by omega
        rw [e200] at hg9
        exact ih_4  (k + 1)  x_4 x_5 (by omega) (by omega) (i_up hx9 ex_5) (by rw [← hg9]; subst er_2 ex_4; simp [totL, hx9]) _ _ _ hS hW (lv_sub hl [2, 1, 0] rfl)
  exact loop_4 ((tC g j).toNatClampNeg + 1) 0  0 0 (by omega) (Nat.zero_le _) nI_0.symm rfl _ _ _ hS hW (lv_sub hl [2, 1, 0] rfl)

set_option maxHeartbeats 4000000 in
set_option maxRecDepth 100000 in
/-- Bestratios$Terms.takeApart(LBestratios$Fraction;)V -/
theorem c_X2_takeApart (l : Launch) (D : va_G) (tk : Nat → ClassId) (N0 : Nat) (sa : Nat → Nat) {ad : Nat → Nat} (hAD : ADok N0 ad) (sz : Nat) (g : CS) (j : Nat) (hj : j < 2) (i : Nat) (hi : i < 15) : Met l yX2_takeApart (wsy yX2_takeApart cX2_takeApart 11 none) ({ frames := 2, cells := 0, slots := 0, locals := 48 } : Room) (cP D tk N0 sa [.ref (ad (17 + 2 * j)), .ref (ad i)] sz (fun H => CW D tk ad g H)) (kQv (fun H => CW D tk ad (f_apart g j i) H) (cwA ad sz)) (0) (0) (cwA ad sz) := by
  refine mStart RX2 rfl (by decide +kernel) (Nat.le_of_ble_eq_true rfl) ?_
  intro p e s m args below meth c E hr hlk hnm hsz hC hF ls hl
  subst hsz
  obtain ⟨hx, hb, -⟩ := id E
  have hA : ∀ q, (cwA ad s.heap.size) q → N0 ≤ q := cwA.ge hAD hC.2.1
  have hn : ∀ q, s.heap.size ≤ q → (cwA ad s.heap.size) q := fun q h => Or.inr h
  have hS : va_S (cwA ad s.heap.size) s.heap s.heap [] := va_S.rf
  have hl : lv_has ls 11 [(0, .ref (ad (17 + 2 * j))), (1, .ref (ad i))] := hl
  obtain ⟨Q, hQ⟩ : ∃ Q, Q = MQ below (kQv (fun H => CW D tk ad (f_apart g j i) H) (cwA ad s.heap.size)) args s (0) (0) (cwA ad s.heap.size) := ⟨_, rfl⟩
  rw [← hQ]
  have hW : CW D tk ad g s.heap := hF
  refine lv_aload_n (pc := 0) hx hb dX2_takeApart_0 rfl (lv_at hl 0 rfl) ?_
  refine lv_iconst (pc := 1) (v := 0) hx hb dX2_takeApart_1 (by decide) ?_
  refine r_put (pc := 2) E hC (hW.tm (j := j) hj) hS (Or.inl ⟨17 + 2 * j, by have := (hj : j < 2); omega, rfl⟩) 1 tyX2 tyX2_ok nmX2 rfl (by decide) (Nat.le_of_ble_eq_true rfl) uX2 (List.mem_cons_of_mem _ kw_68) (fun _ h => h) rfl rfl rfl dX2_takeApart_2 (fun H locs h1 ho hz hS => ?_)
  have hW := hW.setC hAD hj h1 ho
  obtain ⟨g_1, eg_1⟩ : ∃ z, z = uC g j 0 := ⟨_, rfl⟩
  rw [← eg_1] at hW
  refine lv_aload_n (pc := 5) hx hb dX2_takeApart_5 rfl (lv_at hl 1 rfl) ?_
  refine r_getN (pc := 6) "Bestratios" E hC (hW.fr (i := i) hi) 0 (v := .long (tT g_1 i)) rfl rfl (by decide) uX0 kn_51 (fun _ h => h) dX2_takeApart_6 ?_
  obtain ⟨x_2, ex_2⟩ : ∃ z9 : Int64, z9 = tT g_1 i := ⟨_, rfl⟩
  rw [← ex_2]
  refine lv_lstore_n (pc := 9) (lv' := [(2, .long x_2), (0, .ref (ad (17 + 2 * j))), (1, .ref (ad i))]) hx hb dX2_takeApart_9 rfl hl (by decide) rfl (fun ls hl => ?_)
  refine lv_aload_n (pc := 10) hx hb dX2_takeApart_10 rfl (lv_at hl 2 rfl) ?_
  refine r_getN (pc := 11) "Bestratios" E hC (hW.fr (i := i) hi) 1 (v := .long (tB g_1 i)) rfl rfl (by decide) uX0 kn_54 (fun _ h => h) dX2_takeApart_11 ?_
  obtain ⟨x_3, ex_3⟩ : ∃ z9 : Int64, z9 = tB g_1 i := ⟨_, rfl⟩
  rw [← ex_3]
  refine lv_lstore (pc := 14) (lv' := [(4, .long x_3), (2, .long x_2), (0, .ref (ad (17 + 2 * j))), (1, .ref (ad i))]) hx hb dX2_takeApart_14 hl (by decide) rfl (fun ls hl => ?_)
  refine lv_iconst (pc := 16) (v := 0) hx hb dX2_takeApart_16 (by decide) ?_
  refine lv_istore (pc := 17) (lv' := [(6, .int 0), (4, .long x_3), (2, .long x_2), (0, .ref (ad (17 + 2 * j))), (1, .ref (ad i))]) hx hb dX2_takeApart_17 hl (by decide) rfl (fun ls hl => ?_)
  have loop_19 : ∀ (n : Nat) (k : Nat)(g1 : CS) (tp9 : Int64) (bt9 : Int64) (x : Int32), 64 - k < n → k ≤ 64 → x = nI k → apartL j (64 - k) g1 tp9 bt9 = f_apart g j i → ∀ (H : Heap) (locs : List Loc) (ls : Array Slot), va_S (cwA ad s.heap.size) s.heap H locs → CW D tk ad g1 H → lv_has ls 11 [(0, .ref (ad (17 + 2 * j))), (1, .ref (ad i)), (2, .long tp9), (4, .long bt9), (6, .int x)] → W p l e ({ frames := 2, cells := 0, slots := 0, locals := 48 } : Room) s m args below meth c H locs (0) (0) Q (F0 m 19 ls []) := by
    intro n
    induction n with
    | zero =>
      intro k g1 tp9 bt9 x hf9 hk9 hx9 hg9 H locs ls hS hW hl
      omega
    | succ n ih_19 =>
      intro k g1 tp9 bt9 x hf9 hk9 hx9 hg9 H locs ls hS hW hl
      refine lv_iload (pc := 19) hx hb dX2_takeApart_19 (lv_at hl 4 rfl) ?_
      refine lv_aload_n (pc := 21) hx hb dX2_takeApart_21 rfl (lv_at hl 0 rfl) ?_
      refine r_get (pc := 22) E hC (hW.tm (j := j) hj) 0 (v := .ref (ad (18 + 2 * j))) rfl rfl (by decide) uX2 (List.mem_cons_of_mem _ kw_67) (fun _ h => h) dX2_takeApart_22 ?_
      refine r_alen (pc := 25) E hC (hW.vl (j := j) hj) 0 rfl (v := 64) rfl dX2_takeApart_25 ?_
      refine lv_icmp_ge (pc := 26) (tgt := 72) hx hb dX2_takeApart_26 (by decide) (fun c_4 => ?_) (fun c_4 => ?_)
      · try rw [hQ]
        refine r_vret (pc := 72) E hr hlk hS (by decide) (by decide) ?_ dX2_takeApart_72
        exact hW.to (by rw [← hg9]; have e0 : 64 - k = 0 := (by have := (i_le (n := 64) hx9 (by decide) (by omega) (by decide)).mp c_4; omega); (rw [e0]) <;> simp [apartL])
      · refine lv_lload (pc := 29) hx hb dX2_takeApart_29 (lv_at hl 3 rfl) ?_
        refine lv_lconst (pc := 31) (v := 0) hx hb dX2_takeApart_31 (by decide) ?_
        refine r_lceq (pc := 32) (tgt := 72) E dX2_takeApart_32 dX2_takeApart_33 (by decide) (fun c_5 => ?_) (fun c_5 => ?_)
        · try rw [hQ]
          refine r_vret (pc := 72) E hr hlk hS (by decide) (by decide) ?_ dX2_takeApart_72
          exact hW.to (by rw [← hg9]; rw [apartL_z c_5])
        · refine lv_lload_n (pc := 36) hx hb dX2_takeApart_36 rfl (lv_at hl 2 rfl) ?_
          refine lv_lload (pc := 37) hx hb dX2_takeApart_37 (lv_at hl 3 rfl) ?_
          refine k_l (pc := 39) (k_SN "Bestratios" E hC hS hA hl.1 (c_X3_floorOf l D tk N0 sa H.size tp9 bt9 ) kn_567 kw_502 kw_1 kw_503 (n := 2) (by decide +kernel) rfl ⟨⟨rfl, rfl⟩, ⟨by decide, by decide⟩, by decide, by decide⟩ rfl (Nat.le_of_ble_eq_true rfl) trivial dX2_takeApart_39) hS (fun q z w => absurd w (Nat.not_le.mpr z)) hn (fun r_6 H locs hR hz hk hS => ?_)
          have er_6 := hR
          have hW := hW.new hk
          refine lv_lstore (pc := 42) (lv' := [(7, .long r_6), (0, .ref (ad (17 + 2 * j))), (1, .ref (ad i)), (2, .long tp9), (4, .long bt9), (6, .int x)]) hx hb dX2_takeApart_42 hl (by decide) rfl (fun ls hl => ?_)
          refine lv_lload_n (pc := 44) hx hb dX2_takeApart_44 rfl (lv_at hl 3 rfl) ?_
          refine lv_lload (pc := 45) hx hb dX2_takeApart_45 (lv_at hl 0 rfl) ?_
          refine lv_lload (pc := 47) hx hb dX2_takeApart_47 (lv_at hl 4 rfl) ?_
          refine lv_lmul (pc := 49) hx hb dX2_takeApart_49 ?_
          refine lv_lsub (pc := 50) hx hb dX2_takeApart_50 ?_
          obtain ⟨x_8, ex_8⟩ : ∃ z9 : Int64, z9 = tp9 - (r_6 * bt9) := ⟨_, rfl⟩
          rw [← ex_8]
          refine lv_lstore (pc := 51) (lv' := [(9, .long x_8), (7, .long r_6), (0, .ref (ad (17 + 2 * j))), (1, .ref (ad i)), (2, .long tp9), (4, .long bt9), (6, .int x)]) hx hb dX2_takeApart_51 hl (by decide) rfl (fun ls hl => ?_)
          refine lv_aload_n (pc := 53) hx hb dX2_takeApart_53 rfl (lv_at hl 2 rfl) ?_
          refine lv_lload (pc := 54) hx hb dX2_takeApart_54 (lv_at hl 1 rfl) ?_
          refine k_v (pc := 56) (k_V E hC hS hA hl.1 (c1.recv hC (hW.tm (j := j) hj) rfl) rfl (c_X2_addLast l D tk N0 sa hAD H.size g1 j hj r_6 ) kw_568 kw_569 kw_570 kw_3 kw_571 (n := 1) (by decide +kernel) rfl ⟨⟨rfl, rfl⟩, ⟨by decide, by decide⟩, by decide, by decide⟩ rfl (Nat.le_of_ble_eq_true rfl) hW dX2_takeApart_56) hS (fun q _ w => cwA.go hS.1 q w) hn (fun H locs hR hz hk hS => ?_)
          have hW := hR
          obtain ⟨g_11, eg_11⟩ : ∃ z, z = f_addLast g1 j r_6 := ⟨_, rfl⟩
          rw [← eg_11] at hW
          refine lv_lload (pc := 59) hx hb dX2_takeApart_59 (lv_at hl 5 rfl) ?_
          refine lv_lstore_n (pc := 61) (lv' := [(2, .long bt9), (9, .long x_8), (7, .long r_6), (0, .ref (ad (17 + 2 * j))), (1, .ref (ad i)), (4, .long bt9), (6, .int x)]) hx hb dX2_takeApart_61 rfl hl (by decide) rfl (fun ls hl => ?_)
          refine lv_lload (pc := 62) hx hb dX2_takeApart_62 (lv_at hl 1 rfl) ?_
          refine lv_lstore (pc := 64) (lv' := [(4, .long x_8), (2, .long bt9), (9, .long x_8), (7, .long r_6), (0, .ref (ad (17 + 2 * j))), (1, .ref (ad i)), (6, .int x)]) hx hb dX2_takeApart_64 hl (by decide) rfl (fun ls hl => ?_)
          obtain ⟨x_12, ex_12⟩ : ∃ z9 : Int32, z9 = x + 1 := ⟨_, rfl⟩
          refine lv_iinc (pc := 66) (v := x_12) (lv' := [(6, .int x_12), (4, .long x_8), (2, .long bt9), (9, .long x_8), (7, .long r_6), (0, .ref (ad (17 + 2 * j))), (1, .ref (ad i))]) hx hb dX2_takeApart_66 hl (k := 6) rfl (by rw [ex_12]; rfl) (by decide) rfl (fun ls hl => ?_)
          refine lv_goto (pc := 69) (tgt := 19) hx hb dX2_takeApart_69 (by decide) ?_
          have hlt : k < 64 := Nat.not_le.mp (fun z => c_4 ((i_le (n := 64) hx9 (by decide) (by omega) (by decide)).mpr z))
          have e200 : 64 - k = (64 - (k + 1)) + 1 := by omega
          rw [e200] at hg9
          exact ih_19  (k + 1) g_11  bt9 x_8 x_12 (by omega) (by omega) (i_up hx9 ex_12) (by rw [← hg9]; subst ex_2 ex_3 er_6 ex_8 eg_11; simp [apartL, c_5]) _ _ _ hS hW (lv_sub hl [5, 6, 2, 1, 0] rfl)
  exact loop_19 65 0 g_1  x_2 x_3 0 (by decide) (by decide) nI_0.symm (by subst eg_1 ex_2 ex_3; rfl) _ _ _ hS hW (lv_sub hl [3, 4, 2, 1, 0] rfl)

set_option maxHeartbeats 4000000 in
set_option maxRecDepth 100000 in
/-- Bestratios$Terms.foldInto(LBestratios$Fraction;)Z -/
theorem c_X2_foldInto (l : Launch) (D : va_G) (tk : Nat → ClassId) (N0 : Nat) (sa : Nat → Nat) {ad : Nat → Nat} (hAD : ADok N0 ad) (sz : Nat) (g : CS) (j : Nat) (hj : j < 2) (i : Nat) (hi : i < 15) : Met l yX2_foldInto (wsy yX2_foldInto cX2_foldInto 9 (some .boolean)) ({ frames := 3, cells := 0, slots := 0, locals := 76 } : Room) (cP D tk N0 sa [.ref (ad (17 + 2 * j)), .ref (ad i)] sz (fun H => CW D tk ad g H)) (kQi (fun r H => r = f_foldR g j ∧ CW D tk ad (f_foldW g j i) H) (cwA ad sz)) (0) (0) (cwA ad sz) := by
  refine mStart RX2 rfl (by decide +kernel) (Nat.le_of_ble_eq_true rfl) ?_
  intro p e s m args below meth c E hr hlk hnm hsz hC hF ls hl
  subst hsz
  obtain ⟨hx, hb, -⟩ := id E
  have hA : ∀ q, (cwA ad s.heap.size) q → N0 ≤ q := cwA.ge hAD hC.2.1
  have hn : ∀ q, s.heap.size ≤ q → (cwA ad s.heap.size) q := fun q h => Or.inr h
  have hS : va_S (cwA ad s.heap.size) s.heap s.heap [] := va_S.rf
  have hl : lv_has ls 9 [(0, .ref (ad (17 + 2 * j))), (1, .ref (ad i))] := hl
  obtain ⟨Q, hQ⟩ : ∃ Q, Q = MQ below (kQi (fun r H => r = f_foldR g j ∧ CW D tk ad (f_foldW g j i) H) (cwA ad s.heap.size)) args s (0) (0) (cwA ad s.heap.size) := ⟨_, rfl⟩
  rw [← hQ]
  have hW : CW D tk ad g s.heap := hF
  refine lv_aload_n (pc := 0) hx hb dX2_foldInto_0 rfl (lv_at hl 0 rfl) ?_
  refine r_get (pc := 1) E hC (hW.tm (j := j) hj) 1 (v := .int (tC g j)) rfl rfl (by decide) uX2 (List.mem_cons_of_mem _ kw_68) (fun _ h => h) dX2_foldInto_1 ?_
  refine lv_iconst (pc := 4) (v := 1) hx hb dX2_foldInto_4 (by decide) ?_
  refine lv_icmp_ge (pc := 5) (tgt := 10) hx hb dX2_foldInto_5 (by decide) (fun c_1 => ?_) (fun c_1 => ?_)
  · refine lv_aload_n (pc := 10) hx hb dX2_foldInto_10 rfl (lv_at hl 0 rfl) ?_
    refine lv_aload_n (pc := 11) hx hb dX2_foldInto_11 rfl (lv_at hl 0 rfl) ?_
    refine r_get (pc := 12) E hC (hW.tm (j := j) hj) 1 (v := .int (tC g j)) rfl rfl (by decide) uX2 (List.mem_cons_of_mem _ kw_68) (fun _ h => h) dX2_foldInto_12 ?_
    refine lv_iconst (pc := 15) (v := 1) hx hb dX2_foldInto_15 (by decide) ?_
    refine lv_isub (pc := 16) hx hb dX2_foldInto_16 ?_
    refine k_l (pc := 17) (k_V E hC hS hA hl.1 (c1.recv hC (hW.tm (j := j) hj) rfl) rfl (c_X2_at l D tk N0 sa hAD s.heap.size g j hj ((tC g j) - 1) ) kw_577 kw_278 kw_279 kw_3 kw_280 (n := 1) (by decide +kernel) rfl ⟨⟨rfl, rfl⟩, ⟨by decide, by decide⟩, by decide, by decide⟩ rfl (Nat.le_of_ble_eq_true rfl) hW dX2_foldInto_17) hS (fun q z w => absurd w (Nat.not_le.mpr z)) hn (fun r_2 H locs hR hz hk hS => ?_)
    have er_2 := hR
    have hW := hW.new hk
    refine lv_lstore_n (pc := 20) (lv' := [(2, .long r_2), (0, .ref (ad (17 + 2 * j))), (1, .ref (ad i))]) hx hb dX2_foldInto_20 rfl hl (by decide) rfl (fun ls hl => ?_)
    refine lv_lconst (pc := 21) (v := 1) hx hb dX2_foldInto_21 (by decide) ?_
    refine lv_lstore (pc := 22) (lv' := [(4, .long 1), (2, .long r_2), (0, .ref (ad (17 + 2 * j))), (1, .ref (ad i))]) hx hb dX2_foldInto_22 hl (by decide) rfl (fun ls hl => ?_)
    refine lv_aload_n (pc := 24) hx hb dX2_foldInto_24 rfl (lv_at hl 2 rfl) ?_
    refine r_get (pc := 25) E hC (hW.tm (j := j) hj) 1 (v := .int (tC g j)) rfl rfl (by decide) uX2 (List.mem_cons_of_mem _ kw_68) (fun _ h => h) dX2_foldInto_25 ?_
    refine lv_iconst (pc := 28) (v := 2) hx hb dX2_foldInto_28 (by decide) ?_
    refine lv_isub (pc := 29) hx hb dX2_foldInto_29 ?_
    obtain ⟨x_4, ex_4⟩ : ∃ z9 : Int32, z9 = (tC g j) - 2 := ⟨_, rfl⟩
    rw [← ex_4]
    refine lv_istore (pc := 30) (lv' := [(6, .int x_4), (4, .long 1), (2, .long r_2), (0, .ref (ad (17 + 2 * j))), (1, .ref (ad i))]) hx hb dX2_foldInto_30 hl (by decide) rfl (fun ls hl => ?_)
    have loop_32 : ∀ (n : Nat) (k : Nat)(tp9 : Int64) (bt9 : Int64) (x : Int32), k < n → x + 1 = nI k → k < 2 ^ 31 → foldL g j k tp9 bt9 = f_fold g j → ∀ (H : Heap) (locs : List Loc) (ls : Array Slot), va_S (cwA ad s.heap.size) s.heap H locs → CW D tk ad g H → lv_has ls 9 [(0, .ref (ad (17 + 2 * j))), (1, .ref (ad i)), (2, .long tp9), (4, .long bt9), (6, .int x)] → W p l e ({ frames := 3, cells := 0, slots := 0, locals := 76 } : Room) s m args below meth c H locs (0 + 0) (0 + 0) Q (F0 m 32 ls []) := by
      intro n
      induction n with
      | zero =>
        intro k tp9 bt9 x hk9 hx9 hk8 hg9 H locs ls hS hW hl
        omega
      | succ n ih_32 =>
        intro k tp9 bt9 x hk9 hx9 hk8 hg9 H locs ls hS hW hl
        refine lv_iload (pc := 32) hx hb dX2_foldInto_32 (lv_at hl 4 rfl) ?_
        refine lv_if_lt (pc := 34) (tgt := 85) hx hb dX2_foldInto_34 (by decide) (fun c_5 => ?_) (fun c_5 => ?_)
        · refine lv_aload_n (pc := 85) hx hb dX2_foldInto_85 rfl (lv_at hl 1 rfl) ?_
          refine lv_lload_n (pc := 86) hx hb dX2_foldInto_86 rfl (lv_at hl 2 rfl) ?_
          refine lv_lload (pc := 87) hx hb dX2_foldInto_87 (lv_at hl 3 rfl) ?_
          refine k_v (pc := 89) (k_V E hC hS hA hl.1 (c1.recv hC (hW.fr (i := i) hi) rfl) rfl (c_X0_become l D tk N0 sa hAD H.size g i hi tp9 bt9 ) kw_579 kw_495 kw_496 kw_2 kw_497 (n := 2) (by decide +kernel) rfl ⟨⟨rfl, rfl⟩, ⟨by decide, by decide⟩, by decide, by decide⟩ rfl (Nat.le_of_ble_eq_true rfl) hW dX2_foldInto_89) hS (fun q _ w => cwA.go hS.1 q w) hn (fun H locs hR hz hk hS => ?_)
          have hW := hR
          obtain ⟨g_8, eg_8⟩ : ∃ z, z = f_become g i tp9 bt9 := ⟨_, rfl⟩
          rw [← eg_8] at hW
          refine lv_iconst (pc := 92) (v := 1) hx hb dX2_foldInto_92 (by decide) ?_
          try rw [hQ]
          refine r_zret (pc := 93) E hr hlk hS (by decide) (by decide) rfl ?_ dX2_foldInto_93
          have hfo : f_fold g j = some (tp9, bt9) := by
            rw [← hg9, f_zero hx9 hk8 c_5]; rfl
          exact ⟨by simp [f_foldR, hfo], hW.to (by rw [eg_8]; simp [f_foldW, hfo])⟩
        · refine lv_aload_n (pc := 37) hx hb dX2_foldInto_37 rfl (lv_at hl 0 rfl) ?_
          refine lv_iload (pc := 38) hx hb dX2_foldInto_38 (lv_at hl 4 rfl) ?_
          refine lv_iconst (pc := 40) (v := 1) hx hb dX2_foldInto_40 (by decide) ?_
          refine lv_iadd (pc := 41) hx hb dX2_foldInto_41 ?_
          refine k_l (pc := 42) (k_V E hC hS hA hl.1 (c1.recv hC (hW.tm (j := j) hj) rfl) rfl (c_X2_at l D tk N0 sa hAD H.size g j hj (x + 1) ) kw_577 kw_278 kw_279 kw_3 kw_280 (n := 1) (by decide +kernel) rfl ⟨⟨rfl, rfl⟩, ⟨by decide, by decide⟩, by decide, by decide⟩ rfl (Nat.le_of_ble_eq_true rfl) hW dX2_foldInto_42) hS (fun q z w => absurd w (Nat.not_le.mpr z)) hn (fun r_9 H locs hR hz hk hS => ?_)
          have er_9 := hR
          have hW := hW.new hk
          refine lv_lconst (pc := 45) (v := 1) hx hb dX2_foldInto_45 (by decide) ?_
          refine r_lclt (pc := 46) (tgt := 58) E dX2_foldInto_46 dX2_foldInto_47 (by decide) (fun c_11 => ?_) (fun c_11 => ?_)
          · refine lv_iconst (pc := 58) (v := 0) hx hb dX2_foldInto_58 (by decide) ?_
            try rw [hQ]
            refine r_zret (pc := 59) E hr hlk hS (by decide) (by decide) rfl ?_ dX2_foldInto_59
            obtain ⟨k1, rfl⟩ : ∃ k1, k = k1 + 1 := ⟨k - 1, by have := f_pos hx9 hk8 c_5; omega⟩
            have hfo : f_fold g j = none := by
              rw [← hg9]; subst er_2 ex_4 er_9; simp only [foldL, ← hx9]; split <;> first | rfl | (rw [if_pos (by first | assumption | exact Int64.not_le.mp (by assumption))])
            exact ⟨by simp [f_foldR, hfo], hW.to (by simp [f_foldW, hfo])⟩
          · refine lv_lload_n (pc := 50) hx hb dX2_foldInto_50 rfl (lv_at hl 2 rfl) ?_
            refine lv_ldc2 (pc := 51) (v := 4000000000) hx hb E.2.2.2.1 (E.2.2.2.2 _ (List.mem_cons_of_mem _ kw_578)) dX2_foldInto_51 ?_
            refine r_lcle (pc := 54) (tgt := 60) E dX2_foldInto_54 dX2_foldInto_55 (by decide) (fun c_12 => ?_) (fun c_12 => ?_)
            · refine lv_aload_n (pc := 60) hx hb dX2_foldInto_60 rfl (lv_at hl 0 rfl) ?_
              refine lv_iload (pc := 61) hx hb dX2_foldInto_61 (lv_at hl 4 rfl) ?_
              refine k_l (pc := 63) (k_V E hC hS hA hl.1 (c1.recv hC (hW.tm (j := j) hj) rfl) rfl (c_X2_at l D tk N0 sa hAD H.size g j hj x ) kw_577 kw_278 kw_279 kw_3 kw_280 (n := 1) (by decide +kernel) rfl ⟨⟨rfl, rfl⟩, ⟨by decide, by decide⟩, by decide, by decide⟩ rfl (Nat.le_of_ble_eq_true rfl) hW dX2_foldInto_63) hS (fun q z w => absurd w (Nat.not_le.mpr z)) hn (fun r_13 H locs hR hz hk hS => ?_)
              have er_13 := hR
              have hW := hW.new hk
              refine lv_lload_n (pc := 66) hx hb dX2_foldInto_66 rfl (lv_at hl 2 rfl) ?_
              refine lv_lmul (pc := 67) hx hb dX2_foldInto_67 ?_
              refine lv_lload (pc := 68) hx hb dX2_foldInto_68 (lv_at hl 3 rfl) ?_
              refine lv_ladd (pc := 70) hx hb dX2_foldInto_70 ?_
              obtain ⟨x_15, ex_15⟩ : ∃ z9 : Int64, z9 = (r_13 * tp9) + bt9 := ⟨_, rfl⟩
              rw [← ex_15]
              refine lv_lstore (pc := 71) (lv' := [(7, .long x_15), (0, .ref (ad (17 + 2 * j))), (1, .ref (ad i)), (2, .long tp9), (4, .long bt9), (6, .int x)]) hx hb dX2_foldInto_71 hl (by decide) rfl (fun ls hl => ?_)
              refine lv_lload_n (pc := 73) hx hb dX2_foldInto_73 rfl (lv_at hl 3 rfl) ?_
              refine lv_lstore (pc := 74) (lv' := [(4, .long tp9), (7, .long x_15), (0, .ref (ad (17 + 2 * j))), (1, .ref (ad i)), (2, .long tp9), (6, .int x)]) hx hb dX2_foldInto_74 hl (by decide) rfl (fun ls hl => ?_)
              refine lv_lload (pc := 76) hx hb dX2_foldInto_76 (lv_at hl 1 rfl) ?_
              refine lv_lstore_n (pc := 78) (lv' := [(2, .long x_15), (4, .long tp9), (7, .long x_15), (0, .ref (ad (17 + 2 * j))), (1, .ref (ad i)), (6, .int x)]) hx hb dX2_foldInto_78 rfl hl (by decide) rfl (fun ls hl => ?_)
              obtain ⟨x_16, ex_16⟩ : ∃ z9 : Int32, z9 = x + (-1) := ⟨_, rfl⟩
              refine lv_iinc (pc := 79) (v := x_16) (lv' := [(6, .int x_16), (2, .long x_15), (4, .long tp9), (7, .long x_15), (0, .ref (ad (17 + 2 * j))), (1, .ref (ad i))]) hx hb dX2_foldInto_79 hl (k := 5) rfl (by rw [ex_16]; rfl) (by decide) rfl (fun ls hl => ?_)
              refine lv_goto (pc := 82) (tgt := 32) hx hb dX2_foldInto_82 (by decide) ?_
              obtain ⟨k1, rfl⟩ : ∃ k1, k = k1 + 1 := ⟨k - 1, by have := f_pos hx9 hk8 c_5; omega⟩
              have hx8 : x = nI k1 := f_prev hx9
              exact ih_32  k1  x_15 tp9 x_16 (by omega) (by rw [ex_16]; exact f_dn hx8) (by omega) (by rw [← hg9]; subst ex_4 er_9 er_13 ex_15; simp only [foldL, hx8, nI_1] at *; rw [if_neg (by assumption), if_neg (by first | assumption | exact Int64.not_lt.mpr (by assumption))]) _ _ _ hS hW (lv_sub hl [4, 5, 1, 2, 0] rfl)
            · refine lv_iconst (pc := 58) (v := 0) hx hb dX2_foldInto_58 (by decide) ?_
              try rw [hQ]
              refine r_zret (pc := 59) E hr hlk hS (by decide) (by decide) rfl ?_ dX2_foldInto_59
              obtain ⟨k1, rfl⟩ : ∃ k1, k = k1 + 1 := ⟨k - 1, by have := f_pos hx9 hk8 c_5; omega⟩
              have hfo : f_fold g j = none := by
                rw [← hg9]; subst er_2 ex_4 er_9; simp only [foldL, ← hx9]; split <;> first | rfl | (rw [if_pos (by first | assumption | exact Int64.not_le.mp (by assumption))])
              exact ⟨by simp [f_foldR, hfo], hW.to (by simp [f_foldW, hfo])⟩
    exact loop_32 ((tC g j - 1).toNatClampNeg + 1) (tC g j - 1).toNatClampNeg  r_2 1 x_4 (by omega) (by rw [ex_4]; exact f_first c_1) (Int32.toNatClampNeg_lt _) (by subst er_2 ex_4; simp [f_fold, c_1]) _ _ _ hS hW (lv_sub hl [3, 4, 2, 1, 0] rfl)
  · refine lv_iconst (pc := 8) (v := 0) hx hb dX2_foldInto_8 (by decide) ?_
    try rw [hQ]
    refine r_zret (pc := 9) E hr hlk hS (by decide) (by decide) rfl ?_ dX2_foldInto_9
    have hfo : f_fold g j = none := by simp [f_fold, c_1]
    exact ⟨by simp [f_foldR, hfo], hW.to (by simp [f_foldW, hfo])⟩
