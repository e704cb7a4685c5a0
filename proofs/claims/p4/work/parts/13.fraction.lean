set_option maxHeartbeats 4000000 in
set_option maxRecDepth 100000 in
/-- Bestratios$Fraction.assign(LBestratios$Fraction;)V -/
theorem c_X0_assign (l : Launch) (D : va_G) (tk : Nat → ClassId) (N0 : Nat) (sa : Nat → Nat) {ad : Nat → Nat} (hAD : ADok N0 ad) (sz : Nat) (g : CS) (i : Nat) (hi : i < 15) (j : Nat) (hj : j < 15) : Met l yX0_assign (wsy yX0_assign cX0_assign 2 none) ({ frames := 0, cells := 0, slots := 0, locals := 0 } : Room) (cP D tk N0 sa [.ref (ad i), .ref (ad j)] sz (fun H => CW D tk ad g H)) (kQv (fun H => CW D tk ad (f_assign g i j) H) (cwA ad sz)) (0) (0) (cwA ad sz) := by
  refine mStart RX0 rfl (by decide +kernel) (Nat.le_of_ble_eq_true rfl) ?_
  intro p e s m args below meth c E hr hlk hnm hsz hC hF ls hl
  subst hsz
  obtain ⟨hx, hb, -⟩ := id E
  have hA : ∀ q, (cwA ad s.heap.size) q → N0 ≤ q := cwA.ge hAD hC.2.1
  have hn : ∀ q, s.heap.size ≤ q → (cwA ad s.heap.size) q := fun q h => Or.inr h
  have hS : va_S (cwA ad s.heap.size) s.heap s.heap [] := va_S.rf
  have hl : lv_has ls 2 [(0, .ref (ad i)), (1, .ref (ad j))] := hl
  have hW : CW D tk ad g s.heap := hF
  refine lv_aload_n (pc := 0) hx hb dX0_assign_0 rfl (lv_at hl 0 rfl) ?_
  refine lv_aload_n (pc := 1) hx hb dX0_assign_1 rfl (lv_at hl 1 rfl) ?_
  refine r_get (pc := 2) E hC (hW.fr (i := j) hj) 0 (v := .long (tT g j)) rfl rfl (by decide) uX0 (List.mem_cons_of_mem _ kw_50) (fun _ h => h) dX0_assign_2 ?_
  refine r_put (pc := 5) E hC (hW.fr (i := i) hi) hS (Or.inl ⟨i, Nat.lt_of_lt_of_le hi (by decide), rfl⟩) 0 tyX0 tyX0_ok nmX0 rfl (by decide) (Nat.le_of_ble_eq_true rfl) uX0 (List.mem_cons_of_mem _ kw_50) (fun _ h => h) rfl rfl rfl dX0_assign_5 (fun H locs h1 ho hz hS => ?_)
  have hW := hW.setT hAD hi h1 ho
  obtain ⟨g_1, eg_1⟩ : ∃ z, z = uT g i (tT g j) := ⟨_, rfl⟩
  rw [← eg_1] at hW
  refine lv_aload_n (pc := 8) hx hb dX0_assign_8 rfl (lv_at hl 0 rfl) ?_
  refine lv_aload_n (pc := 9) hx hb dX0_assign_9 rfl (lv_at hl 1 rfl) ?_
  refine r_get (pc := 10) E hC (hW.fr (i := j) hj) 1 (v := .long (tB g_1 j)) rfl rfl (by decide) uX0 (List.mem_cons_of_mem _ kw_53) (fun _ h => h) dX0_assign_10 ?_
  refine r_put (pc := 13) E hC (hW.fr (i := i) hi) hS (Or.inl ⟨i, Nat.lt_of_lt_of_le hi (by decide), rfl⟩) 1 tyX0 tyX0_ok nmX0 rfl (by decide) (Nat.le_of_ble_eq_true rfl) uX0 (List.mem_cons_of_mem _ kw_53) (fun _ h => h) rfl rfl rfl dX0_assign_13 (fun H locs h1 ho hz hS => ?_)
  have hW := hW.setB hAD hi h1 ho
  obtain ⟨g_2, eg_2⟩ : ∃ z, z = uB g_1 i (tB g_1 j) := ⟨_, rfl⟩
  rw [← eg_2] at hW
  refine r_vret (pc := 16) E hr hlk hS (by decide) (by decide) ?_ dX0_assign_16
  exact hW.to (by subst eg_1 eg_2; first | with_reducible rfl | (simp [f_assign, p_TB, p_TV, p_TC, p_TI, p_BT, p_BV, p_BC, p_BI, p_VT, p_VB, p_VC, p_VI, p_CT, p_CB, p_CV, p_CI, p_IT, p_IB, p_IV, p_IC, p_TT, p_BB, p_CC, p_II]; done))

set_option maxHeartbeats 4000000 in
set_option maxRecDepth 100000 in
/-- Bestratios$Fraction.become(JJ)V -/
theorem c_X0_become (l : Launch) (D : va_G) (tk : Nat → ClassId) (N0 : Nat) (sa : Nat → Nat) {ad : Nat → Nat} (hAD : ADok N0 ad) (sz : Nat) (g : CS) (i : Nat) (hi : i < 15) (tp : Int64) (bt : Int64) : Met l yX0_become (wsy yX0_become cX0_become 9 none) ({ frames := 2, cells := 0, slots := 0, locals := 48 } : Room) (cP D tk N0 sa [.ref (ad i), .long tp, .long bt] sz (fun H => CW D tk ad g H)) (kQv (fun H => CW D tk ad (f_become g i tp bt) H) (cwA ad sz)) (0) (0) (cwA ad sz) := by
  refine mStart RX0 rfl (by decide +kernel) (Nat.le_of_ble_eq_true rfl) ?_
  intro p e s m args below meth c E hr hlk hnm hsz hC hF ls hl
  subst hsz
  obtain ⟨hx, hb, -⟩ := id E
  have hA : ∀ q, (cwA ad s.heap.size) q → N0 ≤ q := cwA.ge hAD hC.2.1
  have hn : ∀ q, s.heap.size ≤ q → (cwA ad s.heap.size) q := fun q h => Or.inr h
  have hS : va_S (cwA ad s.heap.size) s.heap s.heap [] := va_S.rf
  have hl : lv_has ls 9 [(0, .ref (ad i)), (1, .long tp), (3, .long bt)] := hl
  have hW : CW D tk ad g s.heap := hF
  refine lv_lload_n (pc := 0) hx hb dX0_become_0 rfl (lv_at hl 2 rfl) ?_
  refine lv_lconst (pc := 1) (v := 0) hx hb dX0_become_1 (by decide) ?_
  refine r_lcne (pc := 2) (tgt := 7) E dX0_become_2 dX0_become_3 (by decide) (fun c_1 => ?_) (fun c_1 => ?_)
  · refine lv_lload_n (pc := 7) hx hb dX0_become_7 rfl (lv_at hl 1 rfl) ?_
    refine lv_lload_n (pc := 8) hx hb dX0_become_8 rfl (lv_at hl 2 rfl) ?_
    refine k_l (pc := 9) (k_SN "Bestratios" E hC hS hA hl.1 (c_X3_commonDivisor l D tk N0 sa s.heap.size tp bt ) kn_498 kw_499 kw_1 kw_500 (n := 2) (by decide +kernel) rfl ⟨⟨rfl, rfl⟩, ⟨by decide, by decide⟩, by decide, by decide⟩ rfl (Nat.le_of_ble_eq_true rfl) trivial dX0_become_9) hS (fun q z w => absurd w (Nat.not_le.mpr z)) hn (fun r_2 H locs hR hz hk hS => ?_)
    have er_2 := hR
    have hW := hW.new hk
    refine lv_lstore (pc := 12) (lv' := [(5, .long r_2), (0, .ref (ad i)), (1, .long tp), (3, .long bt)]) hx hb dX0_become_12 hl (by decide) rfl (fun ls hl => ?_)
    refine lv_lload_n (pc := 14) hx hb dX0_become_14 rfl (lv_at hl 3 rfl) ?_
    refine lv_lconst (pc := 15) (v := 0) hx hb dX0_become_15 (by decide) ?_
    refine r_lcge (pc := 16) (tgt := 26) E dX0_become_16 dX0_become_17 (by decide) (fun c_4 => ?_) (fun c_4 => ?_)
    · refine lv_lload (pc := 26) hx hb dX0_become_26 (lv_at hl 0 rfl) ?_
      refine lv_lstore (pc := 28) (lv' := [(7, .long r_2), (5, .long r_2), (0, .ref (ad i)), (1, .long tp), (3, .long bt)]) hx hb dX0_become_28 hl (by decide) rfl (fun ls hl => ?_)
      refine lv_aload_n (pc := 30) hx hb dX0_become_30 rfl (lv_at hl 2 rfl) ?_
      refine lv_lload_n (pc := 31) hx hb dX0_become_31 rfl (lv_at hl 3 rfl) ?_
      refine lv_lload (pc := 32) hx hb dX0_become_32 (lv_at hl 0 rfl) ?_
      refine k_l (pc := 34) (k_SN "Bestratios" E hC hS hA hl.1 (c_X3_floorOf l D tk N0 sa H.size tp r_2 ) kn_501 kw_502 kw_1 kw_503 (n := 2) (by decide +kernel) rfl ⟨⟨rfl, rfl⟩, ⟨by decide, by decide⟩, by decide, by decide⟩ rfl (Nat.le_of_ble_eq_true rfl) trivial dX0_become_34) hS (fun q z w => absurd w (Nat.not_le.mpr z)) hn (fun r_5 H locs hR hz hk hS => ?_)
      have er_5 := hR
      have hW := hW.new hk
      refine r_put (pc := 37) E hC (hW.fr (i := i) hi) hS (Or.inl ⟨i, Nat.lt_of_lt_of_le hi (by decide), rfl⟩) 0 tyX0 tyX0_ok nmX0 rfl (by decide) (Nat.le_of_ble_eq_true rfl) uX0 (List.mem_cons_of_mem _ kw_50) (fun _ h => h) rfl rfl rfl dX0_become_37 (fun H locs h1 ho hz hS => ?_)
      have hW := hW.setT hAD hi h1 ho
      obtain ⟨g_7, eg_7⟩ : ∃ z, z = uT g i r_5 := ⟨_, rfl⟩
      rw [← eg_7] at hW
      refine lv_aload_n (pc := 40) hx hb dX0_become_40 rfl (lv_at hl 2 rfl) ?_
      refine lv_lload_n (pc := 41) hx hb dX0_become_41 rfl (lv_at hl 4 rfl) ?_
      refine lv_lload (pc := 42) hx hb dX0_become_42 (lv_at hl 0 rfl) ?_
      refine k_l (pc := 44) (k_SN "Bestratios" E hC hS hA hl.1 (c_X3_floorOf l D tk N0 sa H.size bt r_2 ) kn_501 kw_502 kw_1 kw_503 (n := 2) (by decide +kernel) rfl ⟨⟨rfl, rfl⟩, ⟨by decide, by decide⟩, by decide, by decide⟩ rfl (Nat.le_of_ble_eq_true rfl) trivial dX0_become_44) hS (fun q z w => absurd w (Nat.not_le.mpr z)) hn (fun r_8 H locs hR hz hk hS => ?_)
      have er_8 := hR
      have hW := hW.new hk
      refine r_put (pc := 47) E hC (hW.fr (i := i) hi) hS (Or.inl ⟨i, Nat.lt_of_lt_of_le hi (by decide), rfl⟩) 1 tyX0 tyX0_ok nmX0 rfl (by decide) (Nat.le_of_ble_eq_true rfl) uX0 (List.mem_cons_of_mem _ kw_53) (fun _ h => h) rfl rfl rfl dX0_become_47 (fun H locs h1 ho hz hS => ?_)
      have hW := hW.setB hAD hi h1 ho
      obtain ⟨g_10, eg_10⟩ : ∃ z, z = uB g_7 i r_8 := ⟨_, rfl⟩
      rw [← eg_10] at hW
      refine r_vret (pc := 50) E hr hlk hS (by decide) (by decide) ?_ dX0_become_50
      exact hW.to (by subst er_2 er_5 eg_7 er_8 eg_10; first | with_reducible rfl | (simp [f_become, f_dv, c_1, c_4, Int64.not_lt.mpr c_4, p_TB, p_TV, p_TC, p_TI, p_BT, p_BV, p_BC, p_BI, p_VT, p_VB, p_VC, p_VI, p_CT, p_CB, p_CV, p_CI, p_IT, p_IB, p_IV, p_IC, p_TT, p_BB, p_CC, p_II]; done))
    · refine lv_lload (pc := 20) hx hb dX0_become_20 (lv_at hl 0 rfl) ?_
      refine lv_lneg (pc := 22) hx hb dX0_become_22 ?_
      refine lv_goto (pc := 23) (tgt := 28) hx hb dX0_become_23 (by decide) ?_
      obtain ⟨x_11, ex_11⟩ : ∃ z9 : Int64, z9 = -r_2 := ⟨_, rfl⟩
      rw [← ex_11]
      refine lv_lstore (pc := 28) (lv' := [(7, .long x_11), (5, .long r_2), (0, .ref (ad i)), (1, .long tp), (3, .long bt)]) hx hb dX0_become_28 hl (by decide) rfl (fun ls hl => ?_)
      refine lv_aload_n (pc := 30) hx hb dX0_become_30 rfl (lv_at hl 2 rfl) ?_
      refine lv_lload_n (pc := 31) hx hb dX0_become_31 rfl (lv_at hl 3 rfl) ?_
      refine lv_lload (pc := 32) hx hb dX0_become_32 (lv_at hl 0 rfl) ?_
      refine k_l (pc := 34) (k_SN "Bestratios" E hC hS hA hl.1 (c_X3_floorOf l D tk N0 sa H.size tp x_11 ) kn_501 kw_502 kw_1 kw_503 (n := 2) (by decide +kernel) rfl ⟨⟨rfl, rfl⟩, ⟨by decide, by decide⟩, by decide, by decide⟩ rfl (Nat.le_of_ble_eq_true rfl) trivial dX0_become_34) hS (fun q z w => absurd w (Nat.not_le.mpr z)) hn (fun r_12 H locs hR hz hk hS => ?_)
      have er_12 := hR
      have hW := hW.new hk
      refine r_put (pc := 37) E hC (hW.fr (i := i) hi) hS (Or.inl ⟨i, Nat.lt_of_lt_of_le hi (by decide), rfl⟩) 0 tyX0 tyX0_ok nmX0 rfl (by decide) (Nat.le_of_ble_eq_true rfl) uX0 (List.mem_cons_of_mem _ kw_50) (fun _ h => h) rfl rfl rfl dX0_become_37 (fun H locs h1 ho hz hS => ?_)
      have hW := hW.setT hAD hi h1 ho
      obtain ⟨g_14, eg_14⟩ : ∃ z, z = uT g i r_12 := ⟨_, rfl⟩
      rw [← eg_14] at hW
      refine lv_aload_n (pc := 40) hx hb dX0_become_40 rfl (lv_at hl 2 rfl) ?_
      refine lv_lload_n (pc := 41) hx hb dX0_become_41 rfl (lv_at hl 4 rfl) ?_
      refine lv_lload (pc := 42) hx hb dX0_become_42 (lv_at hl 0 rfl) ?_
      refine k_l (pc := 44) (k_SN "Bestratios" E hC hS hA hl.1 (c_X3_floorOf l D tk N0 sa H.size bt x_11 ) kn_501 kw_502 kw_1 kw_503 (n := 2) (by decide +kernel) rfl ⟨⟨rfl, rfl⟩, ⟨by decide, by decide⟩, by decide, by decide⟩ rfl (Nat.le_of_ble_eq_true rfl) trivial dX0_become_44) hS (fun q z w => absurd w (Nat.not_le.mpr z)) hn (fun r_15 H locs hR hz hk hS => ?_)
      have er_15 := hR
      have hW := hW.new hk
      refine r_put (pc := 47) E hC (hW.fr (i := i) hi) hS (Or.inl ⟨i, Nat.lt_of_lt_of_le hi (by decide), rfl⟩) 1 tyX0 tyX0_ok nmX0 rfl (by decide) (Nat.le_of_ble_eq_true rfl) uX0 (List.mem_cons_of_mem _ kw_53) (fun _ h => h) rfl rfl rfl dX0_become_47 (fun H locs h1 ho hz hS => ?_)
      have hW := hW.setB hAD hi h1 ho
      obtain ⟨g_17, eg_17⟩ : ∃ z, z = uB g_14 i r_15 := ⟨_, rfl⟩
      rw [← eg_17] at hW
      refine r_vret (pc := 50) E hr hlk hS (by decide) (by decide) ?_ dX0_become_50
      exact hW.to (by subst er_2 ex_11 er_12 eg_14 er_15 eg_17; first | with_reducible rfl | (simp [f_become, f_dv, c_1, c_4, Int64.not_le.mp c_4, p_TB, p_TV, p_TC, p_TI, p_BT, p_BV, p_BC, p_BI, p_VT, p_VB, p_VC, p_VI, p_CT, p_CB, p_CV, p_CI, p_IT, p_IB, p_IV, p_IC, p_TT, p_BB, p_CC, p_II]; done))
  · refine r_vret (pc := 6) E hr hlk hS (by decide) (by decide) ?_ dX0_become_6
    exact hW.to (by first | with_reducible rfl | (simp [f_become, f_dv, c_1, p_TB, p_TV, p_TC, p_TI, p_BT, p_BV, p_BC, p_BI, p_VT, p_VB, p_VC, p_VI, p_CT, p_CB, p_CV, p_CI, p_IT, p_IB, p_IV, p_IC, p_TT, p_BB, p_CC, p_II]; done))

set_option maxHeartbeats 4000000 in
set_option maxRecDepth 100000 in
/-- Bestratios$Fraction.isFitting()Z -/
theorem c_X0_isFitting (l : Launch) (D : va_G) (tk : Nat → ClassId) (N0 : Nat) (sa : Nat → Nat) {ad : Nat → Nat} (hAD : ADok N0 ad) (sz : Nat) (g : CS) (i : Nat) (hi : i < 15) : Met l yX0_isFitting (wsy yX0_isFitting cX0_isFitting 1 (some .boolean)) ({ frames := 0, cells := 0, slots := 0, locals := 0 } : Room) (cP D tk N0 sa [.ref (ad i)] sz (fun H => CW D tk ad g H)) (kQi (fun r H => r = f_fit (tT g i) (tB g i)) (nwA sz)) (0) (0) (nwA sz) := by
  refine mStart RX0 rfl (by decide +kernel) (Nat.le_of_ble_eq_true rfl) ?_
  intro p e s m args below meth c E hr hlk hnm hsz hC hF ls hl
  subst hsz
  obtain ⟨hx, hb, -⟩ := id E
  have hA : ∀ q, (nwA s.heap.size) q → N0 ≤ q := fun q h => Nat.le_trans hC.2.1 h
  have hn : ∀ q, s.heap.size ≤ q → (nwA s.heap.size) q := fun q h => h
  have hS : va_S (nwA s.heap.size) s.heap s.heap [] := va_S.rf
  have hl : lv_has ls 1 [(0, .ref (ad i))] := hl
  have hW : CW D tk ad g s.heap := hF
  refine lv_aload_n (pc := 0) hx hb dX0_isFitting_0 rfl (lv_at hl 0 rfl) ?_
  refine r_get (pc := 1) E hC (hW.fr (i := i) hi) 0 (v := .long (tT g i)) rfl rfl (by decide) uX0 (List.mem_cons_of_mem _ kw_50) (fun _ h => h) dX0_isFitting_1 ?_
  refine lv_ldc2 (pc := 4) (v := (-1000000000)) hx hb E.2.2.2.1 (E.2.2.2.2 _ (List.mem_cons_of_mem _ kw_838)) dX0_isFitting_4 ?_
  refine r_lclt (pc := 7) (tgt := 37) E dX0_isFitting_7 dX0_isFitting_8 (by decide) (fun c_1 => ?_) (fun c_1 => ?_)
  · refine lv_iconst (pc := 37) (v := 0) hx hb dX0_isFitting_37 (by decide) ?_
    refine r_zret (pc := 38) E hr hlk hS (by decide) (by decide) rfl ?_ dX0_isFitting_38
    first | with_reducible rfl | (simp [f_fit, c_1, Int64.not_le.mpr c_1, p_TB, p_TV, p_TC, p_TI, p_BT, p_BV, p_BC, p_BI, p_VT, p_VB, p_VC, p_VI, p_CT, p_CB, p_CV, p_CI, p_IT, p_IB, p_IV, p_IC, p_TT, p_BB, p_CC, p_II]; done)
  · refine lv_aload_n (pc := 11) hx hb dX0_isFitting_11 rfl (lv_at hl 0 rfl) ?_
    refine r_get (pc := 12) E hC (hW.fr (i := i) hi) 0 (v := .long (tT g i)) rfl rfl (by decide) uX0 (List.mem_cons_of_mem _ kw_50) (fun _ h => h) dX0_isFitting_12 ?_
    refine lv_ldc2 (pc := 15) (v := 1000000000) hx hb E.2.2.2.1 (E.2.2.2.2 _ (List.mem_cons_of_mem _ kw_839)) dX0_isFitting_15 ?_
    refine r_lcgt (pc := 18) (tgt := 37) E dX0_isFitting_18 dX0_isFitting_19 (by decide) (fun c_2 => ?_) (fun c_2 => ?_)
    · refine lv_iconst (pc := 37) (v := 0) hx hb dX0_isFitting_37 (by decide) ?_
      refine r_zret (pc := 38) E hr hlk hS (by decide) (by decide) rfl ?_ dX0_isFitting_38
      first | with_reducible rfl | (simp [f_fit, c_1, Int64.not_lt.mp c_1, c_2, Int64.not_le.mpr c_2, p_TB, p_TV, p_TC, p_TI, p_BT, p_BV, p_BC, p_BI, p_VT, p_VB, p_VC, p_VI, p_CT, p_CB, p_CV, p_CI, p_IT, p_IB, p_IV, p_IC, p_TT, p_BB, p_CC, p_II]; done)
    · refine lv_aload_n (pc := 22) hx hb dX0_isFitting_22 rfl (lv_at hl 0 rfl) ?_
      refine r_get (pc := 23) E hC (hW.fr (i := i) hi) 1 (v := .long (tB g i)) rfl rfl (by decide) uX0 (List.mem_cons_of_mem _ kw_53) (fun _ h => h) dX0_isFitting_23 ?_
      refine lv_ldc2 (pc := 26) (v := 1000000000) hx hb E.2.2.2.1 (E.2.2.2.2 _ (List.mem_cons_of_mem _ kw_839)) dX0_isFitting_26 ?_
      refine r_lcgt (pc := 29) (tgt := 37) E dX0_isFitting_29 dX0_isFitting_30 (by decide) (fun c_3 => ?_) (fun c_3 => ?_)
      · refine lv_iconst (pc := 37) (v := 0) hx hb dX0_isFitting_37 (by decide) ?_
        refine r_zret (pc := 38) E hr hlk hS (by decide) (by decide) rfl ?_ dX0_isFitting_38
        first | with_reducible rfl | (simp [f_fit, c_1, Int64.not_lt.mp c_1, c_2, Int64.not_lt.mp c_2, c_3, Int64.not_le.mpr c_3, p_TB, p_TV, p_TC, p_TI, p_BT, p_BV, p_BC, p_BI, p_VT, p_VB, p_VC, p_VI, p_CT, p_CB, p_CV, p_CI, p_IT, p_IB, p_IV, p_IC, p_TT, p_BB, p_CC, p_II]; done)
      · refine lv_iconst (pc := 33) (v := 1) hx hb dX0_isFitting_33 (by decide) ?_
        refine lv_goto (pc := 34) (tgt := 38) hx hb dX0_isFitting_34 (by decide) ?_
        refine r_zret (pc := 38) E hr hlk hS (by decide) (by decide) rfl ?_ dX0_isFitting_38
        first | with_reducible rfl | (simp [f_fit, c_1, Int64.not_lt.mp c_1, c_2, Int64.not_lt.mp c_2, c_3, Int64.not_lt.mp c_3, p_TB, p_TV, p_TC, p_TI, p_BT, p_BV, p_BC, p_BI, p_VT, p_VB, p_VC, p_VI, p_CT, p_CB, p_CV, p_CI, p_IT, p_IB, p_IV, p_IC, p_TT, p_BB, p_CC, p_II]; done)

set_option maxHeartbeats 4000000 in
set_option maxRecDepth 100000 in
/-- Bestratios$Fraction.isSameAs(LBestratios$Fraction;)Z -/
theorem c_X0_isSameAs (l : Launch) (D : va_G) (tk : Nat → ClassId) (N0 : Nat) (sa : Nat → Nat) {ad : Nat → Nat} (hAD : ADok N0 ad) (sz : Nat) (g : CS) (i : Nat) (hi : i < 15) (j : Nat) (hj : j < 15) : Met l yX0_isSameAs (wsy yX0_isSameAs cX0_isSameAs 2 (some .boolean)) ({ frames := 0, cells := 0, slots := 0, locals := 0 } : Room) (cP D tk N0 sa [.ref (ad i), .ref (ad j)] sz (fun H => CW D tk ad g H)) (kQi (fun r H => r = f_same (tT g i) (tB g i) (tT g j) (tB g j)) (nwA sz)) (0) (0) (nwA sz) := by
  refine mStart RX0 rfl (by decide +kernel) (Nat.le_of_ble_eq_true rfl) ?_
  intro p e s m args below meth c E hr hlk hnm hsz hC hF ls hl
  subst hsz
  obtain ⟨hx, hb, -⟩ := id E
  have hA : ∀ q, (nwA s.heap.size) q → N0 ≤ q := fun q h => Nat.le_trans hC.2.1 h
  have hn : ∀ q, s.heap.size ≤ q → (nwA s.heap.size) q := fun q h => h
  have hS : va_S (nwA s.heap.size) s.heap s.heap [] := va_S.rf
  have hl : lv_has ls 2 [(0, .ref (ad i)), (1, .ref (ad j))] := hl
  have hW : CW D tk ad g s.heap := hF
  refine lv_aload_n (pc := 0) hx hb dX0_isSameAs_0 rfl (lv_at hl 0 rfl) ?_
  refine r_get (pc := 1) E hC (hW.fr (i := i) hi) 0 (v := .long (tT g i)) rfl rfl (by decide) uX0 (List.mem_cons_of_mem _ kw_50) (fun _ h => h) dX0_isSameAs_1 ?_
  refine lv_aload_n (pc := 4) hx hb dX0_isSameAs_4 rfl (lv_at hl 1 rfl) ?_
  refine r_get (pc := 5) E hC (hW.fr (i := j) hj) 0 (v := .long (tT g j)) rfl rfl (by decide) uX0 (List.mem_cons_of_mem _ kw_50) (fun _ h => h) dX0_isSameAs_5 ?_
  refine r_lcne (pc := 8) (tgt := 28) E dX0_isSameAs_8 dX0_isSameAs_9 (by decide) (fun c_1 => ?_) (fun c_1 => ?_)
  · refine lv_iconst (pc := 28) (v := 0) hx hb dX0_isSameAs_28 (by decide) ?_
    refine r_zret (pc := 29) E hr hlk hS (by decide) (by decide) rfl ?_ dX0_isSameAs_29
    first | with_reducible rfl | (simp [f_same, c_1, p_TB, p_TV, p_TC, p_TI, p_BT, p_BV, p_BC, p_BI, p_VT, p_VB, p_VC, p_VI, p_CT, p_CB, p_CV, p_CI, p_IT, p_IB, p_IV, p_IC, p_TT, p_BB, p_CC, p_II]; done)
  · refine lv_aload_n (pc := 12) hx hb dX0_isSameAs_12 rfl (lv_at hl 0 rfl) ?_
    refine r_get (pc := 13) E hC (hW.fr (i := i) hi) 1 (v := .long (tB g i)) rfl rfl (by decide) uX0 (List.mem_cons_of_mem _ kw_53) (fun _ h => h) dX0_isSameAs_13 ?_
    refine lv_aload_n (pc := 16) hx hb dX0_isSameAs_16 rfl (lv_at hl 1 rfl) ?_
    refine r_get (pc := 17) E hC (hW.fr (i := j) hj) 1 (v := .long (tB g j)) rfl rfl (by decide) uX0 (List.mem_cons_of_mem _ kw_53) (fun _ h => h) dX0_isSameAs_17 ?_
    refine r_lcne (pc := 20) (tgt := 28) E dX0_isSameAs_20 dX0_isSameAs_21 (by decide) (fun c_2 => ?_) (fun c_2 => ?_)
    · refine lv_iconst (pc := 28) (v := 0) hx hb dX0_isSameAs_28 (by decide) ?_
      refine r_zret (pc := 29) E hr hlk hS (by decide) (by decide) rfl ?_ dX0_isSameAs_29
      first | with_reducible rfl | (simp [f_same, c_1, c_2, p_TB, p_TV, p_TC, p_TI, p_BT, p_BV, p_BC, p_BI, p_VT, p_VB, p_VC, p_VI, p_CT, p_CB, p_CV, p_CI, p_IT, p_IB, p_IV, p_IC, p_TT, p_BB, p_CC, p_II]; done)
    · refine lv_iconst (pc := 24) (v := 1) hx hb dX0_isSameAs_24 (by decide) ?_
      refine lv_goto (pc := 25) (tgt := 29) hx hb dX0_isSameAs_25 (by decide) ?_
      refine r_zret (pc := 29) E hr hlk hS (by decide) (by decide) rfl ?_ dX0_isSameAs_29
      first | with_reducible rfl | (simp [f_same, c_1, c_2, p_TB, p_TV, p_TC, p_TI, p_BT, p_BV, p_BC, p_BI, p_VT, p_VB, p_VC, p_VI, p_CT, p_CB, p_CV, p_CI, p_IT, p_IB, p_IV, p_IC, p_TT, p_BB, p_CC, p_II]; done)

set_option maxHeartbeats 4000000 in
set_option maxRecDepth 100000 in
/-- Bestratios$Fraction.isOne()Z -/
theorem c_X0_isOne (l : Launch) (D : va_G) (tk : Nat → ClassId) (N0 : Nat) (sa : Nat → Nat) {ad : Nat → Nat} (hAD : ADok N0 ad) (sz : Nat) (g : CS) (i : Nat) (hi : i < 15) : Met l yX0_isOne (wsy yX0_isOne cX0_isOne 1 (some .boolean)) ({ frames := 0, cells := 0, slots := 0, locals := 0 } : Room) (cP D tk N0 sa [.ref (ad i)] sz (fun H => CW D tk ad g H)) (kQi (fun r H => r = f_one (tT g i) (tB g i)) (nwA sz)) (0) (0) (nwA sz) := by
  refine mStart RX0 rfl (by decide +kernel) (Nat.le_of_ble_eq_true rfl) ?_
  intro p e s m args below meth c E hr hlk hnm hsz hC hF ls hl
  subst hsz
  obtain ⟨hx, hb, -⟩ := id E
  have hA : ∀ q, (nwA s.heap.size) q → N0 ≤ q := fun q h => Nat.le_trans hC.2.1 h
  have hn : ∀ q, s.heap.size ≤ q → (nwA s.heap.size) q := fun q h => h
  have hS : va_S (nwA s.heap.size) s.heap s.heap [] := va_S.rf
  have hl : lv_has ls 1 [(0, .ref (ad i))] := hl
  have hW : CW D tk ad g s.heap := hF
  refine lv_aload_n (pc := 0) hx hb dX0_isOne_0 rfl (lv_at hl 0 rfl) ?_
  refine r_get (pc := 1) E hC (hW.fr (i := i) hi) 0 (v := .long (tT g i)) rfl rfl (by decide) uX0 (List.mem_cons_of_mem _ kw_50) (fun _ h => h) dX0_isOne_1 ?_
  refine lv_lconst (pc := 4) (v := 1) hx hb dX0_isOne_4 (by decide) ?_
  refine r_lcne (pc := 5) (tgt := 22) E dX0_isOne_5 dX0_isOne_6 (by decide) (fun c_1 => ?_) (fun c_1 => ?_)
  · refine lv_iconst (pc := 22) (v := 0) hx hb dX0_isOne_22 (by decide) ?_
    refine r_zret (pc := 23) E hr hlk hS (by decide) (by decide) rfl ?_ dX0_isOne_23
    first | with_reducible rfl | (simp [f_one, c_1, p_TB, p_TV, p_TC, p_TI, p_BT, p_BV, p_BC, p_BI, p_VT, p_VB, p_VC, p_VI, p_CT, p_CB, p_CV, p_CI, p_IT, p_IB, p_IV, p_IC, p_TT, p_BB, p_CC, p_II]; done)
  · refine lv_aload_n (pc := 9) hx hb dX0_isOne_9 rfl (lv_at hl 0 rfl) ?_
    refine r_get (pc := 10) E hC (hW.fr (i := i) hi) 1 (v := .long (tB g i)) rfl rfl (by decide) uX0 (List.mem_cons_of_mem _ kw_53) (fun _ h => h) dX0_isOne_10 ?_
    refine lv_lconst (pc := 13) (v := 1) hx hb dX0_isOne_13 (by decide) ?_
    refine r_lcne (pc := 14) (tgt := 22) E dX0_isOne_14 dX0_isOne_15 (by decide) (fun c_2 => ?_) (fun c_2 => ?_)
    · refine lv_iconst (pc := 22) (v := 0) hx hb dX0_isOne_22 (by decide) ?_
      refine r_zret (pc := 23) E hr hlk hS (by decide) (by decide) rfl ?_ dX0_isOne_23
      first | with_reducible rfl | (simp [f_one, c_1, c_2, p_TB, p_TV, p_TC, p_TI, p_BT, p_BV, p_BC, p_BI, p_VT, p_VB, p_VC, p_VI, p_CT, p_CB, p_CV, p_CI, p_IT, p_IB, p_IV, p_IC, p_TT, p_BB, p_CC, p_II]; done)
    · refine lv_iconst (pc := 18) (v := 1) hx hb dX0_isOne_18 (by decide) ?_
      refine lv_goto (pc := 19) (tgt := 23) hx hb dX0_isOne_19 (by decide) ?_
      refine r_zret (pc := 23) E hr hlk hS (by decide) (by decide) rfl ?_ dX0_isOne_23
      first | with_reducible rfl | (simp [f_one, c_1, c_2, p_TB, p_TV, p_TC, p_TI, p_BT, p_BV, p_BC, p_BI, p_VT, p_VB, p_VC, p_VI, p_CT, p_CB, p_CV, p_CI, p_IT, p_IB, p_IV, p_IC, p_TT, p_BB, p_CC, p_II]; done)

set_option maxHeartbeats 4000000 in
set_option maxRecDepth 100000 in
/-- java/lang/Long.compare(JJ)I -/
theorem c_J13_compare_74951 (l : Launch) (D : va_G) (tk : Nat → ClassId) (N0 : Nat) (sa : Nat → Nat)  (sz : Nat) (xx : Int64) (yy : Int64) : Met l yJ13_compare_74951 (wsy yJ13_compare_74951 cJ13_compare_74951 4 (some .int)) ({ frames := 0, cells := 0, slots := 0, locals := 0 } : Room) (cP D tk N0 sa [.long xx, .long yy] sz (fun H => True)) (kQi (fun r H => r = f_cmp xx yy) (nwA sz)) (0) (0) (nwA sz) := by
  refine mStart RJ13 rfl (by decide +kernel) (Nat.le_of_ble_eq_true rfl) ?_
  intro p e s m args below meth c E hr hlk hnm hsz hC hF ls hl
  subst hsz
  obtain ⟨hx, hb, -⟩ := id E
  have hA : ∀ q, (nwA s.heap.size) q → N0 ≤ q := fun q h => Nat.le_trans hC.2.1 h
  have hn : ∀ q, s.heap.size ≤ q → (nwA s.heap.size) q := fun q h => h
  have hS : va_S (nwA s.heap.size) s.heap s.heap [] := va_S.rf
  have hl : lv_has ls 4 [(0, .long xx), (2, .long yy)] := hl
  refine lv_lload_n (pc := 0) hx hb dJ13_compare_74951_0 rfl (lv_at hl 0 rfl) ?_
  refine lv_lload_n (pc := 1) hx hb dJ13_compare_74951_1 rfl (lv_at hl 1 rfl) ?_
  refine r_lcge (pc := 2) (tgt := 10) E dJ13_compare_74951_2 dJ13_compare_74951_3 (by decide) (fun c_1 => ?_) (fun c_1 => ?_)
  · refine lv_lload_n (pc := 10) hx hb dJ13_compare_74951_10 rfl (lv_at hl 0 rfl) ?_
    refine lv_lload_n (pc := 11) hx hb dJ13_compare_74951_11 rfl (lv_at hl 1 rfl) ?_
    refine r_lcne (pc := 12) (tgt := 20) E dJ13_compare_74951_12 dJ13_compare_74951_13 (by decide) (fun c_2 => ?_) (fun c_2 => ?_)
    · refine lv_iconst (pc := 20) (v := 1) hx hb dJ13_compare_74951_20 (by decide) ?_
      refine r_iret (pc := 21) E hr hlk hS (by decide) (by decide) ?_ dJ13_compare_74951_21
      first | with_reducible rfl | (simp [f_cmp, c_1, Int64.not_lt.mpr c_1, c_2, p_TB, p_TV, p_TC, p_TI, p_BT, p_BV, p_BC, p_BI, p_VT, p_VB, p_VC, p_VI, p_CT, p_CB, p_CV, p_CI, p_IT, p_IB, p_IV, p_IC, p_TT, p_BB, p_CC, p_II]; done)
    · refine lv_iconst (pc := 16) (v := 0) hx hb dJ13_compare_74951_16 (by decide) ?_
      refine lv_goto (pc := 17) (tgt := 21) hx hb dJ13_compare_74951_17 (by decide) ?_
      refine r_iret (pc := 21) E hr hlk hS (by decide) (by decide) ?_ dJ13_compare_74951_21
      first | with_reducible rfl | (simp [f_cmp, c_1, Int64.not_lt.mpr c_1, c_2, p_TB, p_TV, p_TC, p_TI, p_BT, p_BV, p_BC, p_BI, p_VT, p_VB, p_VC, p_VI, p_CT, p_CB, p_CV, p_CI, p_IT, p_IB, p_IV, p_IC, p_TT, p_BB, p_CC, p_II]; done)
  · refine lv_iconst (pc := 6) (v := (-1)) hx hb dJ13_compare_74951_6 (by decide) ?_
    refine lv_goto (pc := 7) (tgt := 21) hx hb dJ13_compare_74951_7 (by decide) ?_
    refine r_iret (pc := 21) E hr hlk hS (by decide) (by decide) ?_ dJ13_compare_74951_21
    first | with_reducible rfl | (simp [f_cmp, c_1, Int64.not_le.mp c_1, p_TB, p_TV, p_TC, p_TI, p_BT, p_BV, p_BC, p_BI, p_VT, p_VB, p_VC, p_VI, p_CT, p_CB, p_CV, p_CI, p_IT, p_IB, p_IV, p_IC, p_TT, p_BB, p_CC, p_II]; done)

set_option maxHeartbeats 4000000 in
set_option maxRecDepth 100000 in
/-- Bestratios$Fraction.sign()I -/
theorem c_X0_sign (l : Launch) (D : va_G) (tk : Nat → ClassId) (N0 : Nat) (sa : Nat → Nat) {ad : Nat → Nat} (hAD : ADok N0 ad) (sz : Nat) (g : CS) (i : Nat) (hi : i < 15) : Met l yX0_sign (wsy yX0_sign cX0_sign 1 (some .int)) ({ frames := 1, cells := 0, slots := 0, locals := 23 } : Room) (cP D tk N0 sa [.ref (ad i)] sz (fun H => CW D tk ad g H)) (kQi (fun r H => r = f_cmp (tT g i) 0) (nwA sz)) (0) (0) (nwA sz) := by
  refine mStart RX0 rfl (by decide +kernel) (Nat.le_of_ble_eq_true rfl) ?_
  intro p e s m args below meth c E hr hlk hnm hsz hC hF ls hl
  subst hsz
  obtain ⟨hx, hb, -⟩ := id E
  have hA : ∀ q, (nwA s.heap.size) q → N0 ≤ q := fun q h => Nat.le_trans hC.2.1 h
  have hn : ∀ q, s.heap.size ≤ q → (nwA s.heap.size) q := fun q h => h
  have hS : va_S (nwA s.heap.size) s.heap s.heap [] := va_S.rf
  have hl : lv_has ls 1 [(0, .ref (ad i))] := hl
  have hW : CW D tk ad g s.heap := hF
  refine lv_aload_n (pc := 0) hx hb dX0_sign_0 rfl (lv_at hl 0 rfl) ?_
  refine r_get (pc := 1) E hC (hW.fr (i := i) hi) 0 (v := .long (tT g i)) rfl rfl (by decide) uX0 (List.mem_cons_of_mem _ kw_50) (fun _ h => h) dX0_sign_1 ?_
  refine lv_lconst (pc := 4) (v := 0) hx hb dX0_sign_4 (by decide) ?_
  refine k_i (pc := 5) (k_S E hC hS hA hl.1 (c_J13_compare_74951 l D tk N0 sa s.heap.size (tT g i) 0 ) kw_598 kw_599 kw_17 kw_600 (n := 2) (by decide +kernel) rfl ⟨⟨rfl, rfl⟩, ⟨by decide, by decide⟩, by decide, by decide⟩ rfl (Nat.le_of_ble_eq_true rfl) trivial dX0_sign_5) hS (fun q z w => absurd w (Nat.not_le.mpr z)) hn (fun r_1 H locs hR hz hk hS => ?_)
  have er_1 := hR
  have hW := hW.new hk
  refine r_iret (pc := 8) E hr hlk hS (by decide) (by decide) ?_ dX0_sign_8
  subst er_1; first | with_reducible rfl | (simp [p_TB, p_TV, p_TC, p_TI, p_BT, p_BV, p_BC, p_BI, p_VT, p_VB, p_VC, p_VI, p_CT, p_CB, p_CV, p_CI, p_IT, p_IB, p_IV, p_IC, p_TT, p_BB, p_CC, p_II]; done) | rfl

set_option maxHeartbeats 4000000 in
set_option maxRecDepth 100000 in
/-- Bestratios$Fraction.floorPart()J -/
theorem c_X0_floorPart (l : Launch) (D : va_G) (tk : Nat → ClassId) (N0 : Nat) (sa : Nat → Nat) {ad : Nat → Nat} (hAD : ADok N0 ad) (sz : Nat) (g : CS) (i : Nat) (hi : i < 15) : Met l yX0_floorPart (wsy yX0_floorPart cX0_floorPart 1 (some .long)) ({ frames := 2, cells := 0, slots := 0, locals := 48 } : Room) (cP D tk N0 sa [.ref (ad i)] sz (fun H => CW D tk ad g H)) (kQl (fun r H => r = f_floorOf (tT g i) (tB g i)) (nwA sz)) (0) (0) (nwA sz) := by
  refine mStart RX0 rfl (by decide +kernel) (Nat.le_of_ble_eq_true rfl) ?_
  intro p e s m args below meth c E hr hlk hnm hsz hC hF ls hl
  subst hsz
  obtain ⟨hx, hb, -⟩ := id E
  have hA : ∀ q, (nwA s.heap.size) q → N0 ≤ q := fun q h => Nat.le_trans hC.2.1 h
  have hn : ∀ q, s.heap.size ≤ q → (nwA s.heap.size) q := fun q h => h
  have hS : va_S (nwA s.heap.size) s.heap s.heap [] := va_S.rf
  have hl : lv_has ls 1 [(0, .ref (ad i))] := hl
  have hW : CW D tk ad g s.heap := hF
  refine lv_aload_n (pc := 0) hx hb dX0_floorPart_0 rfl (lv_at hl 0 rfl) ?_
  refine r_get (pc := 1) E hC (hW.fr (i := i) hi) 0 (v := .long (tT g i)) rfl rfl (by decide) uX0 (List.mem_cons_of_mem _ kw_50) (fun _ h => h) dX0_floorPart_1 ?_
  refine lv_aload_n (pc := 4) hx hb dX0_floorPart_4 rfl (lv_at hl 0 rfl) ?_
  refine r_get (pc := 5) E hC (hW.fr (i := i) hi) 1 (v := .long (tB g i)) rfl rfl (by decide) uX0 (List.mem_cons_of_mem _ kw_53) (fun _ h => h) dX0_floorPart_5 ?_
  refine k_l (pc := 8) (k_SN "Bestratios" E hC hS hA hl.1 (c_X3_floorOf l D tk N0 sa s.heap.size (tT g i) (tB g i) ) kn_501 kw_502 kw_1 kw_503 (n := 2) (by decide +kernel) rfl ⟨⟨rfl, rfl⟩, ⟨by decide, by decide⟩, by decide, by decide⟩ rfl (Nat.le_of_ble_eq_true rfl) trivial dX0_floorPart_8) hS (fun q z w => absurd w (Nat.not_le.mpr z)) hn (fun r_1 H locs hR hz hk hS => ?_)
  have er_1 := hR
  have hW := hW.new hk
  refine r_lret (pc := 11) E hr hlk hS (by decide) (by decide) ?_ dX0_floorPart_11
  subst er_1; first | with_reducible rfl | (simp [p_TB, p_TV, p_TC, p_TI, p_BT, p_BV, p_BC, p_BI, p_VT, p_VB, p_VC, p_VI, p_CT, p_CB, p_CV, p_CI, p_IT, p_IB, p_IV, p_IC, p_TT, p_BB, p_CC, p_II]; done) | rfl

set_option maxHeartbeats 4000000 in
set_option maxRecDepth 100000 in
/-- Bestratios$Fraction.cutTo(II)J -/
theorem c_X0_cutTo (l : Launch) (D : va_G) (tk : Nat → ClassId) (N0 : Nat) (sa : Nat → Nat) {ad : Nat → Nat} (hAD : ADok N0 ad) (sz : Nat) (g : CS) (i : Nat) (hi : i < 15) (pl : Int32) (md : Int32) : Met l yX0_cutTo (wsy yX0_cutTo cX0_cutTo 3 (some .long)) ({ frames := 3, cells := 0, slots := 0, locals := 79 } : Room) (cP D tk N0 sa [.ref (ad i), .int pl, .int md] sz (fun H => CW D tk ad g H)) (kQl (fun r H => r = f_cutNum (tT g i) (tB g i) pl md) (nwA sz)) (0) (0) (nwA sz) := by
  refine mStart RX0 rfl (by decide +kernel) (Nat.le_of_ble_eq_true rfl) ?_
  intro p e s m args below meth c E hr hlk hnm hsz hC hF ls hl
  subst hsz
  obtain ⟨hx, hb, -⟩ := id E
  have hA : ∀ q, (nwA s.heap.size) q → N0 ≤ q := fun q h => Nat.le_trans hC.2.1 h
  have hn : ∀ q, s.heap.size ≤ q → (nwA s.heap.size) q := fun q h => h
  have hS : va_S (nwA s.heap.size) s.heap s.heap [] := va_S.rf
  have hl : lv_has ls 3 [(0, .ref (ad i)), (1, .int pl), (2, .int md)] := hl
  have hW : CW D tk ad g s.heap := hF
  refine lv_aload_n (pc := 0) hx hb dX0_cutTo_0 rfl (lv_at hl 0 rfl) ?_
  refine r_get (pc := 1) E hC (hW.fr (i := i) hi) 0 (v := .long (tT g i)) rfl rfl (by decide) uX0 (List.mem_cons_of_mem _ kw_50) (fun _ h => h) dX0_cutTo_1 ?_
  refine lv_aload_n (pc := 4) hx hb dX0_cutTo_4 rfl (lv_at hl 0 rfl) ?_
  refine r_get (pc := 5) E hC (hW.fr (i := i) hi) 1 (v := .long (tB g i)) rfl rfl (by decide) uX0 (List.mem_cons_of_mem _ kw_53) (fun _ h => h) dX0_cutTo_5 ?_
  refine lv_iload_n (pc := 8) hx hb dX0_cutTo_8 rfl (lv_at hl 1 rfl) ?_
  refine lv_iload_n (pc := 9) hx hb dX0_cutTo_9 rfl (lv_at hl 2 rfl) ?_
  refine k_l (pc := 10) (k_SN "Bestratios" E hC hS hA hl.1 (c_X3_cutNumber l D tk N0 sa s.heap.size (tT g i) (tB g i) pl md ) kn_529 kw_530 kw_1 kw_531 (n := 4) (by decide +kernel) rfl ⟨⟨rfl, rfl⟩, ⟨by decide, by decide⟩, by decide, by decide⟩ rfl (Nat.le_of_ble_eq_true rfl) trivial dX0_cutTo_10) hS (fun q z w => absurd w (Nat.not_le.mpr z)) hn (fun r_1 H locs hR hz hk hS => ?_)
  have er_1 := hR
  have hW := hW.new hk
  refine r_lret (pc := 13) E hr hlk hS (by decide) (by decide) ?_ dX0_cutTo_13
  subst er_1; first | with_reducible rfl | (simp [p_TB, p_TV, p_TC, p_TI, p_BT, p_BV, p_BC, p_BI, p_VT, p_VB, p_VC, p_VI, p_CT, p_CB, p_CV, p_CI, p_IT, p_IB, p_IV, p_IC, p_TT, p_BB, p_CC, p_II]; done) | rfl

set_option maxHeartbeats 4000000 in
set_option maxRecDepth 100000 in
/-- Bestratios$Fraction.compareWith(LBestratios$Fraction;)I -/
theorem c_X0_compareWith (l : Launch) (D : va_G) (tk : Nat → ClassId) (N0 : Nat) (sa : Nat → Nat) {ad : Nat → Nat} (hAD : ADok N0 ad) (sz : Nat) (g : CS) (i : Nat) (hi : i < 15) (j : Nat) (hj : j < 15) : Met l yX0_compareWith (wsy yX0_compareWith cX0_compareWith 2 (some .int)) ({ frames := 1, cells := 0, slots := 0, locals := 23 } : Room) (cP D tk N0 sa [.ref (ad i), .ref (ad j)] sz (fun H => CW D tk ad g H)) (kQi (fun r H => r = f_cmp (tT g i * tB g j) (tT g j * tB g i)) (nwA sz)) (0) (0) (nwA sz) := by
  refine mStart RX0 rfl (by decide +kernel) (Nat.le_of_ble_eq_true rfl) ?_
  intro p e s m args below meth c E hr hlk hnm hsz hC hF ls hl
  subst hsz
  obtain ⟨hx, hb, -⟩ := id E
  have hA : ∀ q, (nwA s.heap.size) q → N0 ≤ q := fun q h => Nat.le_trans hC.2.1 h
  have hn : ∀ q, s.heap.size ≤ q → (nwA s.heap.size) q := fun q h => h
  have hS : va_S (nwA s.heap.size) s.heap s.heap [] := va_S.rf
  have hl : lv_has ls 2 [(0, .ref (ad i)), (1, .ref (ad j))] := hl
  have hW : CW D tk ad g s.heap := hF
  refine lv_aload_n (pc := 0) hx hb dX0_compareWith_0 rfl (lv_at hl 0 rfl) ?_
  refine r_get (pc := 1) E hC (hW.fr (i := i) hi) 0 (v := .long (tT g i)) rfl rfl (by decide) uX0 (List.mem_cons_of_mem _ kw_50) (fun _ h => h) dX0_compareWith_1 ?_
  refine lv_aload_n (pc := 4) hx hb dX0_compareWith_4 rfl (lv_at hl 1 rfl) ?_
  refine r_get (pc := 5) E hC (hW.fr (i := j) hj) 1 (v := .long (tB g j)) rfl rfl (by decide) uX0 (List.mem_cons_of_mem _ kw_53) (fun _ h => h) dX0_compareWith_5 ?_
  refine lv_lmul (pc := 8) hx hb dX0_compareWith_8 ?_
  refine lv_aload_n (pc := 9) hx hb dX0_compareWith_9 rfl (lv_at hl 1 rfl) ?_
  refine r_get (pc := 10) E hC (hW.fr (i := j) hj) 0 (v := .long (tT g j)) rfl rfl (by decide) uX0 (List.mem_cons_of_mem _ kw_50) (fun _ h => h) dX0_compareWith_10 ?_
  refine lv_aload_n (pc := 13) hx hb dX0_compareWith_13 rfl (lv_at hl 0 rfl) ?_
  refine r_get (pc := 14) E hC (hW.fr (i := i) hi) 1 (v := .long (tB g i)) rfl rfl (by decide) uX0 (List.mem_cons_of_mem _ kw_53) (fun _ h => h) dX0_compareWith_14 ?_
  refine lv_lmul (pc := 17) hx hb dX0_compareWith_17 ?_
  refine k_i (pc := 18) (k_S E hC hS hA hl.1 (c_J13_compare_74951 l D tk N0 sa s.heap.size ((tT g i) * (tB g j)) ((tT g j) * (tB g i)) ) kw_598 kw_599 kw_17 kw_600 (n := 2) (by decide +kernel) rfl ⟨⟨rfl, rfl⟩, ⟨by decide, by decide⟩, by decide, by decide⟩ rfl (Nat.le_of_ble_eq_true rfl) trivial dX0_compareWith_18) hS (fun q z w => absurd w (Nat.not_le.mpr z)) hn (fun r_1 H locs hR hz hk hS => ?_)
  have er_1 := hR
  have hW := hW.new hk
  refine r_iret (pc := 21) E hr hlk hS (by decide) (by decide) ?_ dX0_compareWith_21
  subst er_1; first | with_reducible rfl | (simp [p_TB, p_TV, p_TC, p_TI, p_BT, p_BV, p_BC, p_BI, p_VT, p_VB, p_VC, p_VI, p_CT, p_CB, p_CV, p_CI, p_IT, p_IB, p_IV, p_IC, p_TT, p_BB, p_CC, p_II]; done) | rfl

set_option maxHeartbeats 4000000 in
set_option maxRecDepth 100000 in
/-- Bestratios$Fraction.isNextTo(LBestratios$Fraction;)Z -/
theorem c_X0_isNextTo (l : Launch) (D : va_G) (tk : Nat → ClassId) (N0 : Nat) (sa : Nat → Nat) {ad : Nat → Nat} (hAD : ADok N0 ad) (sz : Nat) (g : CS) (i : Nat) (hi : i < 15) (j : Nat) (hj : j < 15) : Met l yX0_isNextTo (wsy yX0_isNextTo cX0_isNextTo 4 (some .boolean)) ({ frames := 0, cells := 0, slots := 0, locals := 0 } : Room) (cP D tk N0 sa [.ref (ad i), .ref (ad j)] sz (fun H => CW D tk ad g H)) (kQi (fun r H => r = f_next (tT g i) (tB g i) (tT g j) (tB g j)) (nwA sz)) (0) (0) (nwA sz) := by
  refine mStart RX0 rfl (by decide +kernel) (Nat.le_of_ble_eq_true rfl) ?_
  intro p e s m args below meth c E hr hlk hnm hsz hC hF ls hl
  subst hsz
  obtain ⟨hx, hb, -⟩ := id E
  have hA : ∀ q, (nwA s.heap.size) q → N0 ≤ q := fun q h => Nat.le_trans hC.2.1 h
  have hn : ∀ q, s.heap.size ≤ q → (nwA s.heap.size) q := fun q h => h
  have hS : va_S (nwA s.heap.size) s.heap s.heap [] := va_S.rf
  have hl : lv_has ls 4 [(0, .ref (ad i)), (1, .ref (ad j))] := hl
  have hW : CW D tk ad g s.heap := hF
  refine lv_aload_n (pc := 0) hx hb dX0_isNextTo_0 rfl (lv_at hl 0 rfl) ?_
  refine r_get (pc := 1) E hC (hW.fr (i := i) hi) 0 (v := .long (tT g i)) rfl rfl (by decide) uX0 (List.mem_cons_of_mem _ kw_50) (fun _ h => h) dX0_isNextTo_1 ?_
  refine lv_aload_n (pc := 4) hx hb dX0_isNextTo_4 rfl (lv_at hl 1 rfl) ?_
  refine r_get (pc := 5) E hC (hW.fr (i := j) hj) 1 (v := .long (tB g j)) rfl rfl (by decide) uX0 (List.mem_cons_of_mem _ kw_53) (fun _ h => h) dX0_isNextTo_5 ?_
  refine lv_lmul (pc := 8) hx hb dX0_isNextTo_8 ?_
  refine lv_aload_n (pc := 9) hx hb dX0_isNextTo_9 rfl (lv_at hl 1 rfl) ?_
  refine r_get (pc := 10) E hC (hW.fr (i := j) hj) 0 (v := .long (tT g j)) rfl rfl (by decide) uX0 (List.mem_cons_of_mem _ kw_50) (fun _ h => h) dX0_isNextTo_10 ?_
  refine lv_aload_n (pc := 13) hx hb dX0_isNextTo_13 rfl (lv_at hl 0 rfl) ?_
  refine r_get (pc := 14) E hC (hW.fr (i := i) hi) 1 (v := .long (tB g i)) rfl rfl (by decide) uX0 (List.mem_cons_of_mem _ kw_53) (fun _ h => h) dX0_isNextTo_14 ?_
  refine lv_lmul (pc := 17) hx hb dX0_isNextTo_17 ?_
  refine lv_lsub (pc := 18) hx hb dX0_isNextTo_18 ?_
  obtain ⟨x_1, ex_1⟩ : ∃ z9 : Int64, z9 = ((tT g i) * (tB g j)) - ((tT g j) * (tB g i)) := ⟨_, rfl⟩
  rw [← ex_1]
  refine lv_lstore_n (pc := 19) (lv' := [(2, .long x_1), (0, .ref (ad i)), (1, .ref (ad j))]) hx hb dX0_isNextTo_19 rfl hl (by decide) rfl (fun ls hl => ?_)
  refine lv_lload_n (pc := 20) hx hb dX0_isNextTo_20 rfl (lv_at hl 0 rfl) ?_
  refine lv_lconst (pc := 21) (v := 1) hx hb dX0_isNextTo_21 (by decide) ?_
  refine r_lceq (pc := 22) (tgt := 34) E dX0_isNextTo_22 dX0_isNextTo_23 (by decide) (fun c_2 => ?_) (fun c_2 => ?_)
  · refine lv_iconst (pc := 34) (v := 1) hx hb dX0_isNextTo_34 (by decide) ?_
    refine lv_goto (pc := 35) (tgt := 39) hx hb dX0_isNextTo_35 (by decide) ?_
    refine r_zret (pc := 39) E hr hlk hS (by decide) (by decide) rfl ?_ dX0_isNextTo_39
    subst ex_1; first | with_reducible rfl | (simp [f_next, c_2, p_TB, p_TV, p_TC, p_TI, p_BT, p_BV, p_BC, p_BI, p_VT, p_VB, p_VC, p_VI, p_CT, p_CB, p_CV, p_CI, p_IT, p_IB, p_IV, p_IC, p_TT, p_BB, p_CC, p_II]; done)
  · refine lv_lload_n (pc := 26) hx hb dX0_isNextTo_26 rfl (lv_at hl 0 rfl) ?_
    refine lv_ldc2 (pc := 27) (v := (-1)) hx hb E.2.2.2.1 (E.2.2.2.2 _ (List.mem_cons_of_mem _ kw_605)) dX0_isNextTo_27 ?_
    refine r_lcne (pc := 30) (tgt := 38) E dX0_isNextTo_30 dX0_isNextTo_31 (by decide) (fun c_3 => ?_) (fun c_3 => ?_)
    · refine lv_iconst (pc := 38) (v := 0) hx hb dX0_isNextTo_38 (by decide) ?_
      refine r_zret (pc := 39) E hr hlk hS (by decide) (by decide) rfl ?_ dX0_isNextTo_39
      subst ex_1; first | with_reducible rfl | (simp [f_next, c_2, c_3, p_TB, p_TV, p_TC, p_TI, p_BT, p_BV, p_BC, p_BI, p_VT, p_VB, p_VC, p_VI, p_CT, p_CB, p_CV, p_CI, p_IT, p_IB, p_IV, p_IC, p_TT, p_BB, p_CC, p_II]; done)
    · refine lv_iconst (pc := 34) (v := 1) hx hb dX0_isNextTo_34 (by decide) ?_
      refine lv_goto (pc := 35) (tgt := 39) hx hb dX0_isNextTo_35 (by decide) ?_
      refine r_zret (pc := 39) E hr hlk hS (by decide) (by decide) rfl ?_ dX0_isNextTo_39
      subst ex_1; first | with_reducible rfl | (simp [f_next, c_2, c_3, p_TB, p_TV, p_TC, p_TI, p_BT, p_BV, p_BC, p_BI, p_VT, p_VB, p_VC, p_VI, p_CT, p_CB, p_CV, p_CI, p_IT, p_IB, p_IV, p_IC, p_TT, p_BB, p_CC, p_II]; done)

set_option maxHeartbeats 4000000 in
set_option maxRecDepth 100000 in
/-- Bestratios$Fraction.gather(LBestratios$Fraction;JJ)V -/
theorem c_X0_gather (l : Launch) (D : va_G) (tk : Nat → ClassId) (N0 : Nat) (sa : Nat → Nat) {ad : Nat → Nat} (hAD : ADok N0 ad) (sz : Nat) (g : CS) (i : Nat) (hi : i < 15) (j : Nat) (hj : j < 15) (t2 : Int64) (b2 : Int64) : Met l yX0_gather (wsy yX0_gather cX0_gather 12 none) ({ frames := 3, cells := 0, slots := 0, locals := 76 } : Room) (cP D tk N0 sa [.ref (ad i), .ref (ad j), .long t2, .long b2] sz (fun H => CW D tk ad g H)) (kQv (fun H => CW D tk ad (f_gather g i (tT g j) (tB g j) t2 b2) H) (cwA ad sz)) (0) (0) (cwA ad sz) := by
  refine mStart RX0 rfl (by decide +kernel) (Nat.le_of_ble_eq_true rfl) ?_
  intro p e s m args below meth c E hr hlk hnm hsz hC hF ls hl
  subst hsz
  obtain ⟨hx, hb, -⟩ := id E
  have hA : ∀ q, (cwA ad s.heap.size) q → N0 ≤ q := cwA.ge hAD hC.2.1
  have hn : ∀ q, s.heap.size ≤ q → (cwA ad s.heap.size) q := fun q h => Or.inr h
  have hS : va_S (cwA ad s.heap.size) s.heap s.heap [] := va_S.rf
  have hl : lv_has ls 12 [(0, .ref (ad i)), (1, .ref (ad j)), (2, .long t2), (4, .long b2)] := hl
  have hW : CW D tk ad g s.heap := hF
  refine lv_aload_n (pc := 0) hx hb dX0_gather_0 rfl (lv_at hl 1 rfl) ?_
  refine r_get (pc := 1) E hC (hW.fr (i := j) hj) 1 (v := .long (tB g j)) rfl rfl (by decide) uX0 (List.mem_cons_of_mem _ kw_53) (fun _ h => h) dX0_gather_1 ?_
  refine lv_lload (pc := 4) hx hb dX0_gather_4 (lv_at hl 3 rfl) ?_
  refine k_l (pc := 6) (k_SN "Bestratios" E hC hS hA hl.1 (c_X3_commonDivisor l D tk N0 sa s.heap.size (tB g j) b2 ) kn_498 kw_499 kw_1 kw_500 (n := 2) (by decide +kernel) rfl ⟨⟨rfl, rfl⟩, ⟨by decide, by decide⟩, by decide, by decide⟩ rfl (Nat.le_of_ble_eq_true rfl) trivial dX0_gather_6) hS (fun q z w => absurd w (Nat.not_le.mpr z)) hn (fun r_1 H locs hR hz hk hS => ?_)
  have er_1 := hR
  have hW := hW.new hk
  refine lv_lstore (pc := 9) (lv' := [(6, .long r_1), (0, .ref (ad i)), (1, .ref (ad j)), (2, .long t2), (4, .long b2)]) hx hb dX0_gather_9 hl (by decide) rfl (fun ls hl => ?_)
  refine lv_aload_n (pc := 11) hx hb dX0_gather_11 rfl (lv_at hl 2 rfl) ?_
  refine r_get (pc := 12) E hC (hW.fr (i := j) hj) 1 (v := .long (tB g j)) rfl rfl (by decide) uX0 (List.mem_cons_of_mem _ kw_53) (fun _ h => h) dX0_gather_12 ?_
  refine lv_lload (pc := 15) hx hb dX0_gather_15 (lv_at hl 0 rfl) ?_
  refine k_l (pc := 17) (k_SN "Bestratios" E hC hS hA hl.1 (c_X3_floorOf l D tk N0 sa H.size (tB g j) r_1 ) kn_501 kw_502 kw_1 kw_503 (n := 2) (by decide +kernel) rfl ⟨⟨rfl, rfl⟩, ⟨by decide, by decide⟩, by decide, by decide⟩ rfl (Nat.le_of_ble_eq_true rfl) trivial dX0_gather_17) hS (fun q z w => absurd w (Nat.not_le.mpr z)) hn (fun r_3 H locs hR hz hk hS => ?_)
  have er_3 := hR
  have hW := hW.new hk
  refine lv_lstore (pc := 20) (lv' := [(8, .long r_3), (6, .long r_1), (0, .ref (ad i)), (1, .ref (ad j)), (2, .long t2), (4, .long b2)]) hx hb dX0_gather_20 hl (by decide) rfl (fun ls hl => ?_)
  refine lv_lload (pc := 22) hx hb dX0_gather_22 (lv_at hl 5 rfl) ?_
  refine lv_lload (pc := 24) hx hb dX0_gather_24 (lv_at hl 1 rfl) ?_
  refine k_l (pc := 26) (k_SN "Bestratios" E hC hS hA hl.1 (c_X3_floorOf l D tk N0 sa H.size b2 r_1 ) kn_501 kw_502 kw_1 kw_503 (n := 2) (by decide +kernel) rfl ⟨⟨rfl, rfl⟩, ⟨by decide, by decide⟩, by decide, by decide⟩ rfl (Nat.le_of_ble_eq_true rfl) trivial dX0_gather_26) hS (fun q z w => absurd w (Nat.not_le.mpr z)) hn (fun r_5 H locs hR hz hk hS => ?_)
  have er_5 := hR
  have hW := hW.new hk
  refine lv_lstore (pc := 29) (lv' := [(10, .long r_5), (8, .long r_3), (6, .long r_1), (0, .ref (ad i)), (1, .ref (ad j)), (2, .long t2), (4, .long b2)]) hx hb dX0_gather_29 hl (by decide) rfl (fun ls hl => ?_)
  refine lv_aload_n (pc := 31) hx hb dX0_gather_31 rfl (lv_at hl 3 rfl) ?_
  refine lv_aload_n (pc := 32) hx hb dX0_gather_32 rfl (lv_at hl 4 rfl) ?_
  refine r_get (pc := 33) E hC (hW.fr (i := j) hj) 0 (v := .long (tT g j)) rfl rfl (by decide) uX0 (List.mem_cons_of_mem _ kw_50) (fun _ h => h) dX0_gather_33 ?_
  refine lv_lload (pc := 36) hx hb dX0_gather_36 (lv_at hl 0 rfl) ?_
  refine lv_lmul (pc := 38) hx hb dX0_gather_38 ?_
  refine lv_lload_n (pc := 39) hx hb dX0_gather_39 rfl (lv_at hl 5 rfl) ?_
  refine lv_lload (pc := 40) hx hb dX0_gather_40 (lv_at hl 1 rfl) ?_
  refine lv_lmul (pc := 42) hx hb dX0_gather_42 ?_
  refine lv_ladd (pc := 43) hx hb dX0_gather_43 ?_
  refine lv_lload (pc := 44) hx hb dX0_gather_44 (lv_at hl 1 rfl) ?_
  refine lv_lload (pc := 46) hx hb dX0_gather_46 (lv_at hl 6 rfl) ?_
  refine lv_lmul (pc := 48) hx hb dX0_gather_48 ?_
  refine k_v (pc := 49) (k_V E hC hS hA hl.1 (c1.recv hC (hW.fr (i := i) hi) rfl) rfl (c_X0_become l D tk N0 sa hAD H.size g i hi (((tT g j) * r_5) + (t2 * r_3)) (r_3 * b2) ) kw_593 kw_495 kw_496 kw_2 kw_497 (n := 2) (by decide +kernel) rfl ⟨⟨rfl, rfl⟩, ⟨by decide, by decide⟩, by decide, by decide⟩ rfl (Nat.le_of_ble_eq_true rfl) hW dX0_gather_49) hS (fun q _ w => cwA.go hS.1 q w) hn (fun H locs hR hz hk hS => ?_)
  have hW := hR
  obtain ⟨g_9, eg_9⟩ : ∃ z, z = f_become g i (((tT g j) * r_5) + (t2 * r_3)) (r_3 * b2) := ⟨_, rfl⟩
  rw [← eg_9] at hW
  refine r_vret (pc := 52) E hr hlk hS (by decide) (by decide) ?_ dX0_gather_52
  exact hW.to (by subst er_1 er_3 er_5 eg_9; first | with_reducible rfl | (simp [f_gather, p_TB, p_TV, p_TC, p_TI, p_BT, p_BV, p_BC, p_BI, p_VT, p_VB, p_VC, p_VI, p_CT, p_CB, p_CV, p_CI, p_IT, p_IB, p_IV, p_IC, p_TT, p_BB, p_CC, p_II]; done))

set_option maxHeartbeats 4000000 in
set_option maxRecDepth 100000 in
/-- Bestratios$Fraction.becomeSum(LBestratios$Fraction;LBestratios$Fraction;)V -/
theorem c_X0_becomeSum (l : Launch) (D : va_G) (tk : Nat → ClassId) (N0 : Nat) (sa : Nat → Nat) {ad : Nat → Nat} (hAD : ADok N0 ad) (sz : Nat) (g : CS) (i : Nat) (hi : i < 15) (j : Nat) (hj : j < 15) (k : Nat) (hk : k < 15) : Met l yX0_becomeSum (wsy yX0_becomeSum cX0_becomeSum 3 none) ({ frames := 4, cells := 0, slots := 0, locals := 107 } : Room) (cP D tk N0 sa [.ref (ad i), .ref (ad j), .ref (ad k)] sz (fun H => CW D tk ad g H)) (kQv (fun H => CW D tk ad (f_sum g i j k) H) (cwA ad sz)) (0) (0) (cwA ad sz) := by
  refine mStart RX0 rfl (by decide +kernel) (Nat.le_of_ble_eq_true rfl) ?_
  intro p e s m args below meth c E hr hlk hnm hsz hC hF ls hl
  subst hsz
  obtain ⟨hx, hb, -⟩ := id E
  have hA : ∀ q, (cwA ad s.heap.size) q → N0 ≤ q := cwA.ge hAD hC.2.1
  have hn : ∀ q, s.heap.size ≤ q → (cwA ad s.heap.size) q := fun q h => Or.inr h
  have hS : va_S (cwA ad s.heap.size) s.heap s.heap [] := va_S.rf
  have hl : lv_has ls 3 [(0, .ref (ad i)), (1, .ref (ad j)), (2, .ref (ad k))] := hl
  have hW : CW D tk ad g s.heap := hF
  refine lv_aload_n (pc := 0) hx hb dX0_becomeSum_0 rfl (lv_at hl 0 rfl) ?_
  refine lv_aload_n (pc := 1) hx hb dX0_becomeSum_1 rfl (lv_at hl 1 rfl) ?_
  refine lv_aload_n (pc := 2) hx hb dX0_becomeSum_2 rfl (lv_at hl 2 rfl) ?_
  refine r_get (pc := 3) E hC (hW.fr (i := k) hk) 0 (v := .long (tT g k)) rfl rfl (by decide) uX0 (List.mem_cons_of_mem _ kw_50) (fun _ h => h) dX0_becomeSum_3 ?_
  refine lv_aload_n (pc := 6) hx hb dX0_becomeSum_6 rfl (lv_at hl 2 rfl) ?_
  refine r_get (pc := 7) E hC (hW.fr (i := k) hk) 1 (v := .long (tB g k)) rfl rfl (by decide) uX0 (List.mem_cons_of_mem _ kw_53) (fun _ h => h) dX0_becomeSum_7 ?_
  refine k_v (pc := 10) (k_V E hC hS hA hl.1 (c1.recv hC (hW.fr (i := i) hi) rfl) rfl (c_X0_gather l D tk N0 sa hAD s.heap.size g i hi j hj (tT g k) (tB g k) ) kw_655 kw_656 kw_657 kw_2 kw_658 (n := 3) (by decide +kernel) rfl ⟨⟨rfl, rfl⟩, ⟨by decide, by decide⟩, by decide, by decide⟩ rfl (Nat.le_of_ble_eq_true rfl) hW dX0_becomeSum_10) hS (fun q _ w => cwA.go hS.1 q w) hn (fun H locs hR hz hk hS => ?_)
  have hW := hR
  obtain ⟨g_3, eg_3⟩ : ∃ z, z = f_gather g i (tT g j) (tB g j) (tT g k) (tB g k) := ⟨_, rfl⟩
  rw [← eg_3] at hW
  refine r_vret (pc := 13) E hr hlk hS (by decide) (by decide) ?_ dX0_becomeSum_13
  exact hW.to (by subst eg_3; first | with_reducible rfl | (simp [f_sum, p_TB, p_TV, p_TC, p_TI, p_BT, p_BV, p_BC, p_BI, p_VT, p_VB, p_VC, p_VI, p_CT, p_CB, p_CV, p_CI, p_IT, p_IB, p_IV, p_IC, p_TT, p_BB, p_CC, p_II]; done))

set_option maxHeartbeats 4000000 in
set_option maxRecDepth 100000 in
/-- Bestratios$Fraction.becomeDifference(LBestratios$Fraction;LBestratios$Fraction;)V -/
theorem c_X0_becomeDifference (l : Launch) (D : va_G) (tk : Nat → ClassId) (N0 : Nat) (sa : Nat → Nat) {ad : Nat → Nat} (hAD : ADok N0 ad) (sz : Nat) (g : CS) (i : Nat) (hi : i < 15) (j : Nat) (hj : j < 15) (k : Nat) (hk : k < 15) : Met l yX0_becomeDifference (wsy yX0_becomeDifference cX0_becomeDifference 3 none) ({ frames := 4, cells := 0, slots := 0, locals := 107 } : Room) (cP D tk N0 sa [.ref (ad i), .ref (ad j), .ref (ad k)] sz (fun H => CW D tk ad g H)) (kQv (fun H => CW D tk ad (f_dif g i j k) H) (cwA ad sz)) (0) (0) (cwA ad sz) := by
  refine mStart RX0 rfl (by decide +kernel) (Nat.le_of_ble_eq_true rfl) ?_
  intro p e s m args below meth c E hr hlk hnm hsz hC hF ls hl
  subst hsz
  obtain ⟨hx, hb, -⟩ := id E
  have hA : ∀ q, (cwA ad s.heap.size) q → N0 ≤ q := cwA.ge hAD hC.2.1
  have hn : ∀ q, s.heap.size ≤ q → (cwA ad s.heap.size) q := fun q h => Or.inr h
  have hS : va_S (cwA ad s.heap.size) s.heap s.heap [] := va_S.rf
  have hl : lv_has ls 3 [(0, .ref (ad i)), (1, .ref (ad j)), (2, .ref (ad k))] := hl
  have hW : CW D tk ad g s.heap := hF
  refine lv_aload_n (pc := 0) hx hb dX0_becomeDifference_0 rfl (lv_at hl 0 rfl) ?_
  refine lv_aload_n (pc := 1) hx hb dX0_becomeDifference_1 rfl (lv_at hl 1 rfl) ?_
  refine lv_aload_n (pc := 2) hx hb dX0_becomeDifference_2 rfl (lv_at hl 2 rfl) ?_
  refine r_get (pc := 3) E hC (hW.fr (i := k) hk) 0 (v := .long (tT g k)) rfl rfl (by decide) uX0 (List.mem_cons_of_mem _ kw_50) (fun _ h => h) dX0_becomeDifference_3 ?_
  refine lv_lneg (pc := 6) hx hb dX0_becomeDifference_6 ?_
  refine lv_aload_n (pc := 7) hx hb dX0_becomeDifference_7 rfl (lv_at hl 2 rfl) ?_
  refine r_get (pc := 8) E hC (hW.fr (i := k) hk) 1 (v := .long (tB g k)) rfl rfl (by decide) uX0 (List.mem_cons_of_mem _ kw_53) (fun _ h => h) dX0_becomeDifference_8 ?_
  refine k_v (pc := 11) (k_V E hC hS hA hl.1 (c1.recv hC (hW.fr (i := i) hi) rfl) rfl (c_X0_gather l D tk N0 sa hAD s.heap.size g i hi j hj (-(tT g k)) (tB g k) ) kw_655 kw_656 kw_657 kw_2 kw_658 (n := 3) (by decide +kernel) rfl ⟨⟨rfl, rfl⟩, ⟨by decide, by decide⟩, by decide, by decide⟩ rfl (Nat.le_of_ble_eq_true rfl) hW dX0_becomeDifference_11) hS (fun q _ w => cwA.go hS.1 q w) hn (fun H locs hR hz hk hS => ?_)
  have hW := hR
  obtain ⟨g_3, eg_3⟩ : ∃ z, z = f_gather g i (tT g j) (tB g j) (-(tT g k)) (tB g k) := ⟨_, rfl⟩
  rw [← eg_3] at hW
  refine r_vret (pc := 14) E hr hlk hS (by decide) (by decide) ?_ dX0_becomeDifference_14
  exact hW.to (by subst eg_3; first | with_reducible rfl | (simp [f_dif, p_TB, p_TV, p_TC, p_TI, p_BT, p_BV, p_BC, p_BI, p_VT, p_VB, p_VC, p_VI, p_CT, p_CB, p_CV, p_CI, p_IT, p_IB, p_IV, p_IC, p_TT, p_BB, p_CC, p_II]; done))

set_option maxHeartbeats 4000000 in
set_option maxRecDepth 100000 in
/-- Bestratios$Fraction.becomeProduct(LBestratios$Fraction;LBestratios$Fraction;)V -/
theorem c_X0_becomeProduct (l : Launch) (D : va_G) (tk : Nat → ClassId) (N0 : Nat) (sa : Nat → Nat) {ad : Nat → Nat} (hAD : ADok N0 ad) (sz : Nat) (g : CS) (i : Nat) (hi : i < 15) (j : Nat) (hj : j < 15) (k : Nat) (hk : k < 15) : Met l yX0_becomeProduct (wsy yX0_becomeProduct cX0_becomeProduct 3 none) ({ frames := 3, cells := 0, slots := 0, locals := 76 } : Room) (cP D tk N0 sa [.ref (ad i), .ref (ad j), .ref (ad k)] sz (fun H => CW D tk ad g H)) (kQv (fun H => CW D tk ad (f_mul g i j k) H) (cwA ad sz)) (0) (0) (cwA ad sz) := by
  refine mStart RX0 rfl (by decide +kernel) (Nat.le_of_ble_eq_true rfl) ?_
  intro p e s m args below meth c E hr hlk hnm hsz hC hF ls hl
  subst hsz
  obtain ⟨hx, hb, -⟩ := id E
  have hA : ∀ q, (cwA ad s.heap.size) q → N0 ≤ q := cwA.ge hAD hC.2.1
  have hn : ∀ q, s.heap.size ≤ q → (cwA ad s.heap.size) q := fun q h => Or.inr h
  have hS : va_S (cwA ad s.heap.size) s.heap s.heap [] := va_S.rf
  have hl : lv_has ls 3 [(0, .ref (ad i)), (1, .ref (ad j)), (2, .ref (ad k))] := hl
  have hW : CW D tk ad g s.heap := hF
  refine lv_aload_n (pc := 0) hx hb dX0_becomeProduct_0 rfl (lv_at hl 0 rfl) ?_
  refine lv_aload_n (pc := 1) hx hb dX0_becomeProduct_1 rfl (lv_at hl 1 rfl) ?_
  refine r_get (pc := 2) E hC (hW.fr (i := j) hj) 0 (v := .long (tT g j)) rfl rfl (by decide) uX0 (List.mem_cons_of_mem _ kw_50) (fun _ h => h) dX0_becomeProduct_2 ?_
  refine lv_aload_n (pc := 5) hx hb dX0_becomeProduct_5 rfl (lv_at hl 2 rfl) ?_
  refine r_get (pc := 6) E hC (hW.fr (i := k) hk) 0 (v := .long (tT g k)) rfl rfl (by decide) uX0 (List.mem_cons_of_mem _ kw_50) (fun _ h => h) dX0_becomeProduct_6 ?_
  refine lv_lmul (pc := 9) hx hb dX0_becomeProduct_9 ?_
  refine lv_aload_n (pc := 10) hx hb dX0_becomeProduct_10 rfl (lv_at hl 1 rfl) ?_
  refine r_get (pc := 11) E hC (hW.fr (i := j) hj) 1 (v := .long (tB g j)) rfl rfl (by decide) uX0 (List.mem_cons_of_mem _ kw_53) (fun _ h => h) dX0_becomeProduct_11 ?_
  refine lv_aload_n (pc := 14) hx hb dX0_becomeProduct_14 rfl (lv_at hl 2 rfl) ?_
  refine r_get (pc := 15) E hC (hW.fr (i := k) hk) 1 (v := .long (tB g k)) rfl rfl (by decide) uX0 (List.mem_cons_of_mem _ kw_53) (fun _ h => h) dX0_becomeProduct_15 ?_
  refine lv_lmul (pc := 18) hx hb dX0_becomeProduct_18 ?_
  refine k_v (pc := 19) (k_V E hC hS hA hl.1 (c1.recv hC (hW.fr (i := i) hi) rfl) rfl (c_X0_become l D tk N0 sa hAD s.heap.size g i hi ((tT g j) * (tT g k)) ((tB g j) * (tB g k)) ) kw_593 kw_495 kw_496 kw_2 kw_497 (n := 2) (by decide +kernel) rfl ⟨⟨rfl, rfl⟩, ⟨by decide, by decide⟩, by decide, by decide⟩ rfl (Nat.le_of_ble_eq_true rfl) hW dX0_becomeProduct_19) hS (fun q _ w => cwA.go hS.1 q w) hn (fun H locs hR hz hk hS => ?_)
  have hW := hR
  obtain ⟨g_3, eg_3⟩ : ∃ z, z = f_become g i ((tT g j) * (tT g k)) ((tB g j) * (tB g k)) := ⟨_, rfl⟩
  rw [← eg_3] at hW
  refine r_vret (pc := 22) E hr hlk hS (by decide) (by decide) ?_ dX0_becomeProduct_22
  exact hW.to (by subst eg_3; first | with_reducible rfl | (simp [f_mul, p_TB, p_TV, p_TC, p_TI, p_BT, p_BV, p_BC, p_BI, p_VT, p_VB, p_VC, p_VI, p_CT, p_CB, p_CV, p_CI, p_IT, p_IB, p_IV, p_IC, p_TT, p_BB, p_CC, p_II]; done))

set_option maxHeartbeats 4000000 in
set_option maxRecDepth 100000 in
/-- Bestratios$Fraction.becomeQuotient(LBestratios$Fraction;LBestratios$Fraction;)V -/
theorem c_X0_becomeQuotient (l : Launch) (D : va_G) (tk : Nat → ClassId) (N0 : Nat) (sa : Nat → Nat) {ad : Nat → Nat} (hAD : ADok N0 ad) (sz : Nat) (g : CS) (i : Nat) (hi : i < 15) (j : Nat) (hj : j < 15) (k : Nat) (hk : k < 15) : Met l yX0_becomeQuotient (wsy yX0_becomeQuotient cX0_becomeQuotient 3 none) ({ frames := 3, cells := 0, slots := 0, locals := 76 } : Room) (cP D tk N0 sa [.ref (ad i), .ref (ad j), .ref (ad k)] sz (fun H => CW D tk ad g H)) (kQv (fun H => CW D tk ad (f_quo g i j k) H) (cwA ad sz)) (0) (0) (cwA ad sz) := by
  refine mStart RX0 rfl (by decide +kernel) (Nat.le_of_ble_eq_true rfl) ?_
  intro p e s m args below meth c E hr hlk hnm hsz hC hF ls hl
  subst hsz
  obtain ⟨hx, hb, -⟩ := id E
  have hA : ∀ q, (cwA ad s.heap.size) q → N0 ≤ q := cwA.ge hAD hC.2.1
  have hn : ∀ q, s.heap.size ≤ q → (cwA ad s.heap.size) q := fun q h => Or.inr h
  have hS : va_S (cwA ad s.heap.size) s.heap s.heap [] := va_S.rf
  have hl : lv_has ls 3 [(0, .ref (ad i)), (1, .ref (ad j)), (2, .ref (ad k))] := hl
  have hW : CW D tk ad g s.heap := hF
  refine lv_aload_n (pc := 0) hx hb dX0_becomeQuotient_0 rfl (lv_at hl 0 rfl) ?_
  refine lv_aload_n (pc := 1) hx hb dX0_becomeQuotient_1 rfl (lv_at hl 1 rfl) ?_
  refine r_get (pc := 2) E hC (hW.fr (i := j) hj) 0 (v := .long (tT g j)) rfl rfl (by decide) uX0 (List.mem_cons_of_mem _ kw_50) (fun _ h => h) dX0_becomeQuotient_2 ?_
  refine lv_aload_n (pc := 5) hx hb dX0_becomeQuotient_5 rfl (lv_at hl 2 rfl) ?_
  refine r_get (pc := 6) E hC (hW.fr (i := k) hk) 1 (v := .long (tB g k)) rfl rfl (by decide) uX0 (List.mem_cons_of_mem _ kw_53) (fun _ h => h) dX0_becomeQuotient_6 ?_
  refine lv_lmul (pc := 9) hx hb dX0_becomeQuotient_9 ?_
  refine lv_aload_n (pc := 10) hx hb dX0_becomeQuotient_10 rfl (lv_at hl 1 rfl) ?_
  refine r_get (pc := 11) E hC (hW.fr (i := j) hj) 1 (v := .long (tB g j)) rfl rfl (by decide) uX0 (List.mem_cons_of_mem _ kw_53) (fun _ h => h) dX0_becomeQuotient_11 ?_
  refine lv_aload_n (pc := 14) hx hb dX0_becomeQuotient_14 rfl (lv_at hl 2 rfl) ?_
  refine r_get (pc := 15) E hC (hW.fr (i := k) hk) 0 (v := .long (tT g k)) rfl rfl (by decide) uX0 (List.mem_cons_of_mem _ kw_50) (fun _ h => h) dX0_becomeQuotient_15 ?_
  refine lv_lmul (pc := 18) hx hb dX0_becomeQuotient_18 ?_
  refine k_v (pc := 19) (k_V E hC hS hA hl.1 (c1.recv hC (hW.fr (i := i) hi) rfl) rfl (c_X0_become l D tk N0 sa hAD s.heap.size g i hi ((tT g j) * (tB g k)) ((tB g j) * (tT g k)) ) kw_593 kw_495 kw_496 kw_2 kw_497 (n := 2) (by decide +kernel) rfl ⟨⟨rfl, rfl⟩, ⟨by decide, by decide⟩, by decide, by decide⟩ rfl (Nat.le_of_ble_eq_true rfl) hW dX0_becomeQuotient_19) hS (fun q _ w => cwA.go hS.1 q w) hn (fun H locs hR hz hk hS => ?_)
  have hW := hR
  obtain ⟨g_3, eg_3⟩ : ∃ z, z = f_become g i ((tT g j) * (tB g k)) ((tB g j) * (tT g k)) := ⟨_, rfl⟩
  rw [← eg_3] at hW
  refine r_vret (pc := 22) E hr hlk hS (by decide) (by decide) ?_ dX0_becomeQuotient_22
  exact hW.to (by subst eg_3; first | with_reducible rfl | (simp [f_quo, p_TB, p_TV, p_TC, p_TI, p_BT, p_BV, p_BC, p_BI, p_VT, p_VB, p_VC, p_VI, p_CT, p_CB, p_CV, p_CI, p_IT, p_IB, p_IV, p_IC, p_TT, p_BB, p_CC, p_II]; done))

set_option maxHeartbeats 4000000 in
set_option maxRecDepth 100000 in
/-- Bestratios$Fraction.becomeMediant(LBestratios$Fraction;LBestratios$Fraction;)V -/
theorem c_X0_becomeMediant (l : Launch) (D : va_G) (tk : Nat → ClassId) (N0 : Nat) (sa : Nat → Nat) {ad : Nat → Nat} (hAD : ADok N0 ad) (sz : Nat) (g : CS) (i : Nat) (hi : i < 15) (j : Nat) (hj : j < 15) (k : Nat) (hk : k < 15) : Met l yX0_becomeMediant (wsy yX0_becomeMediant cX0_becomeMediant 3 none) ({ frames := 3, cells := 0, slots := 0, locals := 76 } : Room) (cP D tk N0 sa [.ref (ad i), .ref (ad j), .ref (ad k)] sz (fun H => CW D tk ad g H)) (kQv (fun H => CW D tk ad (f_med g i j k) H) (cwA ad sz)) (0) (0) (cwA ad sz) := by
  refine mStart RX0 rfl (by decide +kernel) (Nat.le_of_ble_eq_true rfl) ?_
  intro p e s m args below meth c E hr hlk hnm hsz hC hF ls hl
  subst hsz
  obtain ⟨hx, hb, -⟩ := id E
  have hA : ∀ q, (cwA ad s.heap.size) q → N0 ≤ q := cwA.ge hAD hC.2.1
  have hn : ∀ q, s.heap.size ≤ q → (cwA ad s.heap.size) q := fun q h => Or.inr h
  have hS : va_S (cwA ad s.heap.size) s.heap s.heap [] := va_S.rf
  have hl : lv_has ls 3 [(0, .ref (ad i)), (1, .ref (ad j)), (2, .ref (ad k))] := hl
  have hW : CW D tk ad g s.heap := hF
  refine lv_aload_n (pc := 0) hx hb dX0_becomeMediant_0 rfl (lv_at hl 0 rfl) ?_
  refine lv_aload_n (pc := 1) hx hb dX0_becomeMediant_1 rfl (lv_at hl 1 rfl) ?_
  refine r_get (pc := 2) E hC (hW.fr (i := j) hj) 0 (v := .long (tT g j)) rfl rfl (by decide) uX0 (List.mem_cons_of_mem _ kw_50) (fun _ h => h) dX0_becomeMediant_2 ?_
  refine lv_aload_n (pc := 5) hx hb dX0_becomeMediant_5 rfl (lv_at hl 2 rfl) ?_
  refine r_get (pc := 6) E hC (hW.fr (i := k) hk) 0 (v := .long (tT g k)) rfl rfl (by decide) uX0 (List.mem_cons_of_mem _ kw_50) (fun _ h => h) dX0_becomeMediant_6 ?_
  refine lv_ladd (pc := 9) hx hb dX0_becomeMediant_9 ?_
  refine lv_aload_n (pc := 10) hx hb dX0_becomeMediant_10 rfl (lv_at hl 1 rfl) ?_
  refine r_get (pc := 11) E hC (hW.fr (i := j) hj) 1 (v := .long (tB g j)) rfl rfl (by decide) uX0 (List.mem_cons_of_mem _ kw_53) (fun _ h => h) dX0_becomeMediant_11 ?_
  refine lv_aload_n (pc := 14) hx hb dX0_becomeMediant_14 rfl (lv_at hl 2 rfl) ?_
  refine r_get (pc := 15) E hC (hW.fr (i := k) hk) 1 (v := .long (tB g k)) rfl rfl (by decide) uX0 (List.mem_cons_of_mem _ kw_53) (fun _ h => h) dX0_becomeMediant_15 ?_
  refine lv_ladd (pc := 18) hx hb dX0_becomeMediant_18 ?_
  refine k_v (pc := 19) (k_V E hC hS hA hl.1 (c1.recv hC (hW.fr (i := i) hi) rfl) rfl (c_X0_become l D tk N0 sa hAD s.heap.size g i hi ((tT g j) + (tT g k)) ((tB g j) + (tB g k)) ) kw_593 kw_495 kw_496 kw_2 kw_497 (n := 2) (by decide +kernel) rfl ⟨⟨rfl, rfl⟩, ⟨by decide, by decide⟩, by decide, by decide⟩ rfl (Nat.le_of_ble_eq_true rfl) hW dX0_becomeMediant_19) hS (fun q _ w => cwA.go hS.1 q w) hn (fun H locs hR hz hk hS => ?_)
  have hW := hR
  obtain ⟨g_3, eg_3⟩ : ∃ z, z = f_become g i ((tT g j) + (tT g k)) ((tB g j) + (tB g k)) := ⟨_, rfl⟩
  rw [← eg_3] at hW
  refine r_vret (pc := 22) E hr hlk hS (by decide) (by decide) ?_ dX0_becomeMediant_22
  exact hW.to (by subst eg_3; first | with_reducible rfl | (simp [f_med, p_TB, p_TV, p_TC, p_TI, p_BT, p_BV, p_BC, p_BI, p_VT, p_VB, p_VC, p_VI, p_CT, p_CB, p_CV, p_CI, p_IT, p_IB, p_IV, p_IC, p_TT, p_BB, p_CC, p_II]; done))

set_option maxHeartbeats 4000000 in
set_option maxRecDepth 100000 in
/-- Bestratios$Fraction.becomePower(LBestratios$Fraction;I)V -/
theorem c_X0_becomePower (l : Launch) (D : va_G) (tk : Nat → ClassId) (N0 : Nat) (sa : Nat → Nat) {ad : Nat → Nat} (hAD : ADok N0 ad) (sz : Nat) (g : CS) (i : Nat) (hi : i < 15) (j : Nat) (hj : j < 15) (ex : Int32) : Met l yX0_becomePower (wsy yX0_becomePower cX0_becomePower 8 none) ({ frames := 3, cells := 0, slots := 0, locals := 76 } : Room) (cP D tk N0 sa [.ref (ad i), .ref (ad j), .int ex] sz (fun H => CW D tk ad g H)) (kQv (fun H => CW D tk ad (f_power g i j ex) H) (cwA ad sz)) (0) (0) (cwA ad sz) := by
  refine mStart RX0 rfl (by decide +kernel) (Nat.le_of_ble_eq_true rfl) ?_
  intro p e s m args below meth c E hr hlk hnm hsz hC hF ls hl
  subst hsz
  obtain ⟨hx, hb, -⟩ := id E
  have hA : ∀ q, (cwA ad s.heap.size) q → N0 ≤ q := cwA.ge hAD hC.2.1
  have hn : ∀ q, s.heap.size ≤ q → (cwA ad s.heap.size) q := fun q h => Or.inr h
  have hS : va_S (cwA ad s.heap.size) s.heap s.heap [] := va_S.rf
  have hl : lv_has ls 8 [(0, .ref (ad i)), (1, .ref (ad j)), (2, .int ex)] := hl
  have hW : CW D tk ad g s.heap := hF
  refine lv_iload_n (pc := 0) hx hb dX0_becomePower_0 rfl (lv_at hl 2 rfl) ?_
  refine lv_if_ge (pc := 1) (tgt := 9) hx hb dX0_becomePower_1 (by decide) (fun c_1 => ?_) (fun c_1 => ?_)
  · refine lv_iload_n (pc := 9) hx hb dX0_becomePower_9 rfl (lv_at hl 2 rfl) ?_
    refine lv_istore_n (pc := 10) (lv' := [(3, .int ex), (0, .ref (ad i)), (1, .ref (ad j)), (2, .int ex)]) hx hb dX0_becomePower_10 rfl hl (by decide) rfl (fun ls hl => ?_)
    refine lv_aload_n (pc := 11) hx hb dX0_becomePower_11 rfl (lv_at hl 2 rfl) ?_
    refine r_get (pc := 12) E hC (hW.fr (i := j) hj) 0 (v := .long (tT g j)) rfl rfl (by decide) uX0 (List.mem_cons_of_mem _ kw_50) (fun _ h => h) dX0_becomePower_12 ?_
    refine lv_lconst (pc := 15) (v := 0) hx hb dX0_becomePower_15 (by decide) ?_
    refine r_lcge (pc := 16) (tgt := 28) E dX0_becomePower_16 dX0_becomePower_17 (by decide) (fun c_2 => ?_) (fun c_2 => ?_)
    · refine lv_aload_n (pc := 28) hx hb dX0_becomePower_28 rfl (lv_at hl 2 rfl) ?_
      refine r_get (pc := 29) E hC (hW.fr (i := j) hj) 0 (v := .long (tT g j)) rfl rfl (by decide) uX0 (List.mem_cons_of_mem _ kw_50) (fun _ h => h) dX0_becomePower_29 ?_
      refine lv_iload_n (pc := 32) hx hb dX0_becomePower_32 rfl (lv_at hl 0 rfl) ?_
      refine k_l (pc := 33) (k_SN "Bestratios" E hC hS hA hl.1 (c_X3_powerToLimit l D tk N0 sa s.heap.size (tT g j) ex ) kn_930 kw_931 kw_1 kw_932 (n := 2) (by decide +kernel) rfl ⟨⟨rfl, rfl⟩, ⟨by decide, by decide⟩, by decide, by decide⟩ rfl (Nat.le_of_ble_eq_true rfl) trivial dX0_becomePower_33) hS (fun q z w => absurd w (Nat.not_le.mpr z)) hn (fun r_3 H locs hR hz hk hS => ?_)
      have er_3 := hR
      have hW := hW.new hk
      refine lv_lstore (pc := 36) (lv' := [(4, .long r_3), (3, .int ex), (0, .ref (ad i)), (1, .ref (ad j)), (2, .int ex)]) hx hb dX0_becomePower_36 hl (by decide) rfl (fun ls hl => ?_)
      refine lv_aload_n (pc := 38) hx hb dX0_becomePower_38 rfl (lv_at hl 3 rfl) ?_
      refine r_get (pc := 39) E hC (hW.fr (i := j) hj) 1 (v := .long (tB g j)) rfl rfl (by decide) uX0 (List.mem_cons_of_mem _ kw_53) (fun _ h => h) dX0_becomePower_39 ?_
      refine lv_iload_n (pc := 42) hx hb dX0_becomePower_42 rfl (lv_at hl 1 rfl) ?_
      refine k_l (pc := 43) (k_SN "Bestratios" E hC hS hA hl.1 (c_X3_powerToLimit l D tk N0 sa H.size (tB g j) ex ) kn_930 kw_931 kw_1 kw_932 (n := 2) (by decide +kernel) rfl ⟨⟨rfl, rfl⟩, ⟨by decide, by decide⟩, by decide, by decide⟩ rfl (Nat.le_of_ble_eq_true rfl) trivial dX0_becomePower_43) hS (fun q z w => absurd w (Nat.not_le.mpr z)) hn (fun r_5 H locs hR hz hk hS => ?_)
      have er_5 := hR
      have hW := hW.new hk
      refine lv_lstore (pc := 46) (lv' := [(6, .long r_5), (4, .long r_3), (3, .int ex), (0, .ref (ad i)), (1, .ref (ad j)), (2, .int ex)]) hx hb dX0_becomePower_46 hl (by decide) rfl (fun ls hl => ?_)
      refine lv_aload_n (pc := 48) hx hb dX0_becomePower_48 rfl (lv_at hl 4 rfl) ?_
      refine r_get (pc := 49) E hC (hW.fr (i := j) hj) 0 (v := .long (tT g j)) rfl rfl (by decide) uX0 (List.mem_cons_of_mem _ kw_50) (fun _ h => h) dX0_becomePower_49 ?_
      refine lv_lconst (pc := 52) (v := 0) hx hb dX0_becomePower_52 (by decide) ?_
      refine r_lcge (pc := 53) (tgt := 69) E dX0_becomePower_53 dX0_becomePower_54 (by decide) (fun c_7 => ?_) (fun c_7 => ?_)
      rotate_left
      · exact absurd c_2 c_7
      refine lv_iload_n (pc := 69) hx hb dX0_becomePower_69 rfl (lv_at hl 5 rfl) ?_
      refine lv_if_ge (pc := 70) (tgt := 84) hx hb dX0_becomePower_70 (by decide) (fun c_8 => ?_) (fun c_8 => ?_)
      rotate_left
      · exact absurd c_1 c_8
      refine lv_aload_n (pc := 84) hx hb dX0_becomePower_84 rfl (lv_at hl 3 rfl) ?_
      refine lv_lload (pc := 85) hx hb dX0_becomePower_85 (lv_at hl 1 rfl) ?_
      refine lv_lload (pc := 87) hx hb dX0_becomePower_87 (lv_at hl 0 rfl) ?_
      refine k_v (pc := 89) (k_V E hC hS hA hl.1 (c1.recv hC (hW.fr (i := i) hi) rfl) rfl (c_X0_become l D tk N0 sa hAD H.size g i hi r_3 r_5 ) kw_593 kw_495 kw_496 kw_2 kw_497 (n := 2) (by decide +kernel) rfl ⟨⟨rfl, rfl⟩, ⟨by decide, by decide⟩, by decide, by decide⟩ rfl (Nat.le_of_ble_eq_true rfl) hW dX0_becomePower_89) hS (fun q _ w => cwA.go hS.1 q w) hn (fun H locs hR hz hk hS => ?_)
      have hW := hR
      obtain ⟨g_11, eg_11⟩ : ∃ z, z = f_become g i r_3 r_5 := ⟨_, rfl⟩
      rw [← eg_11] at hW
      refine r_vret (pc := 92) E hr hlk hS (by decide) (by decide) ?_ dX0_becomePower_92
      exact hW.to (by subst er_3 er_5 eg_11; first | with_reducible rfl | (simp [f_power, f_powT, f_abs32, absL, c_1, Int32.not_lt.mpr c_1, c_2, Int64.not_lt.mpr c_2, p_TB, p_TV, p_TC, p_TI, p_BT, p_BV, p_BC, p_BI, p_VT, p_VB, p_VC, p_VI, p_CT, p_CB, p_CV, p_CI, p_IT, p_IB, p_IV, p_IC, p_TT, p_BB, p_CC, p_II]; done))
    · refine lv_aload_n (pc := 20) hx hb dX0_becomePower_20 rfl (lv_at hl 2 rfl) ?_
      refine r_get (pc := 21) E hC (hW.fr (i := j) hj) 0 (v := .long (tT g j)) rfl rfl (by decide) uX0 (List.mem_cons_of_mem _ kw_50) (fun _ h => h) dX0_becomePower_21 ?_
      refine lv_lneg (pc := 24) hx hb dX0_becomePower_24 ?_
      refine lv_goto (pc := 25) (tgt := 32) hx hb dX0_becomePower_25 (by decide) ?_
      refine lv_iload_n (pc := 32) hx hb dX0_becomePower_32 rfl (lv_at hl 0 rfl) ?_
      refine k_l (pc := 33) (k_SN "Bestratios" E hC hS hA hl.1 (c_X3_powerToLimit l D tk N0 sa s.heap.size (-(tT g j)) ex ) kn_930 kw_931 kw_1 kw_932 (n := 2) (by decide +kernel) rfl ⟨⟨rfl, rfl⟩, ⟨by decide, by decide⟩, by decide, by decide⟩ rfl (Nat.le_of_ble_eq_true rfl) trivial dX0_becomePower_33) hS (fun q z w => absurd w (Nat.not_le.mpr z)) hn (fun r_12 H locs hR hz hk hS => ?_)
      have er_12 := hR
      have hW := hW.new hk
      refine lv_lstore (pc := 36) (lv' := [(4, .long r_12), (3, .int ex), (0, .ref (ad i)), (1, .ref (ad j)), (2, .int ex)]) hx hb dX0_becomePower_36 hl (by decide) rfl (fun ls hl => ?_)
      refine lv_aload_n (pc := 38) hx hb dX0_becomePower_38 rfl (lv_at hl 3 rfl) ?_
      refine r_get (pc := 39) E hC (hW.fr (i := j) hj) 1 (v := .long (tB g j)) rfl rfl (by decide) uX0 (List.mem_cons_of_mem _ kw_53) (fun _ h => h) dX0_becomePower_39 ?_
      refine lv_iload_n (pc := 42) hx hb dX0_becomePower_42 rfl (lv_at hl 1 rfl) ?_
      refine k_l (pc := 43) (k_SN "Bestratios" E hC hS hA hl.1 (c_X3_powerToLimit l D tk N0 sa H.size (tB g j) ex ) kn_930 kw_931 kw_1 kw_932 (n := 2) (by decide +kernel) rfl ⟨⟨rfl, rfl⟩, ⟨by decide, by decide⟩, by decide, by decide⟩ rfl (Nat.le_of_ble_eq_true rfl) trivial dX0_becomePower_43) hS (fun q z w => absurd w (Nat.not_le.mpr z)) hn (fun r_14 H locs hR hz hk hS => ?_)
      have er_14 := hR
      have hW := hW.new hk
      refine lv_lstore (pc := 46) (lv' := [(6, .long r_14), (4, .long r_12), (3, .int ex), (0, .ref (ad i)), (1, .ref (ad j)), (2, .int ex)]) hx hb dX0_becomePower_46 hl (by decide) rfl (fun ls hl => ?_)
      refine lv_aload_n (pc := 48) hx hb dX0_becomePower_48 rfl (lv_at hl 4 rfl) ?_
      refine r_get (pc := 49) E hC (hW.fr (i := j) hj) 0 (v := .long (tT g j)) rfl rfl (by decide) uX0 (List.mem_cons_of_mem _ kw_50) (fun _ h => h) dX0_becomePower_49 ?_
      refine lv_lconst (pc := 52) (v := 0) hx hb dX0_becomePower_52 (by decide) ?_
      refine r_lcge (pc := 53) (tgt := 69) E dX0_becomePower_53 dX0_becomePower_54 (by decide) (fun c_16 => ?_) (fun c_16 => ?_)
      · exact absurd c_16 c_2
      refine lv_iload_n (pc := 57) hx hb dX0_becomePower_57 rfl (lv_at hl 2 rfl) ?_
      refine lv_iconst (pc := 58) (v := 1) hx hb dX0_becomePower_58 (by decide) ?_
      refine lv_iand (pc := 59) hx hb dX0_becomePower_59 ?_
      refine lv_iconst (pc := 60) (v := 1) hx hb dX0_becomePower_60 (by decide) ?_
      refine lv_icmp_ne (pc := 61) (tgt := 69) hx hb dX0_becomePower_61 (by decide) (fun c_17 => ?_) (fun c_17 => ?_)
      · refine lv_iload_n (pc := 69) hx hb dX0_becomePower_69 rfl (lv_at hl 5 rfl) ?_
        refine lv_if_ge (pc := 70) (tgt := 84) hx hb dX0_becomePower_70 (by decide) (fun c_18 => ?_) (fun c_18 => ?_)
        rotate_left
        · exact absurd c_1 c_18
        refine lv_aload_n (pc := 84) hx hb dX0_becomePower_84 rfl (lv_at hl 3 rfl) ?_
        refine lv_lload (pc := 85) hx hb dX0_becomePower_85 (lv_at hl 1 rfl) ?_
        refine lv_lload (pc := 87) hx hb dX0_becomePower_87 (lv_at hl 0 rfl) ?_
        refine k_v (pc := 89) (k_V E hC hS hA hl.1 (c1.recv hC (hW.fr (i := i) hi) rfl) rfl (c_X0_become l D tk N0 sa hAD H.size g i hi r_12 r_14 ) kw_593 kw_495 kw_496 kw_2 kw_497 (n := 2) (by decide +kernel) rfl ⟨⟨rfl, rfl⟩, ⟨by decide, by decide⟩, by decide, by decide⟩ rfl (Nat.le_of_ble_eq_true rfl) hW dX0_becomePower_89) hS (fun q _ w => cwA.go hS.1 q w) hn (fun H locs hR hz hk hS => ?_)
        have hW := hR
        obtain ⟨g_21, eg_21⟩ : ∃ z, z = f_become g i r_12 r_14 := ⟨_, rfl⟩
        rw [← eg_21] at hW
        refine r_vret (pc := 92) E hr hlk hS (by decide) (by decide) ?_ dX0_becomePower_92
        exact hW.to (by subst er_12 er_14 eg_21; first | with_reducible rfl | (simp [f_power, f_powT, f_abs32, absL, c_1, Int32.not_lt.mpr c_1, c_2, Int64.not_le.mp c_2, c_17, p_TB, p_TV, p_TC, p_TI, p_BT, p_BV, p_BC, p_BI, p_VT, p_VB, p_VC, p_VI, p_CT, p_CB, p_CV, p_CI, p_IT, p_IB, p_IV, p_IC, p_TT, p_BB, p_CC, p_II]; done))
      · refine lv_lload (pc := 64) hx hb dX0_becomePower_64 (lv_at hl 1 rfl) ?_
        refine lv_lneg (pc := 66) hx hb dX0_becomePower_66 ?_
        obtain ⟨x_22, ex_22⟩ : ∃ z9 : Int64, z9 = -r_12 := ⟨_, rfl⟩
        rw [← ex_22]
        refine lv_lstore (pc := 67) (lv' := [(4, .long x_22), (6, .long r_14), (3, .int ex), (0, .ref (ad i)), (1, .ref (ad j)), (2, .int ex)]) hx hb dX0_becomePower_67 hl (by decide) rfl (fun ls hl => ?_)
        refine lv_iload_n (pc := 69) hx hb dX0_becomePower_69 rfl (lv_at hl 5 rfl) ?_
        refine lv_if_ge (pc := 70) (tgt := 84) hx hb dX0_becomePower_70 (by decide) (fun c_23 => ?_) (fun c_23 => ?_)
        rotate_left
        · exact absurd c_1 c_23
        refine lv_aload_n (pc := 84) hx hb dX0_becomePower_84 rfl (lv_at hl 3 rfl) ?_
        refine lv_lload (pc := 85) hx hb dX0_becomePower_85 (lv_at hl 0 rfl) ?_
        refine lv_lload (pc := 87) hx hb dX0_becomePower_87 (lv_at hl 1 rfl) ?_
        refine k_v (pc := 89) (k_V E hC hS hA hl.1 (c1.recv hC (hW.fr (i := i) hi) rfl) rfl (c_X0_become l D tk N0 sa hAD H.size g i hi x_22 r_14 ) kw_593 kw_495 kw_496 kw_2 kw_497 (n := 2) (by decide +kernel) rfl ⟨⟨rfl, rfl⟩, ⟨by decide, by decide⟩, by decide, by decide⟩ rfl (Nat.le_of_ble_eq_true rfl) hW dX0_becomePower_89) hS (fun q _ w => cwA.go hS.1 q w) hn (fun H locs hR hz hk hS => ?_)
        have hW := hR
        obtain ⟨g_26, eg_26⟩ : ∃ z, z = f_become g i x_22 r_14 := ⟨_, rfl⟩
        rw [← eg_26] at hW
        refine r_vret (pc := 92) E hr hlk hS (by decide) (by decide) ?_ dX0_becomePower_92
        exact hW.to (by subst er_12 er_14 ex_22 eg_26; first | with_reducible rfl | (simp [f_power, f_powT, f_abs32, absL, c_1, Int32.not_lt.mpr c_1, c_2, Int64.not_le.mp c_2, c_17, p_TB, p_TV, p_TC, p_TI, p_BT, p_BV, p_BC, p_BI, p_VT, p_VB, p_VC, p_VI, p_CT, p_CB, p_CV, p_CI, p_IT, p_IB, p_IV, p_IC, p_TT, p_BB, p_CC, p_II]; done))
  · refine lv_iload_n (pc := 4) hx hb dX0_becomePower_4 rfl (lv_at hl 2 rfl) ?_
    refine lv_ineg (pc := 5) hx hb dX0_becomePower_5 ?_
    refine lv_goto (pc := 6) (tgt := 10) hx hb dX0_becomePower_6 (by decide) ?_
    obtain ⟨x_27, ex_27⟩ : ∃ z9 : Int32, z9 = -ex := ⟨_, rfl⟩
    rw [← ex_27]
    refine lv_istore_n (pc := 10) (lv' := [(3, .int x_27), (0, .ref (ad i)), (1, .ref (ad j)), (2, .int ex)]) hx hb dX0_becomePower_10 rfl hl (by decide) rfl (fun ls hl => ?_)
    refine lv_aload_n (pc := 11) hx hb dX0_becomePower_11 rfl (lv_at hl 2 rfl) ?_
    refine r_get (pc := 12) E hC (hW.fr (i := j) hj) 0 (v := .long (tT g j)) rfl rfl (by decide) uX0 (List.mem_cons_of_mem _ kw_50) (fun _ h => h) dX0_becomePower_12 ?_
    refine lv_lconst (pc := 15) (v := 0) hx hb dX0_becomePower_15 (by decide) ?_
    refine r_lcge (pc := 16) (tgt := 28) E dX0_becomePower_16 dX0_becomePower_17 (by decide) (fun c_28 => ?_) (fun c_28 => ?_)
    · refine lv_aload_n (pc := 28) hx hb dX0_becomePower_28 rfl (lv_at hl 2 rfl) ?_
      refine r_get (pc := 29) E hC (hW.fr (i := j) hj) 0 (v := .long (tT g j)) rfl rfl (by decide) uX0 (List.mem_cons_of_mem _ kw_50) (fun _ h => h) dX0_becomePower_29 ?_
      refine lv_iload_n (pc := 32) hx hb dX0_becomePower_32 rfl (lv_at hl 0 rfl) ?_
      refine k_l (pc := 33) (k_SN "Bestratios" E hC hS hA hl.1 (c_X3_powerToLimit l D tk N0 sa s.heap.size (tT g j) x_27 ) kn_930 kw_931 kw_1 kw_932 (n := 2) (by decide +kernel) rfl ⟨⟨rfl, rfl⟩, ⟨by decide, by decide⟩, by decide, by decide⟩ rfl (Nat.le_of_ble_eq_true rfl) trivial dX0_becomePower_33) hS (fun q z w => absurd w (Nat.not_le.mpr z)) hn (fun r_29 H locs hR hz hk hS => ?_)
      have er_29 := hR
      have hW := hW.new hk
      refine lv_lstore (pc := 36) (lv' := [(4, .long r_29), (3, .int x_27), (0, .ref (ad i)), (1, .ref (ad j)), (2, .int ex)]) hx hb dX0_becomePower_36 hl (by decide) rfl (fun ls hl => ?_)
      refine lv_aload_n (pc := 38) hx hb dX0_becomePower_38 rfl (lv_at hl 3 rfl) ?_
      refine r_get (pc := 39) E hC (hW.fr (i := j) hj) 1 (v := .long (tB g j)) rfl rfl (by decide) uX0 (List.mem_cons_of_mem _ kw_53) (fun _ h => h) dX0_becomePower_39 ?_
      refine lv_iload_n (pc := 42) hx hb dX0_becomePower_42 rfl (lv_at hl 1 rfl) ?_
      refine k_l (pc := 43) (k_SN "Bestratios" E hC hS hA hl.1 (c_X3_powerToLimit l D tk N0 sa H.size (tB g j) x_27 ) kn_930 kw_931 kw_1 kw_932 (n := 2) (by decide +kernel) rfl ⟨⟨rfl, rfl⟩, ⟨by decide, by decide⟩, by decide, by decide⟩ rfl (Nat.le_of_ble_eq_true rfl) trivial dX0_becomePower_43) hS (fun q z w => absurd w (Nat.not_le.mpr z)) hn (fun r_31 H locs hR hz hk hS => ?_)
      have er_31 := hR
      have hW := hW.new hk
      refine lv_lstore (pc := 46) (lv' := [(6, .long r_31), (4, .long r_29), (3, .int x_27), (0, .ref (ad i)), (1, .ref (ad j)), (2, .int ex)]) hx hb dX0_becomePower_46 hl (by decide) rfl (fun ls hl => ?_)
      refine lv_aload_n (pc := 48) hx hb dX0_becomePower_48 rfl (lv_at hl 4 rfl) ?_
      refine r_get (pc := 49) E hC (hW.fr (i := j) hj) 0 (v := .long (tT g j)) rfl rfl (by decide) uX0 (List.mem_cons_of_mem _ kw_50) (fun _ h => h) dX0_becomePower_49 ?_
      refine lv_lconst (pc := 52) (v := 0) hx hb dX0_becomePower_52 (by decide) ?_
      refine r_lcge (pc := 53) (tgt := 69) E dX0_becomePower_53 dX0_becomePower_54 (by decide) (fun c_33 => ?_) (fun c_33 => ?_)
      rotate_left
      · exact absurd c_28 c_33
      refine lv_iload_n (pc := 69) hx hb dX0_becomePower_69 rfl (lv_at hl 5 rfl) ?_
      refine lv_if_ge (pc := 70) (tgt := 84) hx hb dX0_becomePower_70 (by decide) (fun c_34 => ?_) (fun c_34 => ?_)
      · exact absurd c_34 c_1
      refine lv_aload_n (pc := 73) hx hb dX0_becomePower_73 rfl (lv_at hl 3 rfl) ?_
      refine lv_lload (pc := 74) hx hb dX0_becomePower_74 (lv_at hl 0 rfl) ?_
      refine lv_lload (pc := 76) hx hb dX0_becomePower_76 (lv_at hl 1 rfl) ?_
      refine k_v (pc := 78) (k_V E hC hS hA hl.1 (c1.recv hC (hW.fr (i := i) hi) rfl) rfl (c_X0_become l D tk N0 sa hAD H.size g i hi r_31 r_29 ) kw_593 kw_495 kw_496 kw_2 kw_497 (n := 2) (by decide +kernel) rfl ⟨⟨rfl, rfl⟩, ⟨by decide, by decide⟩, by decide, by decide⟩ rfl (Nat.le_of_ble_eq_true rfl) hW dX0_becomePower_78) hS (fun q _ w => cwA.go hS.1 q w) hn (fun H locs hR hz hk hS => ?_)
      have hW := hR
      obtain ⟨g_37, eg_37⟩ : ∃ z, z = f_become g i r_31 r_29 := ⟨_, rfl⟩
      rw [← eg_37] at hW
      refine lv_goto (pc := 81) (tgt := 92) hx hb dX0_becomePower_81 (by decide) ?_
      refine r_vret (pc := 92) E hr hlk hS (by decide) (by decide) ?_ dX0_becomePower_92
      exact hW.to (by subst ex_27 er_29 er_31 eg_37; first | with_reducible rfl | (simp [f_power, f_powT, f_abs32, absL, c_1, Int32.not_le.mp c_1, c_28, Int64.not_lt.mpr c_28, p_TB, p_TV, p_TC, p_TI, p_BT, p_BV, p_BC, p_BI, p_VT, p_VB, p_VC, p_VI, p_CT, p_CB, p_CV, p_CI, p_IT, p_IB, p_IV, p_IC, p_TT, p_BB, p_CC, p_II]; done))
    · refine lv_aload_n (pc := 20) hx hb dX0_becomePower_20 rfl (lv_at hl 2 rfl) ?_
      refine r_get (pc := 21) E hC (hW.fr (i := j) hj) 0 (v := .long (tT g j)) rfl rfl (by decide) uX0 (List.mem_cons_of_mem _ kw_50) (fun _ h => h) dX0_becomePower_21 ?_
      refine lv_lneg (pc := 24) hx hb dX0_becomePower_24 ?_
      refine lv_goto (pc := 25) (tgt := 32) hx hb dX0_becomePower_25 (by decide) ?_
      refine lv_iload_n (pc := 32) hx hb dX0_becomePower_32 rfl (lv_at hl 0 rfl) ?_
      refine k_l (pc := 33) (k_SN "Bestratios" E hC hS hA hl.1 (c_X3_powerToLimit l D tk N0 sa s.heap.size (-(tT g j)) x_27 ) kn_930 kw_931 kw_1 kw_932 (n := 2) (by decide +kernel) rfl ⟨⟨rfl, rfl⟩, ⟨by decide, by decide⟩, by decide, by decide⟩ rfl (Nat.le_of_ble_eq_true rfl) trivial dX0_becomePower_33) hS (fun q z w => absurd w (Nat.not_le.mpr z)) hn (fun r_38 H locs hR hz hk hS => ?_)
      have er_38 := hR
      have hW := hW.new hk
      refine lv_lstore (pc := 36) (lv' := [(4, .long r_38), (3, .int x_27), (0, .ref (ad i)), (1, .ref (ad j)), (2, .int ex)]) hx hb dX0_becomePower_36 hl (by decide) rfl (fun ls hl => ?_)
      refine lv_aload_n (pc := 38) hx hb dX0_becomePower_38 rfl (lv_at hl 3 rfl) ?_
      refine r_get (pc := 39) E hC (hW.fr (i := j) hj) 1 (v := .long (tB g j)) rfl rfl (by decide) uX0 (List.mem_cons_of_mem _ kw_53) (fun _ h => h) dX0_becomePower_39 ?_
      refine lv_iload_n (pc := 42) hx hb dX0_becomePower_42 rfl (lv_at hl 1 rfl) ?_
      refine k_l (pc := 43) (k_SN "Bestratios" E hC hS hA hl.1 (c_X3_powerToLimit l D tk N0 sa H.size (tB g j) x_27 ) kn_930 kw_931 kw_1 kw_932 (n := 2) (by decide +kernel) rfl ⟨⟨rfl, rfl⟩, ⟨by decide, by decide⟩, by decide, by decide⟩ rfl (Nat.le_of_ble_eq_true rfl) trivial dX0_becomePower_43) hS (fun q z w => absurd w (Nat.not_le.mpr z)) hn (fun r_40 H locs hR hz hk hS => ?_)
      have er_40 := hR
      have hW := hW.new hk
      refine lv_lstore (pc := 46) (lv' := [(6, .long r_40), (4, .long r_38), (3, .int x_27), (0, .ref (ad i)), (1, .ref (ad j)), (2, .int ex)]) hx hb dX0_becomePower_46 hl (by decide) rfl (fun ls hl => ?_)
      refine lv_aload_n (pc := 48) hx hb dX0_becomePower_48 rfl (lv_at hl 4 rfl) ?_
      refine r_get (pc := 49) E hC (hW.fr (i := j) hj) 0 (v := .long (tT g j)) rfl rfl (by decide) uX0 (List.mem_cons_of_mem _ kw_50) (fun _ h => h) dX0_becomePower_49 ?_
      refine lv_lconst (pc := 52) (v := 0) hx hb dX0_becomePower_52 (by decide) ?_
      refine r_lcge (pc := 53) (tgt := 69) E dX0_becomePower_53 dX0_becomePower_54 (by decide) (fun c_42 => ?_) (fun c_42 => ?_)
      · exact absurd c_42 c_28
      refine lv_iload_n (pc := 57) hx hb dX0_becomePower_57 rfl (lv_at hl 2 rfl) ?_
      refine lv_iconst (pc := 58) (v := 1) hx hb dX0_becomePower_58 (by decide) ?_
      refine lv_iand (pc := 59) hx hb dX0_becomePower_59 ?_
      refine lv_iconst (pc := 60) (v := 1) hx hb dX0_becomePower_60 (by decide) ?_
      refine lv_icmp_ne (pc := 61) (tgt := 69) hx hb dX0_becomePower_61 (by decide) (fun c_43 => ?_) (fun c_43 => ?_)
      · refine lv_iload_n (pc := 69) hx hb dX0_becomePower_69 rfl (lv_at hl 5 rfl) ?_
        refine lv_if_ge (pc := 70) (tgt := 84) hx hb dX0_becomePower_70 (by decide) (fun c_44 => ?_) (fun c_44 => ?_)
        · exact absurd c_44 c_1
        refine lv_aload_n (pc := 73) hx hb dX0_becomePower_73 rfl (lv_at hl 3 rfl) ?_
        refine lv_lload (pc := 74) hx hb dX0_becomePower_74 (lv_at hl 0 rfl) ?_
        refine lv_lload (pc := 76) hx hb dX0_becomePower_76 (lv_at hl 1 rfl) ?_
        refine k_v (pc := 78) (k_V E hC hS hA hl.1 (c1.recv hC (hW.fr (i := i) hi) rfl) rfl (c_X0_become l D tk N0 sa hAD H.size g i hi r_40 r_38 ) kw_593 kw_495 kw_496 kw_2 kw_497 (n := 2) (by decide +kernel) rfl ⟨⟨rfl, rfl⟩, ⟨by decide, by decide⟩, by decide, by decide⟩ rfl (Nat.le_of_ble_eq_true rfl) hW dX0_becomePower_78) hS (fun q _ w => cwA.go hS.1 q w) hn (fun H locs hR hz hk hS => ?_)
        have hW := hR
        obtain ⟨g_47, eg_47⟩ : ∃ z, z = f_become g i r_40 r_38 := ⟨_, rfl⟩
        rw [← eg_47] at hW
        refine lv_goto (pc := 81) (tgt := 92) hx hb dX0_becomePower_81 (by decide) ?_
        refine r_vret (pc := 92) E hr hlk hS (by decide) (by decide) ?_ dX0_becomePower_92
        exact hW.to (by subst ex_27 er_38 er_40 eg_47; first | with_reducible rfl | (simp [f_power, f_powT, f_abs32, absL, c_1, Int32.not_le.mp c_1, c_28, Int64.not_le.mp c_28, c_43, p_TB, p_TV, p_TC, p_TI, p_BT, p_BV, p_BC, p_BI, p_VT, p_VB, p_VC, p_VI, p_CT, p_CB, p_CV, p_CI, p_IT, p_IB, p_IV, p_IC, p_TT, p_BB, p_CC, p_II]; done))
      · refine lv_lload (pc := 64) hx hb dX0_becomePower_64 (lv_at hl 1 rfl) ?_
        refine lv_lneg (pc := 66) hx hb dX0_becomePower_66 ?_
        obtain ⟨x_48, ex_48⟩ : ∃ z9 : Int64, z9 = -r_38 := ⟨_, rfl⟩
        rw [← ex_48]
        refine lv_lstore (pc := 67) (lv' := [(4, .long x_48), (6, .long r_40), (3, .int x_27), (0, .ref (ad i)), (1, .ref (ad j)), (2, .int ex)]) hx hb dX0_becomePower_67 hl (by decide) rfl (fun ls hl => ?_)
        refine lv_iload_n (pc := 69) hx hb dX0_becomePower_69 rfl (lv_at hl 5 rfl) ?_
        refine lv_if_ge (pc := 70) (tgt := 84) hx hb dX0_becomePower_70 (by decide) (fun c_49 => ?_) (fun c_49 => ?_)
        · exact absurd c_49 c_1
        refine lv_aload_n (pc := 73) hx hb dX0_becomePower_73 rfl (lv_at hl 3 rfl) ?_
        refine lv_lload (pc := 74) hx hb dX0_becomePower_74 (lv_at hl 1 rfl) ?_
        refine lv_lload (pc := 76) hx hb dX0_becomePower_76 (lv_at hl 0 rfl) ?_
        refine k_v (pc := 78) (k_V E hC hS hA hl.1 (c1.recv hC (hW.fr (i := i) hi) rfl) rfl (c_X0_become l D tk N0 sa hAD H.size g i hi r_40 x_48 ) kw_593 kw_495 kw_496 kw_2 kw_497 (n := 2) (by decide +kernel) rfl ⟨⟨rfl, rfl⟩, ⟨by decide, by decide⟩, by decide, by decide⟩ rfl (Nat.le_of_ble_eq_true rfl) hW dX0_becomePower_78) hS (fun q _ w => cwA.go hS.1 q w) hn (fun H locs hR hz hk hS => ?_)
        have hW := hR
        obtain ⟨g_52, eg_52⟩ : ∃ z, z = f_become g i r_40 x_48 := ⟨_, rfl⟩
        rw [← eg_52] at hW
        refine lv_goto (pc := 81) (tgt := 92) hx hb dX0_becomePower_81 (by decide) ?_
        refine r_vret (pc := 92) E hr hlk hS (by decide) (by decide) ?_ dX0_becomePower_92
        exact hW.to (by subst ex_27 er_38 er_40 ex_48 eg_52; first | with_reducible rfl | (simp [f_power, f_powT, f_abs32, absL, c_1, Int32.not_le.mp c_1, c_28, Int64.not_le.mp c_28, c_43, p_TB, p_TV, p_TC, p_TI, p_BT, p_BV, p_BC, p_BI, p_VT, p_VB, p_VC, p_VI, p_CT, p_CB, p_CV, p_CI, p_IT, p_IB, p_IV, p_IC, p_TT, p_BB, p_CC, p_II]; done))

set_option maxHeartbeats 4000000 in
set_option maxRecDepth 100000 in
/-- Bestratios$Fraction.becomeFollower(LBestratios$Fraction;)V -/
theorem c_X0_becomeFollower (l : Launch) (D : va_G) (tk : Nat → ClassId) (N0 : Nat) (sa : Nat → Nat) {ad : Nat → Nat} (hAD : ADok N0 ad) (sz : Nat) (g : CS) (i : Nat) (hi : i < 15) (j : Nat) (hj : j < 15) : Met l yX0_becomeFollower (wsy yX0_becomeFollower cX0_becomeFollower 4 none) ({ frames := 3, cells := 0, slots := 0, locals := 76 } : Room) (cP D tk N0 sa [.ref (ad i), .ref (ad j)] sz (fun H => CW D tk ad g H)) (kQv (fun H => CW D tk ad (f_foll g i j) H) (cwA ad sz)) (0) (0) (cwA ad sz) := by
  refine mStart RX0 rfl (by decide +kernel) (Nat.le_of_ble_eq_true rfl) ?_
  intro p e s m args below meth c E hr hlk hnm hsz hC hF ls hl
  subst hsz
  obtain ⟨hx, hb, -⟩ := id E
  have hA : ∀ q, (cwA ad s.heap.size) q → N0 ≤ q := cwA.ge hAD hC.2.1
  have hn : ∀ q, s.heap.size ≤ q → (cwA ad s.heap.size) q := fun q h => Or.inr h
  have hS : va_S (cwA ad s.heap.size) s.heap s.heap [] := va_S.rf
  have hl : lv_has ls 4 [(0, .ref (ad i)), (1, .ref (ad j))] := hl
  have hW : CW D tk ad g s.heap := hF
  refine lv_aload_n (pc := 0) hx hb dX0_becomeFollower_0 rfl (lv_at hl 1 rfl) ?_
  refine k_l (pc := 1) (k_V E hC hS hA hl.1 (c1.recv hC (hW.fr (i := j) hj) rfl) rfl (c_X0_floorPart l D tk N0 sa hAD s.heap.size g j hj ) kw_639 kw_640 kw_641 kw_2 kw_642 (n := 0) (by decide +kernel) rfl ⟨⟨rfl, rfl⟩, ⟨by decide, by decide⟩, by decide, by decide⟩ rfl (Nat.le_of_ble_eq_true rfl) hW dX0_becomeFollower_1) hS (fun q z w => absurd w (Nat.not_le.mpr z)) hn (fun r_1 H locs hR hz hk hS => ?_)
  have er_1 := hR
  have hW := hW.new hk
  refine lv_lstore_n (pc := 4) (lv' := [(2, .long r_1), (0, .ref (ad i)), (1, .ref (ad j))]) hx hb dX0_becomeFollower_4 rfl hl (by decide) rfl (fun ls hl => ?_)
  refine lv_aload_n (pc := 5) hx hb dX0_becomeFollower_5 rfl (lv_at hl 1 rfl) ?_
  refine lv_aload_n (pc := 6) hx hb dX0_becomeFollower_6 rfl (lv_at hl 2 rfl) ?_
  refine r_get (pc := 7) E hC (hW.fr (i := j) hj) 1 (v := .long (tB g j)) rfl rfl (by decide) uX0 (List.mem_cons_of_mem _ kw_53) (fun _ h => h) dX0_becomeFollower_7 ?_
  refine lv_ldc2 (pc := 10) (v := 2) hx hb E.2.2.2.1 (E.2.2.2.2 _ (List.mem_cons_of_mem _ kw_592)) dX0_becomeFollower_10 ?_
  refine lv_lload_n (pc := 13) hx hb dX0_becomeFollower_13 rfl (lv_at hl 0 rfl) ?_
  refine lv_lmul (pc := 14) hx hb dX0_becomeFollower_14 ?_
  refine lv_lconst (pc := 15) (v := 1) hx hb dX0_becomeFollower_15 (by decide) ?_
  refine lv_ladd (pc := 16) hx hb dX0_becomeFollower_16 ?_
  refine lv_aload_n (pc := 17) hx hb dX0_becomeFollower_17 rfl (lv_at hl 2 rfl) ?_
  refine r_get (pc := 18) E hC (hW.fr (i := j) hj) 1 (v := .long (tB g j)) rfl rfl (by decide) uX0 (List.mem_cons_of_mem _ kw_53) (fun _ h => h) dX0_becomeFollower_18 ?_
  refine lv_lmul (pc := 21) hx hb dX0_becomeFollower_21 ?_
  refine lv_aload_n (pc := 22) hx hb dX0_becomeFollower_22 rfl (lv_at hl 2 rfl) ?_
  refine r_get (pc := 23) E hC (hW.fr (i := j) hj) 0 (v := .long (tT g j)) rfl rfl (by decide) uX0 (List.mem_cons_of_mem _ kw_50) (fun _ h => h) dX0_becomeFollower_23 ?_
  refine lv_lsub (pc := 26) hx hb dX0_becomeFollower_26 ?_
  refine k_v (pc := 27) (k_V E hC hS hA hl.1 (c1.recv hC (hW.fr (i := i) hi) rfl) rfl (c_X0_become l D tk N0 sa hAD H.size g i hi (tB g j) ((((2 * r_1) + 1) * (tB g j)) - (tT g j)) ) kw_593 kw_495 kw_496 kw_2 kw_497 (n := 2) (by decide +kernel) rfl ⟨⟨rfl, rfl⟩, ⟨by decide, by decide⟩, by decide, by decide⟩ rfl (Nat.le_of_ble_eq_true rfl) hW dX0_becomeFollower_27) hS (fun q _ w => cwA.go hS.1 q w) hn (fun H locs hR hz hk hS => ?_)
  have hW := hR
  obtain ⟨g_5, eg_5⟩ : ∃ z, z = f_become g i (tB g j) ((((2 * r_1) + 1) * (tB g j)) - (tT g j)) := ⟨_, rfl⟩
  rw [← eg_5] at hW
  refine r_vret (pc := 30) E hr hlk hS (by decide) (by decide) ?_ dX0_becomeFollower_30
  exact hW.to (by subst er_1 eg_5; first | with_reducible rfl | (simp [f_foll, p_TB, p_TV, p_TC, p_TI, p_BT, p_BV, p_BC, p_BI, p_VT, p_VB, p_VC, p_VI, p_CT, p_CB, p_CV, p_CI, p_IT, p_IB, p_IV, p_IC, p_TT, p_BB, p_CC, p_II]; done))

set_option maxHeartbeats 4000000 in
set_option maxRecDepth 100000 in
/-- Bestratios$Fraction.becomeForerunner(LBestratios$Fraction;)V -/
theorem c_X0_becomeForerunner (l : Launch) (D : va_G) (tk : Nat → ClassId) (N0 : Nat) (sa : Nat → Nat) {ad : Nat → Nat} (hAD : ADok N0 ad) (sz : Nat) (g : CS) (i : Nat) (hi : i < 15) (j : Nat) (hj : j < 15) : Met l yX0_becomeForerunner (wsy yX0_becomeForerunner cX0_becomeForerunner 4 none) ({ frames := 3, cells := 0, slots := 0, locals := 76 } : Room) (cP D tk N0 sa [.ref (ad i), .ref (ad j)] sz (fun H => CW D tk ad g H)) (kQv (fun H => CW D tk ad (f_fore g i j) H) (cwA ad sz)) (0) (0) (cwA ad sz) := by
  refine mStart RX0 rfl (by decide +kernel) (Nat.le_of_ble_eq_true rfl) ?_
  intro p e s m args below meth c E hr hlk hnm hsz hC hF ls hl
  subst hsz
  obtain ⟨hx, hb, -⟩ := id E
  have hA : ∀ q, (cwA ad s.heap.size) q → N0 ≤ q := cwA.ge hAD hC.2.1
  have hn : ∀ q, s.heap.size ≤ q → (cwA ad s.heap.size) q := fun q h => Or.inr h
  have hS : va_S (cwA ad s.heap.size) s.heap s.heap [] := va_S.rf
  have hl : lv_has ls 4 [(0, .ref (ad i)), (1, .ref (ad j))] := hl
  have hW : CW D tk ad g s.heap := hF
  refine lv_aload_n (pc := 0) hx hb dX0_becomeForerunner_0 rfl (lv_at hl 1 rfl) ?_
  refine r_get (pc := 1) E hC (hW.fr (i := j) hj) 1 (v := .long (tB g j)) rfl rfl (by decide) uX0 (List.mem_cons_of_mem _ kw_53) (fun _ h => h) dX0_becomeForerunner_1 ?_
  refine lv_lconst (pc := 4) (v := 1) hx hb dX0_becomeForerunner_4 (by decide) ?_
  refine lv_lsub (pc := 5) hx hb dX0_becomeForerunner_5 ?_
  refine lv_aload_n (pc := 6) hx hb dX0_becomeForerunner_6 rfl (lv_at hl 1 rfl) ?_
  refine r_get (pc := 7) E hC (hW.fr (i := j) hj) 0 (v := .long (tT g j)) rfl rfl (by decide) uX0 (List.mem_cons_of_mem _ kw_50) (fun _ h => h) dX0_becomeForerunner_7 ?_
  refine k_l (pc := 10) (k_SN "Bestratios" E hC hS hA hl.1 (c_X3_floorOf l D tk N0 sa s.heap.size ((tB g j) - 1) (tT g j) ) kn_501 kw_502 kw_1 kw_503 (n := 2) (by decide +kernel) rfl ⟨⟨rfl, rfl⟩, ⟨by decide, by decide⟩, by decide, by decide⟩ rfl (Nat.le_of_ble_eq_true rfl) trivial dX0_becomeForerunner_10) hS (fun q z w => absurd w (Nat.not_le.mpr z)) hn (fun r_1 H locs hR hz hk hS => ?_)
  have er_1 := hR
  have hW := hW.new hk
  refine lv_lstore_n (pc := 13) (lv' := [(2, .long r_1), (0, .ref (ad i)), (1, .ref (ad j))]) hx hb dX0_becomeForerunner_13 rfl hl (by decide) rfl (fun ls hl => ?_)
  refine lv_aload_n (pc := 14) hx hb dX0_becomeForerunner_14 rfl (lv_at hl 1 rfl) ?_
  refine lv_ldc2 (pc := 15) (v := 2) hx hb E.2.2.2.1 (E.2.2.2.2 _ (List.mem_cons_of_mem _ kw_592)) dX0_becomeForerunner_15 ?_
  refine lv_lload_n (pc := 18) hx hb dX0_becomeForerunner_18 rfl (lv_at hl 0 rfl) ?_
  refine lv_lmul (pc := 19) hx hb dX0_becomeForerunner_19 ?_
  refine lv_lconst (pc := 20) (v := 1) hx hb dX0_becomeForerunner_20 (by decide) ?_
  refine lv_ladd (pc := 21) hx hb dX0_becomeForerunner_21 ?_
  refine lv_aload_n (pc := 22) hx hb dX0_becomeForerunner_22 rfl (lv_at hl 2 rfl) ?_
  refine r_get (pc := 23) E hC (hW.fr (i := j) hj) 0 (v := .long (tT g j)) rfl rfl (by decide) uX0 (List.mem_cons_of_mem _ kw_50) (fun _ h => h) dX0_becomeForerunner_23 ?_
  refine lv_lmul (pc := 26) hx hb dX0_becomeForerunner_26 ?_
  refine lv_aload_n (pc := 27) hx hb dX0_becomeForerunner_27 rfl (lv_at hl 2 rfl) ?_
  refine r_get (pc := 28) E hC (hW.fr (i := j) hj) 1 (v := .long (tB g j)) rfl rfl (by decide) uX0 (List.mem_cons_of_mem _ kw_53) (fun _ h => h) dX0_becomeForerunner_28 ?_
  refine lv_lsub (pc := 31) hx hb dX0_becomeForerunner_31 ?_
  refine lv_aload_n (pc := 32) hx hb dX0_becomeForerunner_32 rfl (lv_at hl 2 rfl) ?_
  refine r_get (pc := 33) E hC (hW.fr (i := j) hj) 0 (v := .long (tT g j)) rfl rfl (by decide) uX0 (List.mem_cons_of_mem _ kw_50) (fun _ h => h) dX0_becomeForerunner_33 ?_
  refine k_v (pc := 36) (k_V E hC hS hA hl.1 (c1.recv hC (hW.fr (i := i) hi) rfl) rfl (c_X0_become l D tk N0 sa hAD H.size g i hi ((((2 * r_1) + 1) * (tT g j)) - (tB g j)) (tT g j) ) kw_593 kw_495 kw_496 kw_2 kw_497 (n := 2) (by decide +kernel) rfl ⟨⟨rfl, rfl⟩, ⟨by decide, by decide⟩, by decide, by decide⟩ rfl (Nat.le_of_ble_eq_true rfl) hW dX0_becomeForerunner_36) hS (fun q _ w => cwA.go hS.1 q w) hn (fun H locs hR hz hk hS => ?_)
  have hW := hR
  obtain ⟨g_5, eg_5⟩ : ∃ z, z = f_become g i ((((2 * r_1) + 1) * (tT g j)) - (tB g j)) (tT g j) := ⟨_, rfl⟩
  rw [← eg_5] at hW
  refine r_vret (pc := 39) E hr hlk hS (by decide) (by decide) ?_ dX0_becomeForerunner_39
  exact hW.to (by subst er_1 eg_5; first | with_reducible rfl | (simp [f_fore, p_TB, p_TV, p_TC, p_TI, p_BT, p_BV, p_BC, p_BI, p_VT, p_VB, p_VC, p_VI, p_CT, p_CB, p_CV, p_CI, p_IT, p_IB, p_IV, p_IC, p_TT, p_BB, p_CC, p_II]; done))

set_option maxHeartbeats 4000000 in
set_option maxRecDepth 100000 in
/-- Bestratios$Fraction.becomeNeighbour(LBestratios$Fraction;II)V -/
theorem c_X0_becomeNeighbour (l : Launch) (D : va_G) (tk : Nat → ClassId) (N0 : Nat) (sa : Nat → Nat) {ad : Nat → Nat} (hAD : ADok N0 ad) (sz : Nat) (g : CS) (i : Nat) (hi : i < 15) (j : Nat) (hj : j < 15) (bd : Int32) (sd : Int32) : Met l yX0_becomeNeighbour (wsy yX0_becomeNeighbour cX0_becomeNeighbour 14 none) ({ frames := 3, cells := 0, slots := 0, locals := 76 } : Room) (cP D tk N0 sa [.ref (ad i), .ref (ad j), .int bd, .int sd] sz (fun H => CW D tk ad g H)) (kQv (fun H => CW D tk ad (f_nb g i j bd sd) H) (cwA ad sz)) (0) (0) (cwA ad sz) := by
  refine mStart RX0 rfl (by decide +kernel) (Nat.le_of_ble_eq_true rfl) ?_
  intro p e s m args below meth c E hr hlk hnm hsz hC hF ls hl
  subst hsz
  obtain ⟨hx, hb, -⟩ := id E
  have hA : ∀ q, (cwA ad s.heap.size) q → N0 ≤ q := cwA.ge hAD hC.2.1
  have hn : ∀ q, s.heap.size ≤ q → (cwA ad s.heap.size) q := fun q h => Or.inr h
  have hS : va_S (cwA ad s.heap.size) s.heap s.heap [] := va_S.rf
  have hl : lv_has ls 14 [(0, .ref (ad i)), (1, .ref (ad j)), (2, .int bd), (3, .int sd)] := hl
  obtain ⟨Q, hQ⟩ : ∃ Q, Q = MQ below (kQv (fun H => CW D tk ad (f_nb g i j bd sd) H) (cwA ad s.heap.size)) args s (0) (0) (cwA ad s.heap.size) := ⟨_, rfl⟩
  rw [← hQ]
  have hW : CW D tk ad g s.heap := hF
  refine lv_iload_n (pc := 0) hx hb dX0_becomeNeighbour_0 rfl (lv_at hl 3 rfl) ?_
  refine lv_i2l (pc := 1) (v := sd.toInt64) hx hb dX0_becomeNeighbour_1 rfl ?_
  refine lv_aload_n (pc := 2) hx hb dX0_becomeNeighbour_2 rfl (lv_at hl 1 rfl) ?_
  refine r_get (pc := 3) E hC (hW.fr (i := j) hj) 0 (v := .long (tT g j)) rfl rfl (by decide) uX0 (List.mem_cons_of_mem _ kw_50) (fun _ h => h) dX0_becomeNeighbour_3 ?_
  refine lv_lmul (pc := 6) hx hb dX0_becomeNeighbour_6 ?_
  obtain ⟨x_1, ex_1⟩ : ∃ z9 : Int64, z9 = sd.toInt64 * (tT g j) := ⟨_, rfl⟩
  rw [← ex_1]
  refine lv_lstore (pc := 7) (lv' := [(4, .long x_1), (0, .ref (ad i)), (1, .ref (ad j)), (2, .int bd), (3, .int sd)]) hx hb dX0_becomeNeighbour_7 hl (by decide) rfl (fun ls hl => ?_)
  refine lv_lload (pc := 9) hx hb dX0_becomeNeighbour_9 (lv_at hl 0 rfl) ?_
  refine lv_aload_n (pc := 11) hx hb dX0_becomeNeighbour_11 rfl (lv_at hl 2 rfl) ?_
  refine r_get (pc := 12) E hC (hW.fr (i := j) hj) 1 (v := .long (tB g j)) rfl rfl (by decide) uX0 (List.mem_cons_of_mem _ kw_53) (fun _ h => h) dX0_becomeNeighbour_12 ?_
  refine k_l (pc := 15) (k_SN "Bestratios" E hC hS hA hl.1 (c_X3_floorOf l D tk N0 sa s.heap.size x_1 (tB g j) ) kn_501 kw_502 kw_1 kw_503 (n := 2) (by decide +kernel) rfl ⟨⟨rfl, rfl⟩, ⟨by decide, by decide⟩, by decide, by decide⟩ rfl (Nat.le_of_ble_eq_true rfl) trivial dX0_becomeNeighbour_15) hS (fun q z w => absurd w (Nat.not_le.mpr z)) hn (fun r_2 H locs hR hz hk hS => ?_)
  have er_2 := hR
  have hW := hW.new hk
  refine lv_lstore (pc := 18) (lv' := [(6, .long r_2), (4, .long x_1), (0, .ref (ad i)), (1, .ref (ad j)), (2, .int bd), (3, .int sd)]) hx hb dX0_becomeNeighbour_18 hl (by decide) rfl (fun ls hl => ?_)
  refine lv_lconst (pc := 20) (v := 1) hx hb dX0_becomeNeighbour_20 (by decide) ?_
  refine lv_lstore (pc := 21) (lv' := [(8, .long 1), (6, .long r_2), (4, .long x_1), (0, .ref (ad i)), (1, .ref (ad j)), (2, .int bd), (3, .int sd)]) hx hb dX0_becomeNeighbour_21 hl (by decide) rfl (fun ls hl => ?_)
  refine lv_ldc2 (pc := 23) (v := 2) hx hb E.2.2.2.1 (E.2.2.2.2 _ (List.mem_cons_of_mem _ kw_592)) dX0_becomeNeighbour_23 ?_
  refine lv_lstore (pc := 26) (lv' := [(10, .long 2), (8, .long 1), (6, .long r_2), (4, .long x_1), (0, .ref (ad i)), (1, .ref (ad j)), (2, .int bd), (3, .int sd)]) hx hb dX0_becomeNeighbour_26 hl (by decide) rfl (fun ls hl => ?_)
  have loop_28 : ∀ (n : Nat) (k : Nat)(bt9 : Int64) (bb9 : Int64) (y9 : Int64), bd.toInt.toNat + 1 - k < n → 2 ≤ k ∧ k < 2 ^ 32 → y9 = lN k → nbL x_1 (tB g j) (bd.toInt.toNat + 1 - k) k bt9 bb9 = f_nb2 x_1 (tB g j) bd → ∀ (H : Heap) (locs : List Loc) (ls : Array Slot), va_S (cwA ad s.heap.size) s.heap H locs → CW D tk ad g H → lv_has ls 14 [(0, .ref (ad i)), (1, .ref (ad j)), (2, .int bd), (3, .int sd), (4, .long x_1), (6, .long bt9), (8, .long bb9), (10, .long y9)] → W p l e ({ frames := 3, cells := 0, slots := 0, locals := 76 } : Room) s m args below meth c H locs (0 + 0) (0 + 0) Q (F0 m 28 ls []) := by
    intro n
    induction n with
    | zero =>
      intro k bt9 bb9 y9 hf9 hk9 hx9 hg9 H locs ls hS hW hl
      omega
    | succ n ih_28 =>
      intro k bt9 bb9 y9 hf9 hk9 hx9 hg9 H locs ls hS hW hl
      refine lv_lload (pc := 28) hx hb dX0_becomeNeighbour_28 (lv_at hl 7 rfl) ?_
      refine lv_iload_n (pc := 30) hx hb dX0_becomeNeighbour_30 rfl (lv_at hl 2 rfl) ?_
      refine lv_i2l (pc := 31) (v := bd.toInt64) hx hb dX0_becomeNeighbour_31 rfl ?_
      refine r_lcgt (pc := 32) (tgt := 81) E dX0_becomeNeighbour_32 dX0_becomeNeighbour_33 (by decide) (fun c_4 => ?_) (fun c_4 => ?_)
      · refine lv_aload_n (pc := 81) hx hb dX0_becomeNeighbour_81 rfl (lv_at hl 0 rfl) ?_
        refine lv_iload_n (pc := 82) hx hb dX0_becomeNeighbour_82 rfl (lv_at hl 3 rfl) ?_
        refine lv_i2l (pc := 83) (v := sd.toInt64) hx hb dX0_becomeNeighbour_83 rfl ?_
        refine lv_lload (pc := 84) hx hb dX0_becomeNeighbour_84 (lv_at hl 5 rfl) ?_
        refine lv_lmul (pc := 86) hx hb dX0_becomeNeighbour_86 ?_
        refine lv_lload (pc := 87) hx hb dX0_becomeNeighbour_87 (lv_at hl 6 rfl) ?_
        refine k_v (pc := 89) (k_V E hC hS hA hl.1 (c1.recv hC (hW.fr (i := i) hi) rfl) rfl (c_X0_become l D tk N0 sa hAD H.size g i hi (sd.toInt64 * bt9) bb9 ) kw_593 kw_495 kw_496 kw_2 kw_497 (n := 2) (by decide +kernel) rfl ⟨⟨rfl, rfl⟩, ⟨by decide, by decide⟩, by decide, by decide⟩ rfl (Nat.le_of_ble_eq_true rfl) hW dX0_becomeNeighbour_89) hS (fun q _ w => cwA.go hS.1 q w) hn (fun H locs hR hz hk hS => ?_)
        have hW := hR
        obtain ⟨g_7, eg_7⟩ : ∃ z, z = f_become g i (sd.toInt64 * bt9) bb9 := ⟨_, rfl⟩
        rw [← eg_7] at hW
        try rw [hQ]
        refine r_vret (pc := 92) E hr hlk hS (by decide) (by decide) ?_ dX0_becomeNeighbour_92
        have e0 : bd.toInt.toNat + 1 - k = 0 := by have := (lk_gt hx9 hk9.1 (by omega)).mp c_4; omega
        rw [e0] at hg9
        exact hW.to (by subst ex_1 eg_7; simp only [f_nb, ← hg9, nbL])
      · refine lv_lload (pc := 36) hx hb dX0_becomeNeighbour_36 (lv_at hl 4 rfl) ?_
        refine lv_lload (pc := 38) hx hb dX0_becomeNeighbour_38 (lv_at hl 7 rfl) ?_
        refine lv_lmul (pc := 40) hx hb dX0_becomeNeighbour_40 ?_
        refine lv_aload_n (pc := 41) hx hb dX0_becomeNeighbour_41 rfl (lv_at hl 1 rfl) ?_
        refine r_get (pc := 42) E hC (hW.fr (i := j) hj) 1 (v := .long (tB g j)) rfl rfl (by decide) uX0 (List.mem_cons_of_mem _ kw_53) (fun _ h => h) dX0_becomeNeighbour_42 ?_
        refine k_l (pc := 45) (k_SN "Bestratios" E hC hS hA hl.1 (c_X3_floorOf l D tk N0 sa H.size (x_1 * y9) (tB g j) ) kn_501 kw_502 kw_1 kw_503 (n := 2) (by decide +kernel) rfl ⟨⟨rfl, rfl⟩, ⟨by decide, by decide⟩, by decide, by decide⟩ rfl (Nat.le_of_ble_eq_true rfl) trivial dX0_becomeNeighbour_45) hS (fun q z w => absurd w (Nat.not_le.mpr z)) hn (fun r_8 H locs hR hz hk hS => ?_)
        have er_8 := hR
        have hW := hW.new hk
        refine lv_lstore (pc := 48) (lv' := [(12, .long r_8), (0, .ref (ad i)), (1, .ref (ad j)), (2, .int bd), (3, .int sd), (4, .long x_1), (6, .long bt9), (8, .long bb9), (10, .long y9)]) hx hb dX0_becomeNeighbour_48 hl (by decide) rfl (fun ls hl => ?_)
        refine lv_lload (pc := 50) hx hb dX0_becomeNeighbour_50 (lv_at hl 0 rfl) ?_
        refine lv_lload (pc := 52) hx hb dX0_becomeNeighbour_52 (lv_at hl 7 rfl) ?_
        refine lv_lmul (pc := 54) hx hb dX0_becomeNeighbour_54 ?_
        refine lv_lload (pc := 55) hx hb dX0_becomeNeighbour_55 (lv_at hl 6 rfl) ?_
        refine lv_lload (pc := 57) hx hb dX0_becomeNeighbour_57 (lv_at hl 8 rfl) ?_
        refine lv_lmul (pc := 59) hx hb dX0_becomeNeighbour_59 ?_
        refine r_lcle (pc := 60) (tgt := 72) E dX0_becomeNeighbour_60 dX0_becomeNeighbour_61 (by decide) (fun c_10 => ?_) (fun c_10 => ?_)
        · refine lv_lload (pc := 72) hx hb dX0_becomeNeighbour_72 (lv_at hl 8 rfl) ?_
          refine lv_lconst (pc := 74) (v := 1) hx hb dX0_becomeNeighbour_74 (by decide) ?_
          refine lv_ladd (pc := 75) hx hb dX0_becomeNeighbour_75 ?_
          obtain ⟨x_11, ex_11⟩ : ∃ z9 : Int64, z9 = y9 + 1 := ⟨_, rfl⟩
          rw [← ex_11]
          refine lv_lstore (pc := 76) (lv' := [(10, .long x_11), (12, .long r_8), (0, .ref (ad i)), (1, .ref (ad j)), (2, .int bd), (3, .int sd), (4, .long x_1), (6, .long bt9), (8, .long bb9)]) hx hb dX0_becomeNeighbour_76 hl (by decide) rfl (fun ls hl => ?_)
          refine lv_goto (pc := 78) (tgt := 28) hx hb dX0_becomeNeighbour_78 (by decide) ?_
          have hlt := (lk_ge hx9 hk9.1 (by omega)).mp c_4
          have e200 : bd.toInt.toNat + 1 - k = (bd.toInt.toNat + 1 - (k + 1)) + 1 := by omega
          have hbd := bd.toInt_lt
          rw [e200] at hg9
          exact ih_28  (k + 1)  bt9 bb9 x_11 (by omega) (by omega) (by rw [ex_11, hx9]; exact lN_1 k) (by rw [← hg9]; subst er_8 ex_11 hx9; simp [nbL, c_10]) _ _ _ hS hW (lv_sub hl [2, 3, 4, 5, 6, 7, 8, 0] rfl)
        · refine lv_lload (pc := 64) hx hb dX0_becomeNeighbour_64 (lv_at hl 0 rfl) ?_
          refine lv_lstore (pc := 66) (lv' := [(6, .long r_8), (12, .long r_8), (0, .ref (ad i)), (1, .ref (ad j)), (2, .int bd), (3, .int sd), (4, .long x_1), (8, .long bb9), (10, .long y9)]) hx hb dX0_becomeNeighbour_66 hl (by decide) rfl (fun ls hl => ?_)
          refine lv_lload (pc := 68) hx hb dX0_becomeNeighbour_68 (lv_at hl 8 rfl) ?_
          refine lv_lstore (pc := 70) (lv' := [(8, .long y9), (6, .long r_8), (12, .long r_8), (0, .ref (ad i)), (1, .ref (ad j)), (2, .int bd), (3, .int sd), (4, .long x_1), (10, .long y9)]) hx hb dX0_becomeNeighbour_70 hl (by decide) rfl (fun ls hl => ?_)
          refine lv_lload (pc := 72) hx hb dX0_becomeNeighbour_72 (lv_at hl 8 rfl) ?_
          refine lv_lconst (pc := 74) (v := 1) hx hb dX0_becomeNeighbour_74 (by decide) ?_
          refine lv_ladd (pc := 75) hx hb dX0_becomeNeighbour_75 ?_
          obtain ⟨x_12, ex_12⟩ : ∃ z9 : Int64, z9 = y9 + 1 := ⟨_, rfl⟩
          rw [← ex_12]
          refine lv_lstore (pc := 76) (lv' := [(10, .long x_12), (8, .long y9), (6, .long r_8), (12, .long r_8), (0, .ref (ad i)), (1, .ref (ad j)), (2, .int bd), (3, .int sd), (4, .long x_1)]) hx hb dX0_becomeNeighbour_76 hl (by decide) rfl (fun ls hl => ?_)
          refine lv_goto (pc := 78) (tgt := 28) hx hb dX0_becomeNeighbour_78 (by decide) ?_
          have hlt := (lk_ge hx9 hk9.1 (by omega)).mp c_4
          have e200 : bd.toInt.toNat + 1 - k = (bd.toInt.toNat + 1 - (k + 1)) + 1 := by omega
          have hbd := bd.toInt_lt
          rw [e200] at hg9
          exact ih_28  (k + 1)  r_8 y9 x_12 (by omega) (by omega) (by rw [ex_12, hx9]; exact lN_1 k) (by rw [← hg9]; subst er_8 ex_12 hx9; simp [nbL, c_10]) _ _ _ hS hW (lv_sub hl [4, 5, 6, 7, 8, 2, 1, 0] rfl)
  exact loop_28 (bd.toInt.toNat + 1) 2  r_2 1 2 (by omega) (by decide) rfl (by subst er_2; rw [show bd.toInt.toNat + 1 - 2 = bd.toInt.toNat - 1 from by omega]; rfl) _ _ _ hS hW (lv_sub hl [4, 5, 6, 7, 3, 2, 1, 0] rfl)

set_option maxHeartbeats 4000000 in
set_option maxRecDepth 100000 in
/-- java/lang/Math.max(II)I -/
theorem c_J9_max_7cf53 (l : Launch) (D : va_G) (tk : Nat → ClassId) (N0 : Nat) (sa : Nat → Nat)  (sz : Nat) (a_ : Int32) (b_ : Int32) : Met l yJ9_max_7cf53 (wsy yJ9_max_7cf53 cJ9_max_7cf53 2 (some .int)) ({ frames := 0, cells := 0, slots := 0, locals := 0 } : Room) (cP D tk N0 sa [.int a_, .int b_] sz (fun H => True)) (kQi (fun r H => r = f_max a_ b_) (nwA sz)) (0) (0) (nwA sz) := by
  refine mStart RJ9 rfl (by decide +kernel) (Nat.le_of_ble_eq_true rfl) ?_
  intro p e s m args below meth c E hr hlk hnm hsz hC hF ls hl
  subst hsz
  obtain ⟨hx, hb, -⟩ := id E
  have hA : ∀ q, (nwA s.heap.size) q → N0 ≤ q := fun q h => Nat.le_trans hC.2.1 h
  have hn : ∀ q, s.heap.size ≤ q → (nwA s.heap.size) q := fun q h => h
  have hS : va_S (nwA s.heap.size) s.heap s.heap [] := va_S.rf
  have hl : lv_has ls 2 [(0, .int a_), (1, .int b_)] := hl
  refine lv_iload_n (pc := 0) hx hb dJ9_max_7cf53_0 rfl (lv_at hl 0 rfl) ?_
  refine lv_iload_n (pc := 1) hx hb dJ9_max_7cf53_1 rfl (lv_at hl 1 rfl) ?_
  refine lv_icmp_lt (pc := 2) (tgt := 9) hx hb dJ9_max_7cf53_2 (by decide) (fun c_1 => ?_) (fun c_1 => ?_)
  · refine lv_iload_n (pc := 9) hx hb dJ9_max_7cf53_9 rfl (lv_at hl 1 rfl) ?_
    refine r_iret (pc := 10) E hr hlk hS (by decide) (by decide) ?_ dJ9_max_7cf53_10
    first | with_reducible rfl | (simp [f_max, c_1, Int32.not_le.mpr c_1, p_TB, p_TV, p_TC, p_TI, p_BT, p_BV, p_BC, p_BI, p_VT, p_VB, p_VC, p_VI, p_CT, p_CB, p_CV, p_CI, p_IT, p_IB, p_IV, p_IC, p_TT, p_BB, p_CC, p_II]; done)
  · refine lv_iload_n (pc := 5) hx hb dJ9_max_7cf53_5 rfl (lv_at hl 0 rfl) ?_
    refine lv_goto (pc := 6) (tgt := 10) hx hb dJ9_max_7cf53_6 (by decide) ?_
    refine r_iret (pc := 10) E hr hlk hS (by decide) (by decide) ?_ dJ9_max_7cf53_10
    first | with_reducible rfl | (simp [f_max, c_1, Int32.not_lt.mp c_1, p_TB, p_TV, p_TC, p_TI, p_BT, p_BV, p_BC, p_BI, p_VT, p_VB, p_VC, p_VI, p_CT, p_CB, p_CV, p_CI, p_IT, p_IB, p_IV, p_IC, p_TT, p_BB, p_CC, p_II]; done)
set_option maxHeartbeats 4000000 in
set_option maxRecDepth 100000 in
/-- Bestratios$Terms.at(I)J -/
theorem c_X2_at (l : Launch) (D : va_G) (tk : Nat → ClassId) (N0 : Nat) (sa : Nat → Nat) {ad : Nat → Nat} (hAD : ADok N0 ad) (sz : Nat) (g : CS) (j : Nat) (hj : j < 2) (kk : Int32) : Met l yX2_at (wsy yX2_at cX2_at 2 (some .long)) ({ frames := 0, cells := 0, slots := 0, locals := 0 } : Room) (cP D tk N0 sa [.ref (ad (17 + 2 * j)), .int kk] sz (fun H => CW D tk ad g H)) (kQl (fun r H => r = f_at g j kk) (nwA sz)) (0) (0) (nwA sz) := by
  refine mStart RX2 rfl (by decide +kernel) (Nat.le_of_ble_eq_true rfl) ?_
  intro p e s m args below meth c E hr hlk hnm hsz hC hF ls hl
  subst hsz
  obtain ⟨hx, hb, -⟩ := id E
  have hA : ∀ q, (nwA s.heap.size) q → N0 ≤ q := fun q h => Nat.le_trans hC.2.1 h
  have hn : ∀ q, s.heap.size ≤ q → (nwA s.heap.size) q := fun q h => h
  have hS : va_S (nwA s.heap.size) s.heap s.heap [] := va_S.rf
  have hl : lv_has ls 2 [(0, .ref (ad (17 + 2 * j))), (1, .int kk)] := hl
  have hW : CW D tk ad g s.heap := hF
  refine lv_iload_n (pc := 0) hx hb dX2_at_0 rfl (lv_at hl 1 rfl) ?_
  refine lv_if_lt (pc := 1) (tgt := 30) hx hb dX2_at_1 (by decide) (fun c_1 => ?_) (fun c_1 => ?_)
  · refine lv_lconst (pc := 30) (v := 0) hx hb dX2_at_30 (by decide) ?_
    refine r_lret (pc := 31) E hr hlk hS (by decide) (by decide) ?_ dX2_at_31
    first | with_reducible rfl | (simp [f_at, c_1, Int32.not_le.mpr c_1, p_TB, p_TV, p_TC, p_TI, p_BT, p_BV, p_BC, p_BI, p_VT, p_VB, p_VC, p_VI, p_CT, p_CB, p_CV, p_CI, p_IT, p_IB, p_IV, p_IC, p_TT, p_BB, p_CC, p_II]; done)
  · refine lv_iload_n (pc := 4) hx hb dX2_at_4 rfl (lv_at hl 1 rfl) ?_
    refine lv_aload_n (pc := 5) hx hb dX2_at_5 rfl (lv_at hl 0 rfl) ?_
    refine r_get (pc := 6) E hC (hW.tm (j := j) hj) 1 (v := .int (tC g j)) rfl rfl (by decide) uX2 (List.mem_cons_of_mem _ kw_68) (fun _ h => h) dX2_at_6 ?_
    refine lv_icmp_ge (pc := 9) (tgt := 30) hx hb dX2_at_9 (by decide) (fun c_2 => ?_) (fun c_2 => ?_)
    · refine lv_lconst (pc := 30) (v := 0) hx hb dX2_at_30 (by decide) ?_
      refine r_lret (pc := 31) E hr hlk hS (by decide) (by decide) ?_ dX2_at_31
      first | with_reducible rfl | (simp [f_at, c_1, Int32.not_lt.mp c_1, c_2, Int32.not_lt.mpr c_2, p_TB, p_TV, p_TC, p_TI, p_BT, p_BV, p_BC, p_BI, p_VT, p_VB, p_VC, p_VI, p_CT, p_CB, p_CV, p_CI, p_IT, p_IB, p_IV, p_IC, p_TT, p_BB, p_CC, p_II]; done)
    · refine lv_iload_n (pc := 12) hx hb dX2_at_12 rfl (lv_at hl 1 rfl) ?_
      refine lv_aload_n (pc := 13) hx hb dX2_at_13 rfl (lv_at hl 0 rfl) ?_
      refine r_get (pc := 14) E hC (hW.tm (j := j) hj) 0 (v := .ref (ad (18 + 2 * j))) rfl rfl (by decide) uX2 (List.mem_cons_of_mem _ kw_67) (fun _ h => h) dX2_at_14 ?_
      refine r_alen (pc := 17) E hC (hW.vl (j := j) hj) 0 rfl (v := 64) rfl dX2_at_17 ?_
      refine lv_icmp_ge (pc := 18) (tgt := 30) hx hb dX2_at_18 (by decide) (fun c_3 => ?_) (fun c_3 => ?_)
      · refine lv_lconst (pc := 30) (v := 0) hx hb dX2_at_30 (by decide) ?_
        refine r_lret (pc := 31) E hr hlk hS (by decide) (by decide) ?_ dX2_at_31
        first | with_reducible rfl | (simp [f_at, c_1, Int32.not_lt.mp c_1, c_2, Int32.not_le.mp c_2, c_3, Int32.not_lt.mpr c_3, p_TB, p_TV, p_TC, p_TI, p_BT, p_BV, p_BC, p_BI, p_VT, p_VB, p_VC, p_VI, p_CT, p_CB, p_CV, p_CI, p_IT, p_IB, p_IV, p_IC, p_TT, p_BB, p_CC, p_II]; done)
      · refine lv_aload_n (pc := 21) hx hb dX2_at_21 rfl (lv_at hl 0 rfl) ?_
        refine r_get (pc := 22) E hC (hW.tm (j := j) hj) 0 (v := .ref (ad (18 + 2 * j))) rfl rfl (by decide) uX2 (List.mem_cons_of_mem _ kw_67) (fun _ h => h) dX2_at_22 ?_
        refine lv_iload_n (pc := 25) hx hb dX2_at_25 rfl (lv_at hl 1 rfl) ?_
        refine r_lald (pc := 26) E hC (hW.vl (j := j) hj) (by first | exact vp_of2 (n := 64) (k := 64) rfl (by assumption) (by assumption) | exact vp_of3 (n := 64) (k := 64) rfl (by assumption) (by assumption)) dX2_at_26 ?_
        refine lv_goto (pc := 27) (tgt := 31) hx hb dX2_at_27 (by decide) ?_
        refine r_lret (pc := 31) E hr hlk hS (by decide) (by decide) ?_ dX2_at_31
        first | with_reducible rfl | (simp [f_at, c_1, Int32.not_lt.mp c_1, c_2, Int32.not_le.mp c_2, c_3, Int32.not_le.mp c_3, p_TB, p_TV, p_TC, p_TI, p_BT, p_BV, p_BC, p_BI, p_VT, p_VB, p_VC, p_VI, p_CT, p_CB, p_CV, p_CI, p_IT, p_IB, p_IV, p_IC, p_TT, p_BB, p_CC, p_II]; done)

set_option maxHeartbeats 4000000 in
set_option maxRecDepth 100000 in
/-- Bestratios$Terms.addLast(J)V -/
theorem c_X2_addLast (l : Launch) (D : va_G) (tk : Nat → ClassId) (N0 : Nat) (sa : Nat → Nat) {ad : Nat → Nat} (hAD : ADok N0 ad) (sz : Nat) (g : CS) (j : Nat) (hj : j < 2) (v : Int64) : Met l yX2_addLast (wsy yX2_addLast cX2_addLast 3 none) ({ frames := 0, cells := 0, slots := 0, locals := 0 } : Room) (cP D tk N0 sa [.ref (ad (17 + 2 * j)), .long v] sz (fun H => CW D tk ad g H)) (kQv (fun H => CW D tk ad (f_addLast g j v) H) (cwA ad sz)) (0) (0) (cwA ad sz) := by
  refine mStart RX2 rfl (by decide +kernel) (Nat.le_of_ble_eq_true rfl) ?_
  intro p e s m args below meth c E hr hlk hnm hsz hC hF ls hl
  subst hsz
  obtain ⟨hx, hb, -⟩ := id E
  have hA : ∀ q, (cwA ad s.heap.size) q → N0 ≤ q := cwA.ge hAD hC.2.1
  have hn : ∀ q, s.heap.size ≤ q → (cwA ad s.heap.size) q := fun q h => Or.inr h
  have hS : va_S (cwA ad s.heap.size) s.heap s.heap [] := va_S.rf
  have hl : lv_has ls 3 [(0, .ref (ad (17 + 2 * j))), (1, .long v)] := hl
  have hW : CW D tk ad g s.heap := hF
  refine lv_aload_n (pc := 0) hx hb dX2_addLast_0 rfl (lv_at hl 0 rfl) ?_
  refine r_get (pc := 1) E hC (hW.tm (j := j) hj) 1 (v := .int (tC g j)) rfl rfl (by decide) uX2 (List.mem_cons_of_mem _ kw_68) (fun _ h => h) dX2_addLast_1 ?_
  refine lv_if_lt (pc := 4) (tgt := 39) hx hb dX2_addLast_4 (by decide) (fun c_1 => ?_) (fun c_1 => ?_)
  · refine r_vret (pc := 39) E hr hlk hS (by decide) (by decide) ?_ dX2_addLast_39
    exact hW.to (by first | with_reducible rfl | (simp [f_addLast, c_1, Int32.not_le.mpr c_1, p_TB, p_TV, p_TC, p_TI, p_BT, p_BV, p_BC, p_BI, p_VT, p_VB, p_VC, p_VI, p_CT, p_CB, p_CV, p_CI, p_IT, p_IB, p_IV, p_IC, p_TT, p_BB, p_CC, p_II]; done))
  · refine lv_aload_n (pc := 7) hx hb dX2_addLast_7 rfl (lv_at hl 0 rfl) ?_
    refine r_get (pc := 8) E hC (hW.tm (j := j) hj) 1 (v := .int (tC g j)) rfl rfl (by decide) uX2 (List.mem_cons_of_mem _ kw_68) (fun _ h => h) dX2_addLast_8 ?_
    refine lv_aload_n (pc := 11) hx hb dX2_addLast_11 rfl (lv_at hl 0 rfl) ?_
    refine r_get (pc := 12) E hC (hW.tm (j := j) hj) 0 (v := .ref (ad (18 + 2 * j))) rfl rfl (by decide) uX2 (List.mem_cons_of_mem _ kw_67) (fun _ h => h) dX2_addLast_12 ?_
    refine r_alen (pc := 15) E hC (hW.vl (j := j) hj) 0 rfl (v := 64) rfl dX2_addLast_15 ?_
    refine lv_icmp_ge (pc := 16) (tgt := 39) hx hb dX2_addLast_16 (by decide) (fun c_2 => ?_) (fun c_2 => ?_)
    · refine r_vret (pc := 39) E hr hlk hS (by decide) (by decide) ?_ dX2_addLast_39
      exact hW.to (by first | with_reducible rfl | (simp [f_addLast, c_1, Int32.not_lt.mp c_1, c_2, Int32.not_lt.mpr c_2, p_TB, p_TV, p_TC, p_TI, p_BT, p_BV, p_BC, p_BI, p_VT, p_VB, p_VC, p_VI, p_CT, p_CB, p_CV, p_CI, p_IT, p_IB, p_IV, p_IC, p_TT, p_BB, p_CC, p_II]; done))
    · refine lv_aload_n (pc := 19) hx hb dX2_addLast_19 rfl (lv_at hl 0 rfl) ?_
      refine r_get (pc := 20) E hC (hW.tm (j := j) hj) 0 (v := .ref (ad (18 + 2 * j))) rfl rfl (by decide) uX2 (List.mem_cons_of_mem _ kw_67) (fun _ h => h) dX2_addLast_20 ?_
      refine lv_aload_n (pc := 23) hx hb dX2_addLast_23 rfl (lv_at hl 0 rfl) ?_
      refine r_get (pc := 24) E hC (hW.tm (j := j) hj) 1 (v := .int (tC g j)) rfl rfl (by decide) uX2 (List.mem_cons_of_mem _ kw_68) (fun _ h => h) dX2_addLast_24 ?_
      refine lv_lload_n (pc := 27) hx hb dX2_addLast_27 rfl (lv_at hl 1 rfl) ?_
      refine r_last (pc := 28) E hC (hW.vl (j := j) hj) hS (Or.inl ⟨18 + 2 * j, by have := (hj : j < 2); omega, rfl⟩) (by first | exact vp_of2 (n := 64) (k := 64) rfl (by assumption) (by assumption) | exact vp_of3 (n := 64) (k := 64) rfl (by assumption) (by assumption)) dX2_addLast_28 (fun H locs h1 ho hz hS => ?_)
      have hW := hW.setV hAD hj h1 ho
      obtain ⟨g_3, eg_3⟩ : ∃ z, z = uV g j (tC g j).toNatClampNeg v := ⟨_, rfl⟩
      rw [← eg_3] at hW
      refine lv_aload_n (pc := 29) hx hb dX2_addLast_29 rfl (lv_at hl 0 rfl) ?_
      refine lv_dup (pc := 30) hx hb dX2_addLast_30 rfl ?_
      refine r_get (pc := 31) E hC (hW.tm (j := j) hj) 1 (v := .int (tC g_3 j)) rfl rfl (by decide) uX2 (List.mem_cons_of_mem _ kw_68) (fun _ h => h) dX2_addLast_31 ?_
      refine lv_iconst (pc := 34) (v := 1) hx hb dX2_addLast_34 (by decide) ?_
      refine lv_iadd (pc := 35) hx hb dX2_addLast_35 ?_
      refine r_put (pc := 36) E hC (hW.tm (j := j) hj) hS (Or.inl ⟨17 + 2 * j, by have := (hj : j < 2); omega, rfl⟩) 1 tyX2 tyX2_ok nmX2 rfl (by decide) (Nat.le_of_ble_eq_true rfl) uX2 (List.mem_cons_of_mem _ kw_68) (fun _ h => h) rfl rfl rfl dX2_addLast_36 (fun H locs h1 ho hz hS => ?_)
      have hW := hW.setC hAD hj h1 ho
      obtain ⟨g_4, eg_4⟩ : ∃ z, z = uC g_3 j ((tC g_3 j) + 1) := ⟨_, rfl⟩
      rw [← eg_4] at hW
      refine r_vret (pc := 39) E hr hlk hS (by decide) (by decide) ?_ dX2_addLast_39
      exact hW.to (by subst eg_3 eg_4; first | with_reducible rfl | (simp [f_addLast, c_1, Int32.not_lt.mp c_1, c_2, Int32.not_le.mp c_2, p_TB, p_TV, p_TC, p_TI, p_BT, p_BV, p_BC, p_BI, p_VT, p_VB, p_VC, p_VI, p_CT, p_CB, p_CV, p_CI, p_IT, p_IB, p_IV, p_IC, p_TT, p_BB, p_CC, p_II]; done))

set_option maxHeartbeats 4000000 in
set_option maxRecDepth 100000 in
/-- Bestratios$Terms.addToLast(J)V -/
theorem c_X2_addToLast (l : Launch) (D : va_G) (tk : Nat → ClassId) (N0 : Nat) (sa : Nat → Nat) {ad : Nat → Nat} (hAD : ADok N0 ad) (sz : Nat) (g : CS) (j : Nat) (hj : j < 2) (v : Int64) : Met l yX2_addToLast (wsy yX2_addToLast cX2_addToLast 4 none) ({ frames := 0, cells := 0, slots := 0, locals := 0 } : Room) (cP D tk N0 sa [.ref (ad (17 + 2 * j)), .long v] sz (fun H => CW D tk ad g H)) (kQv (fun H => CW D tk ad (f_addTo g j v) H) (cwA ad sz)) (0) (0) (cwA ad sz) := by
  refine mStart RX2 rfl (by decide +kernel) (Nat.le_of_ble_eq_true rfl) ?_
  intro p e s m args below meth c E hr hlk hnm hsz hC hF ls hl
  subst hsz
  obtain ⟨hx, hb, -⟩ := id E
  have hA : ∀ q, (cwA ad s.heap.size) q → N0 ≤ q := cwA.ge hAD hC.2.1
  have hn : ∀ q, s.heap.size ≤ q → (cwA ad s.heap.size) q := fun q h => Or.inr h
  have hS : va_S (cwA ad s.heap.size) s.heap s.heap [] := va_S.rf
  have hl : lv_has ls 4 [(0, .ref (ad (17 + 2 * j))), (1, .long v)] := hl
  have hW : CW D tk ad g s.heap := hF
  refine lv_aload_n (pc := 0) hx hb dX2_addToLast_0 rfl (lv_at hl 0 rfl) ?_
  refine r_get (pc := 1) E hC (hW.tm (j := j) hj) 1 (v := .int (tC g j)) rfl rfl (by decide) uX2 (List.mem_cons_of_mem _ kw_68) (fun _ h => h) dX2_addToLast_1 ?_
  refine lv_iconst (pc := 4) (v := 1) hx hb dX2_addToLast_4 (by decide) ?_
  refine lv_isub (pc := 5) hx hb dX2_addToLast_5 ?_
  obtain ⟨x_1, ex_1⟩ : ∃ z9 : Int32, z9 = (tC g j) - 1 := ⟨_, rfl⟩
  rw [← ex_1]
  refine lv_istore_n (pc := 6) (lv' := [(3, .int x_1), (0, .ref (ad (17 + 2 * j))), (1, .long v)]) hx hb dX2_addToLast_6 rfl hl (by decide) rfl (fun ls hl => ?_)
  refine lv_iload_n (pc := 7) hx hb dX2_addToLast_7 rfl (lv_at hl 0 rfl) ?_
  refine lv_if_lt (pc := 8) (tgt := 30) hx hb dX2_addToLast_8 (by decide) (fun c_2 => ?_) (fun c_2 => ?_)
  · refine r_vret (pc := 30) E hr hlk hS (by decide) (by decide) ?_ dX2_addToLast_30
    exact hW.to (by subst ex_1; first | with_reducible rfl | (simp [f_addTo, c_2, Int32.not_le.mpr c_2, p_TB, p_TV, p_TC, p_TI, p_BT, p_BV, p_BC, p_BI, p_VT, p_VB, p_VC, p_VI, p_CT, p_CB, p_CV, p_CI, p_IT, p_IB, p_IV, p_IC, p_TT, p_BB, p_CC, p_II]; done))
  · refine lv_iload_n (pc := 11) hx hb dX2_addToLast_11 rfl (lv_at hl 0 rfl) ?_
    refine lv_aload_n (pc := 12) hx hb dX2_addToLast_12 rfl (lv_at hl 1 rfl) ?_
    refine r_get (pc := 13) E hC (hW.tm (j := j) hj) 0 (v := .ref (ad (18 + 2 * j))) rfl rfl (by decide) uX2 (List.mem_cons_of_mem _ kw_67) (fun _ h => h) dX2_addToLast_13 ?_
    refine r_alen (pc := 16) E hC (hW.vl (j := j) hj) 0 rfl (v := 64) rfl dX2_addToLast_16 ?_
    refine lv_icmp_ge (pc := 17) (tgt := 30) hx hb dX2_addToLast_17 (by decide) (fun c_3 => ?_) (fun c_3 => ?_)
    · refine r_vret (pc := 30) E hr hlk hS (by decide) (by decide) ?_ dX2_addToLast_30
      exact hW.to (by subst ex_1; first | with_reducible rfl | (simp [f_addTo, c_2, Int32.not_lt.mp c_2, c_3, Int32.not_lt.mpr c_3, p_TB, p_TV, p_TC, p_TI, p_BT, p_BV, p_BC, p_BI, p_VT, p_VB, p_VC, p_VI, p_CT, p_CB, p_CV, p_CI, p_IT, p_IB, p_IV, p_IC, p_TT, p_BB, p_CC, p_II]; done))
    · refine lv_aload_n (pc := 20) hx hb dX2_addToLast_20 rfl (lv_at hl 1 rfl) ?_
      refine r_get (pc := 21) E hC (hW.tm (j := j) hj) 0 (v := .ref (ad (18 + 2 * j))) rfl rfl (by decide) uX2 (List.mem_cons_of_mem _ kw_67) (fun _ h => h) dX2_addToLast_21 ?_
      refine lv_iload_n (pc := 24) hx hb dX2_addToLast_24 rfl (lv_at hl 0 rfl) ?_
      refine lv_dup2_11 (pc := 25) hx hb dX2_addToLast_25 rfl rfl ?_
      refine r_lald (pc := 26) E hC (hW.vl (j := j) hj) (by first | exact vp_of2 (n := 64) (k := 64) rfl (by assumption) (by assumption) | exact vp_of3 (n := 64) (k := 64) rfl (by assumption) (by assumption)) dX2_addToLast_26 ?_
      refine lv_lload_n (pc := 27) hx hb dX2_addToLast_27 rfl (lv_at hl 2 rfl) ?_
      refine lv_ladd (pc := 28) hx hb dX2_addToLast_28 ?_
      refine r_last (pc := 29) E hC (hW.vl (j := j) hj) hS (Or.inl ⟨18 + 2 * j, by have := (hj : j < 2); omega, rfl⟩) (by first | exact vp_of2 (n := 64) (k := 64) rfl (by assumption) (by assumption) | exact vp_of3 (n := 64) (k := 64) rfl (by assumption) (by assumption)) dX2_addToLast_29 (fun H locs h1 ho hz hS => ?_)
      have hW := hW.setV hAD hj h1 ho
      obtain ⟨g_4, eg_4⟩ : ∃ z, z = uV g j (x_1).toNatClampNeg ((tV g j (x_1).toNatClampNeg) + v) := ⟨_, rfl⟩
      rw [← eg_4] at hW
      refine r_vret (pc := 30) E hr hlk hS (by decide) (by decide) ?_ dX2_addToLast_30
      exact hW.to (by subst ex_1 eg_4; first | with_reducible rfl | (simp [f_addTo, c_2, Int32.not_lt.mp c_2, c_3, Int32.not_le.mp c_3, p_TB, p_TV, p_TC, p_TI, p_BT, p_BV, p_BC, p_BI, p_VT, p_VB, p_VC, p_VI, p_CT, p_CB, p_CV, p_CI, p_IT, p_IB, p_IV, p_IC, p_TT, p_BB, p_CC, p_II]; done))

set_option maxHeartbeats 4000000 in
set_option maxRecDepth 100000 in
/-- Bestratios$Terms.keepFirst(I)V -/
theorem c_X2_keepFirst (l : Launch) (D : va_G) (tk : Nat → ClassId) (N0 : Nat) (sa : Nat → Nat) {ad : Nat → Nat} (hAD : ADok N0 ad) (sz : Nat) (g : CS) (j : Nat) (hj : j < 2) (mn : Int32) : Met l yX2_keepFirst (wsy yX2_keepFirst cX2_keepFirst 2 none) ({ frames := 0, cells := 0, slots := 0, locals := 0 } : Room) (cP D tk N0 sa [.ref (ad (17 + 2 * j)), .int mn] sz (fun H => CW D tk ad g H)) (kQv (fun H => CW D tk ad (f_keep g j mn) H) (cwA ad sz)) (0) (0) (cwA ad sz) := by
  refine mStart RX2 rfl (by decide +kernel) (Nat.le_of_ble_eq_true rfl) ?_
  intro p e s m args below meth c E hr hlk hnm hsz hC hF ls hl
  subst hsz
  obtain ⟨hx, hb, -⟩ := id E
  have hA : ∀ q, (cwA ad s.heap.size) q → N0 ≤ q := cwA.ge hAD hC.2.1
  have hn : ∀ q, s.heap.size ≤ q → (cwA ad s.heap.size) q := fun q h => Or.inr h
  have hS : va_S (cwA ad s.heap.size) s.heap s.heap [] := va_S.rf
  have hl : lv_has ls 2 [(0, .ref (ad (17 + 2 * j))), (1, .int mn)] := hl
  have hW : CW D tk ad g s.heap := hF
  refine lv_iload_n (pc := 0) hx hb dX2_keepFirst_0 rfl (lv_at hl 1 rfl) ?_
  refine lv_if_lt (pc := 1) (tgt := 17) hx hb dX2_keepFirst_1 (by decide) (fun c_1 => ?_) (fun c_1 => ?_)
  · refine r_vret (pc := 17) E hr hlk hS (by decide) (by decide) ?_ dX2_keepFirst_17
    exact hW.to (by first | with_reducible rfl | (simp [f_keep, c_1, Int32.not_le.mpr c_1, p_TB, p_TV, p_TC, p_TI, p_BT, p_BV, p_BC, p_BI, p_VT, p_VB, p_VC, p_VI, p_CT, p_CB, p_CV, p_CI, p_IT, p_IB, p_IV, p_IC, p_TT, p_BB, p_CC, p_II]; done))
  · refine lv_iload_n (pc := 4) hx hb dX2_keepFirst_4 rfl (lv_at hl 1 rfl) ?_
    refine lv_aload_n (pc := 5) hx hb dX2_keepFirst_5 rfl (lv_at hl 0 rfl) ?_
    refine r_get (pc := 6) E hC (hW.tm (j := j) hj) 1 (v := .int (tC g j)) rfl rfl (by decide) uX2 (List.mem_cons_of_mem _ kw_68) (fun _ h => h) dX2_keepFirst_6 ?_
    refine lv_icmp_ge (pc := 9) (tgt := 17) hx hb dX2_keepFirst_9 (by decide) (fun c_2 => ?_) (fun c_2 => ?_)
    · refine r_vret (pc := 17) E hr hlk hS (by decide) (by decide) ?_ dX2_keepFirst_17
      exact hW.to (by first | with_reducible rfl | (simp [f_keep, c_1, Int32.not_lt.mp c_1, c_2, Int32.not_lt.mpr c_2, p_TB, p_TV, p_TC, p_TI, p_BT, p_BV, p_BC, p_BI, p_VT, p_VB, p_VC, p_VI, p_CT, p_CB, p_CV, p_CI, p_IT, p_IB, p_IV, p_IC, p_TT, p_BB, p_CC, p_II]; done))
    · refine lv_aload_n (pc := 12) hx hb dX2_keepFirst_12 rfl (lv_at hl 0 rfl) ?_
      refine lv_iload_n (pc := 13) hx hb dX2_keepFirst_13 rfl (lv_at hl 1 rfl) ?_
      refine r_put (pc := 14) E hC (hW.tm (j := j) hj) hS (Or.inl ⟨17 + 2 * j, by have := (hj : j < 2); omega, rfl⟩) 1 tyX2 tyX2_ok nmX2 rfl (by decide) (Nat.le_of_ble_eq_true rfl) uX2 (List.mem_cons_of_mem _ kw_68) (fun _ h => h) rfl rfl rfl dX2_keepFirst_14 (fun H locs h1 ho hz hS => ?_)
      have hW := hW.setC hAD hj h1 ho
      obtain ⟨g_3, eg_3⟩ : ∃ z, z = uC g j mn := ⟨_, rfl⟩
      rw [← eg_3] at hW
      refine r_vret (pc := 17) E hr hlk hS (by decide) (by decide) ?_ dX2_keepFirst_17
      exact hW.to (by subst eg_3; first | with_reducible rfl | (simp [f_keep, c_1, Int32.not_lt.mp c_1, c_2, Int32.not_le.mp c_2, p_TB, p_TV, p_TC, p_TI, p_BT, p_BV, p_BC, p_BI, p_VT, p_VB, p_VC, p_VI, p_CT, p_CB, p_CV, p_CI, p_IT, p_IB, p_IV, p_IC, p_TT, p_BB, p_CC, p_II]; done))

set_option maxHeartbeats 4000000 in
set_option maxRecDepth 100000 in
/-- Bestratios$Terms.total()J -/
theorem c_X2_total (l : Launch) (D : va_G) (tk : Nat → ClassId) (N0 : Nat) (sa : Nat → Nat) {ad : Nat → Nat} (hAD : ADok N0 ad) (sz : Nat) (g : CS) (j : Nat) (hj : j < 2) : Met l yX2_total (wsy yX2_total cX2_total 4 (some .long)) ({ frames := 1, cells := 0, slots := 0, locals := 21 } : Room) (cP D tk N0 sa [.ref (ad (17 + 2 * j))] sz (fun H => CW D tk ad g H)) (kQl (fun r H => r = f_total g j) (nwA sz)) (0) (0) (nwA sz) := by
  refine mStart RX2 rfl (by decide +kernel) (Nat.le_of_ble_eq_true rfl) ?_
  intro p e s m args below meth c E hr hlk hnm hsz hC hF ls hl
  subst hsz
  obtain ⟨hx, hb, -⟩ := id E
  have hA : ∀ q, (nwA s.heap.size) q → N0 ≤ q := fun q h => Nat.le_trans hC.2.1 h
  have hn : ∀ q, s.heap.size ≤ q → (nwA s.heap.size) q := fun q h => h
  have hS : va_S (nwA s.heap.size) s.heap s.heap [] := va_S.rf
  have hl : lv_has ls 4 [(0, .ref (ad (17 + 2 * j)))] := hl
  obtain ⟨Q, hQ⟩ : ∃ Q, Q = MQ below (kQl (fun r H => r = f_total g j) (nwA s.heap.size)) args s (0) (0) (nwA s.heap.size) := ⟨_, rfl⟩
  rw [← hQ]
  have hW : CW D tk ad g s.heap := hF
  refine lv_lconst (pc := 0) (v := 0) hx hb dX2_total_0 (by decide) ?_
  refine lv_lstore_n (pc := 1) (lv' := [(1, .long 0), (0, .ref (ad (17 + 2 * j)))]) hx hb dX2_total_1 rfl hl (by decide) rfl (fun ls hl => ?_)
  refine lv_iconst (pc := 2) (v := 0) hx hb dX2_total_2 (by decide) ?_
  refine lv_istore_n (pc := 3) (lv' := [(3, .int 0), (1, .long 0), (0, .ref (ad (17 + 2 * j)))]) hx hb dX2_total_3 rfl hl (by decide) rfl (fun ls hl => ?_)
  have loop_4 : ∀ (n : Nat) (k : Nat)(a9 : Int64) (x : Int32), (tC g j).toNatClampNeg - k < n → k ≤ (tC g j).toNatClampNeg → x = nI k → totL g j ((tC g j).toNatClampNeg - k) k a9 = f_total g j → ∀ (H : Heap) (locs : List Loc) (ls : Array Slot), va_S (nwA s.heap.size) s.heap H locs → CW D tk ad g H → lv_has ls 4 [(0, .ref (ad (17 + 2 * j))), (1, .long a9), (3, .int x)] → W p l e ({ frames := 1, cells := 0, slots := 0, locals := 21 } : Room) s m args below meth c H locs (0) (0) Q (F0 m 4 ls []) := by
    intro n
    induction n with
    | zero =>
      intro k a9 x hf9 hk9 hx9 hg9 H locs ls hS hW hl
      omega
    | succ n ih_4 =>
      intro k a9 x hf9 hk9 hx9 hg9 H locs ls hS hW hl
      refine lv_iload_n (pc := 4) hx hb dX2_total_4 rfl (lv_at hl 2 rfl) ?_
      refine lv_aload_n (pc := 5) hx hb dX2_total_5 rfl (lv_at hl 0 rfl) ?_
      refine r_get (pc := 6) E hC (hW.tm (j := j) hj) 1 (v := .int (tC g j)) rfl rfl (by decide) uX2 (List.mem_cons_of_mem _ kw_68) (fun _ h => h) dX2_total_6 ?_
      refine lv_icmp_ge (pc := 9) (tgt := 26) hx hb dX2_total_9 (by decide) (fun c_1 => ?_) (fun c_1 => ?_)
      · refine lv_lload_n (pc := 26) hx hb dX2_total_26 rfl (lv_at hl 1 rfl) ?_
        try rw [hQ]
        refine r_lret (pc := 27) E hr hlk hS (by decide) (by decide) ?_ dX2_total_27
        rw [← hg9]
        have e0 := (i_mle hx9 hk9).mp c_1
        (rw [e0]) <;> simp [totL]
      · refine lv_lload_n (pc := 12) hx hb dX2_total_12 rfl (lv_at hl 1 rfl) ?_
        refine lv_aload_n (pc := 13) hx hb dX2_total_13 rfl (lv_at hl 0 rfl) ?_
        refine lv_iload_n (pc := 14) hx hb dX2_total_14 rfl (lv_at hl 2 rfl) ?_
        refine k_l (pc := 15) (k_V E hC hS hA hl.1 (c1.recv hC (hW.tm (j := j) hj) rfl) rfl (c_X2_at l D tk N0 sa hAD H.size g j hj x ) kw_577 kw_278 kw_279 kw_3 kw_280 (n := 1) (by decide +kernel) rfl ⟨⟨rfl, rfl⟩, ⟨by decide, by decide⟩, by decide, by decide⟩ rfl (Nat.le_of_ble_eq_true rfl) hW dX2_total_15) hS (fun q z w => absurd w (Nat.not_le.mpr z)) hn (fun r_2 H locs hR hz hk hS => ?_)
        have er_2 := hR
        have hW := hW.new hk
        refine lv_ladd (pc := 18) hx hb dX2_total_18 ?_
        obtain ⟨x_4, ex_4⟩ : ∃ z9 : Int64, z9 = a9 + r_2 := ⟨_, rfl⟩
        rw [← ex_4]
        refine lv_lstore_n (pc := 19) (lv' := [(1, .long x_4), (0, .ref (ad (17 + 2 * j))), (3, .int x)]) hx hb dX2_total_19 rfl hl (by decide) rfl (fun ls hl => ?_)
        obtain ⟨x_5, ex_5⟩ : ∃ z9 : Int32, z9 = x + 1 := ⟨_, rfl⟩
        refine lv_iinc (pc := 20) (v := x_5) (lv' := [(3, .int x_5), (1, .long x_4), (0, .ref (ad (17 + 2 * j)))]) hx hb dX2_total_20 hl (k := 2) rfl (by rw [ex_5]; rfl) (by decide) rfl (fun ls hl => ?_)
        refine lv_goto (pc := 23) (tgt := 4) hx hb dX2_total_23 (by decide) ?_
        have hlt := (i_mlt hx9 hk9).mp c_1
        have e200 : (tC g j).toNatClampNeg - k = ((tC g j).toNatClampNeg - (k + 1)) + 1 := by omega
        rw [e200] at hg9
        exact ih_4  (k + 1)  x_4 x_5 (by omega) (by omega) (i_up hx9 ex_5) (by rw [← hg9]; subst er_2 ex_4; simp [totL, hx9]) _ _ _ hS hW (lv_sub hl [2, 1, 0] rfl)
  exact loop_4 ((tC g j).toNatClampNeg + 1) 0  0 0 (by omega) (Nat.zero_le _) nI_0.symm rfl _ _ _ hS hW (lv_sub hl [2, 1, 0] rfl)

set_option maxHeartbeats 4000000 in
set_option maxRecDepth 100000 in
/-- Bestratios$Terms.takeApart(LBestratios$Fraction;)V -/
theorem c_X2_takeApart (l : Launch) (D : va_G) (tk : Nat → ClassId) (N0 : Nat) (sa : Nat → Nat) {ad : Nat → Nat} (hAD : ADok N0 ad) (sz : Nat) (g : CS) (j : Nat) (hj : j < 2) (i : Nat) (hi : i < 15) : Met l yX2_takeApart (wsy yX2_takeApart cX2_takeApart 11 none) ({ frames := 2, cells := 0, slots := 0, locals := 48 } : Room) (cP D tk N0 sa [.ref (ad (17 + 2 * j)), .ref (ad i)] sz (fun H => CW D tk ad g H)) (kQv (fun H => CW D tk ad (f_apart g j i) H) (cwA ad sz)) (0) (0) (cwA ad sz) := by
  refine mStart RX2 rfl (by decide +kernel) (Nat.le_of_ble_eq_true rfl) ?_
  intro p e s m args below meth c E hr hlk hnm hsz hC hF ls hl
  subst hsz
  obtain ⟨hx, hb, -⟩ := id E
  have hA : ∀ q, (cwA ad s.heap.size) q → N0 ≤ q := cwA.ge hAD hC.2.1
  have hn : ∀ q, s.heap.size ≤ q → (cwA ad s.heap.size) q := fun q h => Or.inr h
  have hS : va_S (cwA ad s.heap.size) s.heap s.heap [] := va_S.rf
  have hl : lv_has ls 11 [(0, .ref (ad (17 + 2 * j))), (1, .ref (ad i))] := hl
  obtain ⟨Q, hQ⟩ : ∃ Q, Q = MQ below (kQv (fun H => CW D tk ad (f_apart g j i) H) (cwA ad s.heap.size)) args s (0) (0) (cwA ad s.heap.size) := ⟨_, rfl⟩
  rw [← hQ]
  have hW : CW D tk ad g s.heap := hF
  refine lv_aload_n (pc := 0) hx hb dX2_takeApart_0 rfl (lv_at hl 0 rfl) ?_
  refine lv_iconst (pc := 1) (v := 0) hx hb dX2_takeApart_1 (by decide) ?_
  refine r_put (pc := 2) E hC (hW.tm (j := j) hj) hS (Or.inl ⟨17 + 2 * j, by have := (hj : j < 2); omega, rfl⟩) 1 tyX2 tyX2_ok nmX2 rfl (by decide) (Nat.le_of_ble_eq_true rfl) uX2 (List.mem_cons_of_mem _ kw_68) (fun _ h => h) rfl rfl rfl dX2_takeApart_2 (fun H locs h1 ho hz hS => ?_)
  have hW := hW.setC hAD hj h1 ho
  obtain ⟨g_1, eg_1⟩ : ∃ z, z = uC g j 0 := ⟨_, rfl⟩
  rw [← eg_1] at hW
  refine lv_aload_n (pc := 5) hx hb dX2_takeApart_5 rfl (lv_at hl 1 rfl) ?_
  refine r_getN (pc := 6) "Bestratios" E hC (hW.fr (i := i) hi) 0 (v := .long (tT g_1 i)) rfl rfl (by decide) uX0 kn_51 (fun _ h => h) dX2_takeApart_6 ?_
  obtain ⟨x_2, ex_2⟩ : ∃ z9 : Int64, z9 = tT g_1 i := ⟨_, rfl⟩
  rw [← ex_2]
  refine lv_lstore_n (pc := 9) (lv' := [(2, .long x_2), (0, .ref (ad (17 + 2 * j))), (1, .ref (ad i))]) hx hb dX2_takeApart_9 rfl hl (by decide) rfl (fun ls hl => ?_)
  refine lv_aload_n (pc := 10) hx hb dX2_takeApart_10 rfl (lv_at hl 2 rfl) ?_
  refine r_getN (pc := 11) "Bestratios" E hC (hW.fr (i := i) hi) 1 (v := .long (tB g_1 i)) rfl rfl (by decide) uX0 kn_54 (fun _ h => h) dX2_takeApart_11 ?_
  obtain ⟨x_3, ex_3⟩ : ∃ z9 : Int64, z9 = tB g_1 i := ⟨_, rfl⟩
  rw [← ex_3]
  refine lv_lstore (pc := 14) (lv' := [(4, .long x_3), (2, .long x_2), (0, .ref (ad (17 + 2 * j))), (1, .ref (ad i))]) hx hb dX2_takeApart_14 hl (by decide) rfl (fun ls hl => ?_)
  refine lv_iconst (pc := 16) (v := 0) hx hb dX2_takeApart_16 (by decide) ?_
  refine lv_istore (pc := 17) (lv' := [(6, .int 0), (4, .long x_3), (2, .long x_2), (0, .ref (ad (17 + 2 * j))), (1, .ref (ad i))]) hx hb dX2_takeApart_17 hl (by decide) rfl (fun ls hl => ?_)
  have loop_19 : ∀ (n : Nat) (k : Nat)(g1 : CS) (tp9 : Int64) (bt9 : Int64) (x : Int32), 64 - k < n → k ≤ 64 → x = nI k → apartL j (64 - k) g1 tp9 bt9 = f_apart g j i → ∀ (H : Heap) (locs : List Loc) (ls : Array Slot), va_S (cwA ad s.heap.size) s.heap H locs → CW D tk ad g1 H → lv_has ls 11 [(0, .ref (ad (17 + 2 * j))), (1, .ref (ad i)), (2, .long tp9), (4, .long bt9), (6, .int x)] → W p l e ({ frames := 2, cells := 0, slots := 0, locals := 48 } : Room) s m args below meth c H locs (0) (0) Q (F0 m 19 ls []) := by
    intro n
    induction n with
    | zero =>
      intro k g1 tp9 bt9 x hf9 hk9 hx9 hg9 H locs ls hS hW hl
      omega
    | succ n ih_19 =>
      intro k g1 tp9 bt9 x hf9 hk9 hx9 hg9 H locs ls hS hW hl
      refine lv_iload (pc := 19) hx hb dX2_takeApart_19 (lv_at hl 4 rfl) ?_
      refine lv_aload_n (pc := 21) hx hb dX2_takeApart_21 rfl (lv_at hl 0 rfl) ?_
      refine r_get (pc := 22) E hC (hW.tm (j := j) hj) 0 (v := .ref (ad (18 + 2 * j))) rfl rfl (by decide) uX2 (List.mem_cons_of_mem _ kw_67) (fun _ h => h) dX2_takeApart_22 ?_
      refine r_alen (pc := 25) E hC (hW.vl (j := j) hj) 0 rfl (v := 64) rfl dX2_takeApart_25 ?_
      refine lv_icmp_ge (pc := 26) (tgt := 72) hx hb dX2_takeApart_26 (by decide) (fun c_4 => ?_) (fun c_4 => ?_)
      · try rw [hQ]
        refine r_vret (pc := 72) E hr hlk hS (by decide) (by decide) ?_ dX2_takeApart_72
        exact hW.to (by rw [← hg9]; have e0 : 64 - k = 0 := (by have := (i_le (n := 64) hx9 (by decide) (by omega) (by decide)).mp c_4; omega); (rw [e0]) <;> simp [apartL])
      · refine lv_lload (pc := 29) hx hb dX2_takeApart_29 (lv_at hl 3 rfl) ?_
        refine lv_lconst (pc := 31) (v := 0) hx hb dX2_takeApart_31 (by decide) ?_
        refine r_lceq (pc := 32) (tgt := 72) E dX2_takeApart_32 dX2_takeApart_33 (by decide) (fun c_5 => ?_) (fun c_5 => ?_)
        · try rw [hQ]
          refine r_vret (pc := 72) E hr hlk hS (by decide) (by decide) ?_ dX2_takeApart_72
          exact hW.to (by rw [← hg9]; rw [apartL_z c_5])
        · refine lv_lload_n (pc := 36) hx hb dX2_takeApart_36 rfl (lv_at hl 2 rfl) ?_
          refine lv_lload (pc := 37) hx hb dX2_takeApart_37 (lv_at hl 3 rfl) ?_
          refine k_l (pc := 39) (k_SN "Bestratios" E hC hS hA hl.1 (c_X3_floorOf l D tk N0 sa H.size tp9 bt9 ) kn_567 kw_502 kw_1 kw_503 (n := 2) (by decide +kernel) rfl ⟨⟨rfl, rfl⟩, ⟨by decide, by decide⟩, by decide, by decide⟩ rfl (Nat.le_of_ble_eq_true rfl) trivial dX2_takeApart_39) hS (fun q z w => absurd w (Nat.not_le.mpr z)) hn (fun r_6 H locs hR hz hk hS => ?_)
          have er_6 := hR
          have hW := hW.new hk
          refine lv_lstore (pc := 42) (lv' := [(7, .long r_6), (0, .ref (ad (17 + 2 * j))), (1, .ref (ad i)), (2, .long tp9), (4, .long bt9), (6, .int x)]) hx hb dX2_takeApart_42 hl (by decide) rfl (fun ls hl => ?_)
          refine lv_lload_n (pc := 44) hx hb dX2_takeApart_44 rfl (lv_at hl 3 rfl) ?_
          refine lv_lload (pc := 45) hx hb dX2_takeApart_45 (lv_at hl 0 rfl) ?_
          refine lv_lload (pc := 47) hx hb dX2_takeApart_47 (lv_at hl 4 rfl) ?_
          refine lv_lmul (pc := 49) hx hb dX2_takeApart_49 ?_
          refine lv_lsub (pc := 50) hx hb dX2_takeApart_50 ?_
          obtain ⟨x_8, ex_8⟩ : ∃ z9 : Int64, z9 = tp9 - (r_6 * bt9) := ⟨_, rfl⟩
          rw [← ex_8]
          refine lv_lstore (pc := 51) (lv' := [(9, .long x_8), (7, .long r_6), (0, .ref (ad (17 + 2 * j))), (1, .ref (ad i)), (2, .long tp9), (4, .long bt9), (6, .int x)]) hx hb dX2_takeApart_51 hl (by decide) rfl (fun ls hl => ?_)
          refine lv_aload_n (pc := 53) hx hb dX2_takeApart_53 rfl (lv_at hl 2 rfl) ?_
          refine lv_lload (pc := 54) hx hb dX2_takeApart_54 (lv_at hl 1 rfl) ?_
          refine k_v (pc := 56) (k_V E hC hS hA hl.1 (c1.recv hC (hW.tm (j := j) hj) rfl) rfl (c_X2_addLast l D tk N0 sa hAD H.size g1 j hj r_6 ) kw_568 kw_569 kw_570 kw_3 kw_571 (n := 1) (by decide +kernel) rfl ⟨⟨rfl, rfl⟩, ⟨by decide, by decide⟩, by decide, by decide⟩ rfl (Nat.le_of_ble_eq_true rfl) hW dX2_takeApart_56) hS (fun q _ w => cwA.go hS.1 q w) hn (fun H locs hR hz hk hS => ?_)
          have hW := hR
          obtain ⟨g_11, eg_11⟩ : ∃ z, z = f_addLast g1 j r_6 := ⟨_, rfl⟩
          rw [← eg_11] at hW
          refine lv_lload (pc := 59) hx hb dX2_takeApart_59 (lv_at hl 5 rfl) ?_
          refine lv_lstore_n (pc := 61) (lv' := [(2, .long bt9), (9, .long x_8), (7, .long r_6), (0, .ref (ad (17 + 2 * j))), (1, .ref (ad i)), (4, .long bt9), (6, .int x)]) hx hb dX2_takeApart_61 rfl hl (by decide) rfl (fun ls hl => ?_)
          refine lv_lload (pc := 62) hx hb dX2_takeApart_62 (lv_at hl 1 rfl) ?_
          refine lv_lstore (pc := 64) (lv' := [(4, .long x_8), (2, .long bt9), (9, .long x_8), (7, .long r_6), (0, .ref (ad (17 + 2 * j))), (1, .ref (ad i)), (6, .int x)]) hx hb dX2_takeApart_64 hl (by decide) rfl (fun ls hl => ?_)
          obtain ⟨x_12, ex_12⟩ : ∃ z9 : Int32, z9 = x + 1 := ⟨_, rfl⟩
          refine lv_iinc (pc := 66) (v := x_12) (lv' := [(6, .int x_12), (4, .long x_8), (2, .long bt9), (9, .long x_8), (7, .long r_6), (0, .ref (ad (17 + 2 * j))), (1, .ref (ad i))]) hx hb dX2_takeApart_66 hl (k := 6) rfl (by rw [ex_12]; rfl) (by decide) rfl (fun ls hl => ?_)
          refine lv_goto (pc := 69) (tgt := 19) hx hb dX2_takeApart_69 (by decide) ?_
          have hlt : k < 64 := Nat.not_le.mp (fun z => c_4 ((i_le (n := 64) hx9 (by decide) (by omega) (by decide)).mpr z))
          have e200 : 64 - k = (64 - (k + 1)) + 1 := by omega
          rw [e200] at hg9
          exact ih_19  (k + 1) g_11  bt9 x_8 x_12 (by omega) (by omega) (i_up hx9 ex_12) (by rw [← hg9]; subst ex_2 ex_3 er_6 ex_8 eg_11; simp [apartL, c_5]) _ _ _ hS hW (lv_sub hl [5, 6, 2, 1, 0] rfl)
  exact loop_19 65 0 g_1  x_2 x_3 0 (by decide) (by decide) nI_0.symm (by subst eg_1 ex_2 ex_3; rfl) _ _ _ hS hW (lv_sub hl [3, 4, 2, 1, 0] rfl)

set_option maxHeartbeats 4000000 in
set_option maxRecDepth 100000 in
/-- Bestratios$Terms.foldInto(LBestratios$Fraction;)Z -/
theorem c_X2_foldInto (l : Launch) (D : va_G) (tk : Nat → ClassId) (N0 : Nat) (sa : Nat → Nat) {ad : Nat → Nat} (hAD : ADok N0 ad) (sz : Nat) (g : CS) (j : Nat) (hj : j < 2) (i : Nat) (hi : i < 15) : Met l yX2_foldInto (wsy yX2_foldInto cX2_foldInto 9 (some .boolean)) ({ frames := 3, cells := 0, slots := 0, locals := 76 } : Room) (cP D tk N0 sa [.ref (ad (17 + 2 * j)), .ref (ad i)] sz (fun H => CW D tk ad g H)) (kQi (fun r H => r = f_foldR g j ∧ CW D tk ad (f_foldW g j i) H) (cwA ad sz)) (0) (0) (cwA ad sz) := by
  refine mStart RX2 rfl (by decide +kernel) (Nat.le_of_ble_eq_true rfl) ?_
  intro p e s m args below meth c E hr hlk hnm hsz hC hF ls hl
  subst hsz
  obtain ⟨hx, hb, -⟩ := id E
  have hA : ∀ q, (cwA ad s.heap.size) q → N0 ≤ q := cwA.ge hAD hC.2.1
  have hn : ∀ q, s.heap.size ≤ q → (cwA ad s.heap.size) q := fun q h => Or.inr h
  have hS : va_S (cwA ad s.heap.size) s.heap s.heap [] := va_S.rf
  have hl : lv_has ls 9 [(0, .ref (ad (17 + 2 * j))), (1, .ref (ad i))] := hl
  obtain ⟨Q, hQ⟩ : ∃ Q, Q = MQ below (kQi (fun r H => r = f_foldR g j ∧ CW D tk ad (f_foldW g j i) H) (cwA ad s.heap.size)) args s (0) (0) (cwA ad s.heap.size) := ⟨_, rfl⟩
  rw [← hQ]
  have hW : CW D tk ad g s.heap := hF
  refine lv_aload_n (pc := 0) hx hb dX2_foldInto_0 rfl (lv_at hl 0 rfl) ?_
  refine r_get (pc := 1) E hC (hW.tm (j := j) hj) 1 (v := .int (tC g j)) rfl rfl (by decide) uX2 (List.mem_cons_of_mem _ kw_68) (fun _ h => h) dX2_foldInto_1 ?_
  refine lv_iconst (pc := 4) (v := 1) hx hb dX2_foldInto_4 (by decide) ?_
  refine lv_icmp_ge (pc := 5) (tgt := 10) hx hb dX2_foldInto_5 (by decide) (fun c_1 => ?_) (fun c_1 => ?_)
  · refine lv_aload_n (pc := 10) hx hb dX2_foldInto_10 rfl (lv_at hl 0 rfl) ?_
    refine lv_aload_n (pc := 11) hx hb dX2_foldInto_11 rfl (lv_at hl 0 rfl) ?_
    refine r_get (pc := 12) E hC (hW.tm (j := j) hj) 1 (v := .int (tC g j)) rfl rfl (by decide) uX2 (List.mem_cons_of_mem _ kw_68) (fun _ h => h) dX2_foldInto_12 ?_
    refine lv_iconst (pc := 15) (v := 1) hx hb dX2_foldInto_15 (by decide) ?_
    refine lv_isub (pc := 16) hx hb dX2_foldInto_16 ?_
    refine k_l (pc := 17) (k_V E hC hS hA hl.1 (c1.recv hC (hW.tm (j := j) hj) rfl) rfl (c_X2_at l D tk N0 sa hAD s.heap.size g j hj ((tC g j) - 1) ) kw_577 kw_278 kw_279 kw_3 kw_280 (n := 1) (by decide +kernel) rfl ⟨⟨rfl, rfl⟩, ⟨by decide, by decide⟩, by decide, by decide⟩ rfl (Nat.le_of_ble_eq_true rfl) hW dX2_foldInto_17) hS (fun q z w => absurd w (Nat.not_le.mpr z)) hn (fun r_2 H locs hR hz hk hS => ?_)
    have er_2 := hR
    have hW := hW.new hk
    refine lv_lstore_n (pc := 20) (lv' := [(2, .long r_2), (0, .ref (ad (17 + 2 * j))), (1, .ref (ad i))]) hx hb dX2_foldInto_20 rfl hl (by decide) rfl (fun ls hl => ?_)
    refine lv_lconst (pc := 21) (v := 1) hx hb dX2_foldInto_21 (by decide) ?_
    refine lv_lstore (pc := 22) (lv' := [(4, .long 1), (2, .long r_2), (0, .ref (ad (17 + 2 * j))), (1, .ref (ad i))]) hx hb dX2_foldInto_22 hl (by decide) rfl (fun ls hl => ?_)
    refine lv_aload_n (pc := 24) hx hb dX2_foldInto_24 rfl (lv_at hl 2 rfl) ?_
    refine r_get (pc := 25) E hC (hW.tm (j := j) hj) 1 (v := .int (tC g j)) rfl rfl (by decide) uX2 (List.mem_cons_of_mem _ kw_68) (fun _ h => h) dX2_foldInto_25 ?_
    refine lv_iconst (pc := 28) (v := 2) hx hb dX2_foldInto_28 (by decide) ?_
    refine lv_isub (pc := 29) hx hb dX2_foldInto_29 ?_
    obtain ⟨x_4, ex_4⟩ : ∃ z9 : Int32, z9 = (tC g j) - 2 := ⟨_, rfl⟩
    rw [← ex_4]
    refine lv_istore (pc := 30) (lv' := [(6, .int x_4), (4, .long 1), (2, .long r_2), (0, .ref (ad (17 + 2 * j))), (1, .ref (ad i))]) hx hb dX2_foldInto_30 hl (by decide) rfl (fun ls hl => ?_)
    have loop_32 : ∀ (n : Nat) (k : Nat)(tp9 : Int64) (bt9 : Int64) (x : Int32), k < n → x + 1 = nI k → k < 2 ^ 31 → foldL g j k tp9 bt9 = f_fold g j → ∀ (H : Heap) (locs : List Loc) (ls : Array Slot), va_S (cwA ad s.heap.size) s.heap H locs → CW D tk ad g H → lv_has ls 9 [(0, .ref (ad (17 + 2 * j))), (1, .ref (ad i)), (2, .long tp9), (4, .long bt9), (6, .int x)] → W p l e ({ frames := 3, cells := 0, slots := 0, locals := 76 } : Room) s m args below meth c H locs (0 + 0) (0 + 0) Q (F0 m 32 ls []) := by
      intro n
      induction n with
      | zero =>
        intro k tp9 bt9 x hk9 hx9 hk8 hg9 H locs ls hS hW hl
        omega
      | succ n ih_32 =>
        intro k tp9 bt9 x hk9 hx9 hk8 hg9 H locs ls hS hW hl
        refine lv_iload (pc := 32) hx hb dX2_foldInto_32 (lv_at hl 4 rfl) ?_
        refine lv_if_lt (pc := 34) (tgt := 85) hx hb dX2_foldInto_34 (by decide) (fun c_5 => ?_) (fun c_5 => ?_)
        · refine lv_aload_n (pc := 85) hx hb dX2_foldInto_85 rfl (lv_at hl 1 rfl) ?_
          refine lv_lload_n (pc := 86) hx hb dX2_foldInto_86 rfl (lv_at hl 2 rfl) ?_
          refine lv_lload (pc := 87) hx hb dX2_foldInto_87 (lv_at hl 3 rfl) ?_
          refine k_v (pc := 89) (k_V E hC hS hA hl.1 (c1.recv hC (hW.fr (i := i) hi) rfl) rfl (c_X0_become l D tk N0 sa hAD H.size g i hi tp9 bt9 ) kw_579 kw_495 kw_496 kw_2 kw_497 (n := 2) (by decide +kernel) rfl ⟨⟨rfl, rfl⟩, ⟨by decide, by decide⟩, by decide, by decide⟩ rfl (Nat.le_of_ble_eq_true rfl) hW dX2_foldInto_89) hS (fun q _ w => cwA.go hS.1 q w) hn (fun H locs hR hz hk hS => ?_)
          have hW := hR
          obtain ⟨g_8, eg_8⟩ : ∃ z, z = f_become g i tp9 bt9 := ⟨_, rfl⟩
          rw [← eg_8] at hW
          refine lv_iconst (pc := 92) (v := 1) hx hb dX2_foldInto_92 (by decide) ?_
          try rw [hQ]
          refine r_zret (pc := 93) E hr hlk hS (by decide) (by decide) rfl ?_ dX2_foldInto_93
          have hfo : f_fold g j = some (tp9, bt9) := by
            rw [← hg9, f_zero hx9 hk8 c_5]; rfl
          exact ⟨by simp [f_foldR, hfo], hW.to (by rw [eg_8]; simp [f_foldW, hfo])⟩
        · refine lv_aload_n (pc := 37) hx hb dX2_foldInto_37 rfl (lv_at hl 0 rfl) ?_
          refine lv_iload (pc := 38) hx hb dX2_foldInto_38 (lv_at hl 4 rfl) ?_
          refine lv_iconst (pc := 40) (v := 1) hx hb dX2_foldInto_40 (by decide) ?_
          refine lv_iadd (pc := 41) hx hb dX2_foldInto_41 ?_
          refine k_l (pc := 42) (k_V E hC hS hA hl.1 (c1.recv hC (hW.tm (j := j) hj) rfl) rfl (c_X2_at l D tk N0 sa hAD H.size g j hj (x + 1) ) kw_577 kw_278 kw_279 kw_3 kw_280 (n := 1) (by decide +kernel) rfl ⟨⟨rfl, rfl⟩, ⟨by decide, by decide⟩, by decide, by decide⟩ rfl (Nat.le_of_ble_eq_true rfl) hW dX2_foldInto_42) hS (fun q z w => absurd w (Nat.not_le.mpr z)) hn (fun r_9 H locs hR hz hk hS => ?_)
          have er_9 := hR
          have hW := hW.new hk
          refine lv_lconst (pc := 45) (v := 1) hx hb dX2_foldInto_45 (by decide) ?_
          refine r_lclt (pc := 46) (tgt := 58) E dX2_foldInto_46 dX2_foldInto_47 (by decide) (fun c_11 => ?_) (fun c_11 => ?_)
          · refine lv_iconst (pc := 58) (v := 0) hx hb dX2_foldInto_58 (by decide) ?_
            try rw [hQ]
            refine r_zret (pc := 59) E hr hlk hS (by decide) (by decide) rfl ?_ dX2_foldInto_59
            obtain ⟨k1, rfl⟩ : ∃ k1, k = k1 + 1 := ⟨k - 1, by have := f_pos hx9 hk8 c_5; omega⟩
            have hfo : f_fold g j = none := by
              rw [← hg9]; subst er_2 ex_4 er_9; simp only [foldL, ← hx9]; split <;> first | rfl | (rw [if_pos (by first | assumption | exact Int64.not_le.mp (by assumption))])
            exact ⟨by simp [f_foldR, hfo], hW.to (by simp [f_foldW, hfo])⟩
          · refine lv_lload_n (pc := 50) hx hb dX2_foldInto_50 rfl (lv_at hl 2 rfl) ?_
            refine lv_ldc2 (pc := 51) (v := 4000000000) hx hb E.2.2.2.1 (E.2.2.2.2 _ (List.mem_cons_of_mem _ kw_578)) dX2_foldInto_51 ?_
            refine r_lcle (pc := 54) (tgt := 60) E dX2_foldInto_54 dX2_foldInto_55 (by decide) (fun c_12 => ?_) (fun c_12 => ?_)
            · refine lv_aload_n (pc := 60) hx hb dX2_foldInto_60 rfl (lv_at hl 0 rfl) ?_
              refine lv_iload (pc := 61) hx hb dX2_foldInto_61 (lv_at hl 4 rfl) ?_
              refine k_l (pc := 63) (k_V E hC hS hA hl.1 (c1.recv hC (hW.tm (j := j) hj) rfl) rfl (c_X2_at l D tk N0 sa hAD H.size g j hj x ) kw_577 kw_278 kw_279 kw_3 kw_280 (n := 1) (by decide +kernel) rfl ⟨⟨rfl, rfl⟩, ⟨by decide, by decide⟩, by decide, by decide⟩ rfl (Nat.le_of_ble_eq_true rfl) hW dX2_foldInto_63) hS (fun q z w => absurd w (Nat.not_le.mpr z)) hn (fun r_13 H locs hR hz hk hS => ?_)
              have er_13 := hR
              have hW := hW.new hk
              refine lv_lload_n (pc := 66) hx hb dX2_foldInto_66 rfl (lv_at hl 2 rfl) ?_
              refine lv_lmul (pc := 67) hx hb dX2_foldInto_67 ?_
              refine lv_lload (pc := 68) hx hb dX2_foldInto_68 (lv_at hl 3 rfl) ?_
              refine lv_ladd (pc := 70) hx hb dX2_foldInto_70 ?_
              obtain ⟨x_15, ex_15⟩ : ∃ z9 : Int64, z9 = (r_13 * tp9) + bt9 := ⟨_, rfl⟩
              rw [← ex_15]
              refine lv_lstore (pc := 71) (lv' := [(7, .long x_15), (0, .ref (ad (17 + 2 * j))), (1, .ref (ad i)), (2, .long tp9), (4, .long bt9), (6, .int x)]) hx hb dX2_foldInto_71 hl (by decide) rfl (fun ls hl => ?_)
              refine lv_lload_n (pc := 73) hx hb dX2_foldInto_73 rfl (lv_at hl 3 rfl) ?_
              refine lv_lstore (pc := 74) (lv' := [(4, .long tp9), (7, .long x_15), (0, .ref (ad (17 + 2 * j))), (1, .ref (ad i)), (2, .long tp9), (6, .int x)]) hx hb dX2_foldInto_74 hl (by decide) rfl (fun ls hl => ?_)
              refine lv_lload (pc := 76) hx hb dX2_foldInto_76 (lv_at hl 1 rfl) ?_
              refine lv_lstore_n (pc := 78) (lv' := [(2, .long x_15), (4, .long tp9), (7, .long x_15), (0, .ref (ad (17 + 2 * j))), (1, .ref (ad i)), (6, .int x)]) hx hb dX2_foldInto_78 rfl hl (by decide) rfl (fun ls hl => ?_)
              obtain ⟨x_16, ex_16⟩ : ∃ z9 : Int32, z9 = x + (-1) := ⟨_, rfl⟩
              refine lv_iinc (pc := 79) (v := x_16) (lv' := [(6, .int x_16), (2, .long x_15), (4, .long tp9), (7, .long x_15), (0, .ref (ad (17 + 2 * j))), (1, .ref (ad i))]) hx hb dX2_foldInto_79 hl (k := 5) rfl (by rw [ex_16]; rfl) (by decide) rfl (fun ls hl => ?_)
              refine lv_goto (pc := 82) (tgt := 32) hx hb dX2_foldInto_82 (by decide) ?_
              obtain ⟨k1, rfl⟩ : ∃ k1, k = k1 + 1 := ⟨k - 1, by have := f_pos hx9 hk8 c_5; omega⟩
              have hx8 : x = nI k1 := f_prev hx9
              exact ih_32  k1  x_15 tp9 x_16 (by omega) (by rw [ex_16]; exact f_dn hx8) (by omega) (by rw [← hg9]; subst ex_4 er_9 er_13 ex_15; simp only [foldL, hx8, nI_1] at *; rw [if_neg (by assumption), if_neg (by first | assumption | exact Int64.not_lt.mpr (by assumption))]) _ _ _ hS hW (lv_sub hl [4, 5, 1, 2, 0] rfl)
            · refine lv_iconst (pc := 58) (v := 0) hx hb dX2_foldInto_58 (by decide) ?_
              try rw [hQ]
              refine r_zret (pc := 59) E hr hlk hS (by decide) (by decide) rfl ?_ dX2_foldInto_59
              obtain ⟨k1, rfl⟩ : ∃ k1, k = k1 + 1 := ⟨k - 1, by have := f_pos hx9 hk8 c_5; omega⟩
              have hfo : f_fold g j = none := by
                rw [← hg9]; subst er_2 ex_4 er_9; simp only [foldL, ← hx9]; split <;> first | rfl | (rw [if_pos (by first | assumption | exact Int64.not_le.mp (by assumption))])
              exact ⟨by simp [f_foldR, hfo], hW.to (by simp [f_foldW, hfo])⟩
    exact loop_32 ((tC g j - 1).toNatClampNeg + 1) (tC g j - 1).toNatClampNeg  r_2 1 x_4 (by omega) (by rw [ex_4]; exact f_first c_1) (Int32.toNatClampNeg_lt _) (by subst er_2 ex_4; simp [f_fold, c_1]) _ _ _ hS hW (lv_sub hl [3, 4, 2, 1, 0] rfl)
  · refine lv_iconst (pc := 8) (v := 0) hx hb dX2_foldInto_8 (by decide) ?_
    try rw [hQ]
    refine r_zret (pc := 9) E hr hlk hS (by decide) (by decide) rfl ?_ dX2_foldInto_9
    have hfo : f_fold g j = none := by simp [f_fold, c_1]
    exact ⟨by simp [f_foldR, hfo], hW.to (by simp [f_foldW, hfo])⟩
