set_option maxHeartbeats 4000000 in
set_option maxRecDepth 100000 in
/-- Bestratios.ratioAt(I)LBestratios$Fraction; -/
theorem c_X3_ratioAt (l : Launch) (hlst : l.stackTraces = false) (D : va_G) (tk : Nat → ClassId) (N0 : Nat) (sa : Nat → Nat) {ad : Nat → Nat} (hAD : ADok N0 ad) (sz : Nat) (g : CS) (r_ : Int32) : vx_Met l yX3_ratioAt (wsy yX3_ratioAt cX3_ratioAt 2 (some (.object "Bestratios$Fraction"))) ({ frames := 6, cells := 1, slots := 6, locals := 90 } : Room) (cP D tk N0 sa [.ref (ad 15), .int r_] sz (fun H => CW D tk ad g H)) (kQr (fun r H => bR r_ = 0 ∧ r = ad (nn r_)) (nwA sz)) (kX (fun E => (E = "java/lang/IndexOutOfBoundsException" ∧ bR r_ = 1)) sz) (1) (6) (nwA sz) := by
  refine mStartX RX3 rfl (by decide +kernel) (Nat.le_of_ble_eq_true rfl) ?_
  intro p e s m args below meth c E hr hlk htb hsz hC hF ls hl
  subst hsz
  obtain ⟨hx, hb, -⟩ := id E
  have hA : ∀ q, (nwA s.heap.size) q → N0 ≤ q := fun q h => Nat.le_trans hC.2.1 h
  have hn : ∀ q, s.heap.size ≤ q → (nwA s.heap.size) q := fun q h => h
  have hS : va_S (nwA s.heap.size) s.heap s.heap [] := va_S.rf
  have hU : ∀ q, q < s.heap.size → s.heap[q]? = s.heap[q]? := fun _ _ => rfl
  have hl : lv_has ls 2 [(0, .ref (ad 15)), (1, .int r_)] := hl
  have hW : CW D tk ad g s.heap := hF
  refine lv_iload_n (pc := 0) hx hb dX3_ratioAt_0 rfl (lv_at hl 1 rfl) ?_
  refine lv_if_lt (pc := 1) (tgt := 13) hx hb dX3_ratioAt_1 (by decide) (fun c_1 => ?_) (fun c_1 => ?_)
  · exact r_throwW (pc := 13) 1 hlst E hC hS hA hl.1 hlk htb hU rfl (by decide +kernel) kw_813 kw_14 at_RX3_289 dX3_ratioAt_13 dX3_ratioAt_16 dX3_ratioAt_17 dX3_ratioAt_20 dX3_ratioAt_23 (by decide) (Nat.le_of_ble_eq_true rfl) (by decide) (by decide) (by first | (simp [bR]; done) | (simp_all [bR]; done)) (by decide) (by decide)
  · refine lv_iload_n (pc := 4) hx hb dX3_ratioAt_4 rfl (lv_at hl 1 rfl) ?_
    refine lv_aload_n (pc := 5) hx hb dX3_ratioAt_5 rfl (lv_at hl 0 rfl) ?_
    refine r_get (pc := 6) E hC hW.obj 0 (v := .ref (ad 16)) rfl rfl (by decide) uX3 (List.mem_cons_of_mem _ kw_114) (fun _ h => h) dX3_ratioAt_6 ?_
    refine r_alen (pc := 9) E hC hW.row 2 rfl (v := 6) rfl dX3_ratioAt_9 ?_
    refine lv_icmp_lt (pc := 10) (tgt := 24) hx hb dX3_ratioAt_10 (by decide) (fun c_2 => ?_) (fun c_2 => ?_)
    · refine lv_aload_n (pc := 24) hx hb dX3_ratioAt_24 rfl (lv_at hl 0 rfl) ?_
      refine r_get (pc := 25) E hC hW.obj 0 (v := .ref (ad 16)) rfl rfl (by decide) uX3 (List.mem_cons_of_mem _ kw_114) (fun _ h => h) dX3_ratioAt_25 ?_
      refine lv_iload_n (pc := 28) hx hb dX3_ratioAt_28 rfl (lv_at hl 1 rfl) ?_
      refine r_aald (pc := 29) E hC hW.row (vp_of3 (n := 6) (k := 6) (by decide) (Int32.not_lt.mp (by assumption)) (by assumption)) dX3_ratioAt_29 ?_
      refine vx_ret ?_
      refine r_aret (pc := 30) E hr (Or.inl ⟨_, rfl⟩) hlk hS (by decide) (by decide) ?_ dX3_ratioAt_30
      exact ⟨(by first | assumption | (simp [xo, c_1, Int32.not_lt.mp c_1, c_2, Int32.not_le.mpr c_2, bR]; done)), (by first | with_reducible rfl | (simp [c_1, Int32.not_lt.mp c_1, c_2, Int32.not_le.mpr c_2, p_TB, p_TV, p_TC, p_TI, p_BT, p_BV, p_BC, p_BI, p_VT, p_VB, p_VC, p_VI, p_CT, p_CB, p_CV, p_CI, p_IT, p_IB, p_IV, p_IC, p_TT, p_BB, p_CC, p_II]; done))⟩
    · exact r_throwW (pc := 13) 1 hlst E hC hS hA hl.1 hlk htb hU rfl (by decide +kernel) kw_813 kw_14 at_RX3_289 dX3_ratioAt_13 dX3_ratioAt_16 dX3_ratioAt_17 dX3_ratioAt_20 dX3_ratioAt_23 (by decide) (Nat.le_of_ble_eq_true rfl) (by decide) (by decide) (by first | (simp [bR]; done) | (simp_all [bR]; done)) (by decide) (by decide)

set_option maxHeartbeats 4000000 in
set_option maxRecDepth 100000 in
/-- Bestratios.requireWithin(III)V -/
theorem c_X3_requireWithin (l : Launch) (hlst : l.stackTraces = false) (D : va_G) (tk : Nat → ClassId) (N0 : Nat) (sa : Nat → Nat)  (sz : Nat) (x_ : Int32) (lo : Int32) (hi_ : Int32) : vx_Met l yX3_requireWithin (wsy yX3_requireWithin cX3_requireWithin 3 none) ({ frames := 6, cells := 1, slots := 6, locals := 90 } : Room) (cP D tk N0 sa [.int x_, .int lo, .int hi_] sz (fun H => True)) (kQv (fun H => bW x_ lo hi_ = 0) (nwA sz)) (kX (fun E => (E = "java/lang/IllegalArgumentException" ∧ bW x_ lo hi_ = 1)) sz) (1) (6) (nwA sz) := by
  refine mStartX RX3 rfl (by decide +kernel) (Nat.le_of_ble_eq_true rfl) ?_
  intro p e s m args below meth c E hr hlk htb hsz hC hF ls hl
  subst hsz
  obtain ⟨hx, hb, -⟩ := id E
  have hA : ∀ q, (nwA s.heap.size) q → N0 ≤ q := fun q h => Nat.le_trans hC.2.1 h
  have hn : ∀ q, s.heap.size ≤ q → (nwA s.heap.size) q := fun q h => h
  have hS : va_S (nwA s.heap.size) s.heap s.heap [] := va_S.rf
  have hU : ∀ q, q < s.heap.size → s.heap[q]? = s.heap[q]? := fun _ _ => rfl
  have hl : lv_has ls 3 [(0, .int x_), (1, .int lo), (2, .int hi_)] := hl
  refine lv_iload_n (pc := 0) hx hb dX3_requireWithin_0 rfl (lv_at hl 0 rfl) ?_
  refine lv_iload_n (pc := 1) hx hb dX3_requireWithin_1 rfl (lv_at hl 1 rfl) ?_
  refine lv_icmp_lt (pc := 2) (tgt := 10) hx hb dX3_requireWithin_2 (by decide) (fun c_1 => ?_) (fun c_1 => ?_)
  · exact r_throwW (pc := 10) 3 hlst E hC hS hA hl.1 hlk htb hU rfl (by decide +kernel) kw_826 kw_15 at_RX3_58 dX3_requireWithin_10 dX3_requireWithin_13 dX3_requireWithin_14 dX3_requireWithin_17 dX3_requireWithin_20 (by decide) (Nat.le_of_ble_eq_true rfl) (by decide) (by decide) (by first | (simp [bW]; done) | (simp_all [bW]; done)) (by decide) (by decide)
  · refine lv_iload_n (pc := 5) hx hb dX3_requireWithin_5 rfl (lv_at hl 0 rfl) ?_
    refine lv_iload_n (pc := 6) hx hb dX3_requireWithin_6 rfl (lv_at hl 2 rfl) ?_
    refine lv_icmp_le (pc := 7) (tgt := 21) hx hb dX3_requireWithin_7 (by decide) (fun c_2 => ?_) (fun c_2 => ?_)
    · refine vx_ret ?_
      refine r_vret (pc := 21) E hr hlk hS (by decide) (by decide) ?_ dX3_requireWithin_21
      exact (by first | assumption | (simp [xo, c_1, Int32.not_lt.mp c_1, c_2, Int32.not_lt.mpr c_2, bW]; done))
    · exact r_throwW (pc := 10) 3 hlst E hC hS hA hl.1 hlk htb hU rfl (by decide +kernel) kw_826 kw_15 at_RX3_58 dX3_requireWithin_10 dX3_requireWithin_13 dX3_requireWithin_14 dX3_requireWithin_17 dX3_requireWithin_20 (by decide) (Nat.le_of_ble_eq_true rfl) (by decide) (by decide) (by first | (simp [bW]; done) | (simp_all [bW]; done)) (by decide) (by decide)

set_option maxHeartbeats 4000000 in
set_option maxRecDepth 100000 in
/-- Bestratios.requireNotBelow0(I)V -/
theorem c_X3_requireNotBelow0 (l : Launch) (hlst : l.stackTraces = false) (D : va_G) (tk : Nat → ClassId) (N0 : Nat) (sa : Nat → Nat)  (sz : Nat) (x_ : Int32) : vx_Met l yX3_requireNotBelow0 (wsy yX3_requireNotBelow0 cX3_requireNotBelow0 1 none) ({ frames := 6, cells := 1, slots := 6, locals := 90 } : Room) (cP D tk N0 sa [.int x_] sz (fun H => True)) (kQv (fun H => bN x_ = 0) (nwA sz)) (kX (fun E => (E = "java/lang/IllegalArgumentException" ∧ bN x_ = 1)) sz) (1) (6) (nwA sz) := by
  refine mStartX RX3 rfl (by decide +kernel) (Nat.le_of_ble_eq_true rfl) ?_
  intro p e s m args below meth c E hr hlk htb hsz hC hF ls hl
  subst hsz
  obtain ⟨hx, hb, -⟩ := id E
  have hA : ∀ q, (nwA s.heap.size) q → N0 ≤ q := fun q h => Nat.le_trans hC.2.1 h
  have hn : ∀ q, s.heap.size ≤ q → (nwA s.heap.size) q := fun q h => h
  have hS : va_S (nwA s.heap.size) s.heap s.heap [] := va_S.rf
  have hU : ∀ q, q < s.heap.size → s.heap[q]? = s.heap[q]? := fun _ _ => rfl
  have hl : lv_has ls 1 [(0, .int x_)] := hl
  refine lv_iload_n (pc := 0) hx hb dX3_requireNotBelow0_0 rfl (lv_at hl 0 rfl) ?_
  refine lv_if_ge (pc := 1) (tgt := 15) hx hb dX3_requireNotBelow0_1 (by decide) (fun c_1 => ?_) (fun c_1 => ?_)
  · refine vx_ret ?_
    refine r_vret (pc := 15) E hr hlk hS (by decide) (by decide) ?_ dX3_requireNotBelow0_15
    exact (by first | assumption | (simp [xo, c_1, Int32.not_lt.mpr c_1, bN]; done))
  · exact r_throwW (pc := 4) 4 hlst E hC hS hA hl.1 hlk htb hU rfl (by decide +kernel) kw_826 kw_15 at_RX3_58 dX3_requireNotBelow0_4 dX3_requireNotBelow0_7 dX3_requireNotBelow0_8 dX3_requireNotBelow0_11 dX3_requireNotBelow0_14 (by decide) (Nat.le_of_ble_eq_true rfl) (by decide) (by decide) (by first | (simp [bN]; done) | (simp_all [bN]; done)) (by decide) (by decide)

set_option maxHeartbeats 4000000 in
set_option maxRecDepth 100000 in
/-- Bestratios.refuse()I -/
theorem c_X3_refuse (l : Launch) (D : va_G) (tk : Nat → ClassId) (N0 : Nat) (sa : Nat → Nat) {ad : Nat → Nat} (hAD : ADok N0 ad) (sz : Nat) (g : CS)  : Met l yX3_refuse (wsy yX3_refuse cX3_refuse 1 (some .int)) ({ frames := 0, cells := 0, slots := 0, locals := 0 } : Room) (cP D tk N0 sa [.ref (ad 15)] sz (fun H => CW D tk ad g H)) (kQi (fun r H => r = -9 ∧ CW D tk ad (f_refW g) H) (cwA ad sz)) (0) (0) (cwA ad sz) := by
  refine mStart RX3 rfl (by decide +kernel) (Nat.le_of_ble_eq_true rfl) ?_
  intro p e s m args below meth c E hr hlk hnm hsz hC hF ls hl
  subst hsz
  obtain ⟨hx, hb, -⟩ := id E
  have hA : ∀ q, (cwA ad s.heap.size) q → N0 ≤ q := cwA.ge hAD hC.2.1
  have hn : ∀ q, s.heap.size ≤ q → (cwA ad s.heap.size) q := fun q h => Or.inr h
  have hS : va_S (cwA ad s.heap.size) s.heap s.heap [] := va_S.rf
  have hl : lv_has ls 1 [(0, .ref (ad 15))] := hl
  have hW : CW D tk ad g s.heap := hF
  refine lv_aload_n (pc := 0) hx hb dX3_refuse_0 rfl (lv_at hl 0 rfl) ?_
  refine lv_dup (pc := 1) hx hb dX3_refuse_1 rfl ?_
  refine r_get (pc := 2) E hC hW.obj 3 (v := .int (tI g 0)) rfl rfl (by decide) uX3 (List.mem_cons_of_mem _ kw_117) (fun _ h => h) dX3_refuse_2 ?_
  refine lv_iconst (pc := 5) (v := 1) hx hb dX3_refuse_5 (by decide) ?_
  refine lv_iadd (pc := 6) hx hb dX3_refuse_6 ?_
  refine r_put (pc := 7) E hC hW.obj hS (Or.inl ⟨15, by decide, rfl⟩) 3 tyX3 tyX3_ok nmX3 rfl (by decide) (Nat.le_of_ble_eq_true rfl) uX3 (List.mem_cons_of_mem _ kw_117) (fun _ h => h) rfl rfl rfl dX3_refuse_7 (fun H locs h1 ho hz hS => ?_)
  have hW := hW.setO hAD (j := 0) (by decide) h1 ho
  obtain ⟨g_1, eg_1⟩ : ∃ z, z = uI g 0 ((tI g 0) + 1) := ⟨_, rfl⟩
  rw [← eg_1] at hW
  refine lv_bipush (pc := 10) (v := (-9)) hx hb dX3_refuse_10 (by decide) ?_
  refine r_iret (pc := 12) E hr hlk hS (by decide) (by decide) ?_ dX3_refuse_12
  exact ⟨(by subst eg_1; first | with_reducible rfl | (simp [f_refW, p_TB, p_TV, p_TC, p_TI, p_BT, p_BV, p_BC, p_BI, p_VT, p_VB, p_VC, p_VI, p_CT, p_CB, p_CV, p_CI, p_IT, p_IB, p_IV, p_IC, p_TT, p_BB, p_CC, p_II]; done)), hW.to (by subst eg_1; first | with_reducible rfl | (simp [f_refW, p_TB, p_TV, p_TC, p_TI, p_BT, p_BV, p_BC, p_BI, p_VT, p_VB, p_VC, p_VI, p_CT, p_CB, p_CV, p_CI, p_IT, p_IB, p_IV, p_IC, p_TT, p_BB, p_CC, p_II]; done))⟩
