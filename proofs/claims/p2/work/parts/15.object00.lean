set_option maxHeartbeats 4000000 in
set_option maxRecDepth 100000 in
/-- Bestratios.ratioAt(I)LBestratios$Fraction; -/
theorem c_X3_ratioAt (l : Launch) (hlst : l.stackTraces = false) (D : va_G) (tk : Nat → ClassId) (N0 : Nat) (sa : Nat → Nat) {ad : Nat → Nat} (hAD : ADok N0 ad) (sz : Nat) (g : CS) (r_ : Int32) : vx_Met l yX3_ratioAt (wsy yX3_ratioAt cX3_ratioAt 2 (some (.object "Bestratios$Fraction"))) ({ frames := 6, cells := 1, slots := 6, locals := 90 } : Room) (cP D tk N0 sa [.ref (ad 15), .int r_] sz (fun H => CW D tk ad g H)) (kQr (fun r H => bR r_ = 0 ∧ r = ad (nn r_)) (nwA sz)) (kX (fun E => (E = "java/lang/IndexOutOfBoundsException" ∧ bR r_ = 1)) sz) (1) (6) (nwA sz) := by
  refine mStartX RX3 rfl (by decide +kernel) (Nat.le_of_ble_eq_true rfl) ?_
  intro p e s m args below meth c E hr hlk htb hsz hC hF ls hl
  subst hsz
  obtain ⟨hx, hb, -⟩ := id E
  have hA : ∀ q, (nwA s.heap.size) q → N0 ≤ q := fun q h => Nat.le_trans hC.2.1 h
  have hn : ∀ q, s.heap.size ≤ q → (nwA s.heap.size) q := fun q h => h
  have hS : va_S (nwA s.heap.size) s.heap s.heap [] := va_S.rf
  have hU : ∀ q, q < s.heap.size → s.heap[q]? = s.heap[q]? := fun _ _ => rfl
  have hl : lv_has ls 2 [(0, .ref (ad 15)), (1, .int r_)] := hl
  have hW : CW D tk ad g s.heap := hF
  refine lv_iload_n (pc := 0) hx hb dX3_ratioAt_0 rfl (lv_at hl 1 rfl) ?_
  refine lv_if_lt (pc := 1) (tgt := 13) hx hb dX3_ratioAt_1 (by decide) (fun c_1 => ?_) (fun c_1 => ?_)
  · exact r_throwW (pc := 13) 1 hlst E hC hS hA hl.1 hlk htb hU rfl (by decide +kernel) kw_813 kw_14 at_RX3_289 dX3_ratioAt_13 dX3_ratioAt_16 dX3_ratioAt_17 dX3_ratioAt_20 dX3_ratioAt_23 (by decide) (Nat.le_of_ble_eq_true rfl) (by decide) (by decide) (by first | (simp [bR]; done) | (simp_all [bR]; done)) (by decide) (by decide)
  · refine lv_iload_n (pc := 4) hx hb dX3_ratioAt_4 rfl (lv_at hl 1 rfl) ?_
    refine lv_aload_n (pc := 5) hx hb dX3_ratioAt_5 rfl (lv_at hl 0 rfl) ?_
    refine r_get (pc := 6) E hC hW.obj 0 (v := .ref (ad 16)) rfl rfl (by decide) uX3 (List.mem_cons_of_mem _ kw_114) (fun _ h => h) dX3_ratioAt_6 ?_
    refine r_alen (pc := 9) E hC hW.row 2 rfl (v := 6) rfl dX3_ratioAt_9 ?_
    refine lv_icmp_lt (pc := 10) (tgt := 24) hx hb dX3_ratioAt_10 (by decide) (fun c_2 => ?_) (fun c_2 => ?_)
    · refine lv_aload_n (pc := 24) hx hb dX3_ratioAt_24 rfl (lv_at hl 0 rfl) ?_
      refine r_get (pc := 25) E hC hW.obj 0 (v := .ref (ad 16)) rfl rfl (by decide) uX3 (List.mem_cons_of_mem _ kw_114) (fun _ h => h) dX3_ratioAt_25 ?_
      refine lv_iload_n (pc := 28) hx hb dX3_ratioAt_28 rfl (lv_at hl 1 rfl) ?_
      refine r_aald (pc := 29) E hC hW.row (vp_of3 (n := 6) (k := 6) (by decide) (Int32.not_lt.mp (by assumption)) (by assumption)) dX3_ratioAt_29 ?_
      refine vx_ret ?_
      refine r_aret (pc := 30) E hr (Or.inl ⟨_, rfl⟩) hlk hS (by decide) (by decide) ?_ dX3_ratioAt_30
      exact ⟨(by first | assumption | (simp [xo, c_1, Int32.not_lt.mp c_1, c_2, Int32.not_le.mpr c_2, bR]; done)), (by first | with_reducible rfl | (simp [c_1, Int32.not_lt.mp c_1, c_2, Int32.not_le.mpr c_2, p_TB, p_TV, p_TC, p_TI, p_BT, p_BV, p_BC, p_BI, p_VT, p_VB, p_VC, p_VI, p_CT, p_CB, p_CV, p_CI, p_IT, p_IB, p_IV, p_IC, p_TT, p_BB, p_CC, p_II]; done))⟩
    · exact r_throwW (pc := 13) 1 hlst E hC hS hA hl.1 hlk htb hU rfl (by decide +kernel) kw_813 kw_14 at_RX3_289 dX3_ratioAt_13 dX3_ratioAt_16 dX3_ratioAt_17 dX3_ratioAt_20 dX3_ratioAt_23 (by decide) (Nat.le_of_ble_eq_true rfl) (by decide) (by decide) (by first | (simp [bR]; done) | (simp_all [bR]; done)) (by decide) (by decide)
