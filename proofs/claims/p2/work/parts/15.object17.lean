set_option maxHeartbeats 4000000 in
set_option maxRecDepth 100000 in
/-- Bestratios.partOf(LBestratios$Fraction;I)J -/
theorem c_X3_partOf (l : Launch) (D : va_G) (tk : Nat → ClassId) (N0 : Nat) (sa : Nat → Nat) {ad : Nat → Nat} (hAD : ADok N0 ad) (sz : Nat) (g : CS) (i : Nat) (hi : i < 15) (w_ : Int32) : Met l yX3_partOf (wsy yX3_partOf cX3_partOf 2 (some .long)) ({ frames := 3, cells := 0, slots := 0, locals := 68 } : Room) (cP D tk N0 sa [.ref (ad i), .int w_] sz (fun H => CW D tk ad g H)) (kQl (fun r H => r = f_part g i w_) (nwA sz)) (0) (0) (nwA sz) := by
  refine mStart RX3 rfl (by decide +kernel) (Nat.le_of_ble_eq_true rfl) ?_
  intro p e s m args below meth c E hr hlk hnm hsz hC hF ls hl
  subst hsz
  obtain ⟨hx, hb, -⟩ := id E
  have hA : ∀ q, (nwA s.heap.size) q → N0 ≤ q := fun q h => Nat.le_trans hC.2.1 h
  have hn : ∀ q, s.heap.size ≤ q → (nwA s.heap.size) q := fun q h => h
  have hS : va_S (nwA s.heap.size) s.heap s.heap [] := va_S.rf
  have hl : lv_has ls 2 [(0, .ref (ad i)), (1, .int w_)] := hl
  have hW : CW D tk ad g s.heap := hF
  refine lv_iload_n (pc := 0) hx hb dX3_partOf_0 rfl (lv_at hl 1 rfl) ?_
  by_cases c_1_0 : w_ = 0
  · refine lv_tableIn (pc := 1) (tgt := 28) hx hb dX3_partOf_1 (by rw [c_1_0]; decide) (by rw [c_1_0]; decide) (by rw [c_1_0]; rfl) (by decide) ?_
    refine lv_aload_n (pc := 28) hx hb dX3_partOf_28 rfl (lv_at hl 0 rfl) ?_
    refine r_getN (pc := 29) "Bestratios" E hC (hW.fr (i := i) hi) 0 (v := .long (tT g i)) rfl rfl (by decide) uX0 kn_52 (fun _ h => h) dX3_partOf_29 ?_
    refine r_lret (pc := 32) E hr hlk hS (by decide) (by decide) ?_ dX3_partOf_32
    first | with_reducible rfl | (simp [f_part, c_1_0, p_TB, p_TV, p_TC, p_TI, p_BT, p_BV, p_BC, p_BI, p_VT, p_VB, p_VC, p_VI, p_CT, p_CB, p_CV, p_CI, p_IT, p_IB, p_IV, p_IC, p_TT, p_BB, p_CC, p_II]; done)
  · skip
    by_cases c_1_1 : w_ = 1
    · refine lv_tableIn (pc := 1) (tgt := 33) hx hb dX3_partOf_1 (by rw [c_1_1]; decide) (by rw [c_1_1]; decide) (by rw [c_1_1]; rfl) (by decide) ?_
      refine lv_aload_n (pc := 33) hx hb dX3_partOf_33 rfl (lv_at hl 0 rfl) ?_
      refine r_getN (pc := 34) "Bestratios" E hC (hW.fr (i := i) hi) 1 (v := .long (tB g i)) rfl rfl (by decide) uX0 kn_55 (fun _ h => h) dX3_partOf_34 ?_
      refine r_lret (pc := 37) E hr hlk hS (by decide) (by decide) ?_ dX3_partOf_37
      first | with_reducible rfl | (simp [f_part, c_1_1, p_TB, p_TV, p_TC, p_TI, p_BT, p_BV, p_BC, p_BI, p_VT, p_VB, p_VC, p_VI, p_CT, p_CB, p_CV, p_CI, p_IT, p_IB, p_IV, p_IC, p_TT, p_BB, p_CC, p_II]; done)
    · skip
      by_cases c_1_2 : w_ = 2
      · refine lv_tableIn (pc := 1) (tgt := 38) hx hb dX3_partOf_1 (by rw [c_1_2]; decide) (by rw [c_1_2]; decide) (by rw [c_1_2]; rfl) (by decide) ?_
        refine lv_aload_n (pc := 38) hx hb dX3_partOf_38 rfl (lv_at hl 0 rfl) ?_
        refine k_i (pc := 39) (k_V E hC hS hA hl.1 (c1.recv hC (hW.fr (i := i) hi) rfl) rfl (c_X0_sign l D tk N0 sa hAD s.heap.size g i hi ) kw_613 kw_614 kw_615 kw_2 kw_616 (n := 0) (by decide +kernel) rfl ⟨⟨rfl, rfl⟩, ⟨by decide, by decide⟩, by decide, by decide⟩ rfl (Nat.le_of_ble_eq_true rfl) hW dX3_partOf_39) hS (fun q z w => absurd w (Nat.not_le.mpr z)) hn (fun r_2 H locs hR hz hk hS => ?_)
        have er_2 := hR
        have hW := hW.new hk
        refine lv_i2l (pc := 42) (v := r_2.toInt64) hx hb dX3_partOf_42 rfl ?_
        refine r_lret (pc := 43) E hr hlk hS (by decide) (by decide) ?_ dX3_partOf_43
        subst er_2; first | with_reducible rfl | (simp [f_part, c_1_2, p_TB, p_TV, p_TC, p_TI, p_BT, p_BV, p_BC, p_BI, p_VT, p_VB, p_VC, p_VI, p_CT, p_CB, p_CV, p_CI, p_IT, p_IB, p_IV, p_IC, p_TT, p_BB, p_CC, p_II]; done)
      · skip
        refine lv_tableOut (pc := 1) (tgt := 44) hx hb dX3_partOf_1 (by have z0 := ne_ti (0) (0) (by decide) c_1_0; have z1 := ne_ti (1) (1) (by decide) c_1_1; have z2 := ne_ti (2) (2) (by decide) c_1_2; omega) (by decide) ?_
        refine lv_aload_n (pc := 44) hx hb dX3_partOf_44 rfl (lv_at hl 0 rfl) ?_
        refine k_l (pc := 45) (k_V E hC hS hA hl.1 (c1.recv hC (hW.fr (i := i) hi) rfl) rfl (c_X0_floorPart l D tk N0 sa hAD s.heap.size g i hi ) kw_693 kw_640 kw_641 kw_2 kw_642 (n := 0) (by decide +kernel) rfl ⟨⟨rfl, rfl⟩, ⟨by decide, by decide⟩, by decide, by decide⟩ rfl (Nat.le_of_ble_eq_true rfl) hW dX3_partOf_45) hS (fun q z w => absurd w (Nat.not_le.mpr z)) hn (fun r_4 H locs hR hz hk hS => ?_)
        have er_4 := hR
        have hW := hW.new hk
        refine r_lret (pc := 48) E hr hlk hS (by decide) (by decide) ?_ dX3_partOf_48
        subst er_4; first | with_reducible rfl | (simp [f_part, c_1_0, c_1_1, c_1_2, p_TB, p_TV, p_TC, p_TI, p_BT, p_BV, p_BC, p_BI, p_VT, p_VB, p_VC, p_VI, p_CT, p_CB, p_CV, p_CI, p_IT, p_IB, p_IV, p_IC, p_TT, p_BB, p_CC, p_II]; done)
