set_option maxHeartbeats 4000000 in
set_option maxRecDepth 100000 in
/-- Bestratios.isCutSound(LBestratios$Fraction;I)Z -/
theorem c_X3_isCutSound (l : Launch) (D : va_G) (tk : Nat → ClassId) (N0 : Nat) (sa : Nat → Nat) {ad : Nat → Nat} (hAD : ADok N0 ad) (sz : Nat) (g : CS) (i : Nat) (hi : i < 15) (pl : Int32) : Met l yX3_isCutSound (wsy yX3_isCutSound cX3_isCutSound 8 (some .boolean)) ({ frames := 4, cells := 0, slots := 0, locals := 101 } : Room) (cP D tk N0 sa [.ref (ad i), .int pl] sz (fun H => CW D tk ad g H)) (kQi (fun r H => r = f_csnd g i pl) (nwA sz)) (0) (0) (nwA sz) := by
  refine mStart RX3 rfl (by decide +kernel) (Nat.le_of_ble_eq_true rfl) ?_
  intro p e s m args below meth c E hr hlk hnm hsz hC hF ls hl
  subst hsz
  obtain ⟨hx, hb, -⟩ := id E
  have hA : ∀ q, (nwA s.heap.size) q → N0 ≤ q := fun q h => Nat.le_trans hC.2.1 h
  have hn : ∀ q, s.heap.size ≤ q → (nwA s.heap.size) q := fun q h => h
  have hS : va_S (nwA s.heap.size) s.heap s.heap [] := va_S.rf
  have hl : lv_has ls 8 [(0, .ref (ad i)), (1, .int pl)] := hl
  have hW : CW D tk ad g s.heap := hF
  refine lv_aload_n (pc := 0) hx hb dX3_isCutSound_0 rfl (lv_at hl 0 rfl) ?_
  refine r_getN (pc := 1) "Bestratios" E hC (hW.fr (i := i) hi) 0 (v := .long (tT g i)) rfl rfl (by decide) uX0 kn_52 (fun _ h => h) dX3_isCutSound_1 ?_
  refine lv_iload_n (pc := 4) hx hb dX3_isCutSound_4 rfl (lv_at hl 1 rfl) ?_
  refine k_l (pc := 5) (k_S E hC hS hA hl.1 (c_X3_powerOfTen l D tk N0 sa s.heap.size pl ) kw_532 kw_533 kw_1 kw_534 (n := 1) (by decide +kernel) rfl ⟨⟨rfl, rfl⟩, ⟨by decide, by decide⟩, by decide, by decide⟩ rfl (Nat.le_of_ble_eq_true rfl) trivial dX3_isCutSound_5) hS (fun q z w => absurd w (Nat.not_le.mpr z)) hn (fun r_1 H locs hR hz hk hS => ?_)
  have er_1 := hR
  have hW := hW.new hk
  refine lv_lmul (pc := 8) hx hb dX3_isCutSound_8 ?_
  obtain ⟨x_3, ex_3⟩ : ∃ z9 : Int64, z9 = (tT g i) * r_1 := ⟨_, rfl⟩
  rw [← ex_3]
  refine lv_lstore_n (pc := 9) (lv' := [(2, .long x_3), (0, .ref (ad i)), (1, .int pl)]) hx hb dX3_isCutSound_9 rfl hl (by decide) rfl (fun ls hl => ?_)
  refine lv_lload_n (pc := 10) hx hb dX3_isCutSound_10 rfl (lv_at hl 0 rfl) ?_
  refine lv_aload_n (pc := 11) hx hb dX3_isCutSound_11 rfl (lv_at hl 1 rfl) ?_
  refine lv_iload_n (pc := 12) hx hb dX3_isCutSound_12 rfl (lv_at hl 2 rfl) ?_
  refine lv_iconst (pc := 13) (v := 1) hx hb dX3_isCutSound_13 (by decide) ?_
  refine k_l (pc := 14) (k_V E hC hS hA hl.1 (c1.recv hC (hW.fr (i := i) hi) rfl) rfl (c_X0_cutTo l D tk N0 sa hAD H.size g i hi pl 1 ) kw_525 kw_526 kw_527 kw_2 kw_528 (n := 2) (by decide +kernel) rfl ⟨⟨rfl, rfl⟩, ⟨by decide, by decide⟩, by decide, by decide⟩ rfl (Nat.le_of_ble_eq_true rfl) hW dX3_isCutSound_14) hS (fun q z w => absurd w (Nat.not_le.mpr z)) hn (fun r_4 H locs hR hz hk hS => ?_)
  have er_4 := hR
  have hW := hW.new hk
  refine lv_aload_n (pc := 17) hx hb dX3_isCutSound_17 rfl (lv_at hl 1 rfl) ?_
  refine r_getN (pc := 18) "Bestratios" E hC (hW.fr (i := i) hi) 1 (v := .long (tB g i)) rfl rfl (by decide) uX0 kn_55 (fun _ h => h) dX3_isCutSound_18 ?_
  refine lv_lmul (pc := 21) hx hb dX3_isCutSound_21 ?_
  refine lv_lsub (pc := 22) hx hb dX3_isCutSound_22 ?_
  obtain ⟨x_6, ex_6⟩ : ∃ z9 : Int64, z9 = x_3 - (r_4 * (tB g i)) := ⟨_, rfl⟩
  rw [← ex_6]
  refine lv_lstore (pc := 23) (lv' := [(4, .long x_6), (2, .long x_3), (0, .ref (ad i)), (1, .int pl)]) hx hb dX3_isCutSound_23 hl (by decide) rfl (fun ls hl => ?_)
  refine lv_aload_n (pc := 25) hx hb dX3_isCutSound_25 rfl (lv_at hl 2 rfl) ?_
  refine lv_iload_n (pc := 26) hx hb dX3_isCutSound_26 rfl (lv_at hl 3 rfl) ?_
  refine lv_iconst (pc := 27) (v := 2) hx hb dX3_isCutSound_27 (by decide) ?_
  refine k_l (pc := 28) (k_V E hC hS hA hl.1 (c1.recv hC (hW.fr (i := i) hi) rfl) rfl (c_X0_cutTo l D tk N0 sa hAD H.size g i hi pl 2 ) kw_525 kw_526 kw_527 kw_2 kw_528 (n := 2) (by decide +kernel) rfl ⟨⟨rfl, rfl⟩, ⟨by decide, by decide⟩, by decide, by decide⟩ rfl (Nat.le_of_ble_eq_true rfl) hW dX3_isCutSound_28) hS (fun q z w => absurd w (Nat.not_le.mpr z)) hn (fun r_7 H locs hR hz hk hS => ?_)
  have er_7 := hR
  have hW := hW.new hk
  refine lv_aload_n (pc := 31) hx hb dX3_isCutSound_31 rfl (lv_at hl 2 rfl) ?_
  refine r_getN (pc := 32) "Bestratios" E hC (hW.fr (i := i) hi) 1 (v := .long (tB g i)) rfl rfl (by decide) uX0 kn_55 (fun _ h => h) dX3_isCutSound_32 ?_
  refine lv_lmul (pc := 35) hx hb dX3_isCutSound_35 ?_
  refine lv_lload_n (pc := 36) hx hb dX3_isCutSound_36 rfl (lv_at hl 1 rfl) ?_
  refine lv_lsub (pc := 37) hx hb dX3_isCutSound_37 ?_
  obtain ⟨x_9, ex_9⟩ : ∃ z9 : Int64, z9 = (r_7 * (tB g i)) - x_3 := ⟨_, rfl⟩
  rw [← ex_9]
  refine lv_lstore (pc := 38) (lv' := [(6, .long x_9), (4, .long x_6), (2, .long x_3), (0, .ref (ad i)), (1, .int pl)]) hx hb dX3_isCutSound_38 hl (by decide) rfl (fun ls hl => ?_)
  refine lv_lload (pc := 40) hx hb dX3_isCutSound_40 (lv_at hl 1 rfl) ?_
  refine lv_lconst (pc := 42) (v := 0) hx hb dX3_isCutSound_42 (by decide) ?_
  refine r_lclt (pc := 43) (tgt := 78) E dX3_isCutSound_43 dX3_isCutSound_44 (by decide) (fun c_10 => ?_) (fun c_10 => ?_)
  · refine lv_iconst (pc := 78) (v := 0) hx hb dX3_isCutSound_78 (by decide) ?_
    refine r_zret (pc := 79) E hr hlk hS (by decide) (by decide) rfl ?_ dX3_isCutSound_79
    subst er_1 ex_3 er_4 ex_6 er_7 ex_9; first | with_reducible rfl | (simp [f_csnd, f_csndA, f_csndB, c_10, Int64.not_le.mpr c_10, p_TB, p_TV, p_TC, p_TI, p_BT, p_BV, p_BC, p_BI, p_VT, p_VB, p_VC, p_VI, p_CT, p_CB, p_CV, p_CI, p_IT, p_IB, p_IV, p_IC, p_TT, p_BB, p_CC, p_II]; done)
  · refine lv_lload (pc := 47) hx hb dX3_isCutSound_47 (lv_at hl 1 rfl) ?_
    refine lv_aload_n (pc := 49) hx hb dX3_isCutSound_49 rfl (lv_at hl 3 rfl) ?_
    refine r_getN (pc := 50) "Bestratios" E hC (hW.fr (i := i) hi) 1 (v := .long (tB g i)) rfl rfl (by decide) uX0 kn_55 (fun _ h => h) dX3_isCutSound_50 ?_
    refine r_lcge (pc := 53) (tgt := 78) E dX3_isCutSound_53 dX3_isCutSound_54 (by decide) (fun c_11 => ?_) (fun c_11 => ?_)
    · refine lv_iconst (pc := 78) (v := 0) hx hb dX3_isCutSound_78 (by decide) ?_
      refine r_zret (pc := 79) E hr hlk hS (by decide) (by decide) rfl ?_ dX3_isCutSound_79
      subst er_1 ex_3 er_4 ex_6 er_7 ex_9; first | with_reducible rfl | (simp [f_csnd, f_csndA, f_csndB, c_10, Int64.not_lt.mp c_10, c_11, Int64.not_lt.mpr c_11, p_TB, p_TV, p_TC, p_TI, p_BT, p_BV, p_BC, p_BI, p_VT, p_VB, p_VC, p_VI, p_CT, p_CB, p_CV, p_CI, p_IT, p_IB, p_IV, p_IC, p_TT, p_BB, p_CC, p_II]; done)
    · refine lv_lload (pc := 57) hx hb dX3_isCutSound_57 (lv_at hl 0 rfl) ?_
      refine lv_lconst (pc := 59) (v := 0) hx hb dX3_isCutSound_59 (by decide) ?_
      refine r_lclt (pc := 60) (tgt := 78) E dX3_isCutSound_60 dX3_isCutSound_61 (by decide) (fun c_12 => ?_) (fun c_12 => ?_)
      · refine lv_iconst (pc := 78) (v := 0) hx hb dX3_isCutSound_78 (by decide) ?_
        refine r_zret (pc := 79) E hr hlk hS (by decide) (by decide) rfl ?_ dX3_isCutSound_79
        subst er_1 ex_3 er_4 ex_6 er_7 ex_9; first | with_reducible rfl | (simp [f_csnd, f_csndA, f_csndB, c_10, Int64.not_lt.mp c_10, c_11, Int64.not_le.mp c_11, c_12, Int64.not_le.mpr c_12, p_TB, p_TV, p_TC, p_TI, p_BT, p_BV, p_BC, p_BI, p_VT, p_VB, p_VC, p_VI, p_CT, p_CB, p_CV, p_CI, p_IT, p_IB, p_IV, p_IC, p_TT, p_BB, p_CC, p_II]; done)
      · refine lv_lload (pc := 64) hx hb dX3_isCutSound_64 (lv_at hl 0 rfl) ?_
        refine lv_aload_n (pc := 66) hx hb dX3_isCutSound_66 rfl (lv_at hl 3 rfl) ?_
        refine r_getN (pc := 67) "Bestratios" E hC (hW.fr (i := i) hi) 1 (v := .long (tB g i)) rfl rfl (by decide) uX0 kn_55 (fun _ h => h) dX3_isCutSound_67 ?_
        refine r_lcge (pc := 70) (tgt := 78) E dX3_isCutSound_70 dX3_isCutSound_71 (by decide) (fun c_13 => ?_) (fun c_13 => ?_)
        · refine lv_iconst (pc := 78) (v := 0) hx hb dX3_isCutSound_78 (by decide) ?_
          refine r_zret (pc := 79) E hr hlk hS (by decide) (by decide) rfl ?_ dX3_isCutSound_79
          subst er_1 ex_3 er_4 ex_6 er_7 ex_9; first | with_reducible rfl | (simp [f_csnd, f_csndA, f_csndB, c_10, Int64.not_lt.mp c_10, c_11, Int64.not_le.mp c_11, c_12, Int64.not_lt.mp c_12, c_13, Int64.not_lt.mpr c_13, p_TB, p_TV, p_TC, p_TI, p_BT, p_BV, p_BC, p_BI, p_VT, p_VB, p_VC, p_VI, p_CT, p_CB, p_CV, p_CI, p_IT, p_IB, p_IV, p_IC, p_TT, p_BB, p_CC, p_II]; done)
        · refine lv_iconst (pc := 74) (v := 1) hx hb dX3_isCutSound_74 (by decide) ?_
          refine lv_goto (pc := 75) (tgt := 79) hx hb dX3_isCutSound_75 (by decide) ?_
          refine r_zret (pc := 79) E hr hlk hS (by decide) (by decide) rfl ?_ dX3_isCutSound_79
          subst er_1 ex_3 er_4 ex_6 er_7 ex_9; first | with_reducible rfl | (simp [f_csnd, f_csndA, f_csndB, c_10, Int64.not_lt.mp c_10, c_11, Int64.not_le.mp c_11, c_12, Int64.not_lt.mp c_12, c_13, Int64.not_le.mp c_13, p_TB, p_TV, p_TC, p_TI, p_BT, p_BV, p_BC, p_BI, p_VT, p_VB, p_VC, p_VI, p_CT, p_CB, p_CV, p_CI, p_IT, p_IB, p_IV, p_IC, p_TT, p_BB, p_CC, p_II]; done)
