set_option maxHeartbeats 4000000 in
set_option maxRecDepth 100000 in
/-- Bestratios.isLowerBetter(LBestratios$Fraction;)Z -/
theorem c_X3_isLowerBetter (l : Launch) (D : va_G) (tk : Nat → ClassId) (N0 : Nat) (sa : Nat → Nat) {ad : Nat → Nat} (hAD : ADok N0 ad) (sz : Nat) (g : CS) (i : Nat) (hi : i < 15) : Met l yX3_isLowerBetter (wsy yX3_isLowerBetter cX3_isLowerBetter 6 (some .boolean)) ({ frames := 0, cells := 0, slots := 0, locals := 0 } : Room) (cP D tk N0 sa [.ref (ad 15), .ref (ad i)] sz (fun H => CW D tk ad g H)) (kQi (fun r H => r = f_lb g i) (nwA sz)) (0) (0) (nwA sz) := by
  refine mStart RX3 rfl (by decide +kernel) (Nat.le_of_ble_eq_true rfl) ?_
  intro p e s m args below meth c E hr hlk hnm hsz hC hF ls hl
  subst hsz
  obtain ⟨hx, hb, -⟩ := id E
  have hA : ∀ q, (nwA s.heap.size) q → N0 ≤ q := fun q h => Nat.le_trans hC.2.1 h
  have hn : ∀ q, s.heap.size ≤ q → (nwA s.heap.size) q := fun q h => h
  have hS : va_S (nwA s.heap.size) s.heap s.heap [] := va_S.rf
  have hl : lv_has ls 6 [(0, .ref (ad 15)), (1, .ref (ad i))] := hl
  have hW : CW D tk ad g s.heap := hF
  refine lv_aload_n (pc := 0) hx hb dX3_isLowerBetter_0 rfl (lv_at hl 1 rfl) ?_
  refine r_getN (pc := 1) "Bestratios" E hC (hW.fr (i := i) hi) 0 (v := .long (tT g i)) rfl rfl (by decide) uX0 kn_52 (fun _ h => h) dX3_isLowerBetter_1 ?_
  refine lv_aload_n (pc := 4) hx hb dX3_isLowerBetter_4 rfl (lv_at hl 0 rfl) ?_
  refine r_get (pc := 5) E hC hW.obj 6 (v := .ref (ad 7)) rfl rfl (by decide) uX3 (List.mem_cons_of_mem _ kw_120) (fun _ h => h) dX3_isLowerBetter_5 ?_
  refine r_getN (pc := 8) "Bestratios" E hC (hW.fr (i := 7) (by decide)) 1 (v := .long (tB g 7)) rfl rfl (by decide) uX0 kn_55 (fun _ h => h) dX3_isLowerBetter_8 ?_
  refine lv_lmul (pc := 11) hx hb dX3_isLowerBetter_11 ?_
  refine lv_aload_n (pc := 12) hx hb dX3_isLowerBetter_12 rfl (lv_at hl 0 rfl) ?_
  refine r_get (pc := 13) E hC hW.obj 6 (v := .ref (ad 7)) rfl rfl (by decide) uX3 (List.mem_cons_of_mem _ kw_120) (fun _ h => h) dX3_isLowerBetter_13 ?_
  refine r_getN (pc := 16) "Bestratios" E hC (hW.fr (i := 7) (by decide)) 0 (v := .long (tT g 7)) rfl rfl (by decide) uX0 kn_52 (fun _ h => h) dX3_isLowerBetter_16 ?_
  refine lv_aload_n (pc := 19) hx hb dX3_isLowerBetter_19 rfl (lv_at hl 1 rfl) ?_
  refine r_getN (pc := 20) "Bestratios" E hC (hW.fr (i := i) hi) 1 (v := .long (tB g i)) rfl rfl (by decide) uX0 kn_55 (fun _ h => h) dX3_isLowerBetter_20 ?_
  refine lv_lmul (pc := 23) hx hb dX3_isLowerBetter_23 ?_
  refine lv_lsub (pc := 24) hx hb dX3_isLowerBetter_24 ?_
  refine lv_aload_n (pc := 25) hx hb dX3_isLowerBetter_25 rfl (lv_at hl 0 rfl) ?_
  refine r_get (pc := 26) E hC hW.obj 7 (v := .ref (ad 8)) rfl rfl (by decide) uX3 (List.mem_cons_of_mem _ kw_121) (fun _ h => h) dX3_isLowerBetter_26 ?_
  refine r_getN (pc := 29) "Bestratios" E hC (hW.fr (i := 8) (by decide)) 1 (v := .long (tB g 8)) rfl rfl (by decide) uX0 kn_55 (fun _ h => h) dX3_isLowerBetter_29 ?_
  refine lv_lmul (pc := 32) hx hb dX3_isLowerBetter_32 ?_
  obtain ⟨x_1, ex_1⟩ : ∃ z9 : Int64, z9 = (((tT g i) * (tB g 7)) - ((tT g 7) * (tB g i))) * (tB g 8) := ⟨_, rfl⟩
  rw [← ex_1]
  refine lv_lstore_n (pc := 33) (lv' := [(2, .long x_1), (0, .ref (ad 15)), (1, .ref (ad i))]) hx hb dX3_isLowerBetter_33 rfl hl (by decide) rfl (fun ls hl => ?_)
  refine lv_aload_n (pc := 34) hx hb dX3_isLowerBetter_34 rfl (lv_at hl 1 rfl) ?_
  refine r_get (pc := 35) E hC hW.obj 7 (v := .ref (ad 8)) rfl rfl (by decide) uX3 (List.mem_cons_of_mem _ kw_121) (fun _ h => h) dX3_isLowerBetter_35 ?_
  refine r_getN (pc := 38) "Bestratios" E hC (hW.fr (i := 8) (by decide)) 0 (v := .long (tT g 8)) rfl rfl (by decide) uX0 kn_52 (fun _ h => h) dX3_isLowerBetter_38 ?_
  refine lv_aload_n (pc := 41) hx hb dX3_isLowerBetter_41 rfl (lv_at hl 2 rfl) ?_
  refine r_getN (pc := 42) "Bestratios" E hC (hW.fr (i := i) hi) 1 (v := .long (tB g i)) rfl rfl (by decide) uX0 kn_55 (fun _ h => h) dX3_isLowerBetter_42 ?_
  refine lv_lmul (pc := 45) hx hb dX3_isLowerBetter_45 ?_
  refine lv_aload_n (pc := 46) hx hb dX3_isLowerBetter_46 rfl (lv_at hl 2 rfl) ?_
  refine r_getN (pc := 47) "Bestratios" E hC (hW.fr (i := i) hi) 0 (v := .long (tT g i)) rfl rfl (by decide) uX0 kn_52 (fun _ h => h) dX3_isLowerBetter_47 ?_
  refine lv_aload_n (pc := 50) hx hb dX3_isLowerBetter_50 rfl (lv_at hl 1 rfl) ?_
  refine r_get (pc := 51) E hC hW.obj 7 (v := .ref (ad 8)) rfl rfl (by decide) uX3 (List.mem_cons_of_mem _ kw_121) (fun _ h => h) dX3_isLowerBetter_51 ?_
  refine r_getN (pc := 54) "Bestratios" E hC (hW.fr (i := 8) (by decide)) 1 (v := .long (tB g 8)) rfl rfl (by decide) uX0 kn_55 (fun _ h => h) dX3_isLowerBetter_54 ?_
  refine lv_lmul (pc := 57) hx hb dX3_isLowerBetter_57 ?_
  refine lv_lsub (pc := 58) hx hb dX3_isLowerBetter_58 ?_
  refine lv_aload_n (pc := 59) hx hb dX3_isLowerBetter_59 rfl (lv_at hl 1 rfl) ?_
  refine r_get (pc := 60) E hC hW.obj 6 (v := .ref (ad 7)) rfl rfl (by decide) uX3 (List.mem_cons_of_mem _ kw_120) (fun _ h => h) dX3_isLowerBetter_60 ?_
  refine r_getN (pc := 63) "Bestratios" E hC (hW.fr (i := 7) (by decide)) 1 (v := .long (tB g 7)) rfl rfl (by decide) uX0 kn_55 (fun _ h => h) dX3_isLowerBetter_63 ?_
  refine lv_lmul (pc := 66) hx hb dX3_isLowerBetter_66 ?_
  obtain ⟨x_2, ex_2⟩ : ∃ z9 : Int64, z9 = (((tT g 8) * (tB g i)) - ((tT g i) * (tB g 8))) * (tB g 7) := ⟨_, rfl⟩
  rw [← ex_2]
  refine lv_lstore (pc := 67) (lv' := [(4, .long x_2), (2, .long x_1), (0, .ref (ad 15)), (1, .ref (ad i))]) hx hb dX3_isLowerBetter_67 hl (by decide) rfl (fun ls hl => ?_)
  refine lv_lload_n (pc := 69) hx hb dX3_isLowerBetter_69 rfl (lv_at hl 1 rfl) ?_
  refine lv_lload (pc := 70) hx hb dX3_isLowerBetter_70 (lv_at hl 0 rfl) ?_
  refine r_lceq (pc := 72) (tgt := 89) E dX3_isLowerBetter_72 dX3_isLowerBetter_73 (by decide) (fun c_3 => ?_) (fun c_3 => ?_)
  · refine lv_aload_n (pc := 89) hx hb dX3_isLowerBetter_89 rfl (lv_at hl 2 rfl) ?_
    refine r_get (pc := 90) E hC hW.obj 6 (v := .ref (ad 7)) rfl rfl (by decide) uX3 (List.mem_cons_of_mem _ kw_120) (fun _ h => h) dX3_isLowerBetter_90 ?_
    refine r_getN (pc := 93) "Bestratios" E hC (hW.fr (i := 7) (by decide)) 1 (v := .long (tB g 7)) rfl rfl (by decide) uX0 kn_55 (fun _ h => h) dX3_isLowerBetter_93 ?_
    refine lv_aload_n (pc := 96) hx hb dX3_isLowerBetter_96 rfl (lv_at hl 2 rfl) ?_
    refine r_get (pc := 97) E hC hW.obj 7 (v := .ref (ad 8)) rfl rfl (by decide) uX3 (List.mem_cons_of_mem _ kw_121) (fun _ h => h) dX3_isLowerBetter_97 ?_
    refine r_getN (pc := 100) "Bestratios" E hC (hW.fr (i := 8) (by decide)) 1 (v := .long (tB g 8)) rfl rfl (by decide) uX0 kn_55 (fun _ h => h) dX3_isLowerBetter_100 ?_
    refine r_lcgt (pc := 103) (tgt := 111) E dX3_isLowerBetter_103 dX3_isLowerBetter_104 (by decide) (fun c_4 => ?_) (fun c_4 => ?_)
    · refine lv_iconst (pc := 111) (v := 0) hx hb dX3_isLowerBetter_111 (by decide) ?_
      refine r_zret (pc := 112) E hr hlk hS (by decide) (by decide) rfl ?_ dX3_isLowerBetter_112
      subst ex_1 ex_2; first | with_reducible rfl | (simp [f_lb, f_lbA, f_lbB, c_3, c_4, Int64.not_le.mpr c_4, p_TB, p_TV, p_TC, p_TI, p_BT, p_BV, p_BC, p_BI, p_VT, p_VB, p_VC, p_VI, p_CT, p_CB, p_CV, p_CI, p_IT, p_IB, p_IV, p_IC, p_TT, p_BB, p_CC, p_II]; done)
    · refine lv_iconst (pc := 107) (v := 1) hx hb dX3_isLowerBetter_107 (by decide) ?_
      refine lv_goto (pc := 108) (tgt := 112) hx hb dX3_isLowerBetter_108 (by decide) ?_
      refine r_zret (pc := 112) E hr hlk hS (by decide) (by decide) rfl ?_ dX3_isLowerBetter_112
      subst ex_1 ex_2; first | with_reducible rfl | (simp [f_lb, f_lbA, f_lbB, c_3, c_4, Int64.not_lt.mp c_4, p_TB, p_TV, p_TC, p_TI, p_BT, p_BV, p_BC, p_BI, p_VT, p_VB, p_VC, p_VI, p_CT, p_CB, p_CV, p_CI, p_IT, p_IB, p_IV, p_IC, p_TT, p_BB, p_CC, p_II]; done)
  · refine lv_lload_n (pc := 76) hx hb dX3_isLowerBetter_76 rfl (lv_at hl 1 rfl) ?_
    refine lv_lload (pc := 77) hx hb dX3_isLowerBetter_77 (lv_at hl 0 rfl) ?_
    refine r_lcge (pc := 79) (tgt := 87) E dX3_isLowerBetter_79 dX3_isLowerBetter_80 (by decide) (fun c_5 => ?_) (fun c_5 => ?_)
    · refine lv_iconst (pc := 87) (v := 0) hx hb dX3_isLowerBetter_87 (by decide) ?_
      refine r_zret (pc := 88) E hr hlk hS (by decide) (by decide) rfl ?_ dX3_isLowerBetter_88
      subst ex_1 ex_2; first | with_reducible rfl | (simp [f_lb, f_lbA, f_lbB, c_3, c_5, Int64.not_lt.mpr c_5, p_TB, p_TV, p_TC, p_TI, p_BT, p_BV, p_BC, p_BI, p_VT, p_VB, p_VC, p_VI, p_CT, p_CB, p_CV, p_CI, p_IT, p_IB, p_IV, p_IC, p_TT, p_BB, p_CC, p_II]; done)
    · refine lv_iconst (pc := 83) (v := 1) hx hb dX3_isLowerBetter_83 (by decide) ?_
      refine lv_goto (pc := 84) (tgt := 88) hx hb dX3_isLowerBetter_84 (by decide) ?_
      refine r_zret (pc := 88) E hr hlk hS (by decide) (by decide) rfl ?_ dX3_isLowerBetter_88
      subst ex_1 ex_2; first | with_reducible rfl | (simp [f_lb, f_lbA, f_lbB, c_3, c_5, Int64.not_le.mp c_5, p_TB, p_TV, p_TC, p_TI, p_BT, p_BV, p_BC, p_BI, p_VT, p_VB, p_VC, p_VI, p_CT, p_CB, p_CV, p_CI, p_IT, p_IB, p_IV, p_IC, p_TT, p_BB, p_CC, p_II]; done)
