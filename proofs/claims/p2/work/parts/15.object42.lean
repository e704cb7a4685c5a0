set_option maxHeartbeats 4000000 in
set_option maxRecDepth 100000 in
/-- Bestratios.countOf(I)I -/
theorem c_X3_countOf (l : Launch) (D : va_G) (tk : Nat → ClassId) (N0 : Nat) (sa : Nat → Nat) {ad : Nat → Nat} (hAD : ADok N0 ad) (sz : Nat) (g : CS) (w_ : Int32) : Met l yX3_countOf (wsy yX3_countOf cX3_countOf 2 (some .int)) ({ frames := 1, cells := 0, slots := 0, locals := 22 } : Room) (cP D tk N0 sa [.ref (ad 15), .int w_] sz (fun H => CW D tk ad g H)) (kQi (fun r H => r = f_cnt g w_) (nwA sz)) (0) (0) (nwA sz) := by
  refine mStart RX3 rfl (by decide +kernel) (Nat.le_of_ble_eq_true rfl) ?_
  intro p e s m args below meth c E hr hlk hnm hsz hC hF ls hl
  subst hsz
  obtain ⟨hx, hb, -⟩ := id E
  have hA : ∀ q, (nwA s.heap.size) q → N0 ≤ q := fun q h => Nat.le_trans hC.2.1 h
  have hn : ∀ q, s.heap.size ≤ q → (nwA s.heap.size) q := fun q h => h
  have hS : va_S (nwA s.heap.size) s.heap s.heap [] := va_S.rf
  have hl : lv_has ls 2 [(0, .ref (ad 15)), (1, .int w_)] := hl
  have hW : CW D tk ad g s.heap := hF
  refine lv_iload_n (pc := 0) hx hb dX3_countOf_0 rfl (lv_at hl 1 rfl) ?_
  by_cases c_1_0 : w_ = 0
  · refine lv_tableIn (pc := 1) (tgt := 32) hx hb dX3_countOf_1 (by rw [c_1_0]; decide) (by rw [c_1_0]; decide) (by rw [c_1_0]; rfl) (by decide) ?_
    refine lv_aload_n (pc := 32) hx hb dX3_countOf_32 rfl (lv_at hl 0 rfl) ?_
    refine k_i (pc := 33) (k_V E hC hS hA hl.1 (c1.recv hC hW.obj rfl) rfl (c_X3_wholeCount l D tk N0 sa hAD s.heap.size g  ) kw_678 kw_680 kp_9 kw_1 kw_681 (n := 0) (by decide +kernel) rfl ⟨⟨rfl, rfl⟩, ⟨by decide, by decide⟩, by decide, by decide⟩ rfl (Nat.le_of_ble_eq_true rfl) hW dX3_countOf_33) hS (fun q z w => absurd w (Nat.not_le.mpr z)) hn (fun r_2 H locs hR hz hk hS => ?_)
    have er_2 := hR
    have hW := hW.new hk
    refine r_iret (pc := 36) E hr hlk hS (by decide) (by decide) ?_ dX3_countOf_36
    subst er_2; first | with_reducible rfl | (simp [f_cnt, c_1_0, p_TB, p_TV, p_TC, p_TI, p_BT, p_BV, p_BC, p_BI, p_VT, p_VB, p_VC, p_VI, p_CT, p_CB, p_CV, p_CI, p_IT, p_IB, p_IV, p_IC, p_TT, p_BB, p_CC, p_II]; done)
  · skip
    by_cases c_1_1 : w_ = 1
    · refine lv_tableIn (pc := 1) (tgt := 37) hx hb dX3_countOf_1 (by rw [c_1_1]; decide) (by rw [c_1_1]; decide) (by rw [c_1_1]; rfl) (by decide) ?_
      refine lv_aload_n (pc := 37) hx hb dX3_countOf_37 rfl (lv_at hl 0 rfl) ?_
      refine r_get (pc := 38) E hC hW.obj 3 (v := .int (tI g 0)) rfl rfl (by decide) uX3 (List.mem_cons_of_mem _ kw_117) (fun _ h => h) dX3_countOf_38 ?_
      refine r_iret (pc := 41) E hr hlk hS (by decide) (by decide) ?_ dX3_countOf_41
      first | with_reducible rfl | (simp [f_cnt, c_1_1, p_TB, p_TV, p_TC, p_TI, p_BT, p_BV, p_BC, p_BI, p_VT, p_VB, p_VC, p_VI, p_CT, p_CB, p_CV, p_CI, p_IT, p_IB, p_IV, p_IC, p_TT, p_BB, p_CC, p_II]; done)
    · skip
      by_cases c_1_2 : w_ = 2
      · refine lv_tableIn (pc := 1) (tgt := 42) hx hb dX3_countOf_1 (by rw [c_1_2]; decide) (by rw [c_1_2]; decide) (by rw [c_1_2]; rfl) (by decide) ?_
        refine lv_aload_n (pc := 42) hx hb dX3_countOf_42 rfl (lv_at hl 0 rfl) ?_
        refine r_get (pc := 43) E hC hW.obj 4 (v := .int (tI g 1)) rfl rfl (by decide) uX3 (List.mem_cons_of_mem _ kw_118) (fun _ h => h) dX3_countOf_43 ?_
        refine r_iret (pc := 46) E hr hlk hS (by decide) (by decide) ?_ dX3_countOf_46
        first | with_reducible rfl | (simp [f_cnt, c_1_2, p_TB, p_TV, p_TC, p_TI, p_BT, p_BV, p_BC, p_BI, p_VT, p_VB, p_VC, p_VI, p_CT, p_CB, p_CV, p_CI, p_IT, p_IB, p_IV, p_IC, p_TT, p_BB, p_CC, p_II]; done)
      · skip
        by_cases c_1_3 : w_ = 3
        · refine lv_tableIn (pc := 1) (tgt := 47) hx hb dX3_countOf_1 (by rw [c_1_3]; decide) (by rw [c_1_3]; decide) (by rw [c_1_3]; rfl) (by decide) ?_
          refine lv_aload_n (pc := 47) hx hb dX3_countOf_47 rfl (lv_at hl 0 rfl) ?_
          refine r_get (pc := 48) E hC hW.obj 1 (v := .ref (ad 17)) rfl rfl (by decide) uX3 (List.mem_cons_of_mem _ kw_115) (fun _ h => h) dX3_countOf_48 ?_
          refine r_getN (pc := 51) "Bestratios" E hC (hW.tm (j := 0) (by decide)) 1 (v := .int (tC g 0)) rfl rfl (by decide) uX2 kn_69 (fun _ h => h) dX3_countOf_51 ?_
          refine r_iret (pc := 54) E hr hlk hS (by decide) (by decide) ?_ dX3_countOf_54
          first | with_reducible rfl | (simp [f_cnt, c_1_3, p_TB, p_TV, p_TC, p_TI, p_BT, p_BV, p_BC, p_BI, p_VT, p_VB, p_VC, p_VI, p_CT, p_CB, p_CV, p_CI, p_IT, p_IB, p_IV, p_IC, p_TT, p_BB, p_CC, p_II]; done)
        · skip
          refine lv_tableOut (pc := 1) (tgt := 55) hx hb dX3_countOf_1 (by have z0 := ne_ti (0) (0) (by decide) c_1_0; have z1 := ne_ti (1) (1) (by decide) c_1_1; have z2 := ne_ti (2) (2) (by decide) c_1_2; have z3 := ne_ti (3) (3) (by decide) c_1_3; omega) (by decide) ?_
          refine lv_aload_n (pc := 55) hx hb dX3_countOf_55 rfl (lv_at hl 0 rfl) ?_
          refine r_get (pc := 56) E hC hW.obj 2 (v := .ref (ad 21)) rfl rfl (by decide) uX3 (List.mem_cons_of_mem _ kw_116) (fun _ h => h) dX3_countOf_56 ?_
          refine r_getN (pc := 59) "Bestratios" E hC hW.tal 6 (v := .int (tI g 2)) rfl rfl (by decide) uX1 kn_94 (fun _ h => h) dX3_countOf_59 ?_
          refine r_iret (pc := 62) E hr hlk hS (by decide) (by decide) ?_ dX3_countOf_62
          first | with_reducible rfl | (simp [f_cnt, c_1_0, c_1_1, c_1_2, c_1_3, p_TB, p_TV, p_TC, p_TI, p_BT, p_BV, p_BC, p_BI, p_VT, p_VB, p_VC, p_VI, p_CT, p_CB, p_CV, p_CI, p_IT, p_IB, p_IV, p_IC, p_TT, p_BB, p_CC, p_II]; done)
