set_option maxHeartbeats 4000000 in
set_option maxRecDepth 100000 in
/-- Bestratios.wipe()I -/
theorem c_X3_wipe (l : Launch) (D : va_G) (tk : Nat → ClassId) (N0 : Nat) (sa : Nat → Nat) {ad : Nat → Nat} (hAD : ADok N0 ad) (sz : Nat) (g : CS)  : Met l yX3_wipe (wsy yX3_wipe cX3_wipe 2 (some .int)) ({ frames := 4, cells := 0, slots := 0, locals := 96 } : Room) (cP D tk N0 sa [.ref (ad 15)] sz (fun H => CW D tk ad g H)) (kQi (fun r H => r = tI g 2 ∧ CW D tk ad (f_clr g) H) (cwA ad sz)) (0) (0) (cwA ad sz) := by
  refine mStart RX3 rfl (by decide +kernel) (Nat.le_of_ble_eq_true rfl) ?_
  intro p e s m args below meth c E hr hlk hnm hsz hC hF ls hl
  subst hsz
  obtain ⟨hx, hb, -⟩ := id E
  have hA : ∀ q, (cwA ad s.heap.size) q → N0 ≤ q := cwA.ge hAD hC.2.1
  have hn : ∀ q, s.heap.size ≤ q → (cwA ad s.heap.size) q := fun q h => Or.inr h
  have hS : va_S (cwA ad s.heap.size) s.heap s.heap [] := va_S.rf
  have hl : lv_has ls 2 [(0, .ref (ad 15))] := hl
  have hW : CW D tk ad g s.heap := hF
  refine lv_aload_n (pc := 0) hx hb dX3_wipe_0 rfl (lv_at hl 0 rfl) ?_
  refine r_get (pc := 1) E hC hW.obj 2 (v := .ref (ad 21)) rfl rfl (by decide) uX3 (List.mem_cons_of_mem _ kw_116) (fun _ h => h) dX3_wipe_1 ?_
  refine r_getN (pc := 4) "Bestratios" E hC hW.tal 6 (v := .int (tI g 2)) rfl rfl (by decide) uX1 kn_94 (fun _ h => h) dX3_wipe_4 ?_
  obtain ⟨x_1, ex_1⟩ : ∃ z9 : Int32, z9 = tI g 2 := ⟨_, rfl⟩
  rw [← ex_1]
  refine lv_istore_n (pc := 7) (lv' := [(1, .int x_1), (0, .ref (ad 15))]) hx hb dX3_wipe_7 rfl hl (by decide) rfl (fun ls hl => ?_)
  refine lv_aload_n (pc := 8) hx hb dX3_wipe_8 rfl (lv_at hl 1 rfl) ?_
  refine r_get (pc := 9) E hC hW.obj 2 (v := .ref (ad 21)) rfl rfl (by decide) uX3 (List.mem_cons_of_mem _ kw_116) (fun _ h => h) dX3_wipe_9 ?_
  refine k_v (pc := 12) (k_V E hC hS hA hl.1 (c1.recv hC hW.tal rfl) rfl (c_X1_clear l D tk N0 sa hAD s.heap.size g  ) kw_490 kw_491 kw_492 kw_4 kw_493 (n := 0) (by decide +kernel) rfl ⟨⟨rfl, rfl⟩, ⟨by decide, by decide⟩, by decide, by decide⟩ rfl (Nat.le_of_ble_eq_true rfl) hW dX3_wipe_12) hS (fun q _ w => cwA.go hS.1 q w) hn (fun H locs hR hz hk hS => ?_)
  have hW := hR
  obtain ⟨g_4, eg_4⟩ : ∃ z, z = f_clr g := ⟨_, rfl⟩
  rw [← eg_4] at hW
  refine lv_iload_n (pc := 15) hx hb dX3_wipe_15 rfl (lv_at hl 0 rfl) ?_
  refine r_iret (pc := 16) E hr hlk hS (by decide) (by decide) ?_ dX3_wipe_16
  exact ⟨(by subst ex_1 eg_4; first | with_reducible rfl | (simp [p_TB, p_TV, p_TC, p_TI, p_BT, p_BV, p_BC, p_BI, p_VT, p_VB, p_VC, p_VI, p_CT, p_CB, p_CV, p_CI, p_IT, p_IB, p_IV, p_IC, p_TT, p_BB, p_CC, p_II]; done) | rfl), hW.to (by subst ex_1 eg_4; first | with_reducible rfl | (simp [p_TB, p_TV, p_TC, p_TI, p_BT, p_BV, p_BC, p_BI, p_VT, p_VB, p_VC, p_VI, p_CT, p_CB, p_CV, p_CI, p_IT, p_IB, p_IV, p_IC, p_TT, p_BB, p_CC, p_II]; done) | rfl)⟩
set_option maxHeartbeats 4000000 in
set_option maxRecDepth 100000 in
/-- Bestratios.knock()I -/
theorem c_X3_knock (l : Launch) (D : va_G) (tk : Nat → ClassId) (N0 : Nat) (sa : Nat → Nat) {ad : Nat → Nat} (hAD : ADok N0 ad) (sz : Nat) (g : CS)  : Met l yX3_knock (wsy yX3_knock cX3_knock 1 (some .int)) ({ frames := 0, cells := 0, slots := 0, locals := 0 } : Room) (cP D tk N0 sa [.ref (ad 15)] sz (fun H => CW D tk ad g H)) (kQi (fun r H => r = tI g 1 + 1 ∧ CW D tk ad (uI g 1 (tI g 1 + 1)) H) (cwA ad sz)) (0) (0) (cwA ad sz) := by
  refine mStart RX3 rfl (by decide +kernel) (Nat.le_of_ble_eq_true rfl) ?_
  intro p e s m args below meth c E hr hlk hnm hsz hC hF ls hl
  subst hsz
  obtain ⟨hx, hb, -⟩ := id E
  have hA : ∀ q, (cwA ad s.heap.size) q → N0 ≤ q := cwA.ge hAD hC.2.1
  have hn : ∀ q, s.heap.size ≤ q → (cwA ad s.heap.size) q := fun q h => Or.inr h
  have hS : va_S (cwA ad s.heap.size) s.heap s.heap [] := va_S.rf
  have hl : lv_has ls 1 [(0, .ref (ad 15))] := hl
  have hW : CW D tk ad g s.heap := hF
  refine lv_aload_n (pc := 0) hx hb dX3_knock_0 rfl (lv_at hl 0 rfl) ?_
  refine lv_dup (pc := 1) hx hb dX3_knock_1 rfl ?_
  refine r_get (pc := 2) E hC hW.obj 4 (v := .int (tI g 1)) rfl rfl (by decide) uX3 (List.mem_cons_of_mem _ kw_118) (fun _ h => h) dX3_knock_2 ?_
  refine lv_iconst (pc := 5) (v := 1) hx hb dX3_knock_5 (by decide) ?_
  refine lv_iadd (pc := 6) hx hb dX3_knock_6 ?_
  refine r_put (pc := 7) E hC hW.obj hS (Or.inl ⟨15, by decide, rfl⟩) 4 tyX3 tyX3_ok nmX3 rfl (by decide) (Nat.le_of_ble_eq_true rfl) uX3 (List.mem_cons_of_mem _ kw_118) (fun _ h => h) rfl rfl rfl dX3_knock_7 (fun H locs h1 ho hz hS => ?_)
  have hW := hW.setO hAD (j := 1) (by decide) h1 ho
  obtain ⟨g_1, eg_1⟩ : ∃ z, z = uI g 1 ((tI g 1) + 1) := ⟨_, rfl⟩
  rw [← eg_1] at hW
  refine lv_aload_n (pc := 10) hx hb dX3_knock_10 rfl (lv_at hl 0 rfl) ?_
  refine r_get (pc := 11) E hC hW.obj 4 (v := .int (tI g_1 1)) rfl rfl (by decide) uX3 (List.mem_cons_of_mem _ kw_118) (fun _ h => h) dX3_knock_11 ?_
  refine r_iret (pc := 14) E hr hlk hS (by decide) (by decide) ?_ dX3_knock_14
  exact ⟨(by subst eg_1; first | with_reducible rfl | (simp [p_TB, p_TV, p_TC, p_TI, p_BT, p_BV, p_BC, p_BI, p_VT, p_VB, p_VC, p_VI, p_CT, p_CB, p_CV, p_CI, p_IT, p_IB, p_IV, p_IC, p_TT, p_BB, p_CC, p_II]; done) | rfl), hW.to (by subst eg_1; first | with_reducible rfl | (simp [p_TB, p_TV, p_TC, p_TI, p_BT, p_BV, p_BC, p_BI, p_VT, p_VB, p_VC, p_VI, p_CT, p_CB, p_CV, p_CI, p_IT, p_IB, p_IV, p_IC, p_TT, p_BB, p_CC, p_II]; done) | rfl)⟩
set_option maxHeartbeats 4000000 in
set_option maxRecDepth 100000 in
/-- Bestratios.wholeCount()I -/
theorem c_X3_wholeCount (l : Launch) (D : va_G) (tk : Nat → ClassId) (N0 : Nat) (sa : Nat → Nat) {ad : Nat → Nat} (hAD : ADok N0 ad) (sz : Nat) (g : CS)  : Met l yX3_wholeCount (wsy yX3_wholeCount cX3_wholeCount 3 (some .int)) ({ frames := 0, cells := 0, slots := 0, locals := 0 } : Room) (cP D tk N0 sa [.ref (ad 15)] sz (fun H => CW D tk ad g H)) (kQi (fun r H => r = f_whole g) (nwA sz)) (0) (0) (nwA sz) := by
  refine mStart RX3 rfl (by decide +kernel) (Nat.le_of_ble_eq_true rfl) ?_
  intro p e s m args below meth c E hr hlk hnm hsz hC hF ls hl
  subst hsz
  obtain ⟨hx, hb, -⟩ := id E
  have hA : ∀ q, (nwA s.heap.size) q → N0 ≤ q := fun q h => Nat.le_trans hC.2.1 h
  have hn : ∀ q, s.heap.size ≤ q → (nwA s.heap.size) q := fun q h => h
  have hS : va_S (nwA s.heap.size) s.heap s.heap [] := va_S.rf
  have hl : lv_has ls 3 [(0, .ref (ad 15))] := hl
  obtain ⟨Q, hQ⟩ : ∃ Q, Q = MQ below (kQi (fun r H => r = f_whole g) (nwA s.heap.size)) args s (0) (0) (nwA s.heap.size) := ⟨_, rfl⟩
  rw [← hQ]
  have hW : CW D tk ad g s.heap := hF
  refine lv_iconst (pc := 0) (v := 0) hx hb dX3_wholeCount_0 (by decide) ?_
  refine lv_istore_n (pc := 1) (lv' := [(1, .int 0), (0, .ref (ad 15))]) hx hb dX3_wholeCount_1 rfl hl (by decide) rfl (fun ls hl => ?_)
  refine lv_iconst (pc := 2) (v := 0) hx hb dX3_wholeCount_2 (by decide) ?_
  refine lv_istore_n (pc := 3) (lv' := [(2, .int 0), (1, .int 0), (0, .ref (ad 15))]) hx hb dX3_wholeCount_3 rfl hl (by decide) rfl (fun ls hl => ?_)
  have loop_4 : ∀ (n : Nat) (k : Nat)(a9 : Int32) (y9 : Int32), 6 - k < n → k ≤ 6 → y9 = nI k → whL g (6 - k) k a9 = f_whole g → ∀ (H : Heap) (locs : List Loc) (ls : Array Slot), va_S (nwA s.heap.size) s.heap H locs → CW D tk ad g H → lv_has ls 3 [(0, .ref (ad 15)), (1, .int a9), (2, .int y9)] → W p l e ({ frames := 0, cells := 0, slots := 0, locals := 0 } : Room) s m args below meth c H locs (0) (0) Q (F0 m 4 ls []) := by
    intro n
    induction n with
    | zero =>
      intro k a9 y9 hf9 hk9 hx9 hg9 H locs ls hS hW hl
      omega
    | succ n ih_4 =>
      intro k a9 y9 hf9 hk9 hx9 hg9 H locs ls hS hW hl
      refine lv_iload_n (pc := 4) hx hb dX3_wholeCount_4 rfl (lv_at hl 2 rfl) ?_
      refine lv_aload_n (pc := 5) hx hb dX3_wholeCount_5 rfl (lv_at hl 0 rfl) ?_
      refine r_get (pc := 6) E hC hW.obj 0 (v := .ref (ad 16)) rfl rfl (by decide) uX3 (List.mem_cons_of_mem _ kw_114) (fun _ h => h) dX3_wholeCount_6 ?_
      refine r_alen (pc := 9) E hC hW.row 2 rfl (v := 6) rfl dX3_wholeCount_9 ?_
      refine lv_icmp_ge (pc := 10) (tgt := 36) hx hb dX3_wholeCount_10 (by decide) (fun c_1 => ?_) (fun c_1 => ?_)
      · refine lv_iload_n (pc := 36) hx hb dX3_wholeCount_36 rfl (lv_at hl 1 rfl) ?_
        try rw [hQ]
        refine r_iret (pc := 37) E hr hlk hS (by decide) (by decide) ?_ dX3_wholeCount_37
        rw [← hg9]
        have e0 : 6 - k = 0 := by have := (i_le (n := 6) hx9 (by decide) (by omega) (by decide)).mp c_1; omega
        (rw [e0]) <;> simp [whL]
      · have hlt9 : k < 6 := Nat.not_le.mp (fun z => c_1 ((i_le (n := 6) hx9 (by decide) (by omega) (by decide)).mpr z))
        have hw9 : 6 - k = (6 - (k + 1)) + 1 := by omega
        refine lv_aload_n (pc := 13) hx hb dX3_wholeCount_13 rfl (lv_at hl 0 rfl) ?_
        refine r_get (pc := 14) E hC hW.obj 0 (v := .ref (ad 16)) rfl rfl (by decide) uX3 (List.mem_cons_of_mem _ kw_114) (fun _ h => h) dX3_wholeCount_14 ?_
        refine lv_iload_n (pc := 17) hx hb dX3_wholeCount_17 rfl (lv_at hl 2 rfl) ?_
        refine r_aald (pc := 18) E hC hW.row (i_in hx9 hlt9 (by decide)) dX3_wholeCount_18 ?_
        rw [show (y9).toNatClampNeg = k from (i_cl hx9 (by omega))]
        refine r_getN (pc := 19) "Bestratios" E hC (hW.fr (i := k) (by omega)) 1 (v := .long (tB g k)) rfl rfl (by decide) uX0 kn_55 (fun _ h => h) dX3_wholeCount_19 ?_
        refine lv_lconst (pc := 22) (v := 1) hx hb dX3_wholeCount_22 (by decide) ?_
        refine r_lcne (pc := 23) (tgt := 30) E dX3_wholeCount_23 dX3_wholeCount_24 (by decide) (fun c_2 => ?_) (fun c_2 => ?_)
        · obtain ⟨x_3, ex_3⟩ : ∃ z9 : Int32, z9 = y9 + 1 := ⟨_, rfl⟩
          refine lv_iinc (pc := 30) (v := x_3) (lv' := [(2, .int x_3), (0, .ref (ad 15)), (1, .int a9)]) hx hb dX3_wholeCount_30 hl (k := 2) rfl (by rw [ex_3]; rfl) (by decide) rfl (fun ls hl => ?_)
          refine lv_goto (pc := 33) (tgt := 4) hx hb dX3_wholeCount_33 (by decide) ?_
          rw [hw9] at hg9
          exact ih_4  (k + 1)  a9 x_3 (by omega) (by omega) (i_up hx9 ex_3) (by rw [← hg9]; simp [whL, c_2]) _ _ _ hS hW (lv_sub hl [1, 2, 0] rfl)
        · obtain ⟨x_4, ex_4⟩ : ∃ z9 : Int32, z9 = a9 + 1 := ⟨_, rfl⟩
          refine lv_iinc (pc := 27) (v := x_4) (lv' := [(1, .int x_4), (0, .ref (ad 15)), (2, .int y9)]) hx hb dX3_wholeCount_27 hl (k := 1) rfl (by rw [ex_4]; rfl) (by decide) rfl (fun ls hl => ?_)
          obtain ⟨x_5, ex_5⟩ : ∃ z9 : Int32, z9 = y9 + 1 := ⟨_, rfl⟩
          refine lv_iinc (pc := 30) (v := x_5) (lv' := [(2, .int x_5), (1, .int x_4), (0, .ref (ad 15))]) hx hb dX3_wholeCount_30 hl (k := 2) rfl (by rw [ex_5]; rfl) (by decide) rfl (fun ls hl => ?_)
          refine lv_goto (pc := 33) (tgt := 4) hx hb dX3_wholeCount_33 (by decide) ?_
          rw [hw9] at hg9
          exact ih_4  (k + 1)  x_4 x_5 (by omega) (by omega) (i_up hx9 ex_5) (by rw [← hg9]; subst ex_4; simp [whL, c_2]) _ _ _ hS hW (lv_sub hl [2, 1, 0] rfl)
  exact loop_4 7 0  0 0 (by omega) (by omega) nI_0.symm rfl _ _ _ hS hW (lv_sub hl [2, 1, 0] rfl)
set_option maxHeartbeats 4000000 in
set_option maxRecDepth 100000 in
/-- Bestratios.countOf(I)I -/
theorem c_X3_countOf (l : Launch) (D : va_G) (tk : Nat → ClassId) (N0 : Nat) (sa : Nat → Nat) {ad : Nat → Nat} (hAD : ADok N0 ad) (sz : Nat) (g : CS) (w_ : Int32) : Met l yX3_countOf (wsy yX3_countOf cX3_countOf 2 (some .int)) ({ frames := 1, cells := 0, slots := 0, locals := 22 } : Room) (cP D tk N0 sa [.ref (ad 15), .int w_] sz (fun H => CW D tk ad g H)) (kQi (fun r H => r = f_cnt g w_) (nwA sz)) (0) (0) (nwA sz) := by
  refine mStart RX3 rfl (by decide +kernel) (Nat.le_of_ble_eq_true rfl) ?_
  intro p e s m args below meth c E hr hlk hnm hsz hC hF ls hl
  subst hsz
  obtain ⟨hx, hb, -⟩ := id E
  have hA : ∀ q, (nwA s.heap.size) q → N0 ≤ q := fun q h => Nat.le_trans hC.2.1 h
  have hn : ∀ q, s.heap.size ≤ q → (nwA s.heap.size) q := fun q h => h
  have hS : va_S (nwA s.heap.size) s.heap s.heap [] := va_S.rf
  have hl : lv_has ls 2 [(0, .ref (ad 15)), (1, .int w_)] := hl
  have hW : CW D tk ad g s.heap := hF
  refine lv_iload_n (pc := 0) hx hb dX3_countOf_0 rfl (lv_at hl 1 rfl) ?_
  by_cases c_1_0 : w_ = 0
  · refine lv_tableIn (pc := 1) (tgt := 32) hx hb dX3_countOf_1 (by rw [c_1_0]; decide) (by rw [c_1_0]; decide) (by rw [c_1_0]; rfl) (by decide) ?_
    refine lv_aload_n (pc := 32) hx hb dX3_countOf_32 rfl (lv_at hl 0 rfl) ?_
    refine k_i (pc := 33) (k_V E hC hS hA hl.1 (c1.recv hC hW.obj rfl) rfl (c_X3_wholeCount l D tk N0 sa hAD s.heap.size g  ) kw_678 kw_680 kp_9 kw_1 kw_681 (n := 0) (by decide +kernel) rfl ⟨⟨rfl, rfl⟩, ⟨by decide, by decide⟩, by decide, by decide⟩ rfl (Nat.le_of_ble_eq_true rfl) hW dX3_countOf_33) hS (fun q z w => absurd w (Nat.not_le.mpr z)) hn (fun r_2 H locs hR hz hk hS => ?_)
    have er_2 := hR
    have hW := hW.new hk
    refine r_iret (pc := 36) E hr hlk hS (by decide) (by decide) ?_ dX3_countOf_36
    subst er_2; first | with_reducible rfl | (simp [f_cnt, c_1_0, p_TB, p_TV, p_TC, p_TI, p_BT, p_BV, p_BC, p_BI, p_VT, p_VB, p_VC, p_VI, p_CT, p_CB, p_CV, p_CI, p_IT, p_IB, p_IV, p_IC, p_TT, p_BB, p_CC, p_II]; done)
  · skip
    by_cases c_1_1 : w_ = 1
    · refine lv_tableIn (pc := 1) (tgt := 37) hx hb dX3_countOf_1 (by rw [c_1_1]; decide) (by rw [c_1_1]; decide) (by rw [c_1_1]; rfl) (by decide) ?_
      refine lv_aload_n (pc := 37) hx hb dX3_countOf_37 rfl (lv_at hl 0 rfl) ?_
      refine r_get (pc := 38) E hC hW.obj 3 (v := .int (tI g 0)) rfl rfl (by decide) uX3 (List.mem_cons_of_mem _ kw_117) (fun _ h => h) dX3_countOf_38 ?_
      refine r_iret (pc := 41) E hr hlk hS (by decide) (by decide) ?_ dX3_countOf_41
      first | with_reducible rfl | (simp [f_cnt, c_1_1, p_TB, p_TV, p_TC, p_TI, p_BT, p_BV, p_BC, p_BI, p_VT, p_VB, p_VC, p_VI, p_CT, p_CB, p_CV, p_CI, p_IT, p_IB, p_IV, p_IC, p_TT, p_BB, p_CC, p_II]; done)
    · skip
      by_cases c_1_2 : w_ = 2
      · refine lv_tableIn (pc := 1) (tgt := 42) hx hb dX3_countOf_1 (by rw [c_1_2]; decide) (by rw [c_1_2]; decide) (by rw [c_1_2]; rfl) (by decide) ?_
        refine lv_aload_n (pc := 42) hx hb dX3_countOf_42 rfl (lv_at hl 0 rfl) ?_
        refine r_get (pc := 43) E hC hW.obj 4 (v := .int (tI g 1)) rfl rfl (by decide) uX3 (List.mem_cons_of_mem _ kw_118) (fun _ h => h) dX3_countOf_43 ?_
        refine r_iret (pc := 46) E hr hlk hS (by decide) (by decide) ?_ dX3_countOf_46
        first | with_reducible rfl | (simp [f_cnt, c_1_2, p_TB, p_TV, p_TC, p_TI, p_BT, p_BV, p_BC, p_BI, p_VT, p_VB, p_VC, p_VI, p_CT, p_CB, p_CV, p_CI, p_IT, p_IB, p_IV, p_IC, p_TT, p_BB, p_CC, p_II]; done)
      · skip
        by_cases c_1_3 : w_ = 3
        · refine lv_tableIn (pc := 1) (tgt := 47) hx hb dX3_countOf_1 (by rw [c_1_3]; decide) (by rw [c_1_3]; decide) (by rw [c_1_3]; rfl) (by decide) ?_
          refine lv_aload_n (pc := 47) hx hb dX3_countOf_47 rfl (lv_at hl 0 rfl) ?_
          refine r_get (pc := 48) E hC hW.obj 1 (v := .ref (ad 17)) rfl rfl (by decide) uX3 (List.mem_cons_of_mem _ kw_115) (fun _ h => h) dX3_countOf_48 ?_
          refine r_getN (pc := 51) "Bestratios" E hC (hW.tm (j := 0) (by decide)) 1 (v := .int (tC g 0)) rfl rfl (by decide) uX2 kn_69 (fun _ h => h) dX3_countOf_51 ?_
          refine r_iret (pc := 54) E hr hlk hS (by decide) (by decide) ?_ dX3_countOf_54
          first | with_reducible rfl | (simp [f_cnt, c_1_3, p_TB, p_TV, p_TC, p_TI, p_BT, p_BV, p_BC, p_BI, p_VT, p_VB, p_VC, p_VI, p_CT, p_CB, p_CV, p_CI, p_IT, p_IB, p_IV, p_IC, p_TT, p_BB, p_CC, p_II]; done)
        · skip
          refine lv_tableOut (pc := 1) (tgt := 55) hx hb dX3_countOf_1 (by have z0 := ne_ti (0) (0) (by decide) c_1_0; have z1 := ne_ti (1) (1) (by decide) c_1_1; have z2 := ne_ti (2) (2) (by decide) c_1_2; have z3 := ne_ti (3) (3) (by decide) c_1_3; omega) (by decide) ?_
          refine lv_aload_n (pc := 55) hx hb dX3_countOf_55 rfl (lv_at hl 0 rfl) ?_
          refine r_get (pc := 56) E hC hW.obj 2 (v := .ref (ad 21)) rfl rfl (by decide) uX3 (List.mem_cons_of_mem _ kw_116) (fun _ h => h) dX3_countOf_56 ?_
          refine r_getN (pc := 59) "Bestratios" E hC hW.tal 6 (v := .int (tI g 2)) rfl rfl (by decide) uX1 kn_94 (fun _ h => h) dX3_countOf_59 ?_
          refine r_iret (pc := 62) E hr hlk hS (by decide) (by decide) ?_ dX3_countOf_62
          first | with_reducible rfl | (simp [f_cnt, c_1_0, c_1_1, c_1_2, c_1_3, p_TB, p_TV, p_TC, p_TI, p_BT, p_BV, p_BC, p_BI, p_VT, p_VB, p_VC, p_VI, p_CT, p_CB, p_CV, p_CI, p_IT, p_IB, p_IV, p_IC, p_TT, p_BB, p_CC, p_II]; done)
set_option maxHeartbeats 4000000 in
set_option maxRecDepth 100000 in
/-- Bestratios.house(I)I -/
theorem c_X3_house (l : Launch) (hlst : l.stackTraces = false) (D : va_G) (tk : Nat → ClassId) (N0 : Nat) (sa : Nat → Nat) {ad : Nat → Nat} (hAD : ADok N0 ad) (sz : Nat) (g : CS) (w_ : Int32) : vx_Met l yX3_house (wsy yX3_house cX3_house 2 (some .int)) ({ frames := 7, cells := 1, slots := 6, locals := 112 } : Room) (cP D tk N0 sa [.ref (ad 15), .int w_] sz (fun H => CW D tk ad g H)) (kQi (fun r H => bW w_ 0 4 = 0 ∧ r = f_cnt g w_) (nwA sz)) (kX (fun E => (E = "java/lang/IllegalArgumentException" ∧ bW w_ 0 4 = 1)) sz) (1) (6) (nwA sz) := by
  refine mStartX RX3 rfl (by decide +kernel) (Nat.le_of_ble_eq_true rfl) ?_
  intro p e s m args below meth c E hr hlk htb hsz hC hF ls hl
  subst hsz
  obtain ⟨hx, hb, -⟩ := id E
  have hA : ∀ q, (nwA s.heap.size) q → N0 ≤ q := fun q h => Nat.le_trans hC.2.1 h
  have hn : ∀ q, s.heap.size ≤ q → (nwA s.heap.size) q := fun q h => h
  have hS : va_S (nwA s.heap.size) s.heap s.heap [] := va_S.rf
  have hU : ∀ q, q < s.heap.size → s.heap[q]? = s.heap[q]? := fun _ _ => rfl
  have hl : lv_has ls 2 [(0, .ref (ad 15)), (1, .int w_)] := hl
  have hW : CW D tk ad g s.heap := hF
  refine lv_iload_n (pc := 0) hx hb dX3_house_0 rfl (lv_at hl 1 rfl) ?_
  refine lv_iconst (pc := 1) (v := 0) hx hb dX3_house_1 (by decide) ?_
  refine lv_iconst (pc := 2) (v := 4) hx hb dX3_house_2 (by decide) ?_
  have hZ := hS.1
  refine kx_v (pc := 3) (kx_S E hC hS hA hl.1 (c_X3_requireWithin l hlst D tk N0 sa s.heap.size w_ 0 4 ) kw_851 kw_852 kw_1 kw_853 (n := 3) (by decide +kernel) rfl ⟨⟨rfl, rfl⟩, ⟨by decide, by decide⟩, by decide, by decide⟩ rfl (Nat.le_of_ble_eq_true rfl) trivial dX3_house_3) hS (fun q z w => absurd w (Nat.not_le.mpr z)) hn hlk htb hU (fun E9 h9 => by rcases h9 with ⟨rfl, h9⟩ <;> first | (simp [h9]; done) | (simp [xo, h9]; done)) ⟨by decide, by decide⟩ (fun H locs hR hz hk hS => ?_)
  have hU := fun q (hq : q < s.heap.size) => (hk q (Nat.lt_of_lt_of_le hq hZ) (Nat.not_le.mpr (Nat.lt_of_lt_of_le hq hZ))).trans (hU q hq)
  have ek_2 := hR
  have hW := hW.new hk
  refine lv_aload_n (pc := 6) hx hb dX3_house_6 rfl (lv_at hl 0 rfl) ?_
  refine lv_iload_n (pc := 7) hx hb dX3_house_7 rfl (lv_at hl 1 rfl) ?_
  have hZ := hS.1
  refine k_i (pc := 8) (k_V E hC hS hA hl.1 (c1.recv hC hW.obj rfl) rfl (c_X3_countOf l D tk N0 sa hAD H.size g w_ ) kw_674 kw_676 kp_8 kw_1 kw_677 (n := 1) (by decide +kernel) rfl ⟨⟨rfl, rfl⟩, ⟨by decide, by decide⟩, by decide, by decide⟩ rfl (Nat.le_of_ble_eq_true rfl) hW dX3_house_8) hS (fun q z w => absurd w (Nat.not_le.mpr z)) hn (fun r_3 H locs hR hz hk hS => ?_)
  have hU := fun q (hq : q < s.heap.size) => (hk q (Nat.lt_of_lt_of_le hq hZ) (Nat.not_le.mpr (Nat.lt_of_lt_of_le hq hZ))).trans (hU q hq)
  have er_3 := hR
  have hW := hW.new hk
  refine vx_ret ?_
  refine r_iret (pc := 11) E hr hlk hS (by decide) (by decide) ?_ dX3_house_11
  exact ⟨(by subst er_3; first | assumption | (simp [xo, ek_2]; done)), (by subst er_3; first | with_reducible rfl | (simp [p_TB, p_TV, p_TC, p_TI, p_BT, p_BV, p_BC, p_BI, p_VT, p_VB, p_VC, p_VI, p_CT, p_CB, p_CV, p_CI, p_IT, p_IB, p_IV, p_IC, p_TT, p_BB, p_CC, p_II]; done) | rfl)⟩
set_option maxHeartbeats 4000000 in
set_option maxRecDepth 100000 in
/-- Bestratios.next(II)I -/
theorem c_X3_next (l : Launch) (hlst : l.stackTraces = false) (D : va_G) (tk : Nat → ClassId) (N0 : Nat) (sa : Nat → Nat) {ad : Nat → Nat} (hAD : ADok N0 ad) (sz : Nat) (g : CS) (r_ : Int32) (mm : Int32) : vx_Met l yX3_next (wsy yX3_next cX3_next 5 (some .int)) ({ frames := 7, cells := 2, slots := 12, locals := 112 } : Room) (cP D tk N0 sa [.ref (ad 15), .int r_, .int mm] sz (fun H => CW D tk ad g H)) (kQi (fun r H => xo (bR r_) (2 * bW mm 1 50) = 0 ∧ r = f_nextR g (nn r_) mm ∧ CW D tk ad (f_nextW g (nn r_) mm) H) (cwA ad sz)) (kX (fun E => (E = "java/lang/IndexOutOfBoundsException" ∧ xo (bR r_) (2 * bW mm 1 50) = 1) ∨ (E = "java/lang/IllegalArgumentException" ∧ xo (bR r_) (2 * bW mm 1 50) = 2)) sz) (2) (12) (cwA ad sz) := by
  refine mStartX RX3 rfl (by decide +kernel) (Nat.le_of_ble_eq_true rfl) ?_
  intro p e s m args below meth c E hr hlk htb hsz hC hF ls hl
  subst hsz
  obtain ⟨hx, hb, -⟩ := id E
  have hA : ∀ q, (cwA ad s.heap.size) q → N0 ≤ q := cwA.ge hAD hC.2.1
  have hn : ∀ q, s.heap.size ≤ q → (cwA ad s.heap.size) q := fun q h => Or.inr h
  have hS : va_S (cwA ad s.heap.size) s.heap s.heap [] := va_S.rf
  have hU : ∀ q, q < s.heap.size → s.heap[q]? = s.heap[q]? := fun _ _ => rfl
  have hl : lv_has ls 5 [(0, .ref (ad 15)), (1, .int r_), (2, .int mm)] := hl
  obtain ⟨Q, hQ⟩ : ∃ Q, Q = vx_MQ below (kQi (fun r H => xo (bR r_) (2 * bW mm 1 50) = 0 ∧ r = f_nextR g (nn r_) mm ∧ CW D tk ad (f_nextW g (nn r_) mm) H) (cwA ad s.heap.size)) (kX (fun E => (E = "java/lang/IndexOutOfBoundsException" ∧ xo (bR r_) (2 * bW mm 1 50) = 1) ∨ (E = "java/lang/IllegalArgumentException" ∧ xo (bR r_) (2 * bW mm 1 50) = 2)) s.heap.size) args s (2) (12) (cwA ad s.heap.size) := ⟨_, rfl⟩
  rw [← hQ]
  have hW : CW D tk ad g s.heap := hF
  refine lv_aload_n (pc := 0) hx hb dX3_next_0 rfl (lv_at hl 0 rfl) ?_
  refine lv_iload_n (pc := 1) hx hb dX3_next_1 rfl (lv_at hl 1 rfl) ?_
  try rw [hQ]
  have hZ := hS.1
  refine kx_r (pc := 2) (kx_V E hC hS hA hl.1 (c1.recv hC hW.obj rfl) rfl (c_X3_ratioAt l hlst D tk N0 sa hAD s.heap.size g r_ ) kw_809 kw_811 kp_15 kw_1 kw_812 (n := 1) (by decide +kernel) rfl ⟨⟨rfl, rfl⟩, ⟨by decide, by decide⟩, by decide, by decide⟩ rfl (Nat.le_of_ble_eq_true rfl) hW dX3_next_2) hS (fun q z w => absurd w (Nat.not_le.mpr z)) hn hlk htb hU (fun E9 h9 => by rcases h9 with ⟨rfl, h9⟩ <;> first | (simp [h9]; done) | (simp [xo, h9]; done)) ⟨by decide, by decide⟩ (fun r_1 H locs hR hz hk hS => ?_)
  have hU := fun q (hq : q < s.heap.size) => (hk q (Nat.lt_of_lt_of_le hq hZ) (Nat.not_le.mpr (Nat.lt_of_lt_of_le hq hZ))).trans (hU q hq)
  obtain ⟨ek_2, er_1⟩ := hR
  have hW := hW.new hk
  have hi_3 : nn r_ < 15 := Nat.lt_of_lt_of_le (bR_lt ek_2) (by decide)
  subst er_1
  refine lv_astore_n (pc := 5) (lv' := [(3, .ref (ad (nn r_))), (0, .ref (ad 15)), (1, .int r_), (2, .int mm)]) hx hb dX3_next_5 rfl hl (by decide) rfl (fun ls hl => ?_)
  refine lv_iload_n (pc := 6) hx hb dX3_next_6 rfl (lv_at hl 3 rfl) ?_
  refine lv_iconst (pc := 7) (v := 1) hx hb dX3_next_7 (by decide) ?_
  refine lv_bipush (pc := 8) (v := 50) hx hb dX3_next_8 (by decide) ?_
  try rw [hQ]
  have hZ := hS.1
  refine kx_v (pc := 10) (kx_S E hC hS hA hl.1 (c_X3_requireWithin l hlst D tk N0 sa H.size mm 1 50 ) kw_851 kw_852 kw_1 kw_853 (n := 3) (by decide +kernel) rfl ⟨⟨rfl, rfl⟩, ⟨by decide, by decide⟩, by decide, by decide⟩ rfl (Nat.le_of_ble_eq_true rfl) trivial dX3_next_10) hS (fun q z w => absurd w (Nat.not_le.mpr z)) hn hlk htb hU (fun E9 h9 => by rcases h9 with ⟨rfl, h9⟩ <;> first | (simp [h9]; done) | (simp [xo, h9, ek_2]; done)) ⟨by decide, by decide⟩ (fun H locs hR hz hk hS => ?_)
  have hU := fun q (hq : q < s.heap.size) => (hk q (Nat.lt_of_lt_of_le hq hZ) (Nat.not_le.mpr (Nat.lt_of_lt_of_le hq hZ))).trans (hU q hq)
  have ek_5 := hR
  have hW := hW.new hk
  refine lv_aload_n (pc := 13) hx hb dX3_next_13 rfl (lv_at hl 0 rfl) ?_
  have hZ := hS.1
  refine k_i (pc := 14) (k_V E hC hS hA hl.1 (c1.recv hC (hW.fr (i := (nn r_)) hi_3) rfl) rfl (c_X0_sign l D tk N0 sa hAD H.size g ((nn r_)) hi_3 ) kw_613 kw_614 kw_615 kw_2 kw_616 (n := 0) (by decide +kernel) rfl ⟨⟨rfl, rfl⟩, ⟨by decide, by decide⟩, by decide, by decide⟩ rfl (Nat.le_of_ble_eq_true rfl) hW dX3_next_14) hS (fun q z w => absurd w (Nat.not_le.mpr z)) hn (fun r_6 H locs hR hz hk hS => ?_)
  have hU := fun q (hq : q < s.heap.size) => (hk q (Nat.lt_of_lt_of_le hq hZ) (Nat.not_le.mpr (Nat.lt_of_lt_of_le hq hZ))).trans (hU q hq)
  have er_6 := hR
  have hW := hW.new hk
  refine lv_if_gt (pc := 17) (tgt := 25) hx hb dX3_next_17 (by decide) (fun c_8 => ?_) (fun c_8 => ?_)
  · refine lv_aload_n (pc := 25) hx hb dX3_next_25 rfl (lv_at hl 1 rfl) ?_
    refine r_get (pc := 26) E hC hW.obj 5 (v := .ref (ad 6)) rfl rfl (by decide) uX3 (List.mem_cons_of_mem _ kw_119) (fun _ h => h) dX3_next_26 ?_
    refine lv_aload_n (pc := 29) hx hb dX3_next_29 rfl (lv_at hl 0 rfl) ?_
    refine k_v (pc := 30) (k_V E hC hS hA hl.1 (c1.recv hC (hW.fr (i := 6) (by decide)) rfl) rfl (c_X0_assign l D tk N0 sa hAD H.size g 6 (by decide) ((nn r_)) hi_3 ) kw_627 kw_628 kw_629 kw_2 kw_630 (n := 1) (by decide +kernel) rfl ⟨⟨rfl, rfl⟩, ⟨by decide, by decide⟩, by decide, by decide⟩ rfl (Nat.le_of_ble_eq_true rfl) hW dX3_next_30) hS (fun q _ w => cwA.go hS.1 q w) hn (fun H locs hR hz hk hS => ?_)
    have hW := hR
    obtain ⟨g_11, eg_11⟩ : ∃ z, z = f_assign g 6 ((nn r_)) := ⟨_, rfl⟩
    rw [← eg_11] at hW
    refine lv_iconst (pc := 33) (v := 0) hx hb dX3_next_33 (by decide) ?_
    refine lv_istore (pc := 34) (lv' := [(4, .int 0), (3, .ref (ad (nn r_))), (0, .ref (ad 15)), (1, .int r_), (2, .int mm)]) hx hb dX3_next_34 hl (by decide) rfl (fun ls hl => ?_)
    have loop_36 : ∀ (n : Nat) (k : Nat)(g1 : CS) (y9 : Int32), mm.toNatClampNeg - k < n → k ≤ mm.toNatClampNeg → y9 = nI k → nxL (mm.toNatClampNeg - k) g1 = nxL mm.toNatClampNeg (f_assign g 6 (nn r_)) → ∀ (H : Heap) (locs : List Loc) (ls : Array Slot), va_S (cwA ad s.heap.size) s.heap H locs → CW D tk ad g1 H → lv_has ls 5 [(0, .ref (ad 15)), (1, .int r_), (2, .int mm), (3, .ref (ad (nn r_))), (4, .int y9)] → W p l e ({ frames := 7, cells := 2, slots := 12, locals := 112 } : Room) s m args below meth c H locs (0 + 1 + 1 + 0 + 0) (0 + 6 + 6 + 0 + 0) Q (F0 m 36 ls []) := by
      intro n
      induction n with
      | zero =>
        intro k g1 y9 hf9 hk9 hx9 hg9 H locs ls hS hW hl
        omega
      | succ n ih_36 =>
        intro k g1 y9 hf9 hk9 hx9 hg9 H locs ls hS hW hl
        refine lv_iload (pc := 36) hx hb dX3_next_36 (lv_at hl 4 rfl) ?_
        refine lv_iload_n (pc := 38) hx hb dX3_next_38 rfl (lv_at hl 2 rfl) ?_
        refine lv_icmp_ge (pc := 39) (tgt := 74) hx hb dX3_next_39 (by decide) (fun c_12 => ?_) (fun c_12 => ?_)
        · refine lv_aload_n (pc := 74) hx hb dX3_next_74 rfl (lv_at hl 0 rfl) ?_
          refine lv_aload_n (pc := 75) hx hb dX3_next_75 rfl (lv_at hl 3 rfl) ?_
          refine k_i (pc := 76) (k_V E hC hS hA hl.1 (c1.recv hC hW.obj rfl) rfl (c_X3_settle l D tk N0 sa hAD H.size g1 ((nn r_)) hi_3 ) kw_830 kw_832 kp_16 kw_1 kw_833 (n := 1) (by decide +kernel) rfl ⟨⟨rfl, rfl⟩, ⟨by decide, by decide⟩, by decide, by decide⟩ rfl (Nat.le_of_ble_eq_true rfl) hW dX3_next_76) hS (fun q _ w => cwA.go hS.1 q w) hn (fun r_13 H locs hR hz hk hS => ?_)
          obtain ⟨er_13, hW⟩ := hR
          obtain ⟨g_15, eg_15⟩ : ∃ z, z = f_setW g1 ((nn r_)) := ⟨_, rfl⟩
          rw [← eg_15] at hW
          try rw [hQ]
          refine vx_ret ?_
          refine r_iret (pc := 79) E hr hlk hS (by decide) (by decide) ?_ dX3_next_79
          have e0 := (i_mle hx9 hk9).mp c_12
          rw [e0] at hg9
          subst er_6
          exact ⟨(by simp [xo, ek_2, ek_5]), (by subst eg_15 er_13; simp [f_nextR, c_8, ← hg9, nxL, f_nxR]), hW.to (by subst eg_15 er_13; simp [f_nextW, c_8, ← hg9, nxL, f_nxW])⟩
        · refine lv_aload_n (pc := 42) hx hb dX3_next_42 rfl (lv_at hl 0 rfl) ?_
          refine r_get (pc := 43) E hC hW.obj 5 (v := .ref (ad 6)) rfl rfl (by decide) uX3 (List.mem_cons_of_mem _ kw_119) (fun _ h => h) dX3_next_43 ?_
          refine lv_aload_n (pc := 46) hx hb dX3_next_46 rfl (lv_at hl 0 rfl) ?_
          refine r_get (pc := 47) E hC hW.obj 5 (v := .ref (ad 6)) rfl rfl (by decide) uX3 (List.mem_cons_of_mem _ kw_119) (fun _ h => h) dX3_next_47 ?_
          refine k_v (pc := 50) (k_V E hC hS hA hl.1 (c1.recv hC (hW.fr (i := 6) (by decide)) rfl) rfl (c_X0_becomeFollower l D tk N0 sa hAD H.size g1 6 (by decide) 6 (by decide) ) kw_635 kw_636 kw_637 kw_2 kw_638 (n := 1) (by decide +kernel) rfl ⟨⟨rfl, rfl⟩, ⟨by decide, by decide⟩, by decide, by decide⟩ rfl (Nat.le_of_ble_eq_true rfl) hW dX3_next_50) hS (fun q _ w => cwA.go hS.1 q w) hn (fun H locs hR hz hk hS => ?_)
          have hW := hR
          obtain ⟨g_18, eg_18⟩ : ∃ z, z = f_foll g1 6 6 := ⟨_, rfl⟩
          rw [← eg_18] at hW
          refine lv_aload_n (pc := 53) hx hb dX3_next_53 rfl (lv_at hl 0 rfl) ?_
          refine r_get (pc := 54) E hC hW.obj 5 (v := .ref (ad 6)) rfl rfl (by decide) uX3 (List.mem_cons_of_mem _ kw_119) (fun _ h => h) dX3_next_54 ?_
          refine k_i (pc := 57) (k_V E hC hS hA hl.1 (c1.recv hC (hW.fr (i := 6) (by decide)) rfl) rfl (c_X0_isFitting l D tk N0 sa hAD H.size g_18 6 (by decide) ) kw_834 kw_835 kw_836 kw_2 kw_837 (n := 0) (by decide +kernel) rfl ⟨⟨rfl, rfl⟩, ⟨by decide, by decide⟩, by decide, by decide⟩ rfl (Nat.le_of_ble_eq_true rfl) hW dX3_next_57) hS (fun q z w => absurd w (Nat.not_le.mpr z)) hn (fun r_19 H locs hR hz hk hS => ?_)
          have er_19 := hR
          have hW := hW.new hk
          refine lv_if_ne (pc := 60) (tgt := 68) hx hb dX3_next_60 (by decide) (fun c_21 => ?_) (fun c_21 => ?_)
          · obtain ⟨x_22, ex_22⟩ : ∃ z9 : Int32, z9 = y9 + 1 := ⟨_, rfl⟩
            refine lv_iinc (pc := 68) (v := x_22) (lv' := [(4, .int x_22), (0, .ref (ad 15)), (1, .int r_), (2, .int mm), (3, .ref (ad (nn r_)))]) hx hb dX3_next_68 hl (k := 4) rfl (by rw [ex_22]; rfl) (by decide) rfl (fun ls hl => ?_)
            refine lv_goto (pc := 71) (tgt := 36) hx hb dX3_next_71 (by decide) ?_
            have hlt := (i_mlt hx9 hk9).mp c_12
            have e200 : mm.toNatClampNeg - k = (mm.toNatClampNeg - (k + 1)) + 1 := by omega
            rw [e200] at hg9
            exact ih_36  (k + 1) g_18  x_22 (by omega) (by omega) (i_up hx9 ex_22) (by rw [← hg9]; subst eg_18 er_19; simp [nxL, c_21]) _ _ _ hS hW (lv_sub hl [1, 2, 3, 4, 0] rfl)
          · refine lv_aload_n (pc := 63) hx hb dX3_next_63 rfl (lv_at hl 0 rfl) ?_
            refine k_i (pc := 64) (k_V E hC hS hA hl.1 (c1.recv hC hW.obj rfl) rfl (c_X3_refuse l D tk N0 sa hAD H.size g_18  ) kw_840 kw_842 kp_17 kw_1 kw_843 (n := 0) (by decide +kernel) rfl ⟨⟨rfl, rfl⟩, ⟨by decide, by decide⟩, by decide, by decide⟩ rfl (Nat.le_of_ble_eq_true rfl) hW dX3_next_64) hS (fun q _ w => cwA.go hS.1 q w) hn (fun r_23 H locs hR hz hk hS => ?_)
            obtain ⟨er_23, hW⟩ := hR
            obtain ⟨g_25, eg_25⟩ : ∃ z, z = f_refW g_18 := ⟨_, rfl⟩
            rw [← eg_25] at hW
            try rw [hQ]
            refine vx_ret ?_
            refine r_iret (pc := 67) E hr hlk hS (by decide) (by decide) ?_ dX3_next_67
            have hlt := (i_mlt hx9 hk9).mp c_12
            have e200 : mm.toNatClampNeg - k = (mm.toNatClampNeg - (k + 1)) + 1 := by omega
            rw [e200] at hg9
            subst er_6
            exact ⟨(by simp [xo, ek_2, ek_5]), (by subst eg_18 er_19 eg_25 er_23; simp [f_nextR, c_8, ← hg9, nxL, c_21, f_nxR]), hW.to (by subst eg_18 er_19 eg_25 er_23; simp [f_nextW, c_8, ← hg9, nxL, c_21, f_nxW])⟩
    try rw [← hQ]
    exact loop_36 (mm.toNatClampNeg + 1) 0 g_11  0 (by omega) (Nat.zero_le _) nI_0.symm (by rw [eg_11]; rfl) _ _ _ hS hW (lv_sub hl [2, 3, 4, 1, 0] rfl)
  · refine lv_aload_n (pc := 20) hx hb dX3_next_20 rfl (lv_at hl 1 rfl) ?_
    refine k_i (pc := 21) (k_V E hC hS hA hl.1 (c1.recv hC hW.obj rfl) rfl (c_X3_refuse l D tk N0 sa hAD H.size g  ) kw_840 kw_842 kp_17 kw_1 kw_843 (n := 0) (by decide +kernel) rfl ⟨⟨rfl, rfl⟩, ⟨by decide, by decide⟩, by decide, by decide⟩ rfl (Nat.le_of_ble_eq_true rfl) hW dX3_next_21) hS (fun q _ w => cwA.go hS.1 q w) hn (fun r_26 H locs hR hz hk hS => ?_)
    obtain ⟨er_26, hW⟩ := hR
    obtain ⟨g_28, eg_28⟩ : ∃ z, z = f_refW g := ⟨_, rfl⟩
    rw [← eg_28] at hW
    try rw [hQ]
    refine vx_ret ?_
    refine r_iret (pc := 24) E hr hlk hS (by decide) (by decide) ?_ dX3_next_24
    exact ⟨(by simp [xo, ek_2, ek_5]), (by subst er_6 eg_28 er_26; simp [f_nextR, c_8]), hW.to (by subst er_6 eg_28 er_26; simp [f_nextW, c_8])⟩
/-! ===== soundness, the checksum's numbers, as functions ===== -/
def f_fsG (g : CS) (i : Nat) : CS := f_apart g 1 i
def f_fsndR (g : CS) (i : Nat) : Int32 := if f_gcd (tT (f_fsG g i) i) (tB (f_fsG g i) i) = 1 then (if f_foldR (f_fsG g i) 1 = 0 then 0 else if f_same (tT (f_foldW (f_fsG g i) 1 6) 6) (tB (f_foldW (f_fsG g i) 1 6) 6) (tT (f_foldW (f_fsG g i) 1 6) i) (tB (f_foldW (f_fsG g i) 1 6) i) = 0 then 0 else 1) else 0
def f_fsndW (g : CS) (i : Nat) : CS := if f_gcd (tT (f_fsG g i) i) (tB (f_fsG g i) i) = 1 then f_foldW (f_fsG g i) 1 6 else f_fsG g i
def f_csndA (g : CS) (i : Nat) (pl : Int32) : Int64 := tT g i * f_p10 pl - f_cutNum (tT g i) (tB g i) pl 1 * tB g i
def f_csndB (g : CS) (i : Nat) (pl : Int32) : Int64 := f_cutNum (tT g i) (tB g i) pl 2 * tB g i - tT g i * f_p10 pl
def f_csnd (g : CS) (i : Nat) (pl : Int32) : Int32 := if f_csndA g i pl < 0 then 0 else if tB g i ≤ f_csndA g i pl then 0 else if f_csndB g i pl < 0 then 0 else if tB g i ≤ f_csndB g i pl then 0 else 1
def f_mixed (a b : Int64) : Int64 := a * 31 + b
def f_nsG (g : CS) (i k : Nat) : CS := f_nb (f_nb g 7 i (nI k) 1) 8 i (nI k) (-1)
def f_cmpF (g : CS) (a b : Nat) : Int32 := f_cmp (tT g a * tB g b) (tT g b * tB g a)
def f_sameF (g : CS) (a b : Nat) : Int32 := f_same (tT g a) (tB g a) (tT g b) (tB g b)
def f_nextF (g : CS) (a b : Nat) : Int32 := f_next (tT g a) (tB g a) (tT g b) (tB g b)
def f_ns1 (g : CS) (i : Nat) : Int32 := if 0 < f_cmpF g 7 i then 0 else if f_cmpF g 8 i < 0 then 0 else 1
def f_ns2 (g : CS) (i : Nat) : Int32 := if f_sameF g 7 i = 0 then 0 else if f_sameF g 8 i = 0 then 0 else 1
def f_ns3 (g : CS) (bd : Int32) : Int32 := if f_nextF g 7 8 = 0 then 0 else if tB g 7 + tB g 8 ≤ bd.toInt64 then 0 else 1
def f_nsOk (g : CS) (i : Nat) (bd : Int32) : Bool := decide (f_ns1 g i ≠ 0) && (decide (f_ns2 g i ≠ 0) || decide (f_ns3 g bd ≠ 0))
def nsL (i : Nat) : Nat → Nat → CS → Int32 × CS
  | 0, _, g => (1, g)
  | n + 1, k, g => if f_nsOk (f_nsG g i k) i (nI k) = true then nsL i n (k + 1) (f_nsG g i k) else (0, f_nsG g i k)
def f_nsnd (g : CS) (i : Nat) : Int32 × CS := nsL i 12 1 g

def f_ts1 (g : CS) (i : Nat) (b : Int32) : Int32 × CS := if f_stDR g i b = 0 then (0, f_stDW g i b) else if f_stUR (f_assign (f_stDW g i b) 7 6) 7 = 0 then (0, f_stUW (f_assign (f_stDW g i b) 7 6) 7) else if f_sameF (f_stUW (f_assign (f_stDW g i b) 7 6) 7) 6 i = 0 then (0, f_stUW (f_assign (f_stDW g i b) 7 6) 7) else (1, f_stUW (f_assign (f_stDW g i b) 7 6) 7)
def f_ts2 (g : CS) (i : Nat) : Int32 × CS := (f_sameF (f_fore (f_foll g 7 i) 6 7) 6 i, f_fore (f_foll g 7 i) 6 7)
def f_tree (g : CS) (i : Nat) : Int32 × CS := if 0 < f_cmp (tT g i) 0 then (if (f_ts1 g i 0).1 = 0 then f_ts1 g i 0 else if (f_ts1 (f_ts1 g i 0).2 i 1).1 = 0 then f_ts1 (f_ts1 g i 0).2 i 1 else f_ts2 (f_ts1 (f_ts1 g i 0).2 i 1).2 i) else (1, g)
def f_pr1 (g : CS) (a b : Nat) : Int32 × CS := (f_sameF (f_dif (f_sum g 7 a b) 6 7 b) 6 a, f_dif (f_sum g 7 a b) 6 7 b)
def inL (a : Nat) : Nat → Nat → CS → Int32 × CS
  | 0, _, g => (1, g)
  | n + 1, b, g => if (f_pr1 g a b).1 = 0 then (0, (f_pr1 g a b).2) else inL a n (b + 1) (f_pr1 g a b).2
def ouL : Nat → Nat → CS → Int32 × CS
  | 0, _, g => (1, g)
  | n + 1, a, g => if (inL a (5 - a) (a + 1) g).1 = 0 then inL a (5 - a) (a + 1) g else ouL n (a + 1) (inL a (5 - a) (a + 1) g).2
def f_pairs (g : CS) : Int32 × CS := ouL 6 0 g
theorem le12 {y : Int32} {k : Nat} (hx : y = nI k) (hk : k ≤ 13) (h : ¬ 12 < y) : k ≤ 12 := by
  subst hx
  rcases Nat.lt_or_ge 12 k with z | z
  · exact absurd ((nI_ltI (a := 12) (b := k) (by decide) (by omega)).mpr z) h
  · exact z
theorem lt12 {y : Int32} {k : Nat} (hx : y = nI k) (hk : k ≤ 13) (h : 12 < y) : 12 < k := by
  subst hx
  exact (nI_ltI (a := 12) (b := k) (by decide) (by omega)).mp h
theorem ns_okT {g : CS} {i k : Nat} {y x3 x4 x5 : Int32} (hx : y = nI k) (h1 : x3 = f_ns1 g i) (h2 : x4 = f_ns2 g i) (h3 : x5 = f_ns3 g y) (c : ¬ x3 = 0) (d : ¬ x4 = 0 ∨ ¬ x5 = 0) : f_nsOk g i (nI k) = true := by
  subst h1 h2 h3 hx
  simp only [f_nsOk, Bool.and_eq_true, Bool.or_eq_true, decide_eq_true_eq]
  exact ⟨c, d⟩
theorem ns_okF {g : CS} {i k : Nat} {y x3 x4 x5 : Int32} (hx : y = nI k) (h1 : x3 = f_ns1 g i) (h2 : x4 = f_ns2 g i) (h3 : x5 = f_ns3 g y) (d : x3 = 0 ∨ (x4 = 0 ∧ x5 = 0)) : ¬ f_nsOk g i (nI k) = true := by
  subst h1 h2 h3 hx
  simp only [f_nsOk, Bool.and_eq_true, Bool.or_eq_true, decide_eq_true_eq]
  rcases d with d | ⟨d1, d2⟩
  · exact fun z => z.1 d
  · exact fun z => z.2.elim (fun q => q d1) (fun q => q d2)
def f_snd1 (g : CS) (k : Nat) : Int32 × CS := if f_fsndR g k = 0 then (0, f_fsndW g k) else if (f_nsnd (f_fsndW g k) k).1 = 0 then (0, (f_nsnd (f_fsndW g k) k).2) else if f_csnd (f_nsnd (f_fsndW g k) k).2 k 0 = 0 then (0, (f_nsnd (f_fsndW g k) k).2) else if f_csnd (f_nsnd (f_fsndW g k) k).2 k 2 = 0 then (0, (f_nsnd (f_fsndW g k) k).2) else if (f_tree (f_nsnd (f_fsndW g k) k).2 k).1 = 0 then (0, (f_tree (f_nsnd (f_fsndW g k) k).2 k).2) else (1, (f_tree (f_nsnd (f_fsndW g k) k).2 k).2)
def sdL : Nat → Nat → CS → Int32 × CS
  | 0, _, g => (1, g)
  | n + 1, k, g => if (f_snd1 g k).1 = 0 then f_snd1 g k else sdL n (k + 1) (f_snd1 g k).2
def f_fin (g : CS) : Int32 × CS := if (f_pairs g).1 = 0 then (0, (f_pairs g).2) else if f_evR (f_pairs g).2 6 = 0 then (0, f_sum (f_pairs g).2 6 10 11) else (1, f_sum (f_pairs g).2 6 10 11)
def f_isS (g : CS) : Int32 × CS := if (sdL 6 0 g).1 = 0 then sdL 6 0 g else f_fin (sdL 6 0 g).2
def mpI (g : CS) (a : Nat) : Nat → Nat → Int64 → Int64
  | 0, _, s => s
  | n + 1, b, s => mpI g a n (b + 1) (f_mixed (f_mixed s (f_cmpF g a b).toInt64) (if f_nextF g a b = 0 then 0 else 1))
def mpO (g : CS) : Nat → Nat → Int64 → Int64
  | 0, _, s => s
  | n + 1, a, s => mpO g n (a + 1) (mpI g a (5 - a) (a + 1) s)
def f_mPairs (g : CS) (s : Int64) : Int64 := mpO g 6 0 s
/-- the bound that the SIMPLEST needs: what is sought lies far inside a long -/
def smOk (g : CS) (j : Nat) : Prop := ∀ k : Nat, k ≤ 1000000000 → (f_floorOf (tT g j * lN k) (tB g j)).toInt < 4611686018427387904
set_option maxHeartbeats 4000000 in
set_option maxRecDepth 100000 in
/-- Bestratios.mixed(JJ)J -/
theorem c_X3_mixed (l : Launch) (D : va_G) (tk : Nat → ClassId) (N0 : Nat) (sa : Nat → Nat)  (sz : Nat) (a_ : Int64) (b_ : Int64) : Met l yX3_mixed (wsy yX3_mixed cX3_mixed 4 (some .long)) ({ frames := 0, cells := 0, slots := 0, locals := 0 } : Room) (cP D tk N0 sa [.long a_, .long b_] sz (fun H => True)) (kQl (fun r H => r = f_mixed a_ b_) (nwA sz)) (0) (0) (nwA sz) := by
  refine mStart RX3 rfl (by decide +kernel) (Nat.le_of_ble_eq_true rfl) ?_
  intro p e s m args below meth c E hr hlk hnm hsz hC hF ls hl
  subst hsz
  obtain ⟨hx, hb, -⟩ := id E
  have hA : ∀ q, (nwA s.heap.size) q → N0 ≤ q := fun q h => Nat.le_trans hC.2.1 h
  have hn : ∀ q, s.heap.size ≤ q → (nwA s.heap.size) q := fun q h => h
  have hS : va_S (nwA s.heap.size) s.heap s.heap [] := va_S.rf
  have hl : lv_has ls 4 [(0, .long a_), (2, .long b_)] := hl
  refine lv_lload_n (pc := 0) hx hb dX3_mixed_0 rfl (lv_at hl 0 rfl) ?_
  refine lv_ldc2 (pc := 1) (v := 31) hx hb E.2.2.2.1 (E.2.2.2.2 _ (List.mem_cons_of_mem _ kw_685)) dX3_mixed_1 ?_
  refine lv_lmul (pc := 4) hx hb dX3_mixed_4 ?_
  refine lv_lload_n (pc := 5) hx hb dX3_mixed_5 rfl (lv_at hl 1 rfl) ?_
  refine lv_ladd (pc := 6) hx hb dX3_mixed_6 ?_
  refine r_lret (pc := 7) E hr hlk hS (by decide) (by decide) ?_ dX3_mixed_7
  first | with_reducible rfl | (simp [f_mixed, p_TB, p_TV, p_TC, p_TI, p_BT, p_BV, p_BC, p_BI, p_VT, p_VB, p_VC, p_VI, p_CT, p_CB, p_CV, p_CI, p_IT, p_IB, p_IV, p_IC, p_TT, p_BB, p_CC, p_II]; done)
set_option maxHeartbeats 4000000 in
set_option maxRecDepth 100000 in
/-- Bestratios.isFoldSound(LBestratios$Fraction;)Z -/
theorem c_X3_isFoldSound (l : Launch) (D : va_G) (tk : Nat → ClassId) (N0 : Nat) (sa : Nat → Nat) {ad : Nat → Nat} (hAD : ADok N0 ad) (sz : Nat) (g : CS) (i : Nat) (hi : i < 15) : Met l yX3_isFoldSound (wsy yX3_isFoldSound cX3_isFoldSound 2 (some .boolean)) ({ frames := 4, cells := 0, slots := 0, locals := 104 } : Room) (cP D tk N0 sa [.ref (ad 15), .ref (ad i)] sz (fun H => CW D tk ad g H)) (kQi (fun r H => r = f_fsndR g i ∧ CW D tk ad (f_fsndW g i) H) (cwA ad sz)) (0) (0) (cwA ad sz) := by
  refine mStart RX3 rfl (by decide +kernel) (Nat.le_of_ble_eq_true rfl) ?_
  intro p e s m args below meth c E hr hlk hnm hsz hC hF ls hl
  subst hsz
  obtain ⟨hx, hb, -⟩ := id E
  have hA : ∀ q, (cwA ad s.heap.size) q → N0 ≤ q := cwA.ge hAD hC.2.1
  have hn : ∀ q, s.heap.size ≤ q → (cwA ad s.heap.size) q := fun q h => Or.inr h
  have hS : va_S (cwA ad s.heap.size) s.heap s.heap [] := va_S.rf
  have hl : lv_has ls 2 [(0, .ref (ad 15)), (1, .ref (ad i))] := hl
  have hW : CW D tk ad g s.heap := hF
  refine lv_aload_n (pc := 0) hx hb dX3_isFoldSound_0 rfl (lv_at hl 0 rfl) ?_
  refine r_get (pc := 1) E hC hW.obj 8 (v := .ref (ad 19)) rfl rfl (by decide) uX3 (List.mem_cons_of_mem _ kw_122) (fun _ h => h) dX3_isFoldSound_1 ?_
  refine lv_aload_n (pc := 4) hx hb dX3_isFoldSound_4 rfl (lv_at hl 1 rfl) ?_
  refine k_v (pc := 5) (k_V E hC hS hA hl.1 (c1.recv hC (hW.tm (j := 1) (by decide)) rfl) rfl (c_X2_takeApart l D tk N0 sa hAD s.heap.size g 1 (by decide) i hi ) kw_563 kw_564 kw_565 kw_3 kw_566 (n := 1) (by decide +kernel) rfl ⟨⟨rfl, rfl⟩, ⟨by decide, by decide⟩, by decide, by decide⟩ rfl (Nat.le_of_ble_eq_true rfl) hW dX3_isFoldSound_5) hS (fun q _ w => cwA.go hS.1 q w) hn (fun H locs hR hz hk hS => ?_)
  have hW := hR
  obtain ⟨g_3, eg_3⟩ : ∃ z, z = f_apart g 1 i := ⟨_, rfl⟩
  rw [← eg_3] at hW
  refine lv_aload_n (pc := 8) hx hb dX3_isFoldSound_8 rfl (lv_at hl 1 rfl) ?_
  refine r_getN (pc := 9) "Bestratios" E hC (hW.fr (i := i) hi) 0 (v := .long (tT g_3 i)) rfl rfl (by decide) uX0 kn_52 (fun _ h => h) dX3_isFoldSound_9 ?_
  refine lv_aload_n (pc := 12) hx hb dX3_isFoldSound_12 rfl (lv_at hl 1 rfl) ?_
  refine r_getN (pc := 13) "Bestratios" E hC (hW.fr (i := i) hi) 1 (v := .long (tB g_3 i)) rfl rfl (by decide) uX0 kn_55 (fun _ h => h) dX3_isFoldSound_13 ?_
  refine k_l (pc := 16) (k_S E hC hS hA hl.1 (c_X3_commonDivisor l D tk N0 sa H.size (tT g_3 i) (tB g_3 i) ) kw_572 kw_499 kw_1 kw_500 (n := 2) (by decide +kernel) rfl ⟨⟨rfl, rfl⟩, ⟨by decide, by decide⟩, by decide, by decide⟩ rfl (Nat.le_of_ble_eq_true rfl) trivial dX3_isFoldSound_16) hS (fun q z w => absurd w (Nat.not_le.mpr z)) hn (fun r_4 H locs hR hz hk hS => ?_)
  have er_4 := hR
  have hW := hW.new hk
  refine lv_lconst (pc := 19) (v := 1) hx hb dX3_isFoldSound_19 (by decide) ?_
  refine r_lcne (pc := 20) (tgt := 53) E dX3_isFoldSound_20 dX3_isFoldSound_21 (by decide) (fun c_6 => ?_) (fun c_6 => ?_)
  · refine lv_iconst (pc := 53) (v := 0) hx hb dX3_isFoldSound_53 (by decide) ?_
    refine r_zret (pc := 54) E hr hlk hS (by decide) (by decide) rfl ?_ dX3_isFoldSound_54
    exact ⟨(by subst eg_3 er_4; first | with_reducible rfl | (simp [f_fsndR, f_fsndW, f_fsG, c_6, p_TB, p_TV, p_TC, p_TI, p_BT, p_BV, p_BC, p_BI, p_VT, p_VB, p_VC, p_VI, p_CT, p_CB, p_CV, p_CI, p_IT, p_IB, p_IV, p_IC, p_TT, p_BB, p_CC, p_II]; done)), hW.to (by subst eg_3 er_4; first | with_reducible rfl | (simp [f_fsndR, f_fsndW, f_fsG, c_6, p_TB, p_TV, p_TC, p_TI, p_BT, p_BV, p_BC, p_BI, p_VT, p_VB, p_VC, p_VI, p_CT, p_CB, p_CV, p_CI, p_IT, p_IB, p_IV, p_IC, p_TT, p_BB, p_CC, p_II]; done))⟩
  · refine lv_aload_n (pc := 24) hx hb dX3_isFoldSound_24 rfl (lv_at hl 0 rfl) ?_
    refine r_get (pc := 25) E hC hW.obj 8 (v := .ref (ad 19)) rfl rfl (by decide) uX3 (List.mem_cons_of_mem _ kw_122) (fun _ h => h) dX3_isFoldSound_25 ?_
    refine lv_aload_n (pc := 28) hx hb dX3_isFoldSound_28 rfl (lv_at hl 0 rfl) ?_
    refine r_get (pc := 29) E hC hW.obj 5 (v := .ref (ad 6)) rfl rfl (by decide) uX3 (List.mem_cons_of_mem _ kw_119) (fun _ h => h) dX3_isFoldSound_29 ?_
    refine k_i (pc := 32) (k_V E hC hS hA hl.1 (c1.recv hC (hW.tm (j := 1) (by decide)) rfl) rfl (c_X2_foldInto l D tk N0 sa hAD H.size g_3 1 (by decide) 6 (by decide) ) kw_573 kw_574 kw_575 kw_3 kw_576 (n := 1) (by decide +kernel) rfl ⟨⟨rfl, rfl⟩, ⟨by decide, by decide⟩, by decide, by decide⟩ rfl (Nat.le_of_ble_eq_true rfl) hW dX3_isFoldSound_32) hS (fun q _ w => cwA.go hS.1 q w) hn (fun r_7 H locs hR hz hk hS => ?_)
    obtain ⟨er_7, hW⟩ := hR
    obtain ⟨g_9, eg_9⟩ : ∃ z, z = f_foldW g_3 1 6 := ⟨_, rfl⟩
    rw [← eg_9] at hW
    refine lv_if_eq (pc := 35) (tgt := 53) hx hb dX3_isFoldSound_35 (by decide) (fun c_10 => ?_) (fun c_10 => ?_)
    · refine lv_iconst (pc := 53) (v := 0) hx hb dX3_isFoldSound_53 (by decide) ?_
      refine r_zret (pc := 54) E hr hlk hS (by decide) (by decide) rfl ?_ dX3_isFoldSound_54
      exact ⟨(by subst eg_3 er_4 eg_9 er_7; first | with_reducible rfl | (simp [f_fsndR, f_fsndW, f_fsG, c_6, c_10, p_TB, p_TV, p_TC, p_TI, p_BT, p_BV, p_BC, p_BI, p_VT, p_VB, p_VC, p_VI, p_CT, p_CB, p_CV, p_CI, p_IT, p_IB, p_IV, p_IC, p_TT, p_BB, p_CC, p_II]; done)), hW.to (by subst eg_3 er_4 eg_9 er_7; first | with_reducible rfl | (simp [f_fsndR, f_fsndW, f_fsG, c_6, c_10, p_TB, p_TV, p_TC, p_TI, p_BT, p_BV, p_BC, p_BI, p_VT, p_VB, p_VC, p_VI, p_CT, p_CB, p_CV, p_CI, p_IT, p_IB, p_IV, p_IC, p_TT, p_BB, p_CC, p_II]; done))⟩
    · refine lv_aload_n (pc := 38) hx hb dX3_isFoldSound_38 rfl (lv_at hl 0 rfl) ?_
      refine r_get (pc := 39) E hC hW.obj 5 (v := .ref (ad 6)) rfl rfl (by decide) uX3 (List.mem_cons_of_mem _ kw_119) (fun _ h => h) dX3_isFoldSound_39 ?_
      refine lv_aload_n (pc := 42) hx hb dX3_isFoldSound_42 rfl (lv_at hl 1 rfl) ?_
      refine k_i (pc := 43) (k_V E hC hS hA hl.1 (c1.recv hC (hW.fr (i := 6) (by decide)) rfl) rfl (c_X0_isSameAs l D tk N0 sa hAD H.size g_9 6 (by decide) i hi ) kw_580 kw_581 kw_582 kw_2 kw_583 (n := 1) (by decide +kernel) rfl ⟨⟨rfl, rfl⟩, ⟨by decide, by decide⟩, by decide, by decide⟩ rfl (Nat.le_of_ble_eq_true rfl) hW dX3_isFoldSound_43) hS (fun q z w => absurd w (Nat.not_le.mpr z)) hn (fun r_11 H locs hR hz hk hS => ?_)
      have er_11 := hR
      have hW := hW.new hk
      refine lv_if_eq (pc := 46) (tgt := 53) hx hb dX3_isFoldSound_46 (by decide) (fun c_13 => ?_) (fun c_13 => ?_)
      · refine lv_iconst (pc := 53) (v := 0) hx hb dX3_isFoldSound_53 (by decide) ?_
        refine r_zret (pc := 54) E hr hlk hS (by decide) (by decide) rfl ?_ dX3_isFoldSound_54
        exact ⟨(by subst eg_3 er_4 eg_9 er_7 er_11; first | with_reducible rfl | (simp [f_fsndR, f_fsndW, f_fsG, c_6, c_10, c_13, p_TB, p_TV, p_TC, p_TI, p_BT, p_BV, p_BC, p_BI, p_VT, p_VB, p_VC, p_VI, p_CT, p_CB, p_CV, p_CI, p_IT, p_IB, p_IV, p_IC, p_TT, p_BB, p_CC, p_II]; done)), hW.to (by subst eg_3 er_4 eg_9 er_7 er_11; first | with_reducible rfl | (simp [f_fsndR, f_fsndW, f_fsG, c_6, c_10, c_13, p_TB, p_TV, p_TC, p_TI, p_BT, p_BV, p_BC, p_BI, p_VT, p_VB, p_VC, p_VI, p_CT, p_CB, p_CV, p_CI, p_IT, p_IB, p_IV, p_IC, p_TT, p_BB, p_CC, p_II]; done))⟩
      · refine lv_iconst (pc := 49) (v := 1) hx hb dX3_isFoldSound_49 (by decide) ?_
        refine lv_goto (pc := 50) (tgt := 54) hx hb dX3_isFoldSound_50 (by decide) ?_
        refine r_zret (pc := 54) E hr hlk hS (by decide) (by decide) rfl ?_ dX3_isFoldSound_54
        exact ⟨(by subst eg_3 er_4 eg_9 er_7 er_11; first | with_reducible rfl | (simp [f_fsndR, f_fsndW, f_fsG, c_6, c_10, c_13, p_TB, p_TV, p_TC, p_TI, p_BT, p_BV, p_BC, p_BI, p_VT, p_VB, p_VC, p_VI, p_CT, p_CB, p_CV, p_CI, p_IT, p_IB, p_IV, p_IC, p_TT, p_BB, p_CC, p_II]; done)), hW.to (by subst eg_3 er_4 eg_9 er_7 er_11; first | with_reducible rfl | (simp [f_fsndR, f_fsndW, f_fsG, c_6, c_10, c_13, p_TB, p_TV, p_TC, p_TI, p_BT, p_BV, p_BC, p_BI, p_VT, p_VB, p_VC, p_VI, p_CT, p_CB, p_CV, p_CI, p_IT, p_IB, p_IV, p_IC, p_TT, p_BB, p_CC, p_II]; done))⟩
set_option maxHeartbeats 4000000 in
set_option maxRecDepth 100000 in
/-- Bestratios.isCutSound(LBestratios$Fraction;I)Z -/
theorem c_X3_isCutSound (l : Launch) (D : va_G) (tk : Nat → ClassId) (N0 : Nat) (sa : Nat → Nat) {ad : Nat → Nat} (hAD : ADok N0 ad) (sz : Nat) (g : CS) (i : Nat) (hi : i < 15) (pl : Int32) : Met l yX3_isCutSound (wsy yX3_isCutSound cX3_isCutSound 8 (some .boolean)) ({ frames := 4, cells := 0, slots := 0, locals := 101 } : Room) (cP D tk N0 sa [.ref (ad i), .int pl] sz (fun H => CW D tk ad g H)) (kQi (fun r H => r = f_csnd g i pl) (nwA sz)) (0) (0) (nwA sz) := by
  refine mStart RX3 rfl (by decide +kernel) (Nat.le_of_ble_eq_true rfl) ?_
  intro p e s m args below meth c E hr hlk hnm hsz hC hF ls hl
  subst hsz
  obtain ⟨hx, hb, -⟩ := id E
  have hA : ∀ q, (nwA s.heap.size) q → N0 ≤ q := fun q h => Nat.le_trans hC.2.1 h
  have hn : ∀ q, s.heap.size ≤ q → (nwA s.heap.size) q := fun q h => h
  have hS : va_S (nwA s.heap.size) s.heap s.heap [] := va_S.rf
  have hl : lv_has ls 8 [(0, .ref (ad i)), (1, .int pl)] := hl
  have hW : CW D tk ad g s.heap := hF
  refine lv_aload_n (pc := 0) hx hb dX3_isCutSound_0 rfl (lv_at hl 0 rfl) ?_
  refine r_getN (pc := 1) "Bestratios" E hC (hW.fr (i := i) hi) 0 (v := .long (tT g i)) rfl rfl (by decide) uX0 kn_52 (fun _ h => h) dX3_isCutSound_1 ?_
  refine lv_iload_n (pc := 4) hx hb dX3_isCutSound_4 rfl (lv_at hl 1 rfl) ?_
  refine k_l (pc := 5) (k_S E hC hS hA hl.1 (c_X3_powerOfTen l D tk N0 sa s.heap.size pl ) kw_532 kw_533 kw_1 kw_534 (n := 1) (by decide +kernel) rfl ⟨⟨rfl, rfl⟩, ⟨by decide, by decide⟩, by decide, by decide⟩ rfl (Nat.le_of_ble_eq_true rfl) trivial dX3_isCutSound_5) hS (fun q z w => absurd w (Nat.not_le.mpr z)) hn (fun r_1 H locs hR hz hk hS => ?_)
  have er_1 := hR
  have hW := hW.new hk
  refine lv_lmul (pc := 8) hx hb dX3_isCutSound_8 ?_
  obtain ⟨x_3, ex_3⟩ : ∃ z9 : Int64, z9 = (tT g i) * r_1 := ⟨_, rfl⟩
  rw [← ex_3]
  refine lv_lstore_n (pc := 9) (lv' := [(2, .long x_3), (0, .ref (ad i)), (1, .int pl)]) hx hb dX3_isCutSound_9 rfl hl (by decide) rfl (fun ls hl => ?_)
  refine lv_lload_n (pc := 10) hx hb dX3_isCutSound_10 rfl (lv_at hl 0 rfl) ?_
  refine lv_aload_n (pc := 11) hx hb dX3_isCutSound_11 rfl (lv_at hl 1 rfl) ?_
  refine lv_iload_n (pc := 12) hx hb dX3_isCutSound_12 rfl (lv_at hl 2 rfl) ?_
  refine lv_iconst (pc := 13) (v := 1) hx hb dX3_isCutSound_13 (by decide) ?_
  refine k_l (pc := 14) (k_V E hC hS hA hl.1 (c1.recv hC (hW.fr (i := i) hi) rfl) rfl (c_X0_cutTo l D tk N0 sa hAD H.size g i hi pl 1 ) kw_525 kw_526 kw_527 kw_2 kw_528 (n := 2) (by decide +kernel) rfl ⟨⟨rfl, rfl⟩, ⟨by decide, by decide⟩, by decide, by decide⟩ rfl (Nat.le_of_ble_eq_true rfl) hW dX3_isCutSound_14) hS (fun q z w => absurd w (Nat.not_le.mpr z)) hn (fun r_4 H locs hR hz hk hS => ?_)
  have er_4 := hR
  have hW := hW.new hk
  refine lv_aload_n (pc := 17) hx hb dX3_isCutSound_17 rfl (lv_at hl 1 rfl) ?_
  refine r_getN (pc := 18) "Bestratios" E hC (hW.fr (i := i) hi) 1 (v := .long (tB g i)) rfl rfl (by decide) uX0 kn_55 (fun _ h => h) dX3_isCutSound_18 ?_
  refine lv_lmul (pc := 21) hx hb dX3_isCutSound_21 ?_
  refine lv_lsub (pc := 22) hx hb dX3_isCutSound_22 ?_
  obtain ⟨x_6, ex_6⟩ : ∃ z9 : Int64, z9 = x_3 - (r_4 * (tB g i)) := ⟨_, rfl⟩
  rw [← ex_6]
  refine lv_lstore (pc := 23) (lv' := [(4, .long x_6), (2, .long x_3), (0, .ref (ad i)), (1, .int pl)]) hx hb dX3_isCutSound_23 hl (by decide) rfl (fun ls hl => ?_)
  refine lv_aload_n (pc := 25) hx hb dX3_isCutSound_25 rfl (lv_at hl 2 rfl) ?_
  refine lv_iload_n (pc := 26) hx hb dX3_isCutSound_26 rfl (lv_at hl 3 rfl) ?_
  refine lv_iconst (pc := 27) (v := 2) hx hb dX3_isCutSound_27 (by decide) ?_
  refine k_l (pc := 28) (k_V E hC hS hA hl.1 (c1.recv hC (hW.fr (i := i) hi) rfl) rfl (c_X0_cutTo l D tk N0 sa hAD H.size g i hi pl 2 ) kw_525 kw_526 kw_527 kw_2 kw_528 (n := 2) (by decide +kernel) rfl ⟨⟨rfl, rfl⟩, ⟨by decide, by decide⟩, by decide, by decide⟩ rfl (Nat.le_of_ble_eq_true rfl) hW dX3_isCutSound_28) hS (fun q z w => absurd w (Nat.not_le.mpr z)) hn (fun r_7 H locs hR hz hk hS => ?_)
  have er_7 := hR
  have hW := hW.new hk
  refine lv_aload_n (pc := 31) hx hb dX3_isCutSound_31 rfl (lv_at hl 2 rfl) ?_
  refine r_getN (pc := 32) "Bestratios" E hC (hW.fr (i := i) hi) 1 (v := .long (tB g i)) rfl rfl (by decide) uX0 kn_55 (fun _ h => h) dX3_isCutSound_32 ?_
  refine lv_lmul (pc := 35) hx hb dX3_isCutSound_35 ?_
  refine lv_lload_n (pc := 36) hx hb dX3_isCutSound_36 rfl (lv_at hl 1 rfl) ?_
  refine lv_lsub (pc := 37) hx hb dX3_isCutSound_37 ?_
  obtain ⟨x_9, ex_9⟩ : ∃ z9 : Int64, z9 = (r_7 * (tB g i)) - x_3 := ⟨_, rfl⟩
  rw [← ex_9]
  refine lv_lstore (pc := 38) (lv' := [(6, .long x_9), (4, .long x_6), (2, .long x_3), (0, .ref (ad i)), (1, .int pl)]) hx hb dX3_isCutSound_38 hl (by decide) rfl (fun ls hl => ?_)
  refine lv_lload (pc := 40) hx hb dX3_isCutSound_40 (lv_at hl 1 rfl) ?_
  refine lv_lconst (pc := 42) (v := 0) hx hb dX3_isCutSound_42 (by decide) ?_
  refine r_lclt (pc := 43) (tgt := 78) E dX3_isCutSound_43 dX3_isCutSound_44 (by decide) (fun c_10 => ?_) (fun c_10 => ?_)
  · refine lv_iconst (pc := 78) (v := 0) hx hb dX3_isCutSound_78 (by decide) ?_
    refine r_zret (pc := 79) E hr hlk hS (by decide) (by decide) rfl ?_ dX3_isCutSound_79
    subst er_1 ex_3 er_4 ex_6 er_7 ex_9; first | with_reducible rfl | (simp [f_csnd, f_csndA, f_csndB, c_10, Int64.not_le.mpr c_10, p_TB, p_TV, p_TC, p_TI, p_BT, p_BV, p_BC, p_BI, p_VT, p_VB, p_VC, p_VI, p_CT, p_CB, p_CV, p_CI, p_IT, p_IB, p_IV, p_IC, p_TT, p_BB, p_CC, p_II]; done)
  · refine lv_lload (pc := 47) hx hb dX3_isCutSound_47 (lv_at hl 1 rfl) ?_
    refine lv_aload_n (pc := 49) hx hb dX3_isCutSound_49 rfl (lv_at hl 3 rfl) ?_
    refine r_getN (pc := 50) "Bestratios" E hC (hW.fr (i := i) hi) 1 (v := .long (tB g i)) rfl rfl (by decide) uX0 kn_55 (fun _ h => h) dX3_isCutSound_50 ?_
    refine r_lcge (pc := 53) (tgt := 78) E dX3_isCutSound_53 dX3_isCutSound_54 (by decide) (fun c_11 => ?_) (fun c_11 => ?_)
    · refine lv_iconst (pc := 78) (v := 0) hx hb dX3_isCutSound_78 (by decide) ?_
      refine r_zret (pc := 79) E hr hlk hS (by decide) (by decide) rfl ?_ dX3_isCutSound_79
      subst er_1 ex_3 er_4 ex_6 er_7 ex_9; first | with_reducible rfl | (simp [f_csnd, f_csndA, f_csndB, c_10, Int64.not_lt.mp c_10, c_11, Int64.not_lt.mpr c_11, p_TB, p_TV, p_TC, p_TI, p_BT, p_BV, p_BC, p_BI, p_VT, p_VB, p_VC, p_VI, p_CT, p_CB, p_CV, p_CI, p_IT, p_IB, p_IV, p_IC, p_TT, p_BB, p_CC, p_II]; done)
    · refine lv_lload (pc := 57) hx hb dX3_isCutSound_57 (lv_at hl 0 rfl) ?_
      refine lv_lconst (pc := 59) (v := 0) hx hb dX3_isCutSound_59 (by decide) ?_
      refine r_lclt (pc := 60) (tgt := 78) E dX3_isCutSound_60 dX3_isCutSound_61 (by decide) (fun c_12 => ?_) (fun c_12 => ?_)
      · refine lv_iconst (pc := 78) (v := 0) hx hb dX3_isCutSound_78 (by decide) ?_
        refine r_zret (pc := 79) E hr hlk hS (by decide) (by decide) rfl ?_ dX3_isCutSound_79
        subst er_1 ex_3 er_4 ex_6 er_7 ex_9; first | with_reducible rfl | (simp [f_csnd, f_csndA, f_csndB, c_10, Int64.not_lt.mp c_10, c_11, Int64.not_le.mp c_11, c_12, Int64.not_le.mpr c_12, p_TB, p_TV, p_TC, p_TI, p_BT, p_BV, p_BC, p_BI, p_VT, p_VB, p_VC, p_VI, p_CT, p_CB, p_CV, p_CI, p_IT, p_IB, p_IV, p_IC, p_TT, p_BB, p_CC, p_II]; done)
      · refine lv_lload (pc := 64) hx hb dX3_isCutSound_64 (lv_at hl 0 rfl) ?_
        refine lv_aload_n (pc := 66) hx hb dX3_isCutSound_66 rfl (lv_at hl 3 rfl) ?_
        refine r_getN (pc := 67) "Bestratios" E hC (hW.fr (i := i) hi) 1 (v := .long (tB g i)) rfl rfl (by decide) uX0 kn_55 (fun _ h => h) dX3_isCutSound_67 ?_
        refine r_lcge (pc := 70) (tgt := 78) E dX3_isCutSound_70 dX3_isCutSound_71 (by decide) (fun c_13 => ?_) (fun c_13 => ?_)
        · refine lv_iconst (pc := 78) (v := 0) hx hb dX3_isCutSound_78 (by decide) ?_
          refine r_zret (pc := 79) E hr hlk hS (by decide) (by decide) rfl ?_ dX3_isCutSound_79
          subst er_1 ex_3 er_4 ex_6 er_7 ex_9; first | with_reducible rfl | (simp [f_csnd, f_csndA, f_csndB, c_10, Int64.not_lt.mp c_10, c_11, Int64.not_le.mp c_11, c_12, Int64.not_lt.mp c_12, c_13, Int64.not_lt.mpr c_13, p_TB, p_TV, p_TC, p_TI, p_BT, p_BV, p_BC, p_BI, p_VT, p_VB, p_VC, p_VI, p_CT, p_CB, p_CV, p_CI, p_IT, p_IB, p_IV, p_IC, p_TT, p_BB, p_CC, p_II]; done)
        · refine lv_iconst (pc := 74) (v := 1) hx hb dX3_isCutSound_74 (by decide) ?_
          refine lv_goto (pc := 75) (tgt := 79) hx hb dX3_isCutSound_75 (by decide) ?_
          refine r_zret (pc := 79) E hr hlk hS (by decide) (by decide) rfl ?_ dX3_isCutSound_79
          subst er_1 ex_3 er_4 ex_6 er_7 ex_9; first | with_reducible rfl | (simp [f_csnd, f_csndA, f_csndB, c_10, Int64.not_lt.mp c_10, c_11, Int64.not_le.mp c_11, c_12, Int64.not_lt.mp c_12, c_13, Int64.not_le.mp c_13, p_TB, p_TV, p_TC, p_TI, p_BT, p_BV, p_BC, p_BI, p_VT, p_VB, p_VC, p_VI, p_CT, p_CB, p_CV, p_CI, p_IT, p_IB, p_IV, p_IC, p_TT, p_BB, p_CC, p_II]; done)
set_option maxHeartbeats 4000000 in
set_option maxRecDepth 100000 in
/-- Bestratios.areNeighboursSound(LBestratios$Fraction;)Z -/
theorem c_X3_areNeighboursSound (l : Launch) (D : va_G) (tk : Nat → ClassId) (N0 : Nat) (sa : Nat → Nat) {ad : Nat → Nat} (hAD : ADok N0 ad) (sz : Nat) (g : CS) (i : Nat) (hi : i < 15) : Met l yX3_areNeighboursSound (wsy yX3_areNeighboursSound cX3_areNeighboursSound 6 (some .boolean)) ({ frames := 4, cells := 0, slots := 0, locals := 109 } : Room) (cP D tk N0 sa [.ref (ad 15), .ref (ad i)] sz (fun H => CW D tk ad g H)) (kQi (fun r H => r = (f_nsnd g i).1 ∧ CW D tk ad ((f_nsnd g i).2) H) (cwA ad sz)) (0) (0) (cwA ad sz) := by
  refine mStart RX3 rfl (by decide +kernel) (Nat.le_of_ble_eq_true rfl) ?_
  intro p e s m args below meth c E hr hlk hnm hsz hC hF ls hl
  subst hsz
  obtain ⟨hx, hb, -⟩ := id E
  have hA : ∀ q, (cwA ad s.heap.size) q → N0 ≤ q := cwA.ge hAD hC.2.1
  have hn : ∀ q, s.heap.size ≤ q → (cwA ad s.heap.size) q := fun q h => Or.inr h
  have hS : va_S (cwA ad s.heap.size) s.heap s.heap [] := va_S.rf
  have hl : lv_has ls 6 [(0, .ref (ad 15)), (1, .ref (ad i))] := hl
  obtain ⟨Q, hQ⟩ : ∃ Q, Q = MQ below (kQi (fun r H => r = (f_nsnd g i).1 ∧ CW D tk ad ((f_nsnd g i).2) H) (cwA ad s.heap.size)) args s (0) (0) (cwA ad s.heap.size) := ⟨_, rfl⟩
  rw [← hQ]
  have hW : CW D tk ad g s.heap := hF
  refine lv_iconst (pc := 0) (v := 1) hx hb dX3_areNeighboursSound_0 (by decide) ?_
  refine lv_istore_n (pc := 1) (lv' := [(2, .int 1), (0, .ref (ad 15)), (1, .ref (ad i))]) hx hb dX3_areNeighboursSound_1 rfl hl (by decide) rfl (fun ls hl => ?_)
  have loop_2 : ∀ (n : Nat) (k : Nat)(g1 : CS) (y9 : Int32), 13 - k < n → 1 ≤ k ∧ k ≤ 13 → y9 = nI k → nsL i (13 - k) k g1 = f_nsnd g i → ∀ (H : Heap) (locs : List Loc) (ls : Array Slot), va_S (cwA ad s.heap.size) s.heap H locs → CW D tk ad g1 H → lv_has ls 6 [(0, .ref (ad 15)), (1, .ref (ad i)), (2, .int y9)] → W p l e ({ frames := 4, cells := 0, slots := 0, locals := 109 } : Room) s m args below meth c H locs (0) (0) Q (F0 m 2 ls []) := by
    intro n
    induction n with
    | zero =>
      intro k g1 y9 hf9 hk9 hx9 hg9 H locs ls hS hW hl
      omega
    | succ n ih_2 =>
      intro k g1 y9 hf9 hk9 hx9 hg9 H locs ls hS hW hl
      refine lv_iload_n (pc := 2) hx hb dX3_areNeighboursSound_2 rfl (lv_at hl 2 rfl) ?_
      refine lv_bipush (pc := 3) (v := 12) hx hb dX3_areNeighboursSound_3 (by decide) ?_
      refine lv_icmp_gt (pc := 5) (tgt := 149) hx hb dX3_areNeighboursSound_5 (by decide) (fun c_1 => ?_) (fun c_1 => ?_)
      · refine lv_iconst (pc := 149) (v := 1) hx hb dX3_areNeighboursSound_149 (by decide) ?_
        try rw [hQ]
        refine r_zret (pc := 150) E hr hlk hS (by decide) (by decide) rfl ?_ dX3_areNeighboursSound_150
        have e0 : 13 - k = 0 := by have z := lt12 hx9 hk9.2 c_1; omega
        rw [e0] at hg9
        exact ⟨(by rw [← hg9]; rfl), hW.to (by rw [← hg9]; rfl)⟩
      · have hlt9 : k ≤ 12 := le12 hx9 hk9.2 c_1
        have hw9 : 13 - k = (13 - (k + 1)) + 1 := by omega
        rw [hw9] at hg9
        refine lv_aload_n (pc := 8) hx hb dX3_areNeighboursSound_8 rfl (lv_at hl 0 rfl) ?_
        refine r_get (pc := 9) E hC hW.obj 6 (v := .ref (ad 7)) rfl rfl (by decide) uX3 (List.mem_cons_of_mem _ kw_120) (fun _ h => h) dX3_areNeighboursSound_9 ?_
        refine lv_aload_n (pc := 12) hx hb dX3_areNeighboursSound_12 rfl (lv_at hl 1 rfl) ?_
        refine lv_iload_n (pc := 13) hx hb dX3_areNeighboursSound_13 rfl (lv_at hl 2 rfl) ?_
        refine lv_iconst (pc := 14) (v := 1) hx hb dX3_areNeighboursSound_14 (by decide) ?_
        refine k_v (pc := 15) (k_V E hC hS hA hl.1 (c1.recv hC (hW.fr (i := 7) (by decide)) rfl) rfl (c_X0_becomeNeighbour l D tk N0 sa hAD H.size g1 7 (by decide) i hi y9 1 ) kw_588 kw_589 kw_590 kw_2 kw_591 (n := 3) (by decide +kernel) rfl ⟨⟨rfl, rfl⟩, ⟨by decide, by decide⟩, by decide, by decide⟩ rfl (Nat.le_of_ble_eq_true rfl) hW dX3_areNeighboursSound_15) hS (fun q _ w => cwA.go hS.1 q w) hn (fun H locs hR hz hk hS => ?_)
        have hW := hR
        obtain ⟨g_4, eg_4⟩ : ∃ z, z = f_nb g1 7 i y9 1 := ⟨_, rfl⟩
        rw [← eg_4] at hW
        refine lv_aload_n (pc := 18) hx hb dX3_areNeighboursSound_18 rfl (lv_at hl 0 rfl) ?_
        refine r_get (pc := 19) E hC hW.obj 7 (v := .ref (ad 8)) rfl rfl (by decide) uX3 (List.mem_cons_of_mem _ kw_121) (fun _ h => h) dX3_areNeighboursSound_19 ?_
        refine lv_aload_n (pc := 22) hx hb dX3_areNeighboursSound_22 rfl (lv_at hl 1 rfl) ?_
        refine lv_iload_n (pc := 23) hx hb dX3_areNeighboursSound_23 rfl (lv_at hl 2 rfl) ?_
        refine lv_iconst (pc := 24) (v := (-1)) hx hb dX3_areNeighboursSound_24 (by decide) ?_
        refine k_v (pc := 25) (k_V E hC hS hA hl.1 (c1.recv hC (hW.fr (i := 8) (by decide)) rfl) rfl (c_X0_becomeNeighbour l D tk N0 sa hAD H.size g_4 8 (by decide) i hi y9 ((-1)) ) kw_588 kw_589 kw_590 kw_2 kw_591 (n := 3) (by decide +kernel) rfl ⟨⟨rfl, rfl⟩, ⟨by decide, by decide⟩, by decide, by decide⟩ rfl (Nat.le_of_ble_eq_true rfl) hW dX3_areNeighboursSound_25) hS (fun q _ w => cwA.go hS.1 q w) hn (fun H locs hR hz hk hS => ?_)
        have hW := hR
        obtain ⟨g_7, eg_7⟩ : ∃ z, z = f_nb g_4 8 i y9 ((-1)) := ⟨_, rfl⟩
        rw [← eg_7] at hW
        have hgg9 : g_7 = f_nsG g1 i k := by rw [eg_7, eg_4, hx9]; rfl
        have join_56_7 : ∀ (x3 : Int32), x3 = f_ns1 g_7 i → ∀ (H : Heap) (locs : List Loc) (ls : Array Slot), va_S (cwA ad s.heap.size) s.heap H locs → CW D tk ad g_7 H → lv_has ls 6 [(0, .ref (ad 15)), (1, .ref (ad i)), (2, .int y9), (3, .int x3)] → W p l e ({ frames := 4, cells := 0, slots := 0, locals := 109 } : Room) s m args below meth c H locs (0 + 0 + 0) (0 + 0 + 0) Q (F0 m 56 ls []) := by
          intro x3 hj1 H locs ls hS hW hl
          have join_85_8 : ∀ (x4 : Int32), x4 = f_ns2 g_7 i → ∀ (H : Heap) (locs : List Loc) (ls : Array Slot), va_S (cwA ad s.heap.size) s.heap H locs → CW D tk ad g_7 H → lv_has ls 6 [(0, .ref (ad 15)), (1, .ref (ad i)), (2, .int y9), (3, .int x3), (4, .int x4)] → W p l e ({ frames := 4, cells := 0, slots := 0, locals := 109 } : Room) s m args below meth c H locs (0 + 0 + 0) (0 + 0 + 0) Q (F0 m 85 ls []) := by
            intro x4 hj2 H locs ls hS hW hl
            have join_127_9 : ∀ (x5 : Int32), x5 = f_ns3 g_7 y9 → ∀ (H : Heap) (locs : List Loc) (ls : Array Slot), va_S (cwA ad s.heap.size) s.heap H locs → CW D tk ad g_7 H → lv_has ls 6 [(0, .ref (ad 15)), (1, .ref (ad i)), (2, .int y9), (3, .int x3), (4, .int x4), (5, .int x5)] → W p l e ({ frames := 4, cells := 0, slots := 0, locals := 109 } : Room) s m args below meth c H locs (0 + 0 + 0) (0 + 0 + 0) Q (F0 m 127 ls []) := by
              intro x5 hj3 H locs ls hS hW hl
              refine lv_iload_n (pc := 127) hx hb dX3_areNeighboursSound_127 rfl (lv_at hl 3 rfl) ?_
              refine lv_if_eq (pc := 128) (tgt := 141) hx hb dX3_areNeighboursSound_128 (by decide) (fun c_11 => ?_) (fun c_11 => ?_)
              · refine lv_iconst (pc := 141) (v := 0) hx hb dX3_areNeighboursSound_141 (by decide) ?_
                try rw [hQ]
                refine r_zret (pc := 142) E hr hlk hS (by decide) (by decide) rfl ?_ dX3_areNeighboursSound_142
                have hno := (ns_okF hx9 hj1 hj2 hj3 (Or.inl c_11))
                exact ⟨(by rw [← hg9, nsL, ← hgg9, if_neg hno]), hW.to (by rw [← hg9, nsL, ← hgg9, if_neg hno])⟩
              · refine lv_iload (pc := 131) hx hb dX3_areNeighboursSound_131 (lv_at hl 4 rfl) ?_
                refine lv_if_ne (pc := 133) (tgt := 143) hx hb dX3_areNeighboursSound_133 (by decide) (fun c_12 => ?_) (fun c_12 => ?_)
                · obtain ⟨x_13, ex_13⟩ : ∃ z9 : Int32, z9 = y9 + 1 := ⟨_, rfl⟩
                  refine lv_iinc (pc := 143) (v := x_13) (lv' := [(2, .int x_13), (0, .ref (ad 15)), (1, .ref (ad i)), (3, .int x3), (4, .int x4), (5, .int x5)]) hx hb dX3_areNeighboursSound_143 hl (k := 2) rfl (by rw [ex_13]; rfl) (by decide) rfl (fun ls hl => ?_)
                  refine lv_goto (pc := 146) (tgt := 2) hx hb dX3_areNeighboursSound_146 (by decide) ?_
                  exact ih_2  (k + 1) g_7  x_13 (by omega) (by omega) (i_up hx9 ex_13) (by rw [← hg9, nsL, ← hgg9, if_pos (ns_okT hx9 hj1 hj2 hj3 c_11 (Or.inl c_12))]) _ _ _ hS hW (lv_sub hl [1, 2, 0] rfl)
                · refine lv_iload (pc := 136) hx hb dX3_areNeighboursSound_136 (lv_at hl 5 rfl) ?_
                  refine lv_if_ne (pc := 138) (tgt := 143) hx hb dX3_areNeighboursSound_138 (by decide) (fun c_14 => ?_) (fun c_14 => ?_)
                  · obtain ⟨x_15, ex_15⟩ : ∃ z9 : Int32, z9 = y9 + 1 := ⟨_, rfl⟩
                    refine lv_iinc (pc := 143) (v := x_15) (lv' := [(2, .int x_15), (0, .ref (ad 15)), (1, .ref (ad i)), (3, .int x3), (4, .int x4), (5, .int x5)]) hx hb dX3_areNeighboursSound_143 hl (k := 2) rfl (by rw [ex_15]; rfl) (by decide) rfl (fun ls hl => ?_)
                    refine lv_goto (pc := 146) (tgt := 2) hx hb dX3_areNeighboursSound_146 (by decide) ?_
                    exact ih_2  (k + 1) g_7  x_15 (by omega) (by omega) (i_up hx9 ex_15) (by rw [← hg9, nsL, ← hgg9, if_pos (ns_okT hx9 hj1 hj2 hj3 c_11 (Or.inr c_14))]) _ _ _ hS hW (lv_sub hl [1, 2, 0] rfl)
                  · refine lv_iconst (pc := 141) (v := 0) hx hb dX3_areNeighboursSound_141 (by decide) ?_
                    try rw [hQ]
                    refine r_zret (pc := 142) E hr hlk hS (by decide) (by decide) rfl ?_ dX3_areNeighboursSound_142
                    have hno := (ns_okF hx9 hj1 hj2 hj3 (Or.inr ⟨c_12, c_14⟩))
                    exact ⟨(by rw [← hg9, nsL, ← hgg9, if_neg hno]), hW.to (by rw [← hg9, nsL, ← hgg9, if_neg hno])⟩
            refine lv_aload_n (pc := 85) hx hb dX3_areNeighboursSound_85 rfl (lv_at hl 0 rfl) ?_
            refine r_get (pc := 86) E hC hW.obj 6 (v := .ref (ad 7)) rfl rfl (by decide) uX3 (List.mem_cons_of_mem _ kw_120) (fun _ h => h) dX3_areNeighboursSound_86 ?_
            refine lv_aload_n (pc := 89) hx hb dX3_areNeighboursSound_89 rfl (lv_at hl 0 rfl) ?_
            refine r_get (pc := 90) E hC hW.obj 7 (v := .ref (ad 8)) rfl rfl (by decide) uX3 (List.mem_cons_of_mem _ kw_121) (fun _ h => h) dX3_areNeighboursSound_90 ?_
            refine k_i (pc := 93) (k_V E hC hS hA hl.1 (c1.recv hC (hW.fr (i := 7) (by decide)) rfl) rfl (c_X0_isNextTo l D tk N0 sa hAD H.size g_7 7 (by decide) 8 (by decide) ) kw_601 kw_602 kw_603 kw_2 kw_604 (n := 1) (by decide +kernel) rfl ⟨⟨rfl, rfl⟩, ⟨by decide, by decide⟩, by decide, by decide⟩ rfl (Nat.le_of_ble_eq_true rfl) hW dX3_areNeighboursSound_93) hS (fun q z w => absurd w (Nat.not_le.mpr z)) hn (fun r_16 H locs hR hz hk hS => ?_)
            have er_16 := hR
            have hW := hW.new hk
            refine lv_if_eq (pc := 96) (tgt := 124) hx hb dX3_areNeighboursSound_96 (by decide) (fun c_18 => ?_) (fun c_18 => ?_)
            · refine lv_iconst (pc := 124) (v := 0) hx hb dX3_areNeighboursSound_124 (by decide) ?_
              refine lv_istore (pc := 125) (lv' := [(5, .int 0), (0, .ref (ad 15)), (1, .ref (ad i)), (2, .int y9), (3, .int x3), (4, .int x4)]) hx hb dX3_areNeighboursSound_125 hl (by decide) rfl (fun ls hl => ?_)
              exact join_127_9 0 (by subst er_16; simp [f_ns3, f_nextF, c_1, Int32.not_lt.mp c_1, c_18]) _ _ _ hS hW (lv_sub hl [1, 2, 3, 4, 5, 0] rfl)
            · refine lv_aload_n (pc := 99) hx hb dX3_areNeighboursSound_99 rfl (lv_at hl 0 rfl) ?_
              refine r_get (pc := 100) E hC hW.obj 6 (v := .ref (ad 7)) rfl rfl (by decide) uX3 (List.mem_cons_of_mem _ kw_120) (fun _ h => h) dX3_areNeighboursSound_100 ?_
              refine r_getN (pc := 103) "Bestratios" E hC (hW.fr (i := 7) (by decide)) 1 (v := .long (tB g_7 7)) rfl rfl (by decide) uX0 kn_55 (fun _ h => h) dX3_areNeighboursSound_103 ?_
              refine lv_aload_n (pc := 106) hx hb dX3_areNeighboursSound_106 rfl (lv_at hl 0 rfl) ?_
              refine r_get (pc := 107) E hC hW.obj 7 (v := .ref (ad 8)) rfl rfl (by decide) uX3 (List.mem_cons_of_mem _ kw_121) (fun _ h => h) dX3_areNeighboursSound_107 ?_
              refine r_getN (pc := 110) "Bestratios" E hC (hW.fr (i := 8) (by decide)) 1 (v := .long (tB g_7 8)) rfl rfl (by decide) uX0 kn_55 (fun _ h => h) dX3_areNeighboursSound_110 ?_
              refine lv_ladd (pc := 113) hx hb dX3_areNeighboursSound_113 ?_
              refine lv_iload_n (pc := 114) hx hb dX3_areNeighboursSound_114 rfl (lv_at hl 2 rfl) ?_
              refine lv_i2l (pc := 115) (v := y9.toInt64) hx hb dX3_areNeighboursSound_115 rfl ?_
              refine r_lcle (pc := 116) (tgt := 124) E dX3_areNeighboursSound_116 dX3_areNeighboursSound_117 (by decide) (fun c_19 => ?_) (fun c_19 => ?_)
              · refine lv_iconst (pc := 124) (v := 0) hx hb dX3_areNeighboursSound_124 (by decide) ?_
                refine lv_istore (pc := 125) (lv' := [(5, .int 0), (0, .ref (ad 15)), (1, .ref (ad i)), (2, .int y9), (3, .int x3), (4, .int x4)]) hx hb dX3_areNeighboursSound_125 hl (by decide) rfl (fun ls hl => ?_)
                exact join_127_9 0 (by subst er_16; simp [f_ns3, f_nextF, c_1, Int32.not_lt.mp c_1, c_18, c_19, Int64.not_lt.mpr c_19]) _ _ _ hS hW (lv_sub hl [1, 2, 3, 4, 5, 0] rfl)
              · refine lv_iconst (pc := 120) (v := 1) hx hb dX3_areNeighboursSound_120 (by decide) ?_
                refine lv_goto (pc := 121) (tgt := 125) hx hb dX3_areNeighboursSound_121 (by decide) ?_
                refine lv_istore (pc := 125) (lv' := [(5, .int 1), (0, .ref (ad 15)), (1, .ref (ad i)), (2, .int y9), (3, .int x3), (4, .int x4)]) hx hb dX3_areNeighboursSound_125 hl (by decide) rfl (fun ls hl => ?_)
                exact join_127_9 1 (by subst er_16; simp [f_ns3, f_nextF, c_1, Int32.not_lt.mp c_1, c_18, c_19, Int64.not_le.mp c_19]) _ _ _ hS hW (lv_sub hl [1, 2, 3, 4, 5, 0] rfl)
          refine lv_aload_n (pc := 56) hx hb dX3_areNeighboursSound_56 rfl (lv_at hl 0 rfl) ?_
          refine r_get (pc := 57) E hC hW.obj 6 (v := .ref (ad 7)) rfl rfl (by decide) uX3 (List.mem_cons_of_mem _ kw_120) (fun _ h => h) dX3_areNeighboursSound_57 ?_
          refine lv_aload_n (pc := 60) hx hb dX3_areNeighboursSound_60 rfl (lv_at hl 1 rfl) ?_
          refine k_i (pc := 61) (k_V E hC hS hA hl.1 (c1.recv hC (hW.fr (i := 7) (by decide)) rfl) rfl (c_X0_isSameAs l D tk N0 sa hAD H.size g_7 7 (by decide) i hi ) kw_580 kw_581 kw_582 kw_2 kw_583 (n := 1) (by decide +kernel) rfl ⟨⟨rfl, rfl⟩, ⟨by decide, by decide⟩, by decide, by decide⟩ rfl (Nat.le_of_ble_eq_true rfl) hW dX3_areNeighboursSound_61) hS (fun q z w => absurd w (Nat.not_le.mpr z)) hn (fun r_20 H locs hR hz hk hS => ?_)
          have er_20 := hR
          have hW := hW.new hk
          refine lv_if_eq (pc := 64) (tgt := 82) hx hb dX3_areNeighboursSound_64 (by decide) (fun c_22 => ?_) (fun c_22 => ?_)
          · refine lv_iconst (pc := 82) (v := 0) hx hb dX3_areNeighboursSound_82 (by decide) ?_
            refine lv_istore (pc := 83) (lv' := [(4, .int 0), (0, .ref (ad 15)), (1, .ref (ad i)), (2, .int y9), (3, .int x3)]) hx hb dX3_areNeighboursSound_83 hl (by decide) rfl (fun ls hl => ?_)
            exact join_85_8 0 (by subst er_20; simp [f_ns2, f_sameF, c_1, Int32.not_lt.mp c_1, c_22]) _ _ _ hS hW (lv_sub hl [1, 2, 3, 4, 0] rfl)
          · refine lv_aload_n (pc := 67) hx hb dX3_areNeighboursSound_67 rfl (lv_at hl 0 rfl) ?_
            refine r_get (pc := 68) E hC hW.obj 7 (v := .ref (ad 8)) rfl rfl (by decide) uX3 (List.mem_cons_of_mem _ kw_121) (fun _ h => h) dX3_areNeighboursSound_68 ?_
            refine lv_aload_n (pc := 71) hx hb dX3_areNeighboursSound_71 rfl (lv_at hl 1 rfl) ?_
            refine k_i (pc := 72) (k_V E hC hS hA hl.1 (c1.recv hC (hW.fr (i := 8) (by decide)) rfl) rfl (c_X0_isSameAs l D tk N0 sa hAD H.size g_7 8 (by decide) i hi ) kw_580 kw_581 kw_582 kw_2 kw_583 (n := 1) (by decide +kernel) rfl ⟨⟨rfl, rfl⟩, ⟨by decide, by decide⟩, by decide, by decide⟩ rfl (Nat.le_of_ble_eq_true rfl) hW dX3_areNeighboursSound_72) hS (fun q z w => absurd w (Nat.not_le.mpr z)) hn (fun r_23 H locs hR hz hk hS => ?_)
            have er_23 := hR
            have hW := hW.new hk
            refine lv_if_eq (pc := 75) (tgt := 82) hx hb dX3_areNeighboursSound_75 (by decide) (fun c_25 => ?_) (fun c_25 => ?_)
            · refine lv_iconst (pc := 82) (v := 0) hx hb dX3_areNeighboursSound_82 (by decide) ?_
              refine lv_istore (pc := 83) (lv' := [(4, .int 0), (0, .ref (ad 15)), (1, .ref (ad i)), (2, .int y9), (3, .int x3)]) hx hb dX3_areNeighboursSound_83 hl (by decide) rfl (fun ls hl => ?_)
              exact join_85_8 0 (by subst er_20 er_23; simp [f_ns2, f_sameF, c_1, Int32.not_lt.mp c_1, c_22, c_25]) _ _ _ hS hW (lv_sub hl [1, 2, 3, 4, 0] rfl)
            · refine lv_iconst (pc := 78) (v := 1) hx hb dX3_areNeighboursSound_78 (by decide) ?_
              refine lv_goto (pc := 79) (tgt := 83) hx hb dX3_areNeighboursSound_79 (by decide) ?_
              refine lv_istore (pc := 83) (lv' := [(4, .int 1), (0, .ref (ad 15)), (1, .ref (ad i)), (2, .int y9), (3, .int x3)]) hx hb dX3_areNeighboursSound_83 hl (by decide) rfl (fun ls hl => ?_)
              exact join_85_8 1 (by subst er_20 er_23; simp [f_ns2, f_sameF, c_1, Int32.not_lt.mp c_1, c_22, c_25]) _ _ _ hS hW (lv_sub hl [1, 2, 3, 4, 0] rfl)
        refine lv_aload_n (pc := 28) hx hb dX3_areNeighboursSound_28 rfl (lv_at hl 0 rfl) ?_
        refine r_get (pc := 29) E hC hW.obj 6 (v := .ref (ad 7)) rfl rfl (by decide) uX3 (List.mem_cons_of_mem _ kw_120) (fun _ h => h) dX3_areNeighboursSound_29 ?_
        refine lv_aload_n (pc := 32) hx hb dX3_areNeighboursSound_32 rfl (lv_at hl 1 rfl) ?_
        refine k_i (pc := 33) (k_V E hC hS hA hl.1 (c1.recv hC (hW.fr (i := 7) (by decide)) rfl) rfl (c_X0_compareWith l D tk N0 sa hAD H.size g_7 7 (by decide) i hi ) kw_594 kw_595 kw_596 kw_2 kw_597 (n := 1) (by decide +kernel) rfl ⟨⟨rfl, rfl⟩, ⟨by decide, by decide⟩, by decide, by decide⟩ rfl (Nat.le_of_ble_eq_true rfl) hW dX3_areNeighboursSound_33) hS (fun q z w => absurd w (Nat.not_le.mpr z)) hn (fun r_26 H locs hR hz hk hS => ?_)
        have er_26 := hR
        have hW := hW.new hk
        refine lv_if_gt (pc := 36) (tgt := 54) hx hb dX3_areNeighboursSound_36 (by decide) (fun c_28 => ?_) (fun c_28 => ?_)
        · refine lv_iconst (pc := 54) (v := 0) hx hb dX3_areNeighboursSound_54 (by decide) ?_
          refine lv_istore_n (pc := 55) (lv' := [(3, .int 0), (0, .ref (ad 15)), (1, .ref (ad i)), (2, .int y9)]) hx hb dX3_areNeighboursSound_55 rfl hl (by decide) rfl (fun ls hl => ?_)
          exact join_56_7 0 (by subst er_26; simp [f_ns1, f_cmpF, c_1, Int32.not_lt.mp c_1, c_28, Int32.not_le.mpr c_28]) _ _ _ hS hW (lv_sub hl [1, 2, 3, 0] rfl)
        · refine lv_aload_n (pc := 39) hx hb dX3_areNeighboursSound_39 rfl (lv_at hl 0 rfl) ?_
          refine r_get (pc := 40) E hC hW.obj 7 (v := .ref (ad 8)) rfl rfl (by decide) uX3 (List.mem_cons_of_mem _ kw_121) (fun _ h => h) dX3_areNeighboursSound_40 ?_
          refine lv_aload_n (pc := 43) hx hb dX3_areNeighboursSound_43 rfl (lv_at hl 1 rfl) ?_
          refine k_i (pc := 44) (k_V E hC hS hA hl.1 (c1.recv hC (hW.fr (i := 8) (by decide)) rfl) rfl (c_X0_compareWith l D tk N0 sa hAD H.size g_7 8 (by decide) i hi ) kw_594 kw_595 kw_596 kw_2 kw_597 (n := 1) (by decide +kernel) rfl ⟨⟨rfl, rfl⟩, ⟨by decide, by decide⟩, by decide, by decide⟩ rfl (Nat.le_of_ble_eq_true rfl) hW dX3_areNeighboursSound_44) hS (fun q z w => absurd w (Nat.not_le.mpr z)) hn (fun r_29 H locs hR hz hk hS => ?_)
          have er_29 := hR
          have hW := hW.new hk
          refine lv_if_lt (pc := 47) (tgt := 54) hx hb dX3_areNeighboursSound_47 (by decide) (fun c_31 => ?_) (fun c_31 => ?_)
          · refine lv_iconst (pc := 54) (v := 0) hx hb dX3_areNeighboursSound_54 (by decide) ?_
            refine lv_istore_n (pc := 55) (lv' := [(3, .int 0), (0, .ref (ad 15)), (1, .ref (ad i)), (2, .int y9)]) hx hb dX3_areNeighboursSound_55 rfl hl (by decide) rfl (fun ls hl => ?_)
            exact join_56_7 0 (by subst er_26 er_29; simp [f_ns1, f_cmpF, c_1, Int32.not_lt.mp c_1, c_28, Int32.not_lt.mp c_28, c_31, Int32.not_le.mpr c_31]) _ _ _ hS hW (lv_sub hl [1, 2, 3, 0] rfl)
          · refine lv_iconst (pc := 50) (v := 1) hx hb dX3_areNeighboursSound_50 (by decide) ?_
            refine lv_goto (pc := 51) (tgt := 55) hx hb dX3_areNeighboursSound_51 (by decide) ?_
            refine lv_istore_n (pc := 55) (lv' := [(3, .int 1), (0, .ref (ad 15)), (1, .ref (ad i)), (2, .int y9)]) hx hb dX3_areNeighboursSound_55 rfl hl (by decide) rfl (fun ls hl => ?_)
            exact join_56_7 1 (by subst er_26 er_29; simp [f_ns1, f_cmpF, c_1, Int32.not_lt.mp c_1, c_28, Int32.not_lt.mp c_28, c_31, Int32.not_lt.mp c_31]) _ _ _ hS hW (lv_sub hl [1, 2, 3, 0] rfl)
  exact loop_2 13 1 g  1 (by omega) (by omega) rfl rfl _ _ _ hS hW (lv_sub hl [1, 2, 0] rfl)
set_option maxHeartbeats 4000000 in
set_option maxRecDepth 100000 in
/-- Bestratios.isTreeSound(LBestratios$Fraction;)Z -/
theorem c_X3_isTreeSound (l : Launch) (D : va_G) (tk : Nat → ClassId) (N0 : Nat) (sa : Nat → Nat) {ad : Nat → Nat} (hAD : ADok N0 ad) (sz : Nat) (g : CS) (i : Nat) (hi : i < 15) : Met l yX3_isTreeSound (wsy yX3_isTreeSound cX3_isTreeSound 3 (some .boolean)) ({ frames := 5, cells := 0, slots := 0, locals := 127 } : Room) (cP D tk N0 sa [.ref (ad 15), .ref (ad i)] sz (fun H => CW D tk ad g H)) (kQi (fun r H => r = (f_tree g i).1 ∧ CW D tk ad ((f_tree g i).2) H) (cwA ad sz)) (0) (0) (cwA ad sz) := by
  refine mStart RX3 rfl (by decide +kernel) (Nat.le_of_ble_eq_true rfl) ?_
  intro p e s m args below meth c E hr hlk hnm hsz hC hF ls hl
  subst hsz
  obtain ⟨hx, hb, -⟩ := id E
  have hA : ∀ q, (cwA ad s.heap.size) q → N0 ≤ q := cwA.ge hAD hC.2.1
  have hn : ∀ q, s.heap.size ≤ q → (cwA ad s.heap.size) q := fun q h => Or.inr h
  have hS : va_S (cwA ad s.heap.size) s.heap s.heap [] := va_S.rf
  have hl : lv_has ls 3 [(0, .ref (ad 15)), (1, .ref (ad i))] := hl
  have hW : CW D tk ad g s.heap := hF
  refine lv_aload_n (pc := 0) hx hb dX3_isTreeSound_0 rfl (lv_at hl 1 rfl) ?_
  refine k_i (pc := 1) (k_V E hC hS hA hl.1 (c1.recv hC (hW.fr (i := i) hi) rfl) rfl (c_X0_sign l D tk N0 sa hAD s.heap.size g i hi ) kw_613 kw_614 kw_615 kw_2 kw_616 (n := 0) (by decide +kernel) rfl ⟨⟨rfl, rfl⟩, ⟨by decide, by decide⟩, by decide, by decide⟩ rfl (Nat.le_of_ble_eq_true rfl) hW dX3_isTreeSound_1) hS (fun q z w => absurd w (Nat.not_le.mpr z)) hn (fun r_1 H locs hR hz hk hS => ?_)
  have er_1 := hR
  have hW := hW.new hk
  refine lv_if_gt (pc := 4) (tgt := 9) hx hb dX3_isTreeSound_4 (by decide) (fun c_3 => ?_) (fun c_3 => ?_)
  · refine lv_iconst (pc := 9) (v := 0) hx hb dX3_isTreeSound_9 (by decide) ?_
    refine lv_istore_n (pc := 10) (lv' := [(2, .int 0), (0, .ref (ad 15)), (1, .ref (ad i))]) hx hb dX3_isTreeSound_10 rfl hl (by decide) rfl (fun ls hl => ?_)
    refine lv_iload_n (pc := 11) hx hb dX3_isTreeSound_11 rfl (lv_at hl 0 rfl) ?_
    refine lv_iconst (pc := 12) (v := 1) hx hb dX3_isTreeSound_12 (by decide) ?_
    refine lv_icmp_gt (pc := 13) (tgt := 77) hx hb dX3_isTreeSound_13 (by decide) (fun c_4 => ?_) (fun c_4 => ?_)
    · exact absurd c_4 (by decide)
    refine lv_aload_n (pc := 16) hx hb dX3_isTreeSound_16 rfl (lv_at hl 1 rfl) ?_
    refine lv_aload_n (pc := 17) hx hb dX3_isTreeSound_17 rfl (lv_at hl 2 rfl) ?_
    refine lv_iload_n (pc := 18) hx hb dX3_isTreeSound_18 rfl (lv_at hl 0 rfl) ?_
    refine lv_iconst (pc := 19) (v := 1) hx hb dX3_isTreeSound_19 (by decide) ?_
    refine lv_icmp_ne (pc := 20) (tgt := 27) hx hb dX3_isTreeSound_20 (by decide) (fun c_5 => ?_) (fun c_5 => ?_)
    rotate_left
    · exact absurd c_5 (by decide)
    refine lv_iconst (pc := 27) (v := 0) hx hb dX3_isTreeSound_27 (by decide) ?_
    refine k_i (pc := 28) (k_V E hC hS hA hl.1 (c1.recv hC hW.obj rfl) rfl (c_X3_stepDown l D tk N0 sa hAD H.size g i hi 0 ) kw_617 kw_619 kp_5 kw_1 kw_620 (n := 2) (by decide +kernel) rfl ⟨⟨rfl, rfl⟩, ⟨by decide, by decide⟩, by decide, by decide⟩ rfl (Nat.le_of_ble_eq_true rfl) hW dX3_isTreeSound_28) hS (fun q _ w => cwA.go hS.1 q w) hn (fun r_6 H locs hR hz hk hS => ?_)
    obtain ⟨er_6, hW⟩ := hR
    obtain ⟨g_8, eg_8⟩ : ∃ z, z = f_stDW g i 0 := ⟨_, rfl⟩
    rw [← eg_8] at hW
    refine lv_if_ne (pc := 31) (tgt := 36) hx hb dX3_isTreeSound_31 (by decide) (fun c_9 => ?_) (fun c_9 => ?_)
    · refine lv_aload_n (pc := 36) hx hb dX3_isTreeSound_36 rfl (lv_at hl 1 rfl) ?_
      refine r_get (pc := 37) E hC hW.obj 6 (v := .ref (ad 7)) rfl rfl (by decide) uX3 (List.mem_cons_of_mem _ kw_120) (fun _ h => h) dX3_isTreeSound_37 ?_
      refine lv_aload_n (pc := 40) hx hb dX3_isTreeSound_40 rfl (lv_at hl 1 rfl) ?_
      refine r_get (pc := 41) E hC hW.obj 5 (v := .ref (ad 6)) rfl rfl (by decide) uX3 (List.mem_cons_of_mem _ kw_119) (fun _ h => h) dX3_isTreeSound_41 ?_
      refine k_v (pc := 44) (k_V E hC hS hA hl.1 (c1.recv hC (hW.fr (i := 7) (by decide)) rfl) rfl (c_X0_assign l D tk N0 sa hAD H.size g_8 7 (by decide) 6 (by decide) ) kw_627 kw_628 kw_629 kw_2 kw_630 (n := 1) (by decide +kernel) rfl ⟨⟨rfl, rfl⟩, ⟨by decide, by decide⟩, by decide, by decide⟩ rfl (Nat.le_of_ble_eq_true rfl) hW dX3_isTreeSound_44) hS (fun q _ w => cwA.go hS.1 q w) hn (fun H locs hR hz hk hS => ?_)
      have hW := hR
      obtain ⟨g_12, eg_12⟩ : ∃ z, z = f_assign g_8 7 6 := ⟨_, rfl⟩
      rw [← eg_12] at hW
      refine lv_aload_n (pc := 47) hx hb dX3_isTreeSound_47 rfl (lv_at hl 1 rfl) ?_
      refine lv_aload_n (pc := 48) hx hb dX3_isTreeSound_48 rfl (lv_at hl 1 rfl) ?_
      refine r_get (pc := 49) E hC hW.obj 6 (v := .ref (ad 7)) rfl rfl (by decide) uX3 (List.mem_cons_of_mem _ kw_120) (fun _ h => h) dX3_isTreeSound_49 ?_
      refine k_i (pc := 52) (k_V E hC hS hA hl.1 (c1.recv hC hW.obj rfl) rfl (c_X3_stepUp l D tk N0 sa hAD H.size g_12 7 (by decide) ) kw_631 kw_633 kp_6 kw_1 kw_634 (n := 1) (by decide +kernel) rfl ⟨⟨rfl, rfl⟩, ⟨by decide, by decide⟩, by decide, by decide⟩ rfl (Nat.le_of_ble_eq_true rfl) hW dX3_isTreeSound_52) hS (fun q _ w => cwA.go hS.1 q w) hn (fun r_13 H locs hR hz hk hS => ?_)
      obtain ⟨er_13, hW⟩ := hR
      obtain ⟨g_15, eg_15⟩ : ∃ z, z = f_stUW g_12 7 := ⟨_, rfl⟩
      rw [← eg_15] at hW
      refine lv_if_eq (pc := 55) (tgt := 69) hx hb dX3_isTreeSound_55 (by decide) (fun c_16 => ?_) (fun c_16 => ?_)
      · refine lv_iconst (pc := 69) (v := 0) hx hb dX3_isTreeSound_69 (by decide) ?_
        refine r_zret (pc := 70) E hr hlk hS (by decide) (by decide) rfl ?_ dX3_isTreeSound_70
        have ht0 : f_ts1 g i 0 = (0, g_15) := by rw [f_ts1, ← er_6, if_neg c_9, ← eg_8, ← eg_12, ← er_13, if_pos c_16, ← eg_15]
        have ht : f_tree g i = (0, g_15) := by rw [f_tree, ← er_1, if_pos c_3, ht0, if_pos rfl]
        exact ⟨(by rw [ht]), hW.to (by rw [ht])⟩
      · refine lv_aload_n (pc := 58) hx hb dX3_isTreeSound_58 rfl (lv_at hl 1 rfl) ?_
        refine r_get (pc := 59) E hC hW.obj 5 (v := .ref (ad 6)) rfl rfl (by decide) uX3 (List.mem_cons_of_mem _ kw_119) (fun _ h => h) dX3_isTreeSound_59 ?_
        refine lv_aload_n (pc := 62) hx hb dX3_isTreeSound_62 rfl (lv_at hl 2 rfl) ?_
        refine k_i (pc := 63) (k_V E hC hS hA hl.1 (c1.recv hC (hW.fr (i := 6) (by decide)) rfl) rfl (c_X0_isSameAs l D tk N0 sa hAD H.size g_15 6 (by decide) i hi ) kw_580 kw_581 kw_582 kw_2 kw_583 (n := 1) (by decide +kernel) rfl ⟨⟨rfl, rfl⟩, ⟨by decide, by decide⟩, by decide, by decide⟩ rfl (Nat.le_of_ble_eq_true rfl) hW dX3_isTreeSound_63) hS (fun q z w => absurd w (Nat.not_le.mpr z)) hn (fun r_17 H locs hR hz hk hS => ?_)
        have er_17 := hR
        have hW := hW.new hk
        refine lv_if_ne (pc := 66) (tgt := 71) hx hb dX3_isTreeSound_66 (by decide) (fun c_19 => ?_) (fun c_19 => ?_)
        · have ht0 : f_ts1 g i 0 = (1, g_15) := by rw [f_ts1, ← er_6, if_neg c_9, ← eg_8, ← eg_12, ← er_13, if_neg c_16, ← eg_15, f_sameF, ← er_17, if_neg c_19]
          refine lv_iinc (pc := 71) (v := 1) (lv' := [(2, .int 1), (0, .ref (ad 15)), (1, .ref (ad i))]) hx hb dX3_isTreeSound_71 hl (k := 0) rfl (by decide) (by decide) rfl (fun ls hl => ?_)
          refine lv_goto (pc := 74) (tgt := 11) hx hb dX3_isTreeSound_74 (by decide) ?_
          refine lv_iload_n (pc := 11) hx hb dX3_isTreeSound_11 rfl (lv_at hl 0 rfl) ?_
          refine lv_iconst (pc := 12) (v := 1) hx hb dX3_isTreeSound_12 (by decide) ?_
          refine lv_icmp_gt (pc := 13) (tgt := 77) hx hb dX3_isTreeSound_13 (by decide) (fun c_20 => ?_) (fun c_20 => ?_)
          · exact absurd c_20 (by decide)
          refine lv_aload_n (pc := 16) hx hb dX3_isTreeSound_16 rfl (lv_at hl 1 rfl) ?_
          refine lv_aload_n (pc := 17) hx hb dX3_isTreeSound_17 rfl (lv_at hl 2 rfl) ?_
          refine lv_iload_n (pc := 18) hx hb dX3_isTreeSound_18 rfl (lv_at hl 0 rfl) ?_
          refine lv_iconst (pc := 19) (v := 1) hx hb dX3_isTreeSound_19 (by decide) ?_
          refine lv_icmp_ne (pc := 20) (tgt := 27) hx hb dX3_isTreeSound_20 (by decide) (fun c_21 => ?_) (fun c_21 => ?_)
          · exact absurd (by decide) c_21
          refine lv_iconst (pc := 23) (v := 1) hx hb dX3_isTreeSound_23 (by decide) ?_
          refine lv_goto (pc := 24) (tgt := 28) hx hb dX3_isTreeSound_24 (by decide) ?_
          refine k_i (pc := 28) (k_V E hC hS hA hl.1 (c1.recv hC hW.obj rfl) rfl (c_X3_stepDown l D tk N0 sa hAD H.size g_15 i hi 1 ) kw_617 kw_619 kp_5 kw_1 kw_620 (n := 2) (by decide +kernel) rfl ⟨⟨rfl, rfl⟩, ⟨by decide, by decide⟩, by decide, by decide⟩ rfl (Nat.le_of_ble_eq_true rfl) hW dX3_isTreeSound_28) hS (fun q _ w => cwA.go hS.1 q w) hn (fun r_22 H locs hR hz hk hS => ?_)
          obtain ⟨er_22, hW⟩ := hR
          obtain ⟨g_24, eg_24⟩ : ∃ z, z = f_stDW g_15 i 1 := ⟨_, rfl⟩
          rw [← eg_24] at hW
          refine lv_if_ne (pc := 31) (tgt := 36) hx hb dX3_isTreeSound_31 (by decide) (fun c_25 => ?_) (fun c_25 => ?_)
          · refine lv_aload_n (pc := 36) hx hb dX3_isTreeSound_36 rfl (lv_at hl 1 rfl) ?_
            refine r_get (pc := 37) E hC hW.obj 6 (v := .ref (ad 7)) rfl rfl (by decide) uX3 (List.mem_cons_of_mem _ kw_120) (fun _ h => h) dX3_isTreeSound_37 ?_
            refine lv_aload_n (pc := 40) hx hb dX3_isTreeSound_40 rfl (lv_at hl 1 rfl) ?_
            refine r_get (pc := 41) E hC hW.obj 5 (v := .ref (ad 6)) rfl rfl (by decide) uX3 (List.mem_cons_of_mem _ kw_119) (fun _ h => h) dX3_isTreeSound_41 ?_
            refine k_v (pc := 44) (k_V E hC hS hA hl.1 (c1.recv hC (hW.fr (i := 7) (by decide)) rfl) rfl (c_X0_assign l D tk N0 sa hAD H.size g_24 7 (by decide) 6 (by decide) ) kw_627 kw_628 kw_629 kw_2 kw_630 (n := 1) (by decide +kernel) rfl ⟨⟨rfl, rfl⟩, ⟨by decide, by decide⟩, by decide, by decide⟩ rfl (Nat.le_of_ble_eq_true rfl) hW dX3_isTreeSound_44) hS (fun q _ w => cwA.go hS.1 q w) hn (fun H locs hR hz hk hS => ?_)
            have hW := hR
            obtain ⟨g_28, eg_28⟩ : ∃ z, z = f_assign g_24 7 6 := ⟨_, rfl⟩
            rw [← eg_28] at hW
            refine lv_aload_n (pc := 47) hx hb dX3_isTreeSound_47 rfl (lv_at hl 1 rfl) ?_
            refine lv_aload_n (pc := 48) hx hb dX3_isTreeSound_48 rfl (lv_at hl 1 rfl) ?_
            refine r_get (pc := 49) E hC hW.obj 6 (v := .ref (ad 7)) rfl rfl (by decide) uX3 (List.mem_cons_of_mem _ kw_120) (fun _ h => h) dX3_isTreeSound_49 ?_
            refine k_i (pc := 52) (k_V E hC hS hA hl.1 (c1.recv hC hW.obj rfl) rfl (c_X3_stepUp l D tk N0 sa hAD H.size g_28 7 (by decide) ) kw_631 kw_633 kp_6 kw_1 kw_634 (n := 1) (by decide +kernel) rfl ⟨⟨rfl, rfl⟩, ⟨by decide, by decide⟩, by decide, by decide⟩ rfl (Nat.le_of_ble_eq_true rfl) hW dX3_isTreeSound_52) hS (fun q _ w => cwA.go hS.1 q w) hn (fun r_29 H locs hR hz hk hS => ?_)
            obtain ⟨er_29, hW⟩ := hR
            obtain ⟨g_31, eg_31⟩ : ∃ z, z = f_stUW g_28 7 := ⟨_, rfl⟩
            rw [← eg_31] at hW
            refine lv_if_eq (pc := 55) (tgt := 69) hx hb dX3_isTreeSound_55 (by decide) (fun c_32 => ?_) (fun c_32 => ?_)
            · refine lv_iconst (pc := 69) (v := 0) hx hb dX3_isTreeSound_69 (by decide) ?_
              refine r_zret (pc := 70) E hr hlk hS (by decide) (by decide) rfl ?_ dX3_isTreeSound_70
              have ht1 : f_ts1 g_15 i 1 = (0, g_31) := by rw [f_ts1, ← er_22, if_neg c_25, ← eg_24, ← eg_28, ← er_29, if_pos c_32, ← eg_31]
              have ht : f_tree g i = (0, g_31) := by rw [f_tree, ← er_1, if_pos c_3, ht0, if_neg (show ¬ (1 : Int32) = 0 by decide), ht1, if_pos rfl]
              exact ⟨(by rw [ht]), hW.to (by rw [ht])⟩
            · refine lv_aload_n (pc := 58) hx hb dX3_isTreeSound_58 rfl (lv_at hl 1 rfl) ?_
              refine r_get (pc := 59) E hC hW.obj 5 (v := .ref (ad 6)) rfl rfl (by decide) uX3 (List.mem_cons_of_mem _ kw_119) (fun _ h => h) dX3_isTreeSound_59 ?_
              refine lv_aload_n (pc := 62) hx hb dX3_isTreeSound_62 rfl (lv_at hl 2 rfl) ?_
              refine k_i (pc := 63) (k_V E hC hS hA hl.1 (c1.recv hC (hW.fr (i := 6) (by decide)) rfl) rfl (c_X0_isSameAs l D tk N0 sa hAD H.size g_31 6 (by decide) i hi ) kw_580 kw_581 kw_582 kw_2 kw_583 (n := 1) (by decide +kernel) rfl ⟨⟨rfl, rfl⟩, ⟨by decide, by decide⟩, by decide, by decide⟩ rfl (Nat.le_of_ble_eq_true rfl) hW dX3_isTreeSound_63) hS (fun q z w => absurd w (Nat.not_le.mpr z)) hn (fun r_33 H locs hR hz hk hS => ?_)
              have er_33 := hR
              have hW := hW.new hk
              refine lv_if_ne (pc := 66) (tgt := 71) hx hb dX3_isTreeSound_66 (by decide) (fun c_35 => ?_) (fun c_35 => ?_)
              · have ht1 : f_ts1 g_15 i 1 = (1, g_31) := by rw [f_ts1, ← er_22, if_neg c_25, ← eg_24, ← eg_28, ← er_29, if_neg c_32, ← eg_31, f_sameF, ← er_33, if_neg c_35]
                refine lv_iinc (pc := 71) (v := 2) (lv' := [(2, .int 2), (0, .ref (ad 15)), (1, .ref (ad i))]) hx hb dX3_isTreeSound_71 hl (k := 0) rfl (by decide) (by decide) rfl (fun ls hl => ?_)
                refine lv_goto (pc := 74) (tgt := 11) hx hb dX3_isTreeSound_74 (by decide) ?_
                refine lv_iload_n (pc := 11) hx hb dX3_isTreeSound_11 rfl (lv_at hl 0 rfl) ?_
                refine lv_iconst (pc := 12) (v := 1) hx hb dX3_isTreeSound_12 (by decide) ?_
                refine lv_icmp_gt (pc := 13) (tgt := 77) hx hb dX3_isTreeSound_13 (by decide) (fun c_36 => ?_) (fun c_36 => ?_)
                rotate_left
                · exact absurd (by decide) c_36
                refine lv_aload_n (pc := 77) hx hb dX3_isTreeSound_77 rfl (lv_at hl 1 rfl) ?_
                refine r_get (pc := 78) E hC hW.obj 6 (v := .ref (ad 7)) rfl rfl (by decide) uX3 (List.mem_cons_of_mem _ kw_120) (fun _ h => h) dX3_isTreeSound_78 ?_
                refine lv_aload_n (pc := 81) hx hb dX3_isTreeSound_81 rfl (lv_at hl 2 rfl) ?_
                refine k_v (pc := 82) (k_V E hC hS hA hl.1 (c1.recv hC (hW.fr (i := 7) (by decide)) rfl) rfl (c_X0_becomeFollower l D tk N0 sa hAD H.size g_31 7 (by decide) i hi ) kw_635 kw_636 kw_637 kw_2 kw_638 (n := 1) (by decide +kernel) rfl ⟨⟨rfl, rfl⟩, ⟨by decide, by decide⟩, by decide, by decide⟩ rfl (Nat.le_of_ble_eq_true rfl) hW dX3_isTreeSound_82) hS (fun q _ w => cwA.go hS.1 q w) hn (fun H locs hR hz hk hS => ?_)
                have hW := hR
                obtain ⟨g_39, eg_39⟩ : ∃ z, z = f_foll g_31 7 i := ⟨_, rfl⟩
                rw [← eg_39] at hW
                refine lv_aload_n (pc := 85) hx hb dX3_isTreeSound_85 rfl (lv_at hl 1 rfl) ?_
                refine r_get (pc := 86) E hC hW.obj 5 (v := .ref (ad 6)) rfl rfl (by decide) uX3 (List.mem_cons_of_mem _ kw_119) (fun _ h => h) dX3_isTreeSound_86 ?_
                refine lv_aload_n (pc := 89) hx hb dX3_isTreeSound_89 rfl (lv_at hl 1 rfl) ?_
                refine r_get (pc := 90) E hC hW.obj 6 (v := .ref (ad 7)) rfl rfl (by decide) uX3 (List.mem_cons_of_mem _ kw_120) (fun _ h => h) dX3_isTreeSound_90 ?_
                refine k_v (pc := 93) (k_V E hC hS hA hl.1 (c1.recv hC (hW.fr (i := 6) (by decide)) rfl) rfl (c_X0_becomeForerunner l D tk N0 sa hAD H.size g_39 6 (by decide) 7 (by decide) ) kw_643 kw_644 kw_645 kw_2 kw_646 (n := 1) (by decide +kernel) rfl ⟨⟨rfl, rfl⟩, ⟨by decide, by decide⟩, by decide, by decide⟩ rfl (Nat.le_of_ble_eq_true rfl) hW dX3_isTreeSound_93) hS (fun q _ w => cwA.go hS.1 q w) hn (fun H locs hR hz hk hS => ?_)
                have hW := hR
                obtain ⟨g_42, eg_42⟩ : ∃ z, z = f_fore g_39 6 7 := ⟨_, rfl⟩
                rw [← eg_42] at hW
                refine lv_aload_n (pc := 96) hx hb dX3_isTreeSound_96 rfl (lv_at hl 1 rfl) ?_
                refine r_get (pc := 97) E hC hW.obj 5 (v := .ref (ad 6)) rfl rfl (by decide) uX3 (List.mem_cons_of_mem _ kw_119) (fun _ h => h) dX3_isTreeSound_97 ?_
                refine lv_aload_n (pc := 100) hx hb dX3_isTreeSound_100 rfl (lv_at hl 2 rfl) ?_
                refine k_i (pc := 101) (k_V E hC hS hA hl.1 (c1.recv hC (hW.fr (i := 6) (by decide)) rfl) rfl (c_X0_isSameAs l D tk N0 sa hAD H.size g_42 6 (by decide) i hi ) kw_580 kw_581 kw_582 kw_2 kw_583 (n := 1) (by decide +kernel) rfl ⟨⟨rfl, rfl⟩, ⟨by decide, by decide⟩, by decide, by decide⟩ rfl (Nat.le_of_ble_eq_true rfl) hW dX3_isTreeSound_101) hS (fun q z w => absurd w (Nat.not_le.mpr z)) hn (fun r_43 H locs hR hz hk hS => ?_)
                have er_43 := hR
                have hW := hW.new hk
                refine r_zret (pc := 104) E hr hlk hS (by decide) (by decide) (zb (by rw [er_43]; exact f_same_b _ _ _ _)) ?_ dX3_isTreeSound_104
                have ht : f_tree g i = (r_43, g_42) := by rw [f_tree, ← er_1, if_pos c_3, ht0, if_neg (show ¬ (1 : Int32) = 0 by decide), ht1, if_neg (show ¬ (1 : Int32) = 0 by decide), f_ts2, ← eg_39, ← eg_42, f_sameF, ← er_43]
                exact ⟨(by rw [ht]), hW.to (by rw [ht])⟩
              · refine lv_iconst (pc := 69) (v := 0) hx hb dX3_isTreeSound_69 (by decide) ?_
                refine r_zret (pc := 70) E hr hlk hS (by decide) (by decide) rfl ?_ dX3_isTreeSound_70
                have ht1 : f_ts1 g_15 i 1 = (0, g_31) := by rw [f_ts1, ← er_22, if_neg c_25, ← eg_24, ← eg_28, ← er_29, if_neg c_32, ← eg_31, f_sameF, ← er_33, if_pos c_35]
                have ht : f_tree g i = (0, g_31) := by rw [f_tree, ← er_1, if_pos c_3, ht0, if_neg (show ¬ (1 : Int32) = 0 by decide), ht1, if_pos rfl]
                exact ⟨(by rw [ht]), hW.to (by rw [ht])⟩
          · refine lv_iconst (pc := 34) (v := 0) hx hb dX3_isTreeSound_34 (by decide) ?_
            refine r_zret (pc := 35) E hr hlk hS (by decide) (by decide) rfl ?_ dX3_isTreeSound_35
            have ht1 : f_ts1 g_15 i 1 = (0, g_24) := by rw [f_ts1, ← er_22, if_pos c_25, ← eg_24]
            have ht : f_tree g i = (0, g_24) := by rw [f_tree, ← er_1, if_pos c_3, ht0, if_neg (show ¬ (1 : Int32) = 0 by decide), ht1, if_pos rfl]
            exact ⟨(by rw [ht]), hW.to (by rw [ht])⟩
        · refine lv_iconst (pc := 69) (v := 0) hx hb dX3_isTreeSound_69 (by decide) ?_
          refine r_zret (pc := 70) E hr hlk hS (by decide) (by decide) rfl ?_ dX3_isTreeSound_70
          have ht0 : f_ts1 g i 0 = (0, g_15) := by rw [f_ts1, ← er_6, if_neg c_9, ← eg_8, ← eg_12, ← er_13, if_neg c_16, ← eg_15, f_sameF, ← er_17, if_pos c_19]
          have ht : f_tree g i = (0, g_15) := by rw [f_tree, ← er_1, if_pos c_3, ht0, if_pos rfl]
          exact ⟨(by rw [ht]), hW.to (by rw [ht])⟩
    · refine lv_iconst (pc := 34) (v := 0) hx hb dX3_isTreeSound_34 (by decide) ?_
      refine r_zret (pc := 35) E hr hlk hS (by decide) (by decide) rfl ?_ dX3_isTreeSound_35
      have ht0 : f_ts1 g i 0 = (0, g_8) := by rw [f_ts1, ← er_6, if_pos c_9, ← eg_8]
      have ht : f_tree g i = (0, g_8) := by rw [f_tree, ← er_1, if_pos c_3, ht0, if_pos rfl]
      exact ⟨(by rw [ht]), hW.to (by rw [ht])⟩
  · refine lv_iconst (pc := 7) (v := 1) hx hb dX3_isTreeSound_7 (by decide) ?_
    refine r_zret (pc := 8) E hr hlk hS (by decide) (by decide) rfl ?_ dX3_isTreeSound_8
    have ht : f_tree g i = (1, g) := by rw [f_tree, ← er_1, if_neg c_3]
    exact ⟨(by rw [ht]), hW.to (by rw [ht])⟩
set_option maxHeartbeats 4000000 in
set_option maxRecDepth 100000 in
/-- Bestratios.areSoundInPairs()Z -/
theorem c_X3_areSoundInPairs (l : Launch) (D : va_G) (tk : Nat → ClassId) (N0 : Nat) (sa : Nat → Nat) {ad : Nat → Nat} (hAD : ADok N0 ad) (sz : Nat) (g : CS)  : Met l yX3_areSoundInPairs (wsy yX3_areSoundInPairs cX3_areSoundInPairs 3 (some .boolean)) ({ frames := 5, cells := 0, slots := 0, locals := 129 } : Room) (cP D tk N0 sa [.ref (ad 15)] sz (fun H => CW D tk ad g H)) (kQi (fun r H => r = (f_pairs g).1 ∧ CW D tk ad ((f_pairs g).2) H) (cwA ad sz)) (0) (0) (cwA ad sz) := by
  refine mStart RX3 rfl (by decide +kernel) (Nat.le_of_ble_eq_true rfl) ?_
  intro p e s m args below meth c E hr hlk hnm hsz hC hF ls hl
  subst hsz
  obtain ⟨hx, hb, -⟩ := id E
  have hA : ∀ q, (cwA ad s.heap.size) q → N0 ≤ q := cwA.ge hAD hC.2.1
  have hn : ∀ q, s.heap.size ≤ q → (cwA ad s.heap.size) q := fun q h => Or.inr h
  have hS : va_S (cwA ad s.heap.size) s.heap s.heap [] := va_S.rf
  have hl : lv_has ls 3 [(0, .ref (ad 15))] := hl
  obtain ⟨Q, hQ⟩ : ∃ Q, Q = MQ below (kQi (fun r H => r = (f_pairs g).1 ∧ CW D tk ad ((f_pairs g).2) H) (cwA ad s.heap.size)) args s (0) (0) (cwA ad s.heap.size) := ⟨_, rfl⟩
  rw [← hQ]
  have hW : CW D tk ad g s.heap := hF
  refine lv_iconst (pc := 0) (v := 0) hx hb dX3_areSoundInPairs_0 (by decide) ?_
  refine lv_istore_n (pc := 1) (lv' := [(1, .int 0), (0, .ref (ad 15))]) hx hb dX3_areSoundInPairs_1 rfl hl (by decide) rfl (fun ls hl => ?_)
  have loop_2 : ∀ (n : Nat) (k : Nat)(g1 : CS) (y9 : Int32), 6 - k < n → k ≤ 6 → y9 = nI k → ouL (6 - k) k g1 = f_pairs g → ∀ (H : Heap) (locs : List Loc) (ls : Array Slot), va_S (cwA ad s.heap.size) s.heap H locs → CW D tk ad g1 H → lv_has ls 3 [(0, .ref (ad 15)), (1, .int y9)] → W p l e ({ frames := 5, cells := 0, slots := 0, locals := 129 } : Room) s m args below meth c H locs (0) (0) Q (F0 m 2 ls []) := by
    intro n
    induction n with
    | zero =>
      intro k g1 y9 hf9 hk9 hx9 hg9 H locs ls hS hW hl
      omega
    | succ n ih_2 =>
      intro k g1 y9 hf9 hk9 hx9 hg9 H locs ls hS hW hl
      refine lv_iload_n (pc := 2) hx hb dX3_areSoundInPairs_2 rfl (lv_at hl 1 rfl) ?_
      refine lv_aload_n (pc := 3) hx hb dX3_areSoundInPairs_3 rfl (lv_at hl 0 rfl) ?_
      refine r_get (pc := 4) E hC hW.obj 0 (v := .ref (ad 16)) rfl rfl (by decide) uX3 (List.mem_cons_of_mem _ kw_114) (fun _ h => h) dX3_areSoundInPairs_4 ?_
      refine r_alen (pc := 7) E hC hW.row 2 rfl (v := 6) rfl dX3_areSoundInPairs_7 ?_
      refine lv_icmp_ge (pc := 8) (tgt := 90) hx hb dX3_areSoundInPairs_8 (by decide) (fun c_1 => ?_) (fun c_1 => ?_)
      · refine lv_iconst (pc := 90) (v := 1) hx hb dX3_areSoundInPairs_90 (by decide) ?_
        try rw [hQ]
        refine r_zret (pc := 91) E hr hlk hS (by decide) (by decide) rfl ?_ dX3_areSoundInPairs_91
        have e0 : 6 - k = 0 := by have := (i_le (n := 6) hx9 (by decide) (by omega) (by decide)).mp c_1; omega
        rw [e0] at hg9
        exact ⟨(by rw [← hg9]; rfl), hW.to (by rw [← hg9]; rfl)⟩
      · have hlt9 : k < 6 := Nat.not_le.mp (fun z => c_1 ((i_le (n := 6) hx9 (by decide) (by omega) (by decide)).mpr z))
        have hw9 : 6 - k = (6 - (k + 1)) + 1 := by omega
        refine lv_iload_n (pc := 11) hx hb dX3_areSoundInPairs_11 rfl (lv_at hl 1 rfl) ?_
        refine lv_iconst (pc := 12) (v := 1) hx hb dX3_areSoundInPairs_12 (by decide) ?_
        refine lv_iadd (pc := 13) hx hb dX3_areSoundInPairs_13 ?_
        obtain ⟨x_2, ex_2⟩ : ∃ z9 : Int32, z9 = y9 + 1 := ⟨_, rfl⟩
        rw [← ex_2]
        refine lv_istore_n (pc := 14) (lv' := [(2, .int x_2), (0, .ref (ad 15)), (1, .int y9)]) hx hb dX3_areSoundInPairs_14 rfl hl (by decide) rfl (fun ls hl => ?_)
        have loop_15 : ∀ (n : Nat) (b : Nat)(g2 : CS) (w9 : Int32), 6 - b < n → k + 1 ≤ b ∧ b ≤ 6 → w9 = nI b → inL k (6 - b) b g2 = inL k (5 - k) (k + 1) g1 → ∀ (H : Heap) (locs : List Loc) (ls : Array Slot), va_S (cwA ad s.heap.size) s.heap H locs → CW D tk ad g2 H → lv_has ls 3 [(0, .ref (ad 15)), (1, .int y9), (2, .int w9)] → W p l e ({ frames := 5, cells := 0, slots := 0, locals := 129 } : Room) s m args below meth c H locs (0) (0) Q (F0 m 15 ls []) := by
          intro n
          induction n with
          | zero =>
            intro b g2 w9 hf8 hk8 hx8 hg8 H locs ls hS hW hl
            omega
          | succ n ih_15 =>
            intro b g2 w9 hf8 hk8 hx8 hg8 H locs ls hS hW hl
            refine lv_iload_n (pc := 15) hx hb dX3_areSoundInPairs_15 rfl (lv_at hl 2 rfl) ?_
            refine lv_aload_n (pc := 16) hx hb dX3_areSoundInPairs_16 rfl (lv_at hl 0 rfl) ?_
            refine r_get (pc := 17) E hC hW.obj 0 (v := .ref (ad 16)) rfl rfl (by decide) uX3 (List.mem_cons_of_mem _ kw_114) (fun _ h => h) dX3_areSoundInPairs_17 ?_
            refine r_alen (pc := 20) E hC hW.row 2 rfl (v := 6) rfl dX3_areSoundInPairs_20 ?_
            refine lv_icmp_ge (pc := 21) (tgt := 84) hx hb dX3_areSoundInPairs_21 (by decide) (fun c_3 => ?_) (fun c_3 => ?_)
            · obtain ⟨x_4, ex_4⟩ : ∃ z9 : Int32, z9 = y9 + 1 := ⟨_, rfl⟩
              refine lv_iinc (pc := 84) (v := x_4) (lv' := [(1, .int x_4), (0, .ref (ad 15)), (2, .int w9)]) hx hb dX3_areSoundInPairs_84 hl (k := 1) rfl (by rw [ex_4]; rfl) (by decide) rfl (fun ls hl => ?_)
              refine lv_goto (pc := 87) (tgt := 2) hx hb dX3_areSoundInPairs_87 (by decide) ?_
              exact ih_2  (k + 1) g2  x_4 (by omega) (by omega) (i_up hx9 ex_4) (by rw [← hg9, hw9, ouL, ← hg8, show 6 - b = 0 from by have := (i_le (n := 6) hx8 (by decide) (by omega) (by decide)).mp c_3; omega]; simp [inL]) _ _ _ hS hW (lv_sub hl [1, 0] rfl)
            · have hlt8 : b < 6 := Nat.not_le.mp (fun z => c_3 ((i_le (n := 6) hx8 (by decide) (by omega) (by decide)).mpr z))
              have hw8 : 6 - b = (6 - (b + 1)) + 1 := by omega
              refine lv_aload_n (pc := 24) hx hb dX3_areSoundInPairs_24 rfl (lv_at hl 0 rfl) ?_
              refine r_get (pc := 25) E hC hW.obj 6 (v := .ref (ad 7)) rfl rfl (by decide) uX3 (List.mem_cons_of_mem _ kw_120) (fun _ h => h) dX3_areSoundInPairs_25 ?_
              refine lv_aload_n (pc := 28) hx hb dX3_areSoundInPairs_28 rfl (lv_at hl 0 rfl) ?_
              refine r_get (pc := 29) E hC hW.obj 0 (v := .ref (ad 16)) rfl rfl (by decide) uX3 (List.mem_cons_of_mem _ kw_114) (fun _ h => h) dX3_areSoundInPairs_29 ?_
              refine lv_iload_n (pc := 32) hx hb dX3_areSoundInPairs_32 rfl (lv_at hl 1 rfl) ?_
              refine r_aald (pc := 33) E hC hW.row (i_in hx9 hlt9 (by decide)) dX3_areSoundInPairs_33 ?_
              rw [show (y9).toNatClampNeg = k from (i_cl hx9 (by omega))]
              refine lv_aload_n (pc := 34) hx hb dX3_areSoundInPairs_34 rfl (lv_at hl 0 rfl) ?_
              refine r_get (pc := 35) E hC hW.obj 0 (v := .ref (ad 16)) rfl rfl (by decide) uX3 (List.mem_cons_of_mem _ kw_114) (fun _ h => h) dX3_areSoundInPairs_35 ?_
              refine lv_iload_n (pc := 38) hx hb dX3_areSoundInPairs_38 rfl (lv_at hl 2 rfl) ?_
              refine r_aald (pc := 39) E hC hW.row (i_in hx8 hlt8 (by decide)) dX3_areSoundInPairs_39 ?_
              rw [show (w9).toNatClampNeg = b from (i_cl hx8 (by omega))]
              refine k_v (pc := 40) (k_V E hC hS hA hl.1 (c1.recv hC (hW.fr (i := 7) (by decide)) rfl) rfl (c_X0_becomeSum l D tk N0 sa hAD H.size g2 7 (by decide) k (by omega) b (by omega) ) kw_651 kw_652 kw_653 kw_2 kw_654 (n := 2) (by decide +kernel) rfl ⟨⟨rfl, rfl⟩, ⟨by decide, by decide⟩, by decide, by decide⟩ rfl (Nat.le_of_ble_eq_true rfl) hW dX3_areSoundInPairs_40) hS (fun q _ w => cwA.go hS.1 q w) hn (fun H locs hR hz hk hS => ?_)
              have hW := hR
              obtain ⟨g_7, eg_7⟩ : ∃ z, z = f_sum g2 7 k b := ⟨_, rfl⟩
              rw [← eg_7] at hW
              refine lv_aload_n (pc := 43) hx hb dX3_areSoundInPairs_43 rfl (lv_at hl 0 rfl) ?_
              refine r_get (pc := 44) E hC hW.obj 5 (v := .ref (ad 6)) rfl rfl (by decide) uX3 (List.mem_cons_of_mem _ kw_119) (fun _ h => h) dX3_areSoundInPairs_44 ?_
              refine lv_aload_n (pc := 47) hx hb dX3_areSoundInPairs_47 rfl (lv_at hl 0 rfl) ?_
              refine r_get (pc := 48) E hC hW.obj 6 (v := .ref (ad 7)) rfl rfl (by decide) uX3 (List.mem_cons_of_mem _ kw_120) (fun _ h => h) dX3_areSoundInPairs_48 ?_
              refine lv_aload_n (pc := 51) hx hb dX3_areSoundInPairs_51 rfl (lv_at hl 0 rfl) ?_
              refine r_get (pc := 52) E hC hW.obj 0 (v := .ref (ad 16)) rfl rfl (by decide) uX3 (List.mem_cons_of_mem _ kw_114) (fun _ h => h) dX3_areSoundInPairs_52 ?_
              refine lv_iload_n (pc := 55) hx hb dX3_areSoundInPairs_55 rfl (lv_at hl 2 rfl) ?_
              refine r_aald (pc := 56) E hC hW.row (i_in hx8 hlt8 (by decide)) dX3_areSoundInPairs_56 ?_
              rw [show (w9).toNatClampNeg = b from (i_cl hx8 (by omega))]
              refine k_v (pc := 57) (k_V E hC hS hA hl.1 (c1.recv hC (hW.fr (i := 6) (by decide)) rfl) rfl (c_X0_becomeDifference l D tk N0 sa hAD H.size g_7 6 (by decide) 7 (by decide) b (by omega) ) kw_659 kw_660 kw_661 kw_2 kw_662 (n := 2) (by decide +kernel) rfl ⟨⟨rfl, rfl⟩, ⟨by decide, by decide⟩, by decide, by decide⟩ rfl (Nat.le_of_ble_eq_true rfl) hW dX3_areSoundInPairs_57) hS (fun q _ w => cwA.go hS.1 q w) hn (fun H locs hR hz hk hS => ?_)
              have hW := hR
              obtain ⟨g_10, eg_10⟩ : ∃ z, z = f_dif g_7 6 7 b := ⟨_, rfl⟩
              rw [← eg_10] at hW
              refine lv_aload_n (pc := 60) hx hb dX3_areSoundInPairs_60 rfl (lv_at hl 0 rfl) ?_
              refine r_get (pc := 61) E hC hW.obj 5 (v := .ref (ad 6)) rfl rfl (by decide) uX3 (List.mem_cons_of_mem _ kw_119) (fun _ h => h) dX3_areSoundInPairs_61 ?_
              refine lv_aload_n (pc := 64) hx hb dX3_areSoundInPairs_64 rfl (lv_at hl 0 rfl) ?_
              refine r_get (pc := 65) E hC hW.obj 0 (v := .ref (ad 16)) rfl rfl (by decide) uX3 (List.mem_cons_of_mem _ kw_114) (fun _ h => h) dX3_areSoundInPairs_65 ?_
              refine lv_iload_n (pc := 68) hx hb dX3_areSoundInPairs_68 rfl (lv_at hl 1 rfl) ?_
              refine r_aald (pc := 69) E hC hW.row (i_in hx9 hlt9 (by decide)) dX3_areSoundInPairs_69 ?_
              rw [show (y9).toNatClampNeg = k from (i_cl hx9 (by omega))]
              refine k_i (pc := 70) (k_V E hC hS hA hl.1 (c1.recv hC (hW.fr (i := 6) (by decide)) rfl) rfl (c_X0_isSameAs l D tk N0 sa hAD H.size g_10 6 (by decide) k (by omega) ) kw_580 kw_581 kw_582 kw_2 kw_583 (n := 1) (by decide +kernel) rfl ⟨⟨rfl, rfl⟩, ⟨by decide, by decide⟩, by decide, by decide⟩ rfl (Nat.le_of_ble_eq_true rfl) hW dX3_areSoundInPairs_70) hS (fun q z w => absurd w (Nat.not_le.mpr z)) hn (fun r_11 H locs hR hz hk hS => ?_)
              have er_11 := hR
              have hW := hW.new hk
              refine lv_if_ne (pc := 73) (tgt := 78) hx hb dX3_areSoundInPairs_73 (by decide) (fun c_13 => ?_) (fun c_13 => ?_)
              · obtain ⟨x_14, ex_14⟩ : ∃ z9 : Int32, z9 = w9 + 1 := ⟨_, rfl⟩
                refine lv_iinc (pc := 78) (v := x_14) (lv' := [(2, .int x_14), (0, .ref (ad 15)), (1, .int y9)]) hx hb dX3_areSoundInPairs_78 hl (k := 2) rfl (by rw [ex_14]; rfl) (by decide) rfl (fun ls hl => ?_)
                refine lv_goto (pc := 81) (tgt := 15) hx hb dX3_areSoundInPairs_81 (by decide) ?_
                have hpr : f_pr1 g2 k b = (r_11, g_10) := by rw [er_11, eg_10, eg_7]; rfl
                exact ih_15  (b + 1) g_10  x_14 (by omega) (by omega) (i_up hx8 ex_14) (by rw [← hg8, hw8, inL, hpr]; simp [c_13]) _ _ _ hS hW (lv_sub hl [1, 2, 0] rfl)
              · refine lv_iconst (pc := 76) (v := 0) hx hb dX3_areSoundInPairs_76 (by decide) ?_
                try rw [hQ]
                refine r_zret (pc := 77) E hr hlk hS (by decide) (by decide) rfl ?_ dX3_areSoundInPairs_77
                have hpr : f_pr1 g2 k b = (r_11, g_10) := by rw [er_11, eg_10, eg_7]; rfl
                have hin : inL k (5 - k) (k + 1) g1 = (0, g_10) := by rw [← hg8, hw8, inL, hpr]; simp [c_13]
                have hou : f_pairs g = (0, g_10) := by rw [← hg9, hw9, ouL, hin]; simp
                exact ⟨(by rw [hou]), hW.to (by rw [hou])⟩
        exact loop_15 7 (k + 1) g1  x_2 (by omega) (by omega) (i_up hx9 ex_2) (by rw [show 6 - (k + 1) = 5 - k from by omega]) _ _ _ hS hW (lv_sub hl [1, 2, 0] rfl)
  exact loop_2 7 0 g  0 (by omega) (by omega) nI_0.symm rfl _ _ _ hS hW (lv_sub hl [1, 0] rfl)
set_option maxHeartbeats 4000000 in
set_option maxRecDepth 100000 in
/-- Bestratios.isSound()Z -/
theorem c_X3_isSound (l : Launch) (D : va_G) (tk : Nat → ClassId) (N0 : Nat) (sa : Nat → Nat) {ad : Nat → Nat} (hAD : ADok N0 ad) (sz : Nat) (g : CS)  : Met l yX3_isSound (wsy yX3_isSound cX3_isSound 3 (some .boolean)) ({ frames := 6, cells := 0, slots := 0, locals := 151 } : Room) (cP D tk N0 sa [.ref (ad 15)] sz (fun H => CW D tk ad g H)) (kQi (fun r H => r = (f_isS g).1 ∧ CW D tk ad ((f_isS g).2) H) (cwA ad sz)) (0) (0) (cwA ad sz) := by
  refine mStart RX3 rfl (by decide +kernel) (Nat.le_of_ble_eq_true rfl) ?_
  intro p e s m args below meth c E hr hlk hnm hsz hC hF ls hl
  subst hsz
  obtain ⟨hx, hb, -⟩ := id E
  have hA : ∀ q, (cwA ad s.heap.size) q → N0 ≤ q := cwA.ge hAD hC.2.1
  have hn : ∀ q, s.heap.size ≤ q → (cwA ad s.heap.size) q := fun q h => Or.inr h
  have hS : va_S (cwA ad s.heap.size) s.heap s.heap [] := va_S.rf
  have hl : lv_has ls 3 [(0, .ref (ad 15))] := hl
  obtain ⟨Q, hQ⟩ : ∃ Q, Q = MQ below (kQi (fun r H => r = (f_isS g).1 ∧ CW D tk ad ((f_isS g).2) H) (cwA ad s.heap.size)) args s (0) (0) (cwA ad s.heap.size) := ⟨_, rfl⟩
  rw [← hQ]
  have hW : CW D tk ad g s.heap := hF
  refine lv_iconst (pc := 0) (v := 0) hx hb dX3_isSound_0 (by decide) ?_
  refine lv_istore_n (pc := 1) (lv' := [(1, .int 0), (0, .ref (ad 15))]) hx hb dX3_isSound_1 rfl hl (by decide) rfl (fun ls hl => ?_)
  have loop_2 : ∀ (n : Nat) (k : Nat)(g1 : CS) (y9 : Int32), 6 - k < n → k ≤ 6 → y9 = nI k → sdL (6 - k) k g1 = sdL 6 0 g → ∀ (H : Heap) (locs : List Loc) (ls : Array Slot), va_S (cwA ad s.heap.size) s.heap H locs → CW D tk ad g1 H → lv_has ls 3 [(0, .ref (ad 15)), (1, .int y9)] → W p l e ({ frames := 6, cells := 0, slots := 0, locals := 151 } : Room) s m args below meth c H locs (0) (0) Q (F0 m 2 ls []) := by
    intro n
    induction n with
    | zero =>
      intro k g1 y9 hf9 hk9 hx9 hg9 H locs ls hS hW hl
      omega
    | succ n ih_2 =>
      intro k g1 y9 hf9 hk9 hx9 hg9 H locs ls hS hW hl
      refine lv_iload_n (pc := 2) hx hb dX3_isSound_2 rfl (lv_at hl 1 rfl) ?_
      refine lv_aload_n (pc := 3) hx hb dX3_isSound_3 rfl (lv_at hl 0 rfl) ?_
      refine r_get (pc := 4) E hC hW.obj 0 (v := .ref (ad 16)) rfl rfl (by decide) uX3 (List.mem_cons_of_mem _ kw_114) (fun _ h => h) dX3_isSound_4 ?_
      refine r_alen (pc := 7) E hC hW.row 2 rfl (v := 6) rfl dX3_isSound_7 ?_
      refine lv_icmp_ge (pc := 8) (tgt := 66) hx hb dX3_isSound_8 (by decide) (fun c_1 => ?_) (fun c_1 => ?_)
      · refine lv_aload_n (pc := 66) hx hb dX3_isSound_66 rfl (lv_at hl 0 rfl) ?_
        refine k_i (pc := 67) (k_V E hC hS hA hl.1 (c1.recv hC hW.obj rfl) rfl (c_X3_areSoundInPairs l D tk N0 sa hAD H.size g1  ) kw_647 kw_649 kp_7 kw_1 kw_650 (n := 0) (by decide +kernel) rfl ⟨⟨rfl, rfl⟩, ⟨by decide, by decide⟩, by decide, by decide⟩ rfl (Nat.le_of_ble_eq_true rfl) hW dX3_isSound_67) hS (fun q _ w => cwA.go hS.1 q w) hn (fun r_2 H locs hR hz hk hS => ?_)
        obtain ⟨er_2, hW⟩ := hR
        obtain ⟨g_4, eg_4⟩ : ∃ z, z = (f_pairs g1).2 := ⟨_, rfl⟩
        rw [← eg_4] at hW
        refine lv_if_eq (pc := 70) (tgt := 91) hx hb dX3_isSound_70 (by decide) (fun c_5 => ?_) (fun c_5 => ?_)
        · refine lv_iconst (pc := 91) (v := 0) hx hb dX3_isSound_91 (by decide) ?_
          try rw [hQ]
          refine r_zret (pc := 92) E hr hlk hS (by decide) (by decide) rfl ?_ dX3_isSound_92
          have e0 : 6 - k = 0 := by have := (i_le (n := 6) hx9 (by decide) (by omega) (by decide)).mp c_1; omega
          have hsd : sdL 6 0 g = (1, g1) := by rw [← hg9, e0]; rfl
          have ht : f_isS g = (0, g_4) := by rw [f_isS, hsd, if_neg (show ¬ (1 : Int32) = 0 by decide), f_fin, ← er_2, if_pos c_5, ← eg_4]
          exact ⟨(by rw [ht]), hW.to (by rw [ht])⟩
        · refine lv_aload_n (pc := 73) hx hb dX3_isSound_73 rfl (lv_at hl 0 rfl) ?_
          refine r_get (pc := 74) E hC hW.obj 2 (v := .ref (ad 21)) rfl rfl (by decide) uX3 (List.mem_cons_of_mem _ kw_116) (fun _ h => h) dX3_isSound_74 ?_
          refine lv_aload_n (pc := 77) hx hb dX3_isSound_77 rfl (lv_at hl 0 rfl) ?_
          refine r_get (pc := 78) E hC hW.obj 5 (v := .ref (ad 6)) rfl rfl (by decide) uX3 (List.mem_cons_of_mem _ kw_119) (fun _ h => h) dX3_isSound_78 ?_
          refine k_i (pc := 81) (k_V E hC hS hA hl.1 (c1.recv hC hW.tal rfl) rfl (c_X1_isEven l D tk N0 sa hAD H.size g_4 6 (by decide) ) kw_663 kw_664 kw_665 kw_4 kw_666 (n := 1) (by decide +kernel) rfl ⟨⟨rfl, rfl⟩, ⟨by decide, by decide⟩, by decide, by decide⟩ rfl (Nat.le_of_ble_eq_true rfl) hW dX3_isSound_81) hS (fun q _ w => cwA.go hS.1 q w) hn (fun r_6 H locs hR hz hk hS => ?_)
          obtain ⟨er_6, hW⟩ := hR
          obtain ⟨g_8, eg_8⟩ : ∃ z, z = f_sum g_4 6 10 11 := ⟨_, rfl⟩
          rw [← eg_8] at hW
          refine lv_if_eq (pc := 84) (tgt := 91) hx hb dX3_isSound_84 (by decide) (fun c_9 => ?_) (fun c_9 => ?_)
          · refine lv_iconst (pc := 91) (v := 0) hx hb dX3_isSound_91 (by decide) ?_
            try rw [hQ]
            refine r_zret (pc := 92) E hr hlk hS (by decide) (by decide) rfl ?_ dX3_isSound_92
            have e0 : 6 - k = 0 := by have := (i_le (n := 6) hx9 (by decide) (by omega) (by decide)).mp c_1; omega
            have hsd : sdL 6 0 g = (1, g1) := by rw [← hg9, e0]; rfl
            have ht : f_isS g = (0, g_8) := by rw [f_isS, hsd, if_neg (show ¬ (1 : Int32) = 0 by decide), f_fin, ← er_2, if_neg c_5, ← eg_4, ← er_6, if_pos c_9, ← eg_8]
            exact ⟨(by rw [ht]), hW.to (by rw [ht])⟩
          · refine lv_iconst (pc := 87) (v := 1) hx hb dX3_isSound_87 (by decide) ?_
            refine lv_goto (pc := 88) (tgt := 92) hx hb dX3_isSound_88 (by decide) ?_
            try rw [hQ]
            refine r_zret (pc := 92) E hr hlk hS (by decide) (by decide) rfl ?_ dX3_isSound_92
            have e0 : 6 - k = 0 := by have := (i_le (n := 6) hx9 (by decide) (by omega) (by decide)).mp c_1; omega
            have hsd : sdL 6 0 g = (1, g1) := by rw [← hg9, e0]; rfl
            have ht : f_isS g = (1, g_8) := by rw [f_isS, hsd, if_neg (show ¬ (1 : Int32) = 0 by decide), f_fin, ← er_2, if_neg c_5, ← eg_4, ← er_6, if_neg c_9, ← eg_8]
            exact ⟨(by rw [ht]), hW.to (by rw [ht])⟩
      · have hlt9 : k < 6 := Nat.not_le.mp (fun z => c_1 ((i_le (n := 6) hx9 (by decide) (by omega) (by decide)).mpr z))
        have hw9 : 6 - k = (6 - (k + 1)) + 1 := by omega
        refine lv_aload_n (pc := 11) hx hb dX3_isSound_11 rfl (lv_at hl 0 rfl) ?_
        refine r_get (pc := 12) E hC hW.obj 0 (v := .ref (ad 16)) rfl rfl (by decide) uX3 (List.mem_cons_of_mem _ kw_114) (fun _ h => h) dX3_isSound_12 ?_
        refine lv_iload_n (pc := 15) hx hb dX3_isSound_15 rfl (lv_at hl 1 rfl) ?_
        refine r_aald (pc := 16) E hC hW.row (i_in hx9 hlt9 (by decide)) dX3_isSound_16 ?_
        rw [show (y9).toNatClampNeg = k from (i_cl hx9 (by omega))]
        refine lv_astore_n (pc := 17) (lv' := [(2, .ref (ad k)), (0, .ref (ad 15)), (1, .int y9)]) hx hb dX3_isSound_17 rfl hl (by decide) rfl (fun ls hl => ?_)
        refine lv_aload_n (pc := 18) hx hb dX3_isSound_18 rfl (lv_at hl 1 rfl) ?_
        refine lv_aload_n (pc := 19) hx hb dX3_isSound_19 rfl (lv_at hl 0 rfl) ?_
        refine k_i (pc := 20) (k_V E hC hS hA hl.1 (c1.recv hC hW.obj rfl) rfl (c_X3_isFoldSound l D tk N0 sa hAD H.size g1 k (by omega) ) kw_559 kw_561 kp_2 kw_1 kw_562 (n := 1) (by decide +kernel) rfl ⟨⟨rfl, rfl⟩, ⟨by decide, by decide⟩, by decide, by decide⟩ rfl (Nat.le_of_ble_eq_true rfl) hW dX3_isSound_20) hS (fun q _ w => cwA.go hS.1 q w) hn (fun r_10 H locs hR hz hk hS => ?_)
        obtain ⟨er_10, hW⟩ := hR
        obtain ⟨g_12, eg_12⟩ : ∃ z, z = f_fsndW g1 k := ⟨_, rfl⟩
        rw [← eg_12] at hW
        refine lv_if_eq (pc := 23) (tgt := 58) hx hb dX3_isSound_23 (by decide) (fun c_13 => ?_) (fun c_13 => ?_)
        · refine lv_iconst (pc := 58) (v := 0) hx hb dX3_isSound_58 (by decide) ?_
          try rw [hQ]
          refine r_zret (pc := 59) E hr hlk hS (by decide) (by decide) rfl ?_ dX3_isSound_59
          have h1s : f_snd1 g1 k = (0, g_12) := by rw [f_snd1, ← er_10, if_pos c_13, ← eg_12]
          have hsd : sdL 6 0 g = (0, g_12) := by rw [← hg9, hw9, sdL, h1s, if_pos rfl]
          have ht : f_isS g = (0, g_12) := by rw [f_isS, hsd, if_pos rfl]
          exact ⟨(by rw [ht]), hW.to (by rw [ht])⟩
        · refine lv_aload_n (pc := 26) hx hb dX3_isSound_26 rfl (lv_at hl 1 rfl) ?_
          refine lv_aload_n (pc := 27) hx hb dX3_isSound_27 rfl (lv_at hl 0 rfl) ?_
          refine k_i (pc := 28) (k_V E hC hS hA hl.1 (c1.recv hC hW.obj rfl) rfl (c_X3_areNeighboursSound l D tk N0 sa hAD H.size g_12 k (by omega) ) kw_584 kw_586 kp_3 kw_1 kw_587 (n := 1) (by decide +kernel) rfl ⟨⟨rfl, rfl⟩, ⟨by decide, by decide⟩, by decide, by decide⟩ rfl (Nat.le_of_ble_eq_true rfl) hW dX3_isSound_28) hS (fun q _ w => cwA.go hS.1 q w) hn (fun r_14 H locs hR hz hk hS => ?_)
          obtain ⟨er_14, hW⟩ := hR
          obtain ⟨g_16, eg_16⟩ : ∃ z, z = (f_nsnd g_12 k).2 := ⟨_, rfl⟩
          rw [← eg_16] at hW
          refine lv_if_eq (pc := 31) (tgt := 58) hx hb dX3_isSound_31 (by decide) (fun c_17 => ?_) (fun c_17 => ?_)
          · refine lv_iconst (pc := 58) (v := 0) hx hb dX3_isSound_58 (by decide) ?_
            try rw [hQ]
            refine r_zret (pc := 59) E hr hlk hS (by decide) (by decide) rfl ?_ dX3_isSound_59
            have h1s : f_snd1 g1 k = (0, g_16) := by rw [f_snd1, ← er_10, if_neg c_13, ← eg_12, ← er_14, if_pos c_17, ← eg_16]
            have hsd : sdL 6 0 g = (0, g_16) := by rw [← hg9, hw9, sdL, h1s, if_pos rfl]
            have ht : f_isS g = (0, g_16) := by rw [f_isS, hsd, if_pos rfl]
            exact ⟨(by rw [ht]), hW.to (by rw [ht])⟩
          · refine lv_aload_n (pc := 34) hx hb dX3_isSound_34 rfl (lv_at hl 0 rfl) ?_
            refine lv_iconst (pc := 35) (v := 0) hx hb dX3_isSound_35 (by decide) ?_
            refine k_i (pc := 36) (k_S E hC hS hA hl.1 (c_X3_isCutSound l D tk N0 sa hAD H.size g_16 k (by omega) 0 ) kw_606 kw_607 kw_1 kw_608 (n := 2) (by decide +kernel) rfl ⟨⟨rfl, rfl⟩, ⟨by decide, by decide⟩, by decide, by decide⟩ rfl (Nat.le_of_ble_eq_true rfl) hW dX3_isSound_36) hS (fun q z w => absurd w (Nat.not_le.mpr z)) hn (fun r_18 H locs hR hz hk hS => ?_)
            have er_18 := hR
            have hW := hW.new hk
            refine lv_if_eq (pc := 39) (tgt := 58) hx hb dX3_isSound_39 (by decide) (fun c_20 => ?_) (fun c_20 => ?_)
            · refine lv_iconst (pc := 58) (v := 0) hx hb dX3_isSound_58 (by decide) ?_
              try rw [hQ]
              refine r_zret (pc := 59) E hr hlk hS (by decide) (by decide) rfl ?_ dX3_isSound_59
              have h1s : f_snd1 g1 k = (0, g_16) := by rw [f_snd1, ← er_10, if_neg c_13, ← eg_12, ← er_14, if_neg c_17, ← eg_16, ← er_18, if_pos c_20]
              have hsd : sdL 6 0 g = (0, g_16) := by rw [← hg9, hw9, sdL, h1s, if_pos rfl]
              have ht : f_isS g = (0, g_16) := by rw [f_isS, hsd, if_pos rfl]
              exact ⟨(by rw [ht]), hW.to (by rw [ht])⟩
            · refine lv_aload_n (pc := 42) hx hb dX3_isSound_42 rfl (lv_at hl 0 rfl) ?_
              refine lv_iconst (pc := 43) (v := 2) hx hb dX3_isSound_43 (by decide) ?_
              refine k_i (pc := 44) (k_S E hC hS hA hl.1 (c_X3_isCutSound l D tk N0 sa hAD H.size g_16 k (by omega) 2 ) kw_606 kw_607 kw_1 kw_608 (n := 2) (by decide +kernel) rfl ⟨⟨rfl, rfl⟩, ⟨by decide, by decide⟩, by decide, by decide⟩ rfl (Nat.le_of_ble_eq_true rfl) hW dX3_isSound_44) hS (fun q z w => absurd w (Nat.not_le.mpr z)) hn (fun r_21 H locs hR hz hk hS => ?_)
              have er_21 := hR
              have hW := hW.new hk
              refine lv_if_eq (pc := 47) (tgt := 58) hx hb dX3_isSound_47 (by decide) (fun c_23 => ?_) (fun c_23 => ?_)
              · refine lv_iconst (pc := 58) (v := 0) hx hb dX3_isSound_58 (by decide) ?_
                try rw [hQ]
                refine r_zret (pc := 59) E hr hlk hS (by decide) (by decide) rfl ?_ dX3_isSound_59
                have h1s : f_snd1 g1 k = (0, g_16) := by rw [f_snd1, ← er_10, if_neg c_13, ← eg_12, ← er_14, if_neg c_17, ← eg_16, ← er_18, if_neg c_20, ← er_21, if_pos c_23]
                have hsd : sdL 6 0 g = (0, g_16) := by rw [← hg9, hw9, sdL, h1s, if_pos rfl]
                have ht : f_isS g = (0, g_16) := by rw [f_isS, hsd, if_pos rfl]
                exact ⟨(by rw [ht]), hW.to (by rw [ht])⟩
              · refine lv_aload_n (pc := 50) hx hb dX3_isSound_50 rfl (lv_at hl 1 rfl) ?_
                refine lv_aload_n (pc := 51) hx hb dX3_isSound_51 rfl (lv_at hl 0 rfl) ?_
                refine k_i (pc := 52) (k_V E hC hS hA hl.1 (c1.recv hC hW.obj rfl) rfl (c_X3_isTreeSound l D tk N0 sa hAD H.size g_16 k (by omega) ) kw_609 kw_611 kp_4 kw_1 kw_612 (n := 1) (by decide +kernel) rfl ⟨⟨rfl, rfl⟩, ⟨by decide, by decide⟩, by decide, by decide⟩ rfl (Nat.le_of_ble_eq_true rfl) hW dX3_isSound_52) hS (fun q _ w => cwA.go hS.1 q w) hn (fun r_24 H locs hR hz hk hS => ?_)
                obtain ⟨er_24, hW⟩ := hR
                obtain ⟨g_26, eg_26⟩ : ∃ z, z = (f_tree g_16 k).2 := ⟨_, rfl⟩
                rw [← eg_26] at hW
                refine lv_if_ne (pc := 55) (tgt := 60) hx hb dX3_isSound_55 (by decide) (fun c_27 => ?_) (fun c_27 => ?_)
                · obtain ⟨x_28, ex_28⟩ : ∃ z9 : Int32, z9 = y9 + 1 := ⟨_, rfl⟩
                  refine lv_iinc (pc := 60) (v := x_28) (lv' := [(1, .int x_28), (2, .ref (ad k)), (0, .ref (ad 15))]) hx hb dX3_isSound_60 hl (k := 2) rfl (by rw [ex_28]; rfl) (by decide) rfl (fun ls hl => ?_)
                  refine lv_goto (pc := 63) (tgt := 2) hx hb dX3_isSound_63 (by decide) ?_
                  have h1s : f_snd1 g1 k = (1, g_26) := by rw [f_snd1, ← er_10, if_neg c_13, ← eg_12, ← er_14, if_neg c_17, ← eg_16, ← er_18, if_neg c_20, ← er_21, if_neg c_23, ← er_24, if_neg c_27, ← eg_26]
                  exact ih_2  (k + 1) g_26  x_28 (by omega) (by omega) (i_up hx9 ex_28) (by rw [← hg9, hw9, sdL, h1s, if_neg (show ¬ (1 : Int32) = 0 by decide)]) _ _ _ hS hW (lv_sub hl [2, 0] rfl)
                · refine lv_iconst (pc := 58) (v := 0) hx hb dX3_isSound_58 (by decide) ?_
                  try rw [hQ]
                  refine r_zret (pc := 59) E hr hlk hS (by decide) (by decide) rfl ?_ dX3_isSound_59
                  have h1s : f_snd1 g1 k = (0, g_26) := by rw [f_snd1, ← er_10, if_neg c_13, ← eg_12, ← er_14, if_neg c_17, ← eg_16, ← er_18, if_neg c_20, ← er_21, if_neg c_23, ← er_24, if_pos c_27, ← eg_26]
                  have hsd : sdL 6 0 g = (0, g_26) := by rw [← hg9, hw9, sdL, h1s, if_pos rfl]
                  have ht : f_isS g = (0, g_26) := by rw [f_isS, hsd, if_pos rfl]
                  exact ⟨(by rw [ht]), hW.to (by rw [ht])⟩
  exact loop_2 7 0 g  0 (by omega) (by omega) nI_0.symm rfl _ _ _ hS hW (lv_sub hl [1, 0] rfl)
set_option maxHeartbeats 4000000 in
set_option maxRecDepth 100000 in
/-- Bestratios.mixedWithPairs(J)J -/
theorem c_X3_mixedWithPairs (l : Launch) (D : va_G) (tk : Nat → ClassId) (N0 : Nat) (sa : Nat → Nat) {ad : Nat → Nat} (hAD : ADok N0 ad) (sz : Nat) (g : CS) (s0_ : Int64) : Met l yX3_mixedWithPairs (wsy yX3_mixedWithPairs cX3_mixedWithPairs 7 (some .long)) ({ frames := 2, cells := 0, slots := 0, locals := 44 } : Room) (cP D tk N0 sa [.ref (ad 15), .long s0_] sz (fun H => CW D tk ad g H)) (kQl (fun r H => r = f_mPairs g s0_) (nwA sz)) (0) (0) (nwA sz) := by
  refine mStart RX3 rfl (by decide +kernel) (Nat.le_of_ble_eq_true rfl) ?_
  intro p e s m args below meth c E hr hlk hnm hsz hC hF ls hl
  subst hsz
  obtain ⟨hx, hb, -⟩ := id E
  have hA : ∀ q, (nwA s.heap.size) q → N0 ≤ q := fun q h => Nat.le_trans hC.2.1 h
  have hn : ∀ q, s.heap.size ≤ q → (nwA s.heap.size) q := fun q h => h
  have hS : va_S (nwA s.heap.size) s.heap s.heap [] := va_S.rf
  have hl : lv_has ls 7 [(0, .ref (ad 15)), (1, .long s0_)] := hl
  obtain ⟨Q, hQ⟩ : ∃ Q, Q = MQ below (kQl (fun r H => r = f_mPairs g s0_) (nwA s.heap.size)) args s (0) (0) (nwA s.heap.size) := ⟨_, rfl⟩
  rw [← hQ]
  have hW : CW D tk ad g s.heap := hF
  refine lv_lload_n (pc := 0) hx hb dX3_mixedWithPairs_0 rfl (lv_at hl 1 rfl) ?_
  refine lv_lstore_n (pc := 1) (lv' := [(3, .long s0_), (0, .ref (ad 15)), (1, .long s0_)]) hx hb dX3_mixedWithPairs_1 rfl hl (by decide) rfl (fun ls hl => ?_)
  refine lv_iconst (pc := 2) (v := 0) hx hb dX3_mixedWithPairs_2 (by decide) ?_
  refine lv_istore (pc := 3) (lv' := [(5, .int 0), (3, .long s0_), (0, .ref (ad 15)), (1, .long s0_)]) hx hb dX3_mixedWithPairs_3 hl (by decide) rfl (fun ls hl => ?_)
  have loop_5 : ∀ (n : Nat) (k : Nat)(s9 : Int64) (y9 : Int32), 6 - k < n → k ≤ 6 → y9 = nI k → mpO g (6 - k) k s9 = f_mPairs g s0_ → ∀ (H : Heap) (locs : List Loc) (ls : Array Slot), va_S (nwA s.heap.size) s.heap H locs → CW D tk ad g H → lv_has ls 7 [(0, .ref (ad 15)), (1, .long s0_), (3, .long s9), (5, .int y9)] → W p l e ({ frames := 2, cells := 0, slots := 0, locals := 44 } : Room) s m args below meth c H locs (0) (0) Q (F0 m 5 ls []) := by
    intro n
    induction n with
    | zero =>
      intro k s9 y9 hf9 hk9 hx9 hg9 H locs ls hS hW hl
      omega
    | succ n ih_5 =>
      intro k s9 y9 hf9 hk9 hx9 hg9 H locs ls hS hW hl
      refine lv_iload (pc := 5) hx hb dX3_mixedWithPairs_5 (lv_at hl 3 rfl) ?_
      refine lv_aload_n (pc := 7) hx hb dX3_mixedWithPairs_7 rfl (lv_at hl 0 rfl) ?_
      refine r_get (pc := 8) E hC hW.obj 0 (v := .ref (ad 16)) rfl rfl (by decide) uX3 (List.mem_cons_of_mem _ kw_114) (fun _ h => h) dX3_mixedWithPairs_8 ?_
      refine r_alen (pc := 11) E hC hW.row 2 rfl (v := 6) rfl dX3_mixedWithPairs_11 ?_
      refine lv_icmp_ge (pc := 12) (tgt := 96) hx hb dX3_mixedWithPairs_12 (by decide) (fun c_1 => ?_) (fun c_1 => ?_)
      · refine lv_lload_n (pc := 96) hx hb dX3_mixedWithPairs_96 rfl (lv_at hl 2 rfl) ?_
        try rw [hQ]
        refine r_lret (pc := 97) E hr hlk hS (by decide) (by decide) ?_ dX3_mixedWithPairs_97
        have e0 : 6 - k = 0 := by have := (i_le (n := 6) hx9 (by decide) (by omega) (by decide)).mp c_1; omega
        rw [← hg9, e0]; rfl
      · have hlt9 : k < 6 := Nat.not_le.mp (fun z => c_1 ((i_le (n := 6) hx9 (by decide) (by omega) (by decide)).mpr z))
        have hw9 : 6 - k = (6 - (k + 1)) + 1 := by omega
        refine lv_iload (pc := 15) hx hb dX3_mixedWithPairs_15 (lv_at hl 3 rfl) ?_
        refine lv_iconst (pc := 17) (v := 1) hx hb dX3_mixedWithPairs_17 (by decide) ?_
        refine lv_iadd (pc := 18) hx hb dX3_mixedWithPairs_18 ?_
        obtain ⟨x_2, ex_2⟩ : ∃ z9 : Int32, z9 = y9 + 1 := ⟨_, rfl⟩
        rw [← ex_2]
        refine lv_istore (pc := 19) (lv' := [(6, .int x_2), (0, .ref (ad 15)), (1, .long s0_), (3, .long s9), (5, .int y9)]) hx hb dX3_mixedWithPairs_19 hl (by decide) rfl (fun ls hl => ?_)
        have loop_21 : ∀ (n : Nat) (b : Nat)(q9 : Int64) (w9 : Int32), 6 - b < n → k + 1 ≤ b ∧ b ≤ 6 → w9 = nI b → mpI g k (6 - b) b q9 = mpI g k (5 - k) (k + 1) s9 → ∀ (H : Heap) (locs : List Loc) (ls : Array Slot), va_S (nwA s.heap.size) s.heap H locs → CW D tk ad g H → lv_has ls 7 [(0, .ref (ad 15)), (1, .long s0_), (3, .long q9), (5, .int y9), (6, .int w9)] → W p l e ({ frames := 2, cells := 0, slots := 0, locals := 44 } : Room) s m args below meth c H locs (0) (0) Q (F0 m 21 ls []) := by
          intro n
          induction n with
          | zero =>
            intro b q9 w9 hf8 hk8 hx8 hg8 H locs ls hS hW hl
            omega
          | succ n ih_21 =>
            intro b q9 w9 hf8 hk8 hx8 hg8 H locs ls hS hW hl
            refine lv_iload (pc := 21) hx hb dX3_mixedWithPairs_21 (lv_at hl 4 rfl) ?_
            refine lv_aload_n (pc := 23) hx hb dX3_mixedWithPairs_23 rfl (lv_at hl 0 rfl) ?_
            refine r_get (pc := 24) E hC hW.obj 0 (v := .ref (ad 16)) rfl rfl (by decide) uX3 (List.mem_cons_of_mem _ kw_114) (fun _ h => h) dX3_mixedWithPairs_24 ?_
            refine r_alen (pc := 27) E hC hW.row 2 rfl (v := 6) rfl dX3_mixedWithPairs_27 ?_
            refine lv_icmp_ge (pc := 28) (tgt := 90) hx hb dX3_mixedWithPairs_28 (by decide) (fun c_3 => ?_) (fun c_3 => ?_)
            · obtain ⟨x_4, ex_4⟩ : ∃ z9 : Int32, z9 = y9 + 1 := ⟨_, rfl⟩
              refine lv_iinc (pc := 90) (v := x_4) (lv' := [(5, .int x_4), (0, .ref (ad 15)), (1, .long s0_), (3, .long q9), (6, .int w9)]) hx hb dX3_mixedWithPairs_90 hl (k := 3) rfl (by rw [ex_4]; rfl) (by decide) rfl (fun ls hl => ?_)
              refine lv_goto (pc := 93) (tgt := 5) hx hb dX3_mixedWithPairs_93 (by decide) ?_
              exact ih_5  (k + 1)  q9 x_4 (by omega) (by omega) (i_up hx9 ex_4) (by rw [← hg9, hw9, mpO, ← hg8, show 6 - b = 0 from by have := (i_le (n := 6) hx8 (by decide) (by omega) (by decide)).mp c_3; omega]; rfl) _ _ _ hS hW (lv_sub hl [1, 2, 3, 0] rfl)
            · have hlt8 : b < 6 := Nat.not_le.mp (fun z => c_3 ((i_le (n := 6) hx8 (by decide) (by omega) (by decide)).mpr z))
              have hw8 : 6 - b = (6 - (b + 1)) + 1 := by omega
              refine lv_lload_n (pc := 31) hx hb dX3_mixedWithPairs_31 rfl (lv_at hl 2 rfl) ?_
              refine lv_aload_n (pc := 32) hx hb dX3_mixedWithPairs_32 rfl (lv_at hl 0 rfl) ?_
              refine r_get (pc := 33) E hC hW.obj 0 (v := .ref (ad 16)) rfl rfl (by decide) uX3 (List.mem_cons_of_mem _ kw_114) (fun _ h => h) dX3_mixedWithPairs_33 ?_
              refine lv_iload (pc := 36) hx hb dX3_mixedWithPairs_36 (lv_at hl 3 rfl) ?_
              refine r_aald (pc := 38) E hC hW.row (i_in hx9 hlt9 (by decide)) dX3_mixedWithPairs_38 ?_
              rw [show (y9).toNatClampNeg = k from (i_cl hx9 (by omega))]
              refine lv_aload_n (pc := 39) hx hb dX3_mixedWithPairs_39 rfl (lv_at hl 0 rfl) ?_
              refine r_get (pc := 40) E hC hW.obj 0 (v := .ref (ad 16)) rfl rfl (by decide) uX3 (List.mem_cons_of_mem _ kw_114) (fun _ h => h) dX3_mixedWithPairs_40 ?_
              refine lv_iload (pc := 43) hx hb dX3_mixedWithPairs_43 (lv_at hl 4 rfl) ?_
              refine r_aald (pc := 45) E hC hW.row (i_in hx8 hlt8 (by decide)) dX3_mixedWithPairs_45 ?_
              rw [show (w9).toNatClampNeg = b from (i_cl hx8 (by omega))]
              refine k_i (pc := 46) (k_V E hC hS hA hl.1 (c1.recv hC (hW.fr (i := k) (by omega)) rfl) rfl (c_X0_compareWith l D tk N0 sa hAD H.size g k (by omega) b (by omega) ) kw_594 kw_595 kw_596 kw_2 kw_597 (n := 1) (by decide +kernel) rfl ⟨⟨rfl, rfl⟩, ⟨by decide, by decide⟩, by decide, by decide⟩ rfl (Nat.le_of_ble_eq_true rfl) hW dX3_mixedWithPairs_46) hS (fun q z w => absurd w (Nat.not_le.mpr z)) hn (fun r_5 H locs hR hz hk hS => ?_)
              have er_5 := hR
              have hW := hW.new hk
              refine lv_i2l (pc := 49) (v := r_5.toInt64) hx hb dX3_mixedWithPairs_49 rfl ?_
              refine k_l (pc := 50) (k_S E hC hS hA hl.1 (c_X3_mixed l D tk N0 sa H.size q9 r_5.toInt64 ) kw_682 kw_683 kw_1 kw_684 (n := 2) (by decide +kernel) rfl ⟨⟨rfl, rfl⟩, ⟨by decide, by decide⟩, by decide, by decide⟩ rfl (Nat.le_of_ble_eq_true rfl) trivial dX3_mixedWithPairs_50) hS (fun q z w => absurd w (Nat.not_le.mpr z)) hn (fun r_7 H locs hR hz hk hS => ?_)
              have er_7 := hR
              have hW := hW.new hk
              refine lv_lstore_n (pc := 53) (lv' := [(3, .long r_7), (0, .ref (ad 15)), (1, .long s0_), (5, .int y9), (6, .int w9)]) hx hb dX3_mixedWithPairs_53 rfl hl (by decide) rfl (fun ls hl => ?_)
              refine lv_lload_n (pc := 54) hx hb dX3_mixedWithPairs_54 rfl (lv_at hl 0 rfl) ?_
              refine lv_aload_n (pc := 55) hx hb dX3_mixedWithPairs_55 rfl (lv_at hl 1 rfl) ?_
              refine r_get (pc := 56) E hC hW.obj 0 (v := .ref (ad 16)) rfl rfl (by decide) uX3 (List.mem_cons_of_mem _ kw_114) (fun _ h => h) dX3_mixedWithPairs_56 ?_
              refine lv_iload (pc := 59) hx hb dX3_mixedWithPairs_59 (lv_at hl 3 rfl) ?_
              refine r_aald (pc := 61) E hC hW.row (i_in hx9 hlt9 (by decide)) dX3_mixedWithPairs_61 ?_
              rw [show (y9).toNatClampNeg = k from (i_cl hx9 (by omega))]
              refine lv_aload_n (pc := 62) hx hb dX3_mixedWithPairs_62 rfl (lv_at hl 1 rfl) ?_
              refine r_get (pc := 63) E hC hW.obj 0 (v := .ref (ad 16)) rfl rfl (by decide) uX3 (List.mem_cons_of_mem _ kw_114) (fun _ h => h) dX3_mixedWithPairs_63 ?_
              refine lv_iload (pc := 66) hx hb dX3_mixedWithPairs_66 (lv_at hl 4 rfl) ?_
              refine r_aald (pc := 68) E hC hW.row (i_in hx8 hlt8 (by decide)) dX3_mixedWithPairs_68 ?_
              rw [show (w9).toNatClampNeg = b from (i_cl hx8 (by omega))]
              refine k_i (pc := 69) (k_V E hC hS hA hl.1 (c1.recv hC (hW.fr (i := k) (by omega)) rfl) rfl (c_X0_isNextTo l D tk N0 sa hAD H.size g k (by omega) b (by omega) ) kw_601 kw_602 kw_603 kw_2 kw_604 (n := 1) (by decide +kernel) rfl ⟨⟨rfl, rfl⟩, ⟨by decide, by decide⟩, by decide, by decide⟩ rfl (Nat.le_of_ble_eq_true rfl) hW dX3_mixedWithPairs_69) hS (fun q z w => absurd w (Nat.not_le.mpr z)) hn (fun r_9 H locs hR hz hk hS => ?_)
              have er_9 := hR
              have hW := hW.new hk
              refine lv_if_eq (pc := 72) (tgt := 79) hx hb dX3_mixedWithPairs_72 (by decide) (fun c_11 => ?_) (fun c_11 => ?_)
              · refine lv_lconst (pc := 79) (v := 0) hx hb dX3_mixedWithPairs_79 (by decide) ?_
                refine k_l (pc := 80) (k_S E hC hS hA hl.1 (c_X3_mixed l D tk N0 sa H.size r_7 0 ) kw_682 kw_683 kw_1 kw_684 (n := 2) (by decide +kernel) rfl ⟨⟨rfl, rfl⟩, ⟨by decide, by decide⟩, by decide, by decide⟩ rfl (Nat.le_of_ble_eq_true rfl) trivial dX3_mixedWithPairs_80) hS (fun q z w => absurd w (Nat.not_le.mpr z)) hn (fun r_12 H locs hR hz hk hS => ?_)
                have er_12 := hR
                have hW := hW.new hk
                refine lv_lstore_n (pc := 83) (lv' := [(3, .long r_12), (0, .ref (ad 15)), (1, .long s0_), (5, .int y9), (6, .int w9)]) hx hb dX3_mixedWithPairs_83 rfl hl (by decide) rfl (fun ls hl => ?_)
                obtain ⟨x_14, ex_14⟩ : ∃ z9 : Int32, z9 = w9 + 1 := ⟨_, rfl⟩
                refine lv_iinc (pc := 84) (v := x_14) (lv' := [(6, .int x_14), (3, .long r_12), (0, .ref (ad 15)), (1, .long s0_), (5, .int y9)]) hx hb dX3_mixedWithPairs_84 hl (k := 4) rfl (by rw [ex_14]; rfl) (by decide) rfl (fun ls hl => ?_)
                refine lv_goto (pc := 87) (tgt := 21) hx hb dX3_mixedWithPairs_87 (by decide) ?_
                exact ih_21  (b + 1)  r_12 x_14 (by omega) (by omega) (i_up hx8 ex_14) (by rw [← hg8, hw8, mpI, er_12, er_7, er_5, f_cmpF, ← er_5, f_nextF, ← er_9, if_pos c_11]) _ _ _ hS hW (lv_sub hl [2, 3, 1, 4, 0] rfl)
              · refine lv_lconst (pc := 75) (v := 1) hx hb dX3_mixedWithPairs_75 (by decide) ?_
                refine lv_goto (pc := 76) (tgt := 80) hx hb dX3_mixedWithPairs_76 (by decide) ?_
                refine k_l (pc := 80) (k_S E hC hS hA hl.1 (c_X3_mixed l D tk N0 sa H.size r_7 1 ) kw_682 kw_683 kw_1 kw_684 (n := 2) (by decide +kernel) rfl ⟨⟨rfl, rfl⟩, ⟨by decide, by decide⟩, by decide, by decide⟩ rfl (Nat.le_of_ble_eq_true rfl) trivial dX3_mixedWithPairs_80) hS (fun q z w => absurd w (Nat.not_le.mpr z)) hn (fun r_15 H locs hR hz hk hS => ?_)
                have er_15 := hR
                have hW := hW.new hk
                refine lv_lstore_n (pc := 83) (lv' := [(3, .long r_15), (0, .ref (ad 15)), (1, .long s0_), (5, .int y9), (6, .int w9)]) hx hb dX3_mixedWithPairs_83 rfl hl (by decide) rfl (fun ls hl => ?_)
                obtain ⟨x_17, ex_17⟩ : ∃ z9 : Int32, z9 = w9 + 1 := ⟨_, rfl⟩
                refine lv_iinc (pc := 84) (v := x_17) (lv' := [(6, .int x_17), (3, .long r_15), (0, .ref (ad 15)), (1, .long s0_), (5, .int y9)]) hx hb dX3_mixedWithPairs_84 hl (k := 4) rfl (by rw [ex_17]; rfl) (by decide) rfl (fun ls hl => ?_)
                refine lv_goto (pc := 87) (tgt := 21) hx hb dX3_mixedWithPairs_87 (by decide) ?_
                exact ih_21  (b + 1)  r_15 x_17 (by omega) (by omega) (i_up hx8 ex_17) (by rw [← hg8, hw8, mpI, er_15, er_7, er_5, f_cmpF, ← er_5, f_nextF, ← er_9, if_neg c_11]) _ _ _ hS hW (lv_sub hl [2, 3, 1, 4, 0] rfl)
        exact loop_21 7 (k + 1)  s9 x_2 (by omega) (by omega) (i_up hx9 ex_2) (by rw [show 6 - (k + 1) = 5 - k from by omega]) _ _ _ hS hW (lv_sub hl [1, 2, 3, 4, 0] rfl)
  exact loop_5 7 0  s0_ 0 (by omega) (by omega) nI_0.symm rfl _ _ _ hS hW (lv_sub hl [2, 3, 1, 0] rfl)
