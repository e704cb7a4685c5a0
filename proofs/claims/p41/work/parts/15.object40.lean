set_option maxHeartbeats 4000000 in
set_option maxRecDepth 100000 in
/-- Bestratios.knock()I -/
theorem c_X3_knock (l : Launch) (D : va_G) (tk : Nat → ClassId) (N0 : Nat) (sa : Nat → Nat) {ad : Nat → Nat} (hAD : ADok N0 ad) (sz : Nat) (g : CS)  : Met l yX3_knock (wsy yX3_knock cX3_knock 1 (some .int)) ({ frames := 0, cells := 0, slots := 0, locals := 0 } : Room) (cP D tk N0 sa [.ref (ad 15)] sz (fun H => CW D tk ad g H)) (kQi (fun r H => r = tI g 1 + 1 ∧ CW D tk ad (uI g 1 (tI g 1 + 1)) H) (cwA ad sz)) (0) (0) (cwA ad sz) := by
  refine mStart RX3 rfl (by decide +kernel) (Nat.le_of_ble_eq_true rfl) ?_
  intro p e s m args below meth c E hr hlk hnm hsz hC hF ls hl
  subst hsz
  obtain ⟨hx, hb, -⟩ := id E
  have hA : ∀ q, (cwA ad s.heap.size) q → N0 ≤ q := cwA.ge hAD hC.2.1
  have hn : ∀ q, s.heap.size ≤ q → (cwA ad s.heap.size) q := fun q h => Or.inr h
  have hS : va_S (cwA ad s.heap.size) s.heap s.heap [] := va_S.rf
  have hl : lv_has ls 1 [(0, .ref (ad 15))] := hl
  have hW : CW D tk ad g s.heap := hF
  refine lv_aload_n (pc := 0) hx hb dX3_knock_0 rfl (lv_at hl 0 rfl) ?_
  refine lv_dup (pc := 1) hx hb dX3_knock_1 rfl ?_
  refine r_get (pc := 2) E hC hW.obj 4 (v := .int (tI g 1)) rfl rfl (by decide) uX3 (List.mem_cons_of_mem _ kw_118) (fun _ h => h) dX3_knock_2 ?_
  refine lv_iconst (pc := 5) (v := 1) hx hb dX3_knock_5 (by decide) ?_
  refine lv_iadd (pc := 6) hx hb dX3_knock_6 ?_
  refine r_put (pc := 7) E hC hW.obj hS (Or.inl ⟨15, by decide, rfl⟩) 4 tyX3 tyX3_ok nmX3 rfl (by decide) (Nat.le_of_ble_eq_true rfl) uX3 (List.mem_cons_of_mem _ kw_118) (fun _ h => h) rfl rfl rfl dX3_knock_7 (fun H locs h1 ho hz hS => ?_)
  have hW := hW.setO hAD (j := 1) (by decide) h1 ho
  obtain ⟨g_1, eg_1⟩ : ∃ z, z = uI g 1 ((tI g 1) + 1) := ⟨_, rfl⟩
  rw [← eg_1] at hW
  refine lv_aload_n (pc := 10) hx hb dX3_knock_10 rfl (lv_at hl 0 rfl) ?_
  refine r_get (pc := 11) E hC hW.obj 4 (v := .int (tI g_1 1)) rfl rfl (by decide) uX3 (List.mem_cons_of_mem _ kw_118) (fun _ h => h) dX3_knock_11 ?_
  refine r_iret (pc := 14) E hr hlk hS (by decide) (by decide) ?_ dX3_knock_14
  exact ⟨(by subst eg_1; first | with_reducible rfl | (simp [p_TB, p_TV, p_TC, p_TI, p_BT, p_BV, p_BC, p_BI, p_VT, p_VB, p_VC, p_VI, p_CT, p_CB, p_CV, p_CI, p_IT, p_IB, p_IV, p_IC, p_TT, p_BB, p_CC, p_II]; done) | rfl), hW.to (by subst eg_1; first | with_reducible rfl | (simp [p_TB, p_TV, p_TC, p_TI, p_BT, p_BV, p_BC, p_BI, p_VT, p_VB, p_VC, p_VI, p_CT, p_CB, p_CV, p_CI, p_IT, p_IB, p_IV, p_IC, p_TT, p_BB, p_CC, p_II]; done) | rfl)⟩

set_option maxHeartbeats 4000000 in
set_option maxRecDepth 100000 in
/-- Bestratios.wholeCount()I -/
theorem c_X3_wholeCount (l : Launch) (D : va_G) (tk : Nat → ClassId) (N0 : Nat) (sa : Nat → Nat) {ad : Nat → Nat} (hAD : ADok N0 ad) (sz : Nat) (g : CS)  : Met l yX3_wholeCount (wsy yX3_wholeCount cX3_wholeCount 3 (some .int)) ({ frames := 0, cells := 0, slots := 0, locals := 0 } : Room) (cP D tk N0 sa [.ref (ad 15)] sz (fun H => CW D tk ad g H)) (kQi (fun r H => r = f_whole g) (nwA sz)) (0) (0) (nwA sz) := by
  refine mStart RX3 rfl (by decide +kernel) (Nat.le_of_ble_eq_true rfl) ?_
  intro p e s m args below meth c E hr hlk hnm hsz hC hF ls hl
  subst hsz
  obtain ⟨hx, hb, -⟩ := id E
  have hA : ∀ q, (nwA s.heap.size) q → N0 ≤ q := fun q h => Nat.le_trans hC.2.1 h
  have hn : ∀ q, s.heap.size ≤ q → (nwA s.heap.size) q := fun q h => h
  have hS : va_S (nwA s.heap.size) s.heap s.heap [] := va_S.rf
  have hl : lv_has ls 3 [(0, .ref (ad 15))] := hl
  obtain ⟨Q, hQ⟩ : ∃ Q, Q = MQ below (kQi (fun r H => r = f_whole g) (nwA s.heap.size)) args s (0) (0) (nwA s.heap.size) := ⟨_, rfl⟩
  rw [← hQ]
  have hW : CW D tk ad g s.heap := hF
  refine lv_iconst (pc := 0) (v := 0) hx hb dX3_wholeCount_0 (by decide) ?_
  refine lv_istore_n (pc := 1) (lv' := [(1, .int 0), (0, .ref (ad 15))]) hx hb dX3_wholeCount_1 rfl hl (by decide) rfl (fun ls hl => ?_)
  refine lv_iconst (pc := 2) (v := 0) hx hb dX3_wholeCount_2 (by decide) ?_
  refine lv_istore_n (pc := 3) (lv' := [(2, .int 0), (1, .int 0), (0, .ref (ad 15))]) hx hb dX3_wholeCount_3 rfl hl (by decide) rfl (fun ls hl => ?_)
  have loop_4 : ∀ (n : Nat) (k : Nat)(a9 : Int32) (y9 : Int32), 6 - k < n → k ≤ 6 → y9 = nI k → whL g (6 - k) k a9 = f_whole g → ∀ (H : Heap) (locs : List Loc) (ls : Array Slot), va_S (nwA s.heap.size) s.heap H locs → CW D tk ad g H → lv_has ls 3 [(0, .ref (ad 15)), (1, .int a9), (2, .int y9)] → W p l e ({ frames := 0, cells := 0, slots := 0, locals := 0 } : Room) s m args below meth c H locs (0) (0) Q (F0 m 4 ls []) := by
    intro n
    induction n with
    | zero =>
      intro k a9 y9 hf9 hk9 hx9 hg9 H locs ls hS hW hl
      omega
    | succ n ih =>
      intro k a9 y9 hf9 hk9 hx9 hg9 H locs ls hS hW hl
      refine lv_iload_n (pc := 4) hx hb dX3_wholeCount_4 rfl (lv_at hl 2 rfl) ?_
      refine lv_aload_n (pc := 5) hx hb dX3_wholeCount_5 rfl (lv_at hl 0 rfl) ?_
      refine r_get (pc := 6) E hC hW.obj 0 (v := .ref (ad 16)) rfl rfl (by decide) uX3 (List.mem_cons_of_mem _ kw_114) (fun _ h => h) dX3_wholeCount_6 ?_
      refine r_alen (pc := 9) E hC hW.row 2 rfl (v := 6) rfl dX3_wholeCount_9 ?_
      refine lv_icmp_ge (pc := 10) (tgt := 36) hx hb dX3_wholeCount_10 (by decide) (fun c_1 => ?_) (fun c_1 => ?_)
      · refine lv_iload_n (pc := 36) hx hb dX3_wholeCount_36 rfl (lv_at hl 1 rfl) ?_
        try rw [hQ]
        refine r_iret (pc := 37) E hr hlk hS (by decide) (by decide) ?_ dX3_wholeCount_37
        rw [← hg9]
        have e0 : 6 - k = 0 := by have := (i_le (n := 6) hx9 (by decide) (by omega) (by decide)).mp c_1; omega
        (rw [e0]) <;> simp [whL]
      · have hlt9 : k < 6 := Nat.not_le.mp (fun z => c_1 ((i_le (n := 6) hx9 (by decide) (by omega) (by decide)).mpr z))
        have hw9 : 6 - k = (6 - (k + 1)) + 1 := by omega
        refine lv_aload_n (pc := 13) hx hb dX3_wholeCount_13 rfl (lv_at hl 0 rfl) ?_
        refine r_get (pc := 14) E hC hW.obj 0 (v := .ref (ad 16)) rfl rfl (by decide) uX3 (List.mem_cons_of_mem _ kw_114) (fun _ h => h) dX3_wholeCount_14 ?_
        refine lv_iload_n (pc := 17) hx hb dX3_wholeCount_17 rfl (lv_at hl 2 rfl) ?_
        refine r_aald (pc := 18) E hC hW.row (i_in hx9 hlt9 (by decide)) dX3_wholeCount_18 ?_
        rw [show (y9).toNatClampNeg = k from (i_cl hx9 (by omega))]
        refine r_getN (pc := 19) "Bestratios" E hC (hW.fr (i := k) (by omega)) 1 (v := .long (tB g k)) rfl rfl (by decide) uX0 kn_55 (fun _ h => h) dX3_wholeCount_19 ?_
        refine lv_lconst (pc := 22) (v := 1) hx hb dX3_wholeCount_22 (by decide) ?_
        refine r_lcne (pc := 23) (tgt := 30) E dX3_wholeCount_23 dX3_wholeCount_24 (by decide) (fun c_2 => ?_) (fun c_2 => ?_)
        · obtain ⟨x_3, ex_3⟩ : ∃ z9 : Int32, z9 = y9 + 1 := ⟨_, rfl⟩
          refine lv_iinc (pc := 30) (v := x_3) (lv' := [(2, .int x_3), (0, .ref (ad 15)), (1, .int a9)]) hx hb dX3_wholeCount_30 hl (k := 2) rfl (by rw [ex_3]; rfl) (by decide) rfl (fun ls hl => ?_)
          refine lv_goto (pc := 33) (tgt := 4) hx hb dX3_wholeCount_33 (by decide) ?_
          rw [hw9] at hg9
          exact ih  (k + 1)  a9 x_3 (by omega) (by omega) (i_up hx9 ex_3) (by rw [← hg9]; simp [whL, c_2]) _ _ _ hS hW (lv_sub hl [1, 2, 0] rfl)
        · obtain ⟨x_4, ex_4⟩ : ∃ z9 : Int32, z9 = a9 + 1 := ⟨_, rfl⟩
          refine lv_iinc (pc := 27) (v := x_4) (lv' := [(1, .int x_4), (0, .ref (ad 15)), (2, .int y9)]) hx hb dX3_wholeCount_27 hl (k := 1) rfl (by rw [ex_4]; rfl) (by decide) rfl (fun ls hl => ?_)
          obtain ⟨x_5, ex_5⟩ : ∃ z9 : Int32, z9 = y9 + 1 := ⟨_, rfl⟩
          refine lv_iinc (pc := 30) (v := x_5) (lv' := [(2, .int x_5), (1, .int x_4), (0, .ref (ad 15))]) hx hb dX3_wholeCount_30 hl (k := 2) rfl (by rw [ex_5]; rfl) (by decide) rfl (fun ls hl => ?_)
          refine lv_goto (pc := 33) (tgt := 4) hx hb dX3_wholeCount_33 (by decide) ?_
          rw [hw9] at hg9
          exact ih  (k + 1)  x_4 x_5 (by omega) (by omega) (i_up hx9 ex_5) (by rw [← hg9]; subst ex_4; simp [whL, c_2]) _ _ _ hS hW (lv_sub hl [2, 1, 0] rfl)
  exact loop_4 7 0  0 0 (by omega) (by omega) nI_0.symm rfl _ _ _ hS hW (lv_sub hl [2, 1, 0] rfl)

set_option maxHeartbeats 4000000 in
set_option maxRecDepth 100000 in
/-- Bestratios.countOf(I)I -/
theorem c_X3_countOf (l : Launch) (D : va_G) (tk : Nat → ClassId) (N0 : Nat) (sa : Nat → Nat) {ad : Nat → Nat} (hAD : ADok N0 ad) (sz : Nat) (g : CS) (w_ : Int32) : Met l yX3_countOf (wsy yX3_countOf cX3_countOf 2 (some .int)) ({ frames := 1, cells := 0, slots := 0, locals := 22 } : Room) (cP D tk N0 sa [.ref (ad 15), .int w_] sz (fun H => CW D tk ad g H)) (kQi (fun r H => r = f_cnt g w_) (nwA sz)) (0) (0) (nwA sz) := by
  refine mStart RX3 rfl (by decide +kernel) (Nat.le_of_ble_eq_true rfl) ?_
  intro p e s m args below meth c E hr hlk hnm hsz hC hF ls hl
  subst hsz
  obtain ⟨hx, hb, -⟩ := id E
  have hA : ∀ q, (nwA s.heap.size) q → N0 ≤ q := fun q h => Nat.le_trans hC.2.1 h
  have hn : ∀ q, s.heap.size ≤ q → (nwA s.heap.size) q := fun q h => h
  have hS : va_S (nwA s.heap.size) s.heap s.heap [] := va_S.rf
  have hl : lv_has ls 2 [(0, .ref (ad 15)), (1, .int w_)] := hl
  have hW : CW D tk ad g s.heap := hF
  refine lv_iload_n (pc := 0) hx hb dX3_countOf_0 rfl (lv_at hl 1 rfl) ?_
  by_cases c_1_0 : w_ = 0
  · refine lv_tableIn (pc := 1) (tgt := 32) hx hb dX3_countOf_1 (by rw [c_1_0]; decide) (by rw [c_1_0]; decide) (by rw [c_1_0]; rfl) (by decide) ?_
    refine lv_aload_n (pc := 32) hx hb dX3_countOf_32 rfl (lv_at hl 0 rfl) ?_
    refine k_i (pc := 33) (k_V E hC hS hA hl.1 (c1.recv hC hW.obj rfl) rfl (c_X3_wholeCount l D tk N0 sa hAD s.heap.size g  ) kw_678 kw_680 kp_9 kw_1 kw_681 (n := 0) (by decide +kernel) rfl ⟨⟨rfl, rfl⟩, ⟨by decide, by decide⟩, by decide, by decide⟩ rfl (Nat.le_of_ble_eq_true rfl) hW dX3_countOf_33) hS (fun q z w => absurd w (Nat.not_le.mpr z)) hn (fun r_2 H locs hR hz hk hS => ?_)
    have er_2 := hR
    have hW := hW.new hk
    refine r_iret (pc := 36) E hr hlk hS (by decide) (by decide) ?_ dX3_countOf_36
    subst er_2; first | with_reducible rfl | (simp [f_cnt, c_1_0, p_TB, p_TV, p_TC, p_TI, p_BT, p_BV, p_BC, p_BI, p_VT, p_VB, p_VC, p_VI, p_CT, p_CB, p_CV, p_CI, p_IT, p_IB, p_IV, p_IC, p_TT, p_BB, p_CC, p_II]; done)
  · skip
    by_cases c_1_1 : w_ = 1
    · refine lv_tableIn (pc := 1) (tgt := 37) hx hb dX3_countOf_1 (by rw [c_1_1]; decide) (by rw [c_1_1]; decide) (by rw [c_1_1]; rfl) (by decide) ?_
      refine lv_aload_n (pc := 37) hx hb dX3_countOf_37 rfl (lv_at hl 0 rfl) ?_
      refine r_get (pc := 38) E hC hW.obj 3 (v := .int (tI g 0)) rfl rfl (by decide) uX3 (List.mem_cons_of_mem _ kw_117) (fun _ h => h) dX3_countOf_38 ?_
      refine r_iret (pc := 41) E hr hlk hS (by decide) (by decide) ?_ dX3_countOf_41
      first | with_reducible rfl | (simp [f_cnt, c_1_1, p_TB, p_TV, p_TC, p_TI, p_BT, p_BV, p_BC, p_BI, p_VT, p_VB, p_VC, p_VI, p_CT, p_CB, p_CV, p_CI, p_IT, p_IB, p_IV, p_IC, p_TT, p_BB, p_CC, p_II]; done)
    · skip
      by_cases c_1_2 : w_ = 2
      · refine lv_tableIn (pc := 1) (tgt := 42) hx hb dX3_countOf_1 (by rw [c_1_2]; decide) (by rw [c_1_2]; decide) (by rw [c_1_2]; rfl) (by decide) ?_
        refine lv_aload_n (pc := 42) hx hb dX3_countOf_42 rfl (lv_at hl 0 rfl) ?_
        refine r_get (pc := 43) E hC hW.obj 4 (v := .int (tI g 1)) rfl rfl (by decide) uX3 (List.mem_cons_of_mem _ kw_118) (fun _ h => h) dX3_countOf_43 ?_
        refine r_iret (pc := 46) E hr hlk hS (by decide) (by decide) ?_ dX3_countOf_46
        first | with_reducible rfl | (simp [f_cnt, c_1_2, p_TB, p_TV, p_TC, p_TI, p_BT, p_BV, p_BC, p_BI, p_VT, p_VB, p_VC, p_VI, p_CT, p_CB, p_CV, p_CI, p_IT, p_IB, p_IV, p_IC, p_TT, p_BB, p_CC, p_II]; done)
      · skip
        by_cases c_1_3 : w_ = 3
        · refine lv_tableIn (pc := 1) (tgt := 47) hx hb dX3_countOf_1 (by rw [c_1_3]; decide) (by rw [c_1_3]; decide) (by rw [c_1_3]; rfl) (by decide) ?_
          refine lv_aload_n (pc := 47) hx hb dX3_countOf_47 rfl (lv_at hl 0 rfl) ?_
          refine r_get (pc := 48) E hC hW.obj 1 (v := .ref (ad 17)) rfl rfl (by decide) uX3 (List.mem_cons_of_mem _ kw_115) (fun _ h => h) dX3_countOf_48 ?_
          refine r_getN (pc := 51) "Bestratios" E hC (hW.tm (j := 0) (by decide)) 1 (v := .int (tC g 0)) rfl rfl (by decide) uX2 kn_69 (fun _ h => h) dX3_countOf_51 ?_
          refine r_iret (pc := 54) E hr hlk hS (by decide) (by decide) ?_ dX3_countOf_54
          first | with_reducible rfl | (simp [f_cnt, c_1_3, p_TB, p_TV, p_TC, p_TI, p_BT, p_BV, p_BC, p_BI, p_VT, p_VB, p_VC, p_VI, p_CT, p_CB, p_CV, p_CI, p_IT, p_IB, p_IV, p_IC, p_TT, p_BB, p_CC, p_II]; done)
        · skip
          refine lv_tableOut (pc := 1) (tgt := 55) hx hb dX3_countOf_1 (by have z0 := ne_ti (0) (0) (by decide) c_1_0; have z1 := ne_ti (1) (1) (by decide) c_1_1; have z2 := ne_ti (2) (2) (by decide) c_1_2; have z3 := ne_ti (3) (3) (by decide) c_1_3; omega) (by decide) ?_
          refine lv_aload_n (pc := 55) hx hb dX3_countOf_55 rfl (lv_at hl 0 rfl) ?_
          refine r_get (pc := 56) E hC hW.obj 2 (v := .ref (ad 21)) rfl rfl (by decide) uX3 (List.mem_cons_of_mem _ kw_116) (fun _ h => h) dX3_countOf_56 ?_
          refine r_getN (pc := 59) "Bestratios" E hC hW.tal 6 (v := .int (tI g 2)) rfl rfl (by decide) uX1 kn_94 (fun _ h => h) dX3_countOf_59 ?_
          refine r_iret (pc := 62) E hr hlk hS (by decide) (by decide) ?_ dX3_countOf_62
          first | with_reducible rfl | (simp [f_cnt, c_1_0, c_1_1, c_1_2, c_1_3, p_TB, p_TV, p_TC, p_TI, p_BT, p_BV, p_BC, p_BI, p_VT, p_VB, p_VC, p_VI, p_CT, p_CB, p_CV, p_CI, p_IT, p_IB, p_IV, p_IC, p_TT, p_BB, p_CC, p_II]; done)

set_option maxHeartbeats 4000000 in
set_option maxRecDepth 100000 in
/-- Bestratios.house(I)I -/
theorem c_X3_house (l : Launch) (hlst : l.stackTraces = false) (D : va_G) (tk : Nat → ClassId) (N0 : Nat) (sa : Nat → Nat) {ad : Nat → Nat} (hAD : ADok N0 ad) (sz : Nat) (g : CS) (w_ : Int32) : vx_Met l yX3_house (wsy yX3_house cX3_house 2 (some .int)) ({ frames := 7, cells := 1, slots := 6, locals := 112 } : Room) (cP D tk N0 sa [.ref (ad 15), .int w_] sz (fun H => CW D tk ad g H)) (kQi (fun r H => bW w_ 0 4 = 0 ∧ r = f_cnt g w_) (nwA sz)) (kX (fun E => (E = "java/lang/IllegalArgumentException" ∧ bW w_ 0 4 = 1)) sz) (1) (6) (nwA sz) := by
  refine mStartX RX3 rfl (by decide +kernel) (Nat.le_of_ble_eq_true rfl) ?_
  intro p e s m args below meth c E hr hlk htb hsz hC hF ls hl
  subst hsz
  obtain ⟨hx, hb, -⟩ := id E
  have hA : ∀ q, (nwA s.heap.size) q → N0 ≤ q := fun q h => Nat.le_trans hC.2.1 h
  have hn : ∀ q, s.heap.size ≤ q → (nwA s.heap.size) q := fun q h => h
  have hS : va_S (nwA s.heap.size) s.heap s.heap [] := va_S.rf
  have hU : ∀ q, q < s.heap.size → s.heap[q]? = s.heap[q]? := fun _ _ => rfl
  have hl : lv_has ls 2 [(0, .ref (ad 15)), (1, .int w_)] := hl
  have hW : CW D tk ad g s.heap := hF
  refine lv_iload_n (pc := 0) hx hb dX3_house_0 rfl (lv_at hl 1 rfl) ?_
  refine lv_iconst (pc := 1) (v := 0) hx hb dX3_house_1 (by decide) ?_
  refine lv_iconst (pc := 2) (v := 4) hx hb dX3_house_2 (by decide) ?_
  have hZ := hS.1
  refine kx_v (pc := 3) (kx_S E hC hS hA hl.1 (c_X3_requireWithin l hlst D tk N0 sa s.heap.size w_ 0 4 ) kw_851 kw_852 kw_1 kw_853 (n := 3) (by decide +kernel) rfl ⟨⟨rfl, rfl⟩, ⟨by decide, by decide⟩, by decide, by decide⟩ rfl (Nat.le_of_ble_eq_true rfl) trivial dX3_house_3) hS (fun q z w => absurd w (Nat.not_le.mpr z)) hn hlk htb hU (fun E9 h9 => by rcases h9 with ⟨rfl, h9⟩ <;> first | (simp [h9]; done) | (simp [xo, h9]; done)) ⟨by decide, by decide⟩ (fun H locs hR hz hk hS => ?_)
  have hU := fun q (hq : q < s.heap.size) => (hk q (Nat.lt_of_lt_of_le hq hZ) (Nat.not_le.mpr (Nat.lt_of_lt_of_le hq hZ))).trans (hU q hq)
  have ek_2 := hR
  have hW := hW.new hk
  refine lv_aload_n (pc := 6) hx hb dX3_house_6 rfl (lv_at hl 0 rfl) ?_
  refine lv_iload_n (pc := 7) hx hb dX3_house_7 rfl (lv_at hl 1 rfl) ?_
  have hZ := hS.1
  refine k_i (pc := 8) (k_V E hC hS hA hl.1 (c1.recv hC hW.obj rfl) rfl (c_X3_countOf l D tk N0 sa hAD H.size g w_ ) kw_674 kw_676 kp_8 kw_1 kw_677 (n := 1) (by decide +kernel) rfl ⟨⟨rfl, rfl⟩, ⟨by decide, by decide⟩, by decide, by decide⟩ rfl (Nat.le_of_ble_eq_true rfl) hW dX3_house_8) hS (fun q z w => absurd w (Nat.not_le.mpr z)) hn (fun r_3 H locs hR hz hk hS => ?_)
  have hU := fun q (hq : q < s.heap.size) => (hk q (Nat.lt_of_lt_of_le hq hZ) (Nat.not_le.mpr (Nat.lt_of_lt_of_le hq hZ))).trans (hU q hq)
  have er_3 := hR
  have hW := hW.new hk
  refine vx_ret ?_
  refine r_iret (pc := 11) E hr hlk hS (by decide) (by decide) ?_ dX3_house_11
  exact ⟨(by subst er_3; first | assumption | (simp [xo, ek_2]; done)), (by subst er_3; first | with_reducible rfl | (simp [p_TB, p_TV, p_TC, p_TI, p_BT, p_BV, p_BC, p_BI, p_VT, p_VB, p_VC, p_VI, p_CT, p_CB, p_CV, p_CI, p_IT, p_IB, p_IV, p_IC, p_TT, p_BB, p_CC, p_II]; done) | rfl)⟩
