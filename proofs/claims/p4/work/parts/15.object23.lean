set_option maxHeartbeats 4000000 in
set_option maxRecDepth 100000 in
/-- Bestratios.say(I)I -/
theorem c_X3_say (l : Launch) (hlst : l.stackTraces = false) (D : va_G) (tk : Nat → ClassId) (N0 : Nat) (sa : Nat → Nat) {ad : Nat → Nat} (hAD : ADok N0 ad) (sz : Nat) (g : CS) (x_ : Int32) : vx_Met l yX3_say (wsy yX3_say cX3_say 2 (some .int)) ({ frames := 7, cells := 2, slots := 12, locals := 112 } : Room) (cP D tk N0 sa [.ref (ad 15), .int x_] sz (fun H => CW D tk ad g H)) (kQi (fun r H => xo (bW x_ (-99999) 99999) (if tC g 0 < 16 then 0 else 2) = 0 ∧ r = tC (f_addLast g 0 x_.toInt64) 0 ∧ CW D tk ad (f_addLast g 0 x_.toInt64) H) (cwA ad sz)) (kX (fun E => (E = "java/lang/IllegalArgumentException" ∧ xo (bW x_ (-99999) 99999) (if tC g 0 < 16 then 0 else 2) = 1) ∨ (E = "java/lang/IllegalStateException" ∧ xo (bW x_ (-99999) 99999) (if tC g 0 < 16 then 0 else 2) = 2)) sz) (2) (12) (cwA ad sz) := by
  refine mStartX RX3 rfl (by decide +kernel) (Nat.le_of_ble_eq_true rfl) ?_
  intro p e s m args below meth c E hr hlk htb hsz hC hF ls hl
  subst hsz
  obtain ⟨hx, hb, -⟩ := id E
  have hA : ∀ q, (cwA ad s.heap.size) q → N0 ≤ q := cwA.ge hAD hC.2.1
  have hn : ∀ q, s.heap.size ≤ q → (cwA ad s.heap.size) q := fun q h => Or.inr h
  have hS : va_S (cwA ad s.heap.size) s.heap s.heap [] := va_S.rf
  have hU : ∀ q, q < s.heap.size → s.heap[q]? = s.heap[q]? := fun _ _ => rfl
  have hl : lv_has ls 2 [(0, .ref (ad 15)), (1, .int x_)] := hl
  have hW : CW D tk ad g s.heap := hF
  refine lv_iload_n (pc := 0) hx hb dX3_say_0 rfl (lv_at hl 1 rfl) ?_
  refine lv_ldc (pc := 1) (v := (-99999)) hx hb E.2.2.2.1 (E.2.2.2.2 _ (List.mem_cons_of_mem _ kw_1010)) dX3_say_1 ?_
  refine lv_ldc (pc := 3) (v := 99999) hx hb E.2.2.2.1 (E.2.2.2.2 _ (List.mem_cons_of_mem _ kw_1011)) dX3_say_3 ?_
  have hZ := hS.1
  refine kx_v (pc := 5) (kx_S E hC hS hA hl.1 (c_X3_requireWithin l hlst D tk N0 sa s.heap.size x_ ((-99999)) 99999 ) kw_851 kw_852 kw_1 kw_853 (n := 3) (by decide +kernel) rfl ⟨⟨rfl, rfl⟩, ⟨by decide, by decide⟩, by decide, by decide⟩ rfl (Nat.le_of_ble_eq_true rfl) trivial dX3_say_5) hS (fun q z w => absurd w (Nat.not_le.mpr z)) hn hlk htb hU (fun E9 h9 => by rcases h9 with ⟨rfl, h9⟩ <;> first | (simp [h9]; done) | (simp [xo, h9]; done)) ⟨by decide, by decide⟩ (fun H locs hR hz hk hS => ?_)
  have hU := fun q (hq : q < s.heap.size) => (hk q (Nat.lt_of_lt_of_le hq hZ) (Nat.not_le.mpr (Nat.lt_of_lt_of_le hq hZ))).trans (hU q hq)
  have ek_2 := hR
  have hW := hW.new hk
  refine lv_aload_n (pc := 8) hx hb dX3_say_8 rfl (lv_at hl 0 rfl) ?_
  refine r_get (pc := 9) E hC hW.obj 1 (v := .ref (ad 17)) rfl rfl (by decide) uX3 (List.mem_cons_of_mem _ kw_115) (fun _ h => h) dX3_say_9 ?_
  refine r_getN (pc := 12) "Bestratios" E hC (hW.tm (j := 0) (by decide)) 1 (v := .int (tC g 0)) rfl rfl (by decide) uX2 kn_69 (fun _ h => h) dX3_say_12 ?_
  refine lv_bipush (pc := 15) (v := 16) hx hb dX3_say_15 (by decide) ?_
  refine lv_icmp_lt (pc := 17) (tgt := 30) hx hb dX3_say_17 (by decide) (fun c_3 => ?_) (fun c_3 => ?_)
  · refine lv_aload_n (pc := 30) hx hb dX3_say_30 rfl (lv_at hl 0 rfl) ?_
    refine r_get (pc := 31) E hC hW.obj 1 (v := .ref (ad 17)) rfl rfl (by decide) uX3 (List.mem_cons_of_mem _ kw_115) (fun _ h => h) dX3_say_31 ?_
    refine lv_iload_n (pc := 34) hx hb dX3_say_34 rfl (lv_at hl 1 rfl) ?_
    refine lv_i2l (pc := 35) (v := x_.toInt64) hx hb dX3_say_35 rfl ?_
    refine k_v (pc := 36) (k_V E hC hS hA hl.1 (c1.recv hC (hW.tm (j := 0) (by decide)) rfl) rfl (c_X2_addLast l D tk N0 sa hAD H.size g 0 (by decide) x_.toInt64 ) kw_626 kw_569 kw_570 kw_3 kw_571 (n := 1) (by decide +kernel) rfl ⟨⟨rfl, rfl⟩, ⟨by decide, by decide⟩, by decide, by decide⟩ rfl (Nat.le_of_ble_eq_true rfl) hW dX3_say_36) hS (fun q _ w => cwA.go hS.1 q w) hn (fun H locs hR hz hk hS => ?_)
    have hW := hR
    obtain ⟨g_6, eg_6⟩ : ∃ z, z = f_addLast g 0 x_.toInt64 := ⟨_, rfl⟩
    rw [← eg_6] at hW
    refine lv_aload_n (pc := 39) hx hb dX3_say_39 rfl (lv_at hl 0 rfl) ?_
    refine r_get (pc := 40) E hC hW.obj 1 (v := .ref (ad 17)) rfl rfl (by decide) uX3 (List.mem_cons_of_mem _ kw_115) (fun _ h => h) dX3_say_40 ?_
    refine r_getN (pc := 43) "Bestratios" E hC (hW.tm (j := 0) (by decide)) 1 (v := .int (tC g_6 0)) rfl rfl (by decide) uX2 kn_69 (fun _ h => h) dX3_say_43 ?_
    refine vx_ret ?_
    refine r_iret (pc := 46) E hr hlk hS (by decide) (by decide) ?_ dX3_say_46
    exact ⟨(by subst eg_6; first | assumption | (simp [xo, ek_2, c_3, Int32.not_le.mpr c_3]; done)), (by subst eg_6; first | with_reducible rfl | (simp [c_3, Int32.not_le.mpr c_3, p_TB, p_TV, p_TC, p_TI, p_BT, p_BV, p_BC, p_BI, p_VT, p_VB, p_VC, p_VI, p_CT, p_CB, p_CV, p_CI, p_IT, p_IB, p_IV, p_IC, p_TT, p_BB, p_CC, p_II]; done)), hW.to (by subst eg_6; first | with_reducible rfl | (simp [c_3, Int32.not_le.mpr c_3, p_TB, p_TV, p_TC, p_TI, p_BT, p_BV, p_BC, p_BI, p_VT, p_VB, p_VC, p_VI, p_CT, p_CB, p_CV, p_CI, p_IT, p_IB, p_IV, p_IC, p_TT, p_BB, p_CC, p_II]; done))⟩
  · exact r_throwS (pc := 20) 5 hlst E hC hS hA hl.1 hlk htb hU rfl (by decide +kernel) kw_1012 kw_31 at_RX3_159 dX3_say_20 dX3_say_23 dX3_say_24 dX3_say_26 dX3_say_29 (by decide) (Nat.le_of_ble_eq_true rfl) (by decide) (by decide) (by simp [xo, ek_2, c_3]) (by decide) (by decide)
set_option maxHeartbeats 4000000 in
set_option maxRecDepth 100000 in
/-- Bestratios.unsay(I)I -/
theorem c_X3_unsay (l : Launch) (hlst : l.stackTraces = false) (D : va_G) (tk : Nat → ClassId) (N0 : Nat) (sa : Nat → Nat) {ad : Nat → Nat} (hAD : ADok N0 ad) (sz : Nat) (g : CS) (x_ : Int32) : vx_Met l yX3_unsay (wsy yX3_unsay cX3_unsay 2 (some .int)) ({ frames := 7, cells := 1, slots := 6, locals := 112 } : Room) (cP D tk N0 sa [.ref (ad 15), .int x_] sz (fun H => CW D tk ad g H)) (kQi (fun r H => bW x_ 0 16 = 0 ∧ r = tC (f_uns g x_) 0 ∧ CW D tk ad (f_uns g x_) H) (cwA ad sz)) (kX (fun E => (E = "java/lang/IllegalArgumentException" ∧ bW x_ 0 16 = 1)) sz) (1) (6) (cwA ad sz) := by
  refine mStartX RX3 rfl (by decide +kernel) (Nat.le_of_ble_eq_true rfl) ?_
  intro p e s m args below meth c E hr hlk htb hsz hC hF ls hl
  subst hsz
  obtain ⟨hx, hb, -⟩ := id E
  have hA : ∀ q, (cwA ad s.heap.size) q → N0 ≤ q := cwA.ge hAD hC.2.1
  have hn : ∀ q, s.heap.size ≤ q → (cwA ad s.heap.size) q := fun q h => Or.inr h
  have hS : va_S (cwA ad s.heap.size) s.heap s.heap [] := va_S.rf
  have hU : ∀ q, q < s.heap.size → s.heap[q]? = s.heap[q]? := fun _ _ => rfl
  have hl : lv_has ls 2 [(0, .ref (ad 15)), (1, .int x_)] := hl
  have hW : CW D tk ad g s.heap := hF
  refine lv_iload_n (pc := 0) hx hb dX3_unsay_0 rfl (lv_at hl 1 rfl) ?_
  refine lv_iconst (pc := 1) (v := 0) hx hb dX3_unsay_1 (by decide) ?_
  refine lv_bipush (pc := 2) (v := 16) hx hb dX3_unsay_2 (by decide) ?_
  have hZ := hS.1
  refine kx_v (pc := 4) (kx_S E hC hS hA hl.1 (c_X3_requireWithin l hlst D tk N0 sa s.heap.size x_ 0 16 ) kw_851 kw_852 kw_1 kw_853 (n := 3) (by decide +kernel) rfl ⟨⟨rfl, rfl⟩, ⟨by decide, by decide⟩, by decide, by decide⟩ rfl (Nat.le_of_ble_eq_true rfl) trivial dX3_unsay_4) hS (fun q z w => absurd w (Nat.not_le.mpr z)) hn hlk htb hU (fun E9 h9 => by rcases h9 with ⟨rfl, h9⟩ <;> first | (simp [h9]; done) | (simp [xo, h9]; done)) ⟨by decide, by decide⟩ (fun H locs hR hz hk hS => ?_)
  have hU := fun q (hq : q < s.heap.size) => (hk q (Nat.lt_of_lt_of_le hq hZ) (Nat.not_le.mpr (Nat.lt_of_lt_of_le hq hZ))).trans (hU q hq)
  have ek_2 := hR
  have hW := hW.new hk
  refine lv_aload_n (pc := 7) hx hb dX3_unsay_7 rfl (lv_at hl 0 rfl) ?_
  refine r_get (pc := 8) E hC hW.obj 1 (v := .ref (ad 17)) rfl rfl (by decide) uX3 (List.mem_cons_of_mem _ kw_115) (fun _ h => h) dX3_unsay_8 ?_
  refine lv_iload_n (pc := 11) hx hb dX3_unsay_11 rfl (lv_at hl 1 rfl) ?_
  refine lv_aload_n (pc := 12) hx hb dX3_unsay_12 rfl (lv_at hl 0 rfl) ?_
  refine r_get (pc := 13) E hC hW.obj 1 (v := .ref (ad 17)) rfl rfl (by decide) uX3 (List.mem_cons_of_mem _ kw_115) (fun _ h => h) dX3_unsay_13 ?_
  refine r_getN (pc := 16) "Bestratios" E hC (hW.tm (j := 0) (by decide)) 1 (v := .int (tC g 0)) rfl rfl (by decide) uX2 kn_69 (fun _ h => h) dX3_unsay_16 ?_
  refine lv_icmp_ge (pc := 19) (tgt := 34) hx hb dX3_unsay_19 (by decide) (fun c_3 => ?_) (fun c_3 => ?_)
  · refine lv_iconst (pc := 34) (v := 0) hx hb dX3_unsay_34 (by decide) ?_
    refine k_v (pc := 35) (k_V E hC hS hA hl.1 (c1.recv hC (hW.tm (j := 0) (by decide)) rfl) rfl (c_X2_keepFirst l D tk N0 sa hAD H.size g 0 (by decide) 0 ) kw_998 kw_999 kw_1000 kw_3 kw_1001 (n := 1) (by decide +kernel) rfl ⟨⟨rfl, rfl⟩, ⟨by decide, by decide⟩, by decide, by decide⟩ rfl (Nat.le_of_ble_eq_true rfl) hW dX3_unsay_35) hS (fun q _ w => cwA.go hS.1 q w) hn (fun H locs hR hz hk hS => ?_)
    have hW := hR
    obtain ⟨g_6, eg_6⟩ : ∃ z, z = f_keep g 0 0 := ⟨_, rfl⟩
    rw [← eg_6] at hW
    refine lv_aload_n (pc := 38) hx hb dX3_unsay_38 rfl (lv_at hl 0 rfl) ?_
    refine r_get (pc := 39) E hC hW.obj 1 (v := .ref (ad 17)) rfl rfl (by decide) uX3 (List.mem_cons_of_mem _ kw_115) (fun _ h => h) dX3_unsay_39 ?_
    refine r_getN (pc := 42) "Bestratios" E hC (hW.tm (j := 0) (by decide)) 1 (v := .int (tC g_6 0)) rfl rfl (by decide) uX2 kn_69 (fun _ h => h) dX3_unsay_42 ?_
    refine vx_ret ?_
    refine r_iret (pc := 45) E hr hlk hS (by decide) (by decide) ?_ dX3_unsay_45
    exact ⟨(by subst eg_6; first | assumption | (simp [xo, ek_2, c_3, Int32.not_lt.mpr c_3]; done)), (by subst eg_6; first | with_reducible rfl | (simp [f_uns, c_3, Int32.not_lt.mpr c_3, p_TB, p_TV, p_TC, p_TI, p_BT, p_BV, p_BC, p_BI, p_VT, p_VB, p_VC, p_VI, p_CT, p_CB, p_CV, p_CI, p_IT, p_IB, p_IV, p_IC, p_TT, p_BB, p_CC, p_II]; done)), hW.to (by subst eg_6; first | with_reducible rfl | (simp [f_uns, c_3, Int32.not_lt.mpr c_3, p_TB, p_TV, p_TC, p_TI, p_BT, p_BV, p_BC, p_BI, p_VT, p_VB, p_VC, p_VI, p_CT, p_CB, p_CV, p_CI, p_IT, p_IB, p_IV, p_IC, p_TT, p_BB, p_CC, p_II]; done))⟩
  · refine lv_aload_n (pc := 22) hx hb dX3_unsay_22 rfl (lv_at hl 0 rfl) ?_
    refine r_get (pc := 23) E hC hW.obj 1 (v := .ref (ad 17)) rfl rfl (by decide) uX3 (List.mem_cons_of_mem _ kw_115) (fun _ h => h) dX3_unsay_23 ?_
    refine r_getN (pc := 26) "Bestratios" E hC (hW.tm (j := 0) (by decide)) 1 (v := .int (tC g 0)) rfl rfl (by decide) uX2 kn_69 (fun _ h => h) dX3_unsay_26 ?_
    refine lv_iload_n (pc := 29) hx hb dX3_unsay_29 rfl (lv_at hl 1 rfl) ?_
    refine lv_isub (pc := 30) hx hb dX3_unsay_30 ?_
    refine lv_goto (pc := 31) (tgt := 35) hx hb dX3_unsay_31 (by decide) ?_
    refine k_v (pc := 35) (k_V E hC hS hA hl.1 (c1.recv hC (hW.tm (j := 0) (by decide)) rfl) rfl (c_X2_keepFirst l D tk N0 sa hAD H.size g 0 (by decide) ((tC g 0) - x_) ) kw_998 kw_999 kw_1000 kw_3 kw_1001 (n := 1) (by decide +kernel) rfl ⟨⟨rfl, rfl⟩, ⟨by decide, by decide⟩, by decide, by decide⟩ rfl (Nat.le_of_ble_eq_true rfl) hW dX3_unsay_35) hS (fun q _ w => cwA.go hS.1 q w) hn (fun H locs hR hz hk hS => ?_)
    have hW := hR
    obtain ⟨g_9, eg_9⟩ : ∃ z, z = f_keep g 0 ((tC g 0) - x_) := ⟨_, rfl⟩
    rw [← eg_9] at hW
    refine lv_aload_n (pc := 38) hx hb dX3_unsay_38 rfl (lv_at hl 0 rfl) ?_
    refine r_get (pc := 39) E hC hW.obj 1 (v := .ref (ad 17)) rfl rfl (by decide) uX3 (List.mem_cons_of_mem _ kw_115) (fun _ h => h) dX3_unsay_39 ?_
    refine r_getN (pc := 42) "Bestratios" E hC (hW.tm (j := 0) (by decide)) 1 (v := .int (tC g_9 0)) rfl rfl (by decide) uX2 kn_69 (fun _ h => h) dX3_unsay_42 ?_
    refine vx_ret ?_
    refine r_iret (pc := 45) E hr hlk hS (by decide) (by decide) ?_ dX3_unsay_45
    exact ⟨(by subst eg_9; first | assumption | (simp [xo, ek_2, c_3, Int32.not_le.mp c_3]; done)), (by subst eg_9; first | with_reducible rfl | (simp [f_uns, c_3, Int32.not_le.mp c_3, p_TB, p_TV, p_TC, p_TI, p_BT, p_BV, p_BC, p_BI, p_VT, p_VB, p_VC, p_VI, p_CT, p_CB, p_CV, p_CI, p_IT, p_IB, p_IV, p_IC, p_TT, p_BB, p_CC, p_II]; done)), hW.to (by subst eg_9; first | with_reducible rfl | (simp [f_uns, c_3, Int32.not_le.mp c_3, p_TB, p_TV, p_TC, p_TI, p_BT, p_BV, p_BC, p_BI, p_VT, p_VB, p_VC, p_VI, p_CT, p_CB, p_CV, p_CI, p_IT, p_IB, p_IV, p_IC, p_TT, p_BB, p_CC, p_II]; done))⟩
set_option maxHeartbeats 4000000 in
set_option maxRecDepth 100000 in
/-- Bestratios.fold(I)I -/
theorem c_X3_fold (l : Launch) (hlst : l.stackTraces = false) (D : va_G) (tk : Nat → ClassId) (N0 : Nat) (sa : Nat → Nat) {ad : Nat → Nat} (hAD : ADok N0 ad) (sz : Nat) (g : CS) (r_ : Int32) : vx_Met l yX3_fold (wsy yX3_fold cX3_fold 3 (some .int)) ({ frames := 7, cells := 1, slots := 6, locals := 111 } : Room) (cP D tk N0 sa [.ref (ad 15), .int r_] sz (fun H => CW D tk ad g H)) (kQi (fun r H => bR r_ = 0 ∧ r = f_fsR g 0 (nn r_) ∧ CW D tk ad (f_fsW g 0 (nn r_)) H) (cwA ad sz)) (kX (fun E => (E = "java/lang/IndexOutOfBoundsException" ∧ bR r_ = 1)) sz) (1) (6) (cwA ad sz) := by
  refine mStartX RX3 rfl (by decide +kernel) (Nat.le_of_ble_eq_true rfl) ?_
  intro p e s m args below meth c E hr hlk htb hsz hC hF ls hl
  subst hsz
  obtain ⟨hx, hb, -⟩ := id E
  have hA : ∀ q, (cwA ad s.heap.size) q → N0 ≤ q := cwA.ge hAD hC.2.1
  have hn : ∀ q, s.heap.size ≤ q → (cwA ad s.heap.size) q := fun q h => Or.inr h
  have hS : va_S (cwA ad s.heap.size) s.heap s.heap [] := va_S.rf
  have hU : ∀ q, q < s.heap.size → s.heap[q]? = s.heap[q]? := fun _ _ => rfl
  have hl : lv_has ls 3 [(0, .ref (ad 15)), (1, .int r_)] := hl
  have hW : CW D tk ad g s.heap := hF
  refine lv_aload_n (pc := 0) hx hb dX3_fold_0 rfl (lv_at hl 0 rfl) ?_
  refine lv_iload_n (pc := 1) hx hb dX3_fold_1 rfl (lv_at hl 1 rfl) ?_
  have hZ := hS.1
  refine kx_r (pc := 2) (kx_V E hC hS hA hl.1 (c1.recv hC hW.obj rfl) rfl (c_X3_ratioAt l hlst D tk N0 sa hAD s.heap.size g r_ ) kw_809 kw_811 kp_15 kw_1 kw_812 (n := 1) (by decide +kernel) rfl ⟨⟨rfl, rfl⟩, ⟨by decide, by decide⟩, by decide, by decide⟩ rfl (Nat.le_of_ble_eq_true rfl) hW dX3_fold_2) hS (fun q z w => absurd w (Nat.not_le.mpr z)) hn hlk htb hU (fun E9 h9 => by rcases h9 with ⟨rfl, h9⟩ <;> first | (simp [h9]; done) | (simp [xo, h9]; done)) ⟨by decide, by decide⟩ (fun r_1 H locs hR hz hk hS => ?_)
  have hU := fun q (hq : q < s.heap.size) => (hk q (Nat.lt_of_lt_of_le hq hZ) (Nat.not_le.mpr (Nat.lt_of_lt_of_le hq hZ))).trans (hU q hq)
  obtain ⟨ek_2, er_1⟩ := hR
  have hW := hW.new hk
  have hi_3 : nn r_ < 15 := Nat.lt_of_lt_of_le (bR_lt ek_2) (by decide)
  subst er_1
  refine lv_astore_n (pc := 5) (lv' := [(2, .ref (ad (nn r_))), (0, .ref (ad 15)), (1, .int r_)]) hx hb dX3_fold_5 rfl hl (by decide) rfl (fun ls hl => ?_)
  refine lv_aload_n (pc := 6) hx hb dX3_fold_6 rfl (lv_at hl 1 rfl) ?_
  refine r_get (pc := 7) E hC hW.obj 1 (v := .ref (ad 17)) rfl rfl (by decide) uX3 (List.mem_cons_of_mem _ kw_115) (fun _ h => h) dX3_fold_7 ?_
  refine lv_aload_n (pc := 10) hx hb dX3_fold_10 rfl (lv_at hl 1 rfl) ?_
  refine r_get (pc := 11) E hC hW.obj 5 (v := .ref (ad 6)) rfl rfl (by decide) uX3 (List.mem_cons_of_mem _ kw_119) (fun _ h => h) dX3_fold_11 ?_
  refine k_i (pc := 14) (k_V E hC hS hA hl.1 (c1.recv hC (hW.tm (j := 0) (by decide)) rfl) rfl (c_X2_foldInto l D tk N0 sa hAD H.size g 0 (by decide) 6 (by decide) ) kw_573 kw_574 kw_575 kw_3 kw_576 (n := 1) (by decide +kernel) rfl ⟨⟨rfl, rfl⟩, ⟨by decide, by decide⟩, by decide, by decide⟩ rfl (Nat.le_of_ble_eq_true rfl) hW dX3_fold_14) hS (fun q _ w => cwA.go hS.1 q w) hn (fun r_4 H locs hR hz hk hS => ?_)
  obtain ⟨er_4, hW⟩ := hR
  obtain ⟨g_6, eg_6⟩ : ∃ z, z = f_foldW g 0 6 := ⟨_, rfl⟩
  rw [← eg_6] at hW
  refine lv_if_eq (pc := 17) (tgt := 28) hx hb dX3_fold_17 (by decide) (fun c_7 => ?_) (fun c_7 => ?_)
  · refine lv_aload_n (pc := 28) hx hb dX3_fold_28 rfl (lv_at hl 1 rfl) ?_
    refine k_i (pc := 29) (k_V E hC hS hA hl.1 (c1.recv hC hW.obj rfl) rfl (c_X3_refuse l D tk N0 sa hAD H.size g_6  ) kw_840 kw_842 kp_17 kw_1 kw_843 (n := 0) (by decide +kernel) rfl ⟨⟨rfl, rfl⟩, ⟨by decide, by decide⟩, by decide, by decide⟩ rfl (Nat.le_of_ble_eq_true rfl) hW dX3_fold_29) hS (fun q _ w => cwA.go hS.1 q w) hn (fun r_8 H locs hR hz hk hS => ?_)
    obtain ⟨er_8, hW⟩ := hR
    obtain ⟨g_10, eg_10⟩ : ∃ z, z = f_refW g_6 := ⟨_, rfl⟩
    rw [← eg_10] at hW
    refine vx_ret ?_
    refine r_iret (pc := 32) E hr hlk hS (by decide) (by decide) ?_ dX3_fold_32
    exact ⟨(by subst eg_6 er_4 eg_10 er_8; first | assumption | (simp [xo, ek_2, c_7]; done)), (by subst eg_6 er_4 eg_10 er_8; first | with_reducible rfl | (simp [f_fsR, f_fsW, c_7, p_TB, p_TV, p_TC, p_TI, p_BT, p_BV, p_BC, p_BI, p_VT, p_VB, p_VC, p_VI, p_CT, p_CB, p_CV, p_CI, p_IT, p_IB, p_IV, p_IC, p_TT, p_BB, p_CC, p_II]; done)), hW.to (by subst eg_6 er_4 eg_10 er_8; first | with_reducible rfl | (simp [f_fsR, f_fsW, c_7, p_TB, p_TV, p_TC, p_TI, p_BT, p_BV, p_BC, p_BI, p_VT, p_VB, p_VC, p_VI, p_CT, p_CB, p_CV, p_CI, p_IT, p_IB, p_IV, p_IC, p_TT, p_BB, p_CC, p_II]; done))⟩
  · refine lv_aload_n (pc := 20) hx hb dX3_fold_20 rfl (lv_at hl 1 rfl) ?_
    refine lv_aload_n (pc := 21) hx hb dX3_fold_21 rfl (lv_at hl 0 rfl) ?_
    refine k_i (pc := 22) (k_V E hC hS hA hl.1 (c1.recv hC hW.obj rfl) rfl (c_X3_settle l D tk N0 sa hAD H.size g_6 ((nn r_)) hi_3 ) kw_830 kw_832 kp_16 kw_1 kw_833 (n := 1) (by decide +kernel) rfl ⟨⟨rfl, rfl⟩, ⟨by decide, by decide⟩, by decide, by decide⟩ rfl (Nat.le_of_ble_eq_true rfl) hW dX3_fold_22) hS (fun q _ w => cwA.go hS.1 q w) hn (fun r_11 H locs hR hz hk hS => ?_)
    obtain ⟨er_11, hW⟩ := hR
    obtain ⟨g_13, eg_13⟩ : ∃ z, z = f_setW g_6 ((nn r_)) := ⟨_, rfl⟩
    rw [← eg_13] at hW
    refine lv_goto (pc := 25) (tgt := 32) hx hb dX3_fold_25 (by decide) ?_
    refine vx_ret ?_
    refine r_iret (pc := 32) E hr hlk hS (by decide) (by decide) ?_ dX3_fold_32
    exact ⟨(by subst eg_6 er_4 eg_13 er_11; first | assumption | (simp [xo, ek_2, c_7]; done)), (by subst eg_6 er_4 eg_13 er_11; first | with_reducible rfl | (simp [f_fsR, f_fsW, c_7, p_TB, p_TV, p_TC, p_TI, p_BT, p_BV, p_BC, p_BI, p_VT, p_VB, p_VC, p_VI, p_CT, p_CB, p_CV, p_CI, p_IT, p_IB, p_IV, p_IC, p_TT, p_BB, p_CC, p_II]; done)), hW.to (by subst eg_6 er_4 eg_13 er_11; first | with_reducible rfl | (simp [f_fsR, f_fsW, c_7, p_TB, p_TV, p_TC, p_TI, p_BT, p_BV, p_BC, p_BI, p_VT, p_VB, p_VC, p_VI, p_CT, p_CB, p_CV, p_CI, p_IT, p_IB, p_IV, p_IC, p_TT, p_BB, p_CC, p_II]; done))⟩
set_option maxHeartbeats 4000000 in
set_option maxRecDepth 100000 in
/-- Bestratios.takeNeighbour(IIII)I -/
theorem c_X3_takeNeighbour (l : Launch) (hlst : l.stackTraces = false) (D : va_G) (tk : Nat → ClassId) (N0 : Nat) (sa : Nat → Nat) {ad : Nat → Nat} (hAD : ADok N0 ad) (sz : Nat) (g : CS) (r_ : Int32) (q_ : Int32) (n_ : Int32) (sd : Int32) : vx_Met l yX3_takeNeighbour (wsy yX3_takeNeighbour cX3_takeNeighbour 7 (some .int)) ({ frames := 7, cells := 3, slots := 18, locals := 112 } : Room) (cP D tk N0 sa [.ref (ad 15), .int r_, .int q_, .int n_, .int sd] sz (fun H => CW D tk ad g H)) (kQi (fun r H => xo (bR r_) (xo (bR q_) (2 * bW n_ 1 200)) = 0 ∧ r = f_setR (f_nb g 6 (nn q_) n_ sd) (nn r_) ∧ CW D tk ad (f_setW (f_nb g 6 (nn q_) n_ sd) (nn r_)) H) (cwA ad sz)) (kX (fun E => (E = "java/lang/IndexOutOfBoundsException" ∧ xo (bR r_) (xo (bR q_) (2 * bW n_ 1 200)) = 1) ∨ (E = "java/lang/IllegalArgumentException" ∧ xo (bR r_) (xo (bR q_) (2 * bW n_ 1 200)) = 2)) sz) (3) (18) (cwA ad sz) := by
  refine mStartX RX3 rfl (by decide +kernel) (Nat.le_of_ble_eq_true rfl) ?_
  intro p e s m args below meth c E hr hlk htb hsz hC hF ls hl
  subst hsz
  obtain ⟨hx, hb, -⟩ := id E
  have hA : ∀ q, (cwA ad s.heap.size) q → N0 ≤ q := cwA.ge hAD hC.2.1
  have hn : ∀ q, s.heap.size ≤ q → (cwA ad s.heap.size) q := fun q h => Or.inr h
  have hS : va_S (cwA ad s.heap.size) s.heap s.heap [] := va_S.rf
  have hU : ∀ q, q < s.heap.size → s.heap[q]? = s.heap[q]? := fun _ _ => rfl
  have hl : lv_has ls 7 [(0, .ref (ad 15)), (1, .int r_), (2, .int q_), (3, .int n_), (4, .int sd)] := hl
  have hW : CW D tk ad g s.heap := hF
  refine lv_aload_n (pc := 0) hx hb dX3_takeNeighbour_0 rfl (lv_at hl 0 rfl) ?_
  refine lv_iload_n (pc := 1) hx hb dX3_takeNeighbour_1 rfl (lv_at hl 1 rfl) ?_
  have hZ := hS.1
  refine kx_r (pc := 2) (kx_V E hC hS hA hl.1 (c1.recv hC hW.obj rfl) rfl (c_X3_ratioAt l hlst D tk N0 sa hAD s.heap.size g r_ ) kw_809 kw_811 kp_15 kw_1 kw_812 (n := 1) (by decide +kernel) rfl ⟨⟨rfl, rfl⟩, ⟨by decide, by decide⟩, by decide, by decide⟩ rfl (Nat.le_of_ble_eq_true rfl) hW dX3_takeNeighbour_2) hS (fun q z w => absurd w (Nat.not_le.mpr z)) hn hlk htb hU (fun E9 h9 => by rcases h9 with ⟨rfl, h9⟩ <;> first | (simp [h9]; done) | (simp [xo, h9]; done)) ⟨by decide, by decide⟩ (fun r_1 H locs hR hz hk hS => ?_)
  have hU := fun q (hq : q < s.heap.size) => (hk q (Nat.lt_of_lt_of_le hq hZ) (Nat.not_le.mpr (Nat.lt_of_lt_of_le hq hZ))).trans (hU q hq)
  obtain ⟨ek_2, er_1⟩ := hR
  have hW := hW.new hk
  have hi_3 : nn r_ < 15 := Nat.lt_of_lt_of_le (bR_lt ek_2) (by decide)
  subst er_1
  refine lv_astore (pc := 5) (lv' := [(5, .ref (ad (nn r_))), (0, .ref (ad 15)), (1, .int r_), (2, .int q_), (3, .int n_), (4, .int sd)]) hx hb dX3_takeNeighbour_5 hl (by decide) rfl (fun ls hl => ?_)
  refine lv_aload_n (pc := 7) hx hb dX3_takeNeighbour_7 rfl (lv_at hl 1 rfl) ?_
  refine lv_iload_n (pc := 8) hx hb dX3_takeNeighbour_8 rfl (lv_at hl 3 rfl) ?_
  have hZ := hS.1
  refine kx_r (pc := 9) (kx_V E hC hS hA hl.1 (c1.recv hC hW.obj rfl) rfl (c_X3_ratioAt l hlst D tk N0 sa hAD H.size g q_ ) kw_809 kw_811 kp_15 kw_1 kw_812 (n := 1) (by decide +kernel) rfl ⟨⟨rfl, rfl⟩, ⟨by decide, by decide⟩, by decide, by decide⟩ rfl (Nat.le_of_ble_eq_true rfl) hW dX3_takeNeighbour_9) hS (fun q z w => absurd w (Nat.not_le.mpr z)) hn hlk htb hU (fun E9 h9 => by rcases h9 with ⟨rfl, h9⟩ <;> first | (simp [h9]; done) | (simp [xo, h9, ek_2]; done)) ⟨by decide, by decide⟩ (fun r_4 H locs hR hz hk hS => ?_)
  have hU := fun q (hq : q < s.heap.size) => (hk q (Nat.lt_of_lt_of_le hq hZ) (Nat.not_le.mpr (Nat.lt_of_lt_of_le hq hZ))).trans (hU q hq)
  obtain ⟨ek_5, er_4⟩ := hR
  have hW := hW.new hk
  have hi_6 : nn q_ < 15 := Nat.lt_of_lt_of_le (bR_lt ek_5) (by decide)
  subst er_4
  refine lv_astore (pc := 12) (lv' := [(6, .ref (ad (nn q_))), (5, .ref (ad (nn r_))), (0, .ref (ad 15)), (1, .int r_), (2, .int q_), (3, .int n_), (4, .int sd)]) hx hb dX3_takeNeighbour_12 hl (by decide) rfl (fun ls hl => ?_)
  refine lv_iload_n (pc := 14) hx hb dX3_takeNeighbour_14 rfl (lv_at hl 5 rfl) ?_
  refine lv_iconst (pc := 15) (v := 1) hx hb dX3_takeNeighbour_15 (by decide) ?_
  refine lv_sipush (pc := 16) (v := 200) hx hb dX3_takeNeighbour_16 (by decide) ?_
  have hZ := hS.1
  refine kx_v (pc := 19) (kx_S E hC hS hA hl.1 (c_X3_requireWithin l hlst D tk N0 sa H.size n_ 1 200 ) kw_851 kw_852 kw_1 kw_853 (n := 3) (by decide +kernel) rfl ⟨⟨rfl, rfl⟩, ⟨by decide, by decide⟩, by decide, by decide⟩ rfl (Nat.le_of_ble_eq_true rfl) trivial dX3_takeNeighbour_19) hS (fun q z w => absurd w (Nat.not_le.mpr z)) hn hlk htb hU (fun E9 h9 => by rcases h9 with ⟨rfl, h9⟩ <;> first | (simp [h9]; done) | (simp [xo, h9, ek_2, ek_5]; done)) ⟨by decide, by decide⟩ (fun H locs hR hz hk hS => ?_)
  have hU := fun q (hq : q < s.heap.size) => (hk q (Nat.lt_of_lt_of_le hq hZ) (Nat.not_le.mpr (Nat.lt_of_lt_of_le hq hZ))).trans (hU q hq)
  have ek_8 := hR
  have hW := hW.new hk
  refine lv_aload_n (pc := 22) hx hb dX3_takeNeighbour_22 rfl (lv_at hl 2 rfl) ?_
  refine r_get (pc := 23) E hC hW.obj 5 (v := .ref (ad 6)) rfl rfl (by decide) uX3 (List.mem_cons_of_mem _ kw_119) (fun _ h => h) dX3_takeNeighbour_23 ?_
  refine lv_aload (pc := 26) hx hb dX3_takeNeighbour_26 (lv_at hl 0 rfl) ?_
  refine lv_iload_n (pc := 28) hx hb dX3_takeNeighbour_28 rfl (lv_at hl 5 rfl) ?_
  refine lv_iload (pc := 29) hx hb dX3_takeNeighbour_29 (lv_at hl 6 rfl) ?_
  refine k_v (pc := 31) (k_V E hC hS hA hl.1 (c1.recv hC (hW.fr (i := 6) (by decide)) rfl) rfl (c_X0_becomeNeighbour l D tk N0 sa hAD H.size g 6 (by decide) ((nn q_)) hi_6 n_ sd ) kw_588 kw_589 kw_590 kw_2 kw_591 (n := 3) (by decide +kernel) rfl ⟨⟨rfl, rfl⟩, ⟨by decide, by decide⟩, by decide, by decide⟩ rfl (Nat.le_of_ble_eq_true rfl) hW dX3_takeNeighbour_31) hS (fun q _ w => cwA.go hS.1 q w) hn (fun H locs hR hz hk hS => ?_)
  have hW := hR
  obtain ⟨g_11, eg_11⟩ : ∃ z, z = f_nb g 6 ((nn q_)) n_ sd := ⟨_, rfl⟩
  rw [← eg_11] at hW
  refine lv_aload_n (pc := 34) hx hb dX3_takeNeighbour_34 rfl (lv_at hl 2 rfl) ?_
  refine lv_aload (pc := 35) hx hb dX3_takeNeighbour_35 (lv_at hl 1 rfl) ?_
  refine k_i (pc := 37) (k_V E hC hS hA hl.1 (c1.recv hC hW.obj rfl) rfl (c_X3_settle l D tk N0 sa hAD H.size g_11 ((nn r_)) hi_3 ) kw_830 kw_832 kp_16 kw_1 kw_833 (n := 1) (by decide +kernel) rfl ⟨⟨rfl, rfl⟩, ⟨by decide, by decide⟩, by decide, by decide⟩ rfl (Nat.le_of_ble_eq_true rfl) hW dX3_takeNeighbour_37) hS (fun q _ w => cwA.go hS.1 q w) hn (fun r_12 H locs hR hz hk hS => ?_)
  obtain ⟨er_12, hW⟩ := hR
  obtain ⟨g_14, eg_14⟩ : ∃ z, z = f_setW g_11 ((nn r_)) := ⟨_, rfl⟩
  rw [← eg_14] at hW
  refine vx_ret ?_
  refine r_iret (pc := 40) E hr hlk hS (by decide) (by decide) ?_ dX3_takeNeighbour_40
  exact ⟨(by subst eg_11 eg_14 er_12; first | assumption | (simp [xo, ek_2, ek_5, ek_8]; done)), (by subst eg_11 eg_14 er_12; first | with_reducible rfl | (simp [p_TB, p_TV, p_TC, p_TI, p_BT, p_BV, p_BC, p_BI, p_VT, p_VB, p_VC, p_VI, p_CT, p_CB, p_CV, p_CI, p_IT, p_IB, p_IV, p_IC, p_TT, p_BB, p_CC, p_II]; done) | rfl), hW.to (by subst eg_11 eg_14 er_12; first | with_reducible rfl | (simp [p_TB, p_TV, p_TC, p_TI, p_BT, p_BV, p_BC, p_BI, p_VT, p_VB, p_VC, p_VI, p_CT, p_CB, p_CV, p_CI, p_IT, p_IB, p_IV, p_IC, p_TT, p_BB, p_CC, p_II]; done) | rfl)⟩
set_option maxHeartbeats 4000000 in
set_option maxRecDepth 100000 in
/-- Bestratios.lower(III)I -/
theorem c_X3_lower (l : Launch) (hlst : l.stackTraces = false) (D : va_G) (tk : Nat → ClassId) (N0 : Nat) (sa : Nat → Nat) {ad : Nat → Nat} (hAD : ADok N0 ad) (sz : Nat) (g : CS) (r_ : Int32) (q_ : Int32) (n_ : Int32) : vx_Met l yX3_lower (wsy yX3_lower cX3_lower 4 (some .int)) ({ frames := 8, cells := 3, slots := 18, locals := 138 } : Room) (cP D tk N0 sa [.ref (ad 15), .int r_, .int q_, .int n_] sz (fun H => CW D tk ad g H)) (kQi (fun r H => xo (bR r_) (xo (bR q_) (2 * bW n_ 1 200)) = 0 ∧ r = f_setR (f_nb g 6 (nn q_) n_ 1) (nn r_) ∧ CW D tk ad (f_setW (f_nb g 6 (nn q_) n_ 1) (nn r_)) H) (cwA ad sz)) (kX (fun E => (E = "java/lang/IndexOutOfBoundsException" ∧ xo (bR r_) (xo (bR q_) (2 * bW n_ 1 200)) = 1) ∨ (E = "java/lang/IllegalArgumentException" ∧ xo (bR r_) (xo (bR q_) (2 * bW n_ 1 200)) = 2)) sz) (3) (18) (cwA ad sz) := by
  refine mStartX RX3 rfl (by decide +kernel) (Nat.le_of_ble_eq_true rfl) ?_
  intro p e s m args below meth c E hr hlk htb hsz hC hF ls hl
  subst hsz
  obtain ⟨hx, hb, -⟩ := id E
  have hA : ∀ q, (cwA ad s.heap.size) q → N0 ≤ q := cwA.ge hAD hC.2.1
  have hn : ∀ q, s.heap.size ≤ q → (cwA ad s.heap.size) q := fun q h => Or.inr h
  have hS : va_S (cwA ad s.heap.size) s.heap s.heap [] := va_S.rf
  have hU : ∀ q, q < s.heap.size → s.heap[q]? = s.heap[q]? := fun _ _ => rfl
  have hl : lv_has ls 4 [(0, .ref (ad 15)), (1, .int r_), (2, .int q_), (3, .int n_)] := hl
  have hW : CW D tk ad g s.heap := hF
  refine lv_aload_n (pc := 0) hx hb dX3_lower_0 rfl (lv_at hl 0 rfl) ?_
  refine lv_iload_n (pc := 1) hx hb dX3_lower_1 rfl (lv_at hl 1 rfl) ?_
  refine lv_iload_n (pc := 2) hx hb dX3_lower_2 rfl (lv_at hl 2 rfl) ?_
  refine lv_iload_n (pc := 3) hx hb dX3_lower_3 rfl (lv_at hl 3 rfl) ?_
  refine lv_iconst (pc := 4) (v := 1) hx hb dX3_lower_4 (by decide) ?_
  have hZ := hS.1
  refine kx_i (pc := 5) (kx_V E hC hS hA hl.1 (c1.recv hC hW.obj rfl) rfl (c_X3_takeNeighbour l hlst D tk N0 sa hAD s.heap.size g r_ q_ n_ 1 ) kw_1049 kw_1051 kp_18 kw_1 kw_1052 (n := 4) (by decide +kernel) rfl ⟨⟨rfl, rfl⟩, ⟨by decide, by decide⟩, by decide, by decide⟩ rfl (Nat.le_of_ble_eq_true rfl) hW dX3_lower_5) hS (fun q _ w => cwA.go hS.1 q w) hn hlk htb hU (fun E9 h9 => by rcases h9 with ⟨rfl, h9⟩ | ⟨rfl, h9⟩ <;> first | (simp [h9]; done) | (simp [xo, h9]; done)) ⟨by decide, by decide⟩ (fun r_1 H locs hR hz hk hS => ?_)
  obtain ⟨ek_2, er_1, hW⟩ := hR
  obtain ⟨g_3, eg_3⟩ : ∃ z, z = f_setW (f_nb g 6 (nn q_) n_ 1) (nn r_) := ⟨_, rfl⟩
  rw [← eg_3] at hW
  refine vx_ret ?_
  refine r_iret (pc := 8) E hr hlk hS (by decide) (by decide) ?_ dX3_lower_8
  exact ⟨(by subst eg_3 er_1; first | assumption | (simp [xo, ek_2]; done)), (by subst eg_3 er_1; first | with_reducible rfl | (simp [p_TB, p_TV, p_TC, p_TI, p_BT, p_BV, p_BC, p_BI, p_VT, p_VB, p_VC, p_VI, p_CT, p_CB, p_CV, p_CI, p_IT, p_IB, p_IV, p_IC, p_TT, p_BB, p_CC, p_II]; done) | rfl), hW.to (by subst eg_3 er_1; first | with_reducible rfl | (simp [p_TB, p_TV, p_TC, p_TI, p_BT, p_BV, p_BC, p_BI, p_VT, p_VB, p_VC, p_VI, p_CT, p_CB, p_CV, p_CI, p_IT, p_IB, p_IV, p_IC, p_TT, p_BB, p_CC, p_II]; done) | rfl)⟩
set_option maxHeartbeats 4000000 in
set_option maxRecDepth 100000 in
/-- Bestratios.upper(III)I -/
theorem c_X3_upper (l : Launch) (hlst : l.stackTraces = false) (D : va_G) (tk : Nat → ClassId) (N0 : Nat) (sa : Nat → Nat) {ad : Nat → Nat} (hAD : ADok N0 ad) (sz : Nat) (g : CS) (r_ : Int32) (q_ : Int32) (n_ : Int32) : vx_Met l yX3_upper (wsy yX3_upper cX3_upper 4 (some .int)) ({ frames := 8, cells := 3, slots := 18, locals := 138 } : Room) (cP D tk N0 sa [.ref (ad 15), .int r_, .int q_, .int n_] sz (fun H => CW D tk ad g H)) (kQi (fun r H => xo (bR r_) (xo (bR q_) (2 * bW n_ 1 200)) = 0 ∧ r = f_setR (f_nb g 6 (nn q_) n_ (-1)) (nn r_) ∧ CW D tk ad (f_setW (f_nb g 6 (nn q_) n_ (-1)) (nn r_)) H) (cwA ad sz)) (kX (fun E => (E = "java/lang/IndexOutOfBoundsException" ∧ xo (bR r_) (xo (bR q_) (2 * bW n_ 1 200)) = 1) ∨ (E = "java/lang/IllegalArgumentException" ∧ xo (bR r_) (xo (bR q_) (2 * bW n_ 1 200)) = 2)) sz) (3) (18) (cwA ad sz) := by
  refine mStartX RX3 rfl (by decide +kernel) (Nat.le_of_ble_eq_true rfl) ?_
  intro p e s m args below meth c E hr hlk htb hsz hC hF ls hl
  subst hsz
  obtain ⟨hx, hb, -⟩ := id E
  have hA : ∀ q, (cwA ad s.heap.size) q → N0 ≤ q := cwA.ge hAD hC.2.1
  have hn : ∀ q, s.heap.size ≤ q → (cwA ad s.heap.size) q := fun q h => Or.inr h
  have hS : va_S (cwA ad s.heap.size) s.heap s.heap [] := va_S.rf
  have hU : ∀ q, q < s.heap.size → s.heap[q]? = s.heap[q]? := fun _ _ => rfl
  have hl : lv_has ls 4 [(0, .ref (ad 15)), (1, .int r_), (2, .int q_), (3, .int n_)] := hl
  have hW : CW D tk ad g s.heap := hF
  refine lv_aload_n (pc := 0) hx hb dX3_upper_0 rfl (lv_at hl 0 rfl) ?_
  refine lv_iload_n (pc := 1) hx hb dX3_upper_1 rfl (lv_at hl 1 rfl) ?_
  refine lv_iload_n (pc := 2) hx hb dX3_upper_2 rfl (lv_at hl 2 rfl) ?_
  refine lv_iload_n (pc := 3) hx hb dX3_upper_3 rfl (lv_at hl 3 rfl) ?_
  refine lv_iconst (pc := 4) (v := (-1)) hx hb dX3_upper_4 (by decide) ?_
  have hZ := hS.1
  refine kx_i (pc := 5) (kx_V E hC hS hA hl.1 (c1.recv hC hW.obj rfl) rfl (c_X3_takeNeighbour l hlst D tk N0 sa hAD s.heap.size g r_ q_ n_ ((-1)) ) kw_1049 kw_1051 kp_18 kw_1 kw_1052 (n := 4) (by decide +kernel) rfl ⟨⟨rfl, rfl⟩, ⟨by decide, by decide⟩, by decide, by decide⟩ rfl (Nat.le_of_ble_eq_true rfl) hW dX3_upper_5) hS (fun q _ w => cwA.go hS.1 q w) hn hlk htb hU (fun E9 h9 => by rcases h9 with ⟨rfl, h9⟩ | ⟨rfl, h9⟩ <;> first | (simp [h9]; done) | (simp [xo, h9]; done)) ⟨by decide, by decide⟩ (fun r_1 H locs hR hz hk hS => ?_)
  obtain ⟨ek_2, er_1, hW⟩ := hR
  obtain ⟨g_3, eg_3⟩ : ∃ z, z = f_setW (f_nb g 6 (nn q_) n_ ((-1))) (nn r_) := ⟨_, rfl⟩
  rw [← eg_3] at hW
  refine vx_ret ?_
  refine r_iret (pc := 8) E hr hlk hS (by decide) (by decide) ?_ dX3_upper_8
  exact ⟨(by subst eg_3 er_1; first | assumption | (simp [xo, ek_2]; done)), (by subst eg_3 er_1; first | with_reducible rfl | (simp [p_TB, p_TV, p_TC, p_TI, p_BT, p_BV, p_BC, p_BI, p_VT, p_VB, p_VC, p_VI, p_CT, p_CB, p_CV, p_CI, p_IT, p_IB, p_IV, p_IC, p_TT, p_BB, p_CC, p_II]; done) | rfl), hW.to (by subst eg_3 er_1; first | with_reducible rfl | (simp [p_TB, p_TV, p_TC, p_TI, p_BT, p_BV, p_BC, p_BI, p_VT, p_VB, p_VC, p_VI, p_CT, p_CB, p_CV, p_CI, p_IT, p_IB, p_IV, p_IC, p_TT, p_BB, p_CC, p_II]; done) | rfl)⟩
set_option maxHeartbeats 4000000 in
set_option maxRecDepth 100000 in
/-- Bestratios.isLowerBetter(LBestratios$Fraction;)Z -/
theorem c_X3_isLowerBetter (l : Launch) (D : va_G) (tk : Nat → ClassId) (N0 : Nat) (sa : Nat → Nat) {ad : Nat → Nat} (hAD : ADok N0 ad) (sz : Nat) (g : CS) (i : Nat) (hi : i < 15) : Met l yX3_isLowerBetter (wsy yX3_isLowerBetter cX3_isLowerBetter 6 (some .boolean)) ({ frames := 0, cells := 0, slots := 0, locals := 0 } : Room) (cP D tk N0 sa [.ref (ad 15), .ref (ad i)] sz (fun H => CW D tk ad g H)) (kQi (fun r H => r = f_lb g i) (nwA sz)) (0) (0) (nwA sz) := by
  refine mStart RX3 rfl (by decide +kernel) (Nat.le_of_ble_eq_true rfl) ?_
  intro p e s m args below meth c E hr hlk hnm hsz hC hF ls hl
  subst hsz
  obtain ⟨hx, hb, -⟩ := id E
  have hA : ∀ q, (nwA s.heap.size) q → N0 ≤ q := fun q h => Nat.le_trans hC.2.1 h
  have hn : ∀ q, s.heap.size ≤ q → (nwA s.heap.size) q := fun q h => h
  have hS : va_S (nwA s.heap.size) s.heap s.heap [] := va_S.rf
  have hl : lv_has ls 6 [(0, .ref (ad 15)), (1, .ref (ad i))] := hl
  have hW : CW D tk ad g s.heap := hF
  refine lv_aload_n (pc := 0) hx hb dX3_isLowerBetter_0 rfl (lv_at hl 1 rfl) ?_
  refine r_getN (pc := 1) "Bestratios" E hC (hW.fr (i := i) hi) 0 (v := .long (tT g i)) rfl rfl (by decide) uX0 kn_52 (fun _ h => h) dX3_isLowerBetter_1 ?_
  refine lv_aload_n (pc := 4) hx hb dX3_isLowerBetter_4 rfl (lv_at hl 0 rfl) ?_
  refine r_get (pc := 5) E hC hW.obj 6 (v := .ref (ad 7)) rfl rfl (by decide) uX3 (List.mem_cons_of_mem _ kw_120) (fun _ h => h) dX3_isLowerBetter_5 ?_
  refine r_getN (pc := 8) "Bestratios" E hC (hW.fr (i := 7) (by decide)) 1 (v := .long (tB g 7)) rfl rfl (by decide) uX0 kn_55 (fun _ h => h) dX3_isLowerBetter_8 ?_
  refine lv_lmul (pc := 11) hx hb dX3_isLowerBetter_11 ?_
  refine lv_aload_n (pc := 12) hx hb dX3_isLowerBetter_12 rfl (lv_at hl 0 rfl) ?_
  refine r_get (pc := 13) E hC hW.obj 6 (v := .ref (ad 7)) rfl rfl (by decide) uX3 (List.mem_cons_of_mem _ kw_120) (fun _ h => h) dX3_isLowerBetter_13 ?_
  refine r_getN (pc := 16) "Bestratios" E hC (hW.fr (i := 7) (by decide)) 0 (v := .long (tT g 7)) rfl rfl (by decide) uX0 kn_52 (fun _ h => h) dX3_isLowerBetter_16 ?_
  refine lv_aload_n (pc := 19) hx hb dX3_isLowerBetter_19 rfl (lv_at hl 1 rfl) ?_
  refine r_getN (pc := 20) "Bestratios" E hC (hW.fr (i := i) hi) 1 (v := .long (tB g i)) rfl rfl (by decide) uX0 kn_55 (fun _ h => h) dX3_isLowerBetter_20 ?_
  refine lv_lmul (pc := 23) hx hb dX3_isLowerBetter_23 ?_
  refine lv_lsub (pc := 24) hx hb dX3_isLowerBetter_24 ?_
  refine lv_aload_n (pc := 25) hx hb dX3_isLowerBetter_25 rfl (lv_at hl 0 rfl) ?_
  refine r_get (pc := 26) E hC hW.obj 7 (v := .ref (ad 8)) rfl rfl (by decide) uX3 (List.mem_cons_of_mem _ kw_121) (fun _ h => h) dX3_isLowerBetter_26 ?_
  refine r_getN (pc := 29) "Bestratios" E hC (hW.fr (i := 8) (by decide)) 1 (v := .long (tB g 8)) rfl rfl (by decide) uX0 kn_55 (fun _ h => h) dX3_isLowerBetter_29 ?_
  refine lv_lmul (pc := 32) hx hb dX3_isLowerBetter_32 ?_
  obtain ⟨x_1, ex_1⟩ : ∃ z9 : Int64, z9 = (((tT g i) * (tB g 7)) - ((tT g 7) * (tB g i))) * (tB g 8) := ⟨_, rfl⟩
  rw [← ex_1]
  refine lv_lstore_n (pc := 33) (lv' := [(2, .long x_1), (0, .ref (ad 15)), (1, .ref (ad i))]) hx hb dX3_isLowerBetter_33 rfl hl (by decide) rfl (fun ls hl => ?_)
  refine lv_aload_n (pc := 34) hx hb dX3_isLowerBetter_34 rfl (lv_at hl 1 rfl) ?_
  refine r_get (pc := 35) E hC hW.obj 7 (v := .ref (ad 8)) rfl rfl (by decide) uX3 (List.mem_cons_of_mem _ kw_121) (fun _ h => h) dX3_isLowerBetter_35 ?_
  refine r_getN (pc := 38) "Bestratios" E hC (hW.fr (i := 8) (by decide)) 0 (v := .long (tT g 8)) rfl rfl (by decide) uX0 kn_52 (fun _ h => h) dX3_isLowerBetter_38 ?_
  refine lv_aload_n (pc := 41) hx hb dX3_isLowerBetter_41 rfl (lv_at hl 2 rfl) ?_
  refine r_getN (pc := 42) "Bestratios" E hC (hW.fr (i := i) hi) 1 (v := .long (tB g i)) rfl rfl (by decide) uX0 kn_55 (fun _ h => h) dX3_isLowerBetter_42 ?_
  refine lv_lmul (pc := 45) hx hb dX3_isLowerBetter_45 ?_
  refine lv_aload_n (pc := 46) hx hb dX3_isLowerBetter_46 rfl (lv_at hl 2 rfl) ?_
  refine r_getN (pc := 47) "Bestratios" E hC (hW.fr (i := i) hi) 0 (v := .long (tT g i)) rfl rfl (by decide) uX0 kn_52 (fun _ h => h) dX3_isLowerBetter_47 ?_
  refine lv_aload_n (pc := 50) hx hb dX3_isLowerBetter_50 rfl (lv_at hl 1 rfl) ?_
  refine r_get (pc := 51) E hC hW.obj 7 (v := .ref (ad 8)) rfl rfl (by decide) uX3 (List.mem_cons_of_mem _ kw_121) (fun _ h => h) dX3_isLowerBetter_51 ?_
  refine r_getN (pc := 54) "Bestratios" E hC (hW.fr (i := 8) (by decide)) 1 (v := .long (tB g 8)) rfl rfl (by decide) uX0 kn_55 (fun _ h => h) dX3_isLowerBetter_54 ?_
  refine lv_lmul (pc := 57) hx hb dX3_isLowerBetter_57 ?_
  refine lv_lsub (pc := 58) hx hb dX3_isLowerBetter_58 ?_
  refine lv_aload_n (pc := 59) hx hb dX3_isLowerBetter_59 rfl (lv_at hl 1 rfl) ?_
  refine r_get (pc := 60) E hC hW.obj 6 (v := .ref (ad 7)) rfl rfl (by decide) uX3 (List.mem_cons_of_mem _ kw_120) (fun _ h => h) dX3_isLowerBetter_60 ?_
  refine r_getN (pc := 63) "Bestratios" E hC (hW.fr (i := 7) (by decide)) 1 (v := .long (tB g 7)) rfl rfl (by decide) uX0 kn_55 (fun _ h => h) dX3_isLowerBetter_63 ?_
  refine lv_lmul (pc := 66) hx hb dX3_isLowerBetter_66 ?_
  obtain ⟨x_2, ex_2⟩ : ∃ z9 : Int64, z9 = (((tT g 8) * (tB g i)) - ((tT g i) * (tB g 8))) * (tB g 7) := ⟨_, rfl⟩
  rw [← ex_2]
  refine lv_lstore (pc := 67) (lv' := [(4, .long x_2), (2, .long x_1), (0, .ref (ad 15)), (1, .ref (ad i))]) hx hb dX3_isLowerBetter_67 hl (by decide) rfl (fun ls hl => ?_)
  refine lv_lload_n (pc := 69) hx hb dX3_isLowerBetter_69 rfl (lv_at hl 1 rfl) ?_
  refine lv_lload (pc := 70) hx hb dX3_isLowerBetter_70 (lv_at hl 0 rfl) ?_
  refine r_lceq (pc := 72) (tgt := 89) E dX3_isLowerBetter_72 dX3_isLowerBetter_73 (by decide) (fun c_3 => ?_) (fun c_3 => ?_)
  · refine lv_aload_n (pc := 89) hx hb dX3_isLowerBetter_89 rfl (lv_at hl 2 rfl) ?_
    refine r_get (pc := 90) E hC hW.obj 6 (v := .ref (ad 7)) rfl rfl (by decide) uX3 (List.mem_cons_of_mem _ kw_120) (fun _ h => h) dX3_isLowerBetter_90 ?_
    refine r_getN (pc := 93) "Bestratios" E hC (hW.fr (i := 7) (by decide)) 1 (v := .long (tB g 7)) rfl rfl (by decide) uX0 kn_55 (fun _ h => h) dX3_isLowerBetter_93 ?_
    refine lv_aload_n (pc := 96) hx hb dX3_isLowerBetter_96 rfl (lv_at hl 2 rfl) ?_
    refine r_get (pc := 97) E hC hW.obj 7 (v := .ref (ad 8)) rfl rfl (by decide) uX3 (List.mem_cons_of_mem _ kw_121) (fun _ h => h) dX3_isLowerBetter_97 ?_
    refine r_getN (pc := 100) "Bestratios" E hC (hW.fr (i := 8) (by decide)) 1 (v := .long (tB g 8)) rfl rfl (by decide) uX0 kn_55 (fun _ h => h) dX3_isLowerBetter_100 ?_
    refine r_lcgt (pc := 103) (tgt := 111) E dX3_isLowerBetter_103 dX3_isLowerBetter_104 (by decide) (fun c_4 => ?_) (fun c_4 => ?_)
    · refine lv_iconst (pc := 111) (v := 0) hx hb dX3_isLowerBetter_111 (by decide) ?_
      refine r_zret (pc := 112) E hr hlk hS (by decide) (by decide) rfl ?_ dX3_isLowerBetter_112
      subst ex_1 ex_2; first | with_reducible rfl | (simp [f_lb, f_lbA, f_lbB, c_3, c_4, Int64.not_le.mpr c_4, p_TB, p_TV, p_TC, p_TI, p_BT, p_BV, p_BC, p_BI, p_VT, p_VB, p_VC, p_VI, p_CT, p_CB, p_CV, p_CI, p_IT, p_IB, p_IV, p_IC, p_TT, p_BB, p_CC, p_II]; done)
    · refine lv_iconst (pc := 107) (v := 1) hx hb dX3_isLowerBetter_107 (by decide) ?_
      refine lv_goto (pc := 108) (tgt := 112) hx hb dX3_isLowerBetter_108 (by decide) ?_
      refine r_zret (pc := 112) E hr hlk hS (by decide) (by decide) rfl ?_ dX3_isLowerBetter_112
      subst ex_1 ex_2; first | with_reducible rfl | (simp [f_lb, f_lbA, f_lbB, c_3, c_4, Int64.not_lt.mp c_4, p_TB, p_TV, p_TC, p_TI, p_BT, p_BV, p_BC, p_BI, p_VT, p_VB, p_VC, p_VI, p_CT, p_CB, p_CV, p_CI, p_IT, p_IB, p_IV, p_IC, p_TT, p_BB, p_CC, p_II]; done)
  · refine lv_lload_n (pc := 76) hx hb dX3_isLowerBetter_76 rfl (lv_at hl 1 rfl) ?_
    refine lv_lload (pc := 77) hx hb dX3_isLowerBetter_77 (lv_at hl 0 rfl) ?_
    refine r_lcge (pc := 79) (tgt := 87) E dX3_isLowerBetter_79 dX3_isLowerBetter_80 (by decide) (fun c_5 => ?_) (fun c_5 => ?_)
    · refine lv_iconst (pc := 87) (v := 0) hx hb dX3_isLowerBetter_87 (by decide) ?_
      refine r_zret (pc := 88) E hr hlk hS (by decide) (by decide) rfl ?_ dX3_isLowerBetter_88
      subst ex_1 ex_2; first | with_reducible rfl | (simp [f_lb, f_lbA, f_lbB, c_3, c_5, Int64.not_lt.mpr c_5, p_TB, p_TV, p_TC, p_TI, p_BT, p_BV, p_BC, p_BI, p_VT, p_VB, p_VC, p_VI, p_CT, p_CB, p_CV, p_CI, p_IT, p_IB, p_IV, p_IC, p_TT, p_BB, p_CC, p_II]; done)
    · refine lv_iconst (pc := 83) (v := 1) hx hb dX3_isLowerBetter_83 (by decide) ?_
      refine lv_goto (pc := 84) (tgt := 88) hx hb dX3_isLowerBetter_84 (by decide) ?_
      refine r_zret (pc := 88) E hr hlk hS (by decide) (by decide) rfl ?_ dX3_isLowerBetter_88
      subst ex_1 ex_2; first | with_reducible rfl | (simp [f_lb, f_lbA, f_lbB, c_3, c_5, Int64.not_le.mp c_5, p_TB, p_TV, p_TC, p_TI, p_BT, p_BV, p_BC, p_BI, p_VT, p_VB, p_VC, p_VI, p_CT, p_CB, p_CV, p_CI, p_IT, p_IB, p_IV, p_IC, p_TT, p_BB, p_CC, p_II]; done)
