set_option maxHeartbeats 4000000 in
set_option maxRecDepth 100000 in
/-- Bestratios.say(I)I -/
theorem c_X3_say (l : Launch) (hlst : l.stackTraces = false) (D : va_G) (tk : Nat → ClassId) (N0 : Nat) (sa : Nat → Nat) {ad : Nat → Nat} (hAD : ADok N0 ad) (sz : Nat) (g : CS) (x_ : Int32) : vx_Met l yX3_say (wsy yX3_say cX3_say 2 (some .int)) ({ frames := 7, cells := 2, slots := 12, locals := 112 } : Room) (cP D tk N0 sa [.ref (ad 15), .int x_] sz (fun H => CW D tk ad g H)) (kQi (fun r H => xo (bW x_ (-99999) 99999) (if tC g 0 < 16 then 0 else 2) = 0 ∧ r = tC (f_addLast g 0 x_.toInt64) 0 ∧ CW D tk ad (f_addLast g 0 x_.toInt64) H) (cwA ad sz)) (kX (fun E => (E = "java/lang/IllegalArgumentException" ∧ xo (bW x_ (-99999) 99999) (if tC g 0 < 16 then 0 else 2) = 1) ∨ (E = "java/lang/IllegalStateException" ∧ xo (bW x_ (-99999) 99999) (if tC g 0 < 16 then 0 else 2) = 2)) sz) (2) (12) (cwA ad sz) := by
  refine mStartX RX3 rfl (by decide +kernel) (Nat.le_of_ble_eq_true rfl) ?_
  intro p e s m args below meth c E hr hlk htb hsz hC hF ls hl
  subst hsz
  obtain ⟨hx, hb, -⟩ := id E
  have hA : ∀ q, (cwA ad s.heap.size) q → N0 ≤ q := cwA.ge hAD hC.2.1
  have hn : ∀ q, s.heap.size ≤ q → (cwA ad s.heap.size) q := fun q h => Or.inr h
  have hS : va_S (cwA ad s.heap.size) s.heap s.heap [] := va_S.rf
  have hU : ∀ q, q < s.heap.size → s.heap[q]? = s.heap[q]? := fun _ _ => rfl
  have hl : lv_has ls 2 [(0, .ref (ad 15)), (1, .int x_)] := hl
  have hW : CW D tk ad g s.heap := hF
  refine lv_iload_n (pc := 0) hx hb dX3_say_0 rfl (lv_at hl 1 rfl) ?_
  refine lv_ldc (pc := 1) (v := (-99999)) hx hb E.2.2.2.1 (E.2.2.2.2 _ (List.mem_cons_of_mem _ kw_1010)) dX3_say_1 ?_
  refine lv_ldc (pc := 3) (v := 99999) hx hb E.2.2.2.1 (E.2.2.2.2 _ (List.mem_cons_of_mem _ kw_1011)) dX3_say_3 ?_
  have hZ := hS.1
  refine kx_v (pc := 5) (kx_S E hC hS hA hl.1 (c_X3_requireWithin l hlst D tk N0 sa s.heap.size x_ ((-99999)) 99999 ) kw_851 kw_852 kw_1 kw_853 (n := 3) (by decide +kernel) rfl ⟨⟨rfl, rfl⟩, ⟨by decide, by decide⟩, by decide, by decide⟩ rfl (Nat.le_of_ble_eq_true rfl) trivial dX3_say_5) hS (fun q z w => absurd w (Nat.not_le.mpr z)) hn hlk htb hU (fun E9 h9 => by rcases h9 with ⟨rfl, h9⟩ <;> first | (simp [h9]; done) | (simp [xo, h9]; done)) ⟨by decide, by decide⟩ (fun H locs hR hz hk hS => ?_)
  have hU := fun q (hq : q < s.heap.size) => (hk q (Nat.lt_of_lt_of_le hq hZ) (Nat.not_le.mpr (Nat.lt_of_lt_of_le hq hZ))).trans (hU q hq)
  have ek_2 := hR
  have hW := hW.new hk
  refine lv_aload_n (pc := 8) hx hb dX3_say_8 rfl (lv_at hl 0 rfl) ?_
  refine r_get (pc := 9) E hC hW.obj 1 (v := .ref (ad 17)) rfl rfl (by decide) uX3 (List.mem_cons_of_mem _ kw_115) (fun _ h => h) dX3_say_9 ?_
  refine r_getN (pc := 12) "Bestratios" E hC (hW.tm (j := 0) (by decide)) 1 (v := .int (tC g 0)) rfl rfl (by decide) uX2 kn_69 (fun _ h => h) dX3_say_12 ?_
  refine lv_bipush (pc := 15) (v := 16) hx hb dX3_say_15 (by decide) ?_
  refine lv_icmp_lt (pc := 17) (tgt := 30) hx hb dX3_say_17 (by decide) (fun c_3 => ?_) (fun c_3 => ?_)
  · refine lv_aload_n (pc := 30) hx hb dX3_say_30 rfl (lv_at hl 0 rfl) ?_
    refine r_get (pc := 31) E hC hW.obj 1 (v := .ref (ad 17)) rfl rfl (by decide) uX3 (List.mem_cons_of_mem _ kw_115) (fun _ h => h) dX3_say_31 ?_
    refine lv_iload_n (pc := 34) hx hb dX3_say_34 rfl (lv_at hl 1 rfl) ?_
    refine lv_i2l (pc := 35) (v := x_.toInt64) hx hb dX3_say_35 rfl ?_
    refine k_v (pc := 36) (k_V E hC hS hA hl.1 (c1.recv hC (hW.tm (j := 0) (by decide)) rfl) rfl (c_X2_addLast l D tk N0 sa hAD H.size g 0 (by decide) x_.toInt64 ) kw_626 kw_569 kw_570 kw_3 kw_571 (n := 1) (by decide +kernel) rfl ⟨⟨rfl, rfl⟩, ⟨by decide, by decide⟩, by decide, by decide⟩ rfl (Nat.le_of_ble_eq_true rfl) hW dX3_say_36) hS (fun q _ w => cwA.go hS.1 q w) hn (fun H locs hR hz hk hS => ?_)
    have hW := hR
    obtain ⟨g_6, eg_6⟩ : ∃ z, z = f_addLast g 0 x_.toInt64 := ⟨_, rfl⟩
    rw [← eg_6] at hW
    refine lv_aload_n (pc := 39) hx hb dX3_say_39 rfl (lv_at hl 0 rfl) ?_
    refine r_get (pc := 40) E hC hW.obj 1 (v := .ref (ad 17)) rfl rfl (by decide) uX3 (List.mem_cons_of_mem _ kw_115) (fun _ h => h) dX3_say_40 ?_
    refine r_getN (pc := 43) "Bestratios" E hC (hW.tm (j := 0) (by decide)) 1 (v := .int (tC g_6 0)) rfl rfl (by decide) uX2 kn_69 (fun _ h => h) dX3_say_43 ?_
    refine vx_ret ?_
    refine r_iret (pc := 46) E hr hlk hS (by decide) (by decide) ?_ dX3_say_46
    exact ⟨(by subst eg_6; first | assumption | (simp [xo, ek_2, c_3, Int32.not_le.mpr c_3]; done)), (by subst eg_6; first | with_reducible rfl | (simp [c_3, Int32.not_le.mpr c_3, p_TB, p_TV, p_TC, p_TI, p_BT, p_BV, p_BC, p_BI, p_VT, p_VB, p_VC, p_VI, p_CT, p_CB, p_CV, p_CI, p_IT, p_IB, p_IV, p_IC, p_TT, p_BB, p_CC, p_II]; done)), hW.to (by subst eg_6; first | with_reducible rfl | (simp [c_3, Int32.not_le.mpr c_3, p_TB, p_TV, p_TC, p_TI, p_BT, p_BV, p_BC, p_BI, p_VT, p_VB, p_VC, p_VI, p_CT, p_CB, p_CV, p_CI, p_IT, p_IB, p_IV, p_IC, p_TT, p_BB, p_CC, p_II]; done))⟩
  · exact r_throwS (pc := 20) 5 hlst E hC hS hA hl.1 hlk htb hU rfl (by decide +kernel) kw_1012 kw_31 at_RX3_159 dX3_say_20 dX3_say_23 dX3_say_24 dX3_say_26 dX3_say_29 (by decide) (Nat.le_of_ble_eq_true rfl) (by decide) (by decide) (by simp [xo, ek_2, c_3]) (by decide) (by decide)
