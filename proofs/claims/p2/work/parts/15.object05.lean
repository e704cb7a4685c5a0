set_option maxHeartbeats 4000000 in
set_option maxRecDepth 100000 in
/-- Bestratios.put(III)I -/
theorem c_X3_put (l : Launch) (hlst : l.stackTraces = false) (D : va_G) (tk : Nat → ClassId) (N0 : Nat) (sa : Nat → Nat) {ad : Nat → Nat} (hAD : ADok N0 ad) (sz : Nat) (g : CS) (r_ : Int32) (tp : Int32) (bt : Int32) : vx_Met l yX3_put (wsy yX3_put cX3_put 5 (some .int)) ({ frames := 7, cells := 2, slots := 12, locals := 111 } : Room) (cP D tk N0 sa [.ref (ad 15), .int r_, .int tp, .int bt] sz (fun H => CW D tk ad g H)) (kQi (fun r H => xo (bR r_) (if bt = 0 then 2 else 0) = 0 ∧ r = f_setR (f_become g 6 tp.toInt64 bt.toInt64) (nn r_) ∧ CW D tk ad (f_setW (f_become g 6 tp.toInt64 bt.toInt64) (nn r_)) H) (cwA ad sz)) (kX (fun E => (E = "java/lang/IndexOutOfBoundsException" ∧ xo (bR r_) (if bt = 0 then 2 else 0) = 1) ∨ (E = "java/lang/IllegalArgumentException" ∧ xo (bR r_) (if bt = 0 then 2 else 0) = 2)) sz) (2) (12) (cwA ad sz) := by
  refine mStartX RX3 rfl (by decide +kernel) (Nat.le_of_ble_eq_true rfl) ?_
  intro p e s m args below meth c E hr hlk htb hsz hC hF ls hl
  subst hsz
  obtain ⟨hx, hb, -⟩ := id E
  have hA : ∀ q, (cwA ad s.heap.size) q → N0 ≤ q := cwA.ge hAD hC.2.1
  have hn : ∀ q, s.heap.size ≤ q → (cwA ad s.heap.size) q := fun q h => Or.inr h
  have hS : va_S (cwA ad s.heap.size) s.heap s.heap [] := va_S.rf
  have hU : ∀ q, q < s.heap.size → s.heap[q]? = s.heap[q]? := fun _ _ => rfl
  have hl : lv_has ls 5 [(0, .ref (ad 15)), (1, .int r_), (2, .int tp), (3, .int bt)] := hl
  have hW : CW D tk ad g s.heap := hF
  refine lv_aload_n (pc := 0) hx hb dX3_put_0 rfl (lv_at hl 0 rfl) ?_
  refine lv_iload_n (pc := 1) hx hb dX3_put_1 rfl (lv_at hl 1 rfl) ?_
  have hZ := hS.1
  refine kx_r (pc := 2) (kx_V E hC hS hA hl.1 (c1.recv hC hW.obj rfl) rfl (c_X3_ratioAt l hlst D tk N0 sa hAD s.heap.size g r_ ) kw_809 kw_811 kp_15 kw_1 kw_812 (n := 1) (by decide +kernel) rfl ⟨⟨rfl, rfl⟩, ⟨by decide, by decide⟩, by decide, by decide⟩ rfl (Nat.le_of_ble_eq_true rfl) hW dX3_put_2) hS (fun q z w => absurd w (Nat.not_le.mpr z)) hn hlk htb hU (fun E9 h9 => by rcases h9 with ⟨rfl, h9⟩ <;> first | (simp [h9]; done) | (simp [xo, h9]; done)) ⟨by decide, by decide⟩ (fun r_1 H locs hR hz hk hS => ?_)
  have hU := fun q (hq : q < s.heap.size) => (hk q (Nat.lt_of_lt_of_le hq hZ) (Nat.not_le.mpr (Nat.lt_of_lt_of_le hq hZ))).trans (hU q hq)
  obtain ⟨ek_2, er_1⟩ := hR
  have hW := hW.new hk
  have hi_3 : nn r_ < 15 := Nat.lt_of_lt_of_le (bR_lt ek_2) (by decide)
  subst er_1
  refine lv_astore (pc := 5) (lv' := [(4, .ref (ad (nn r_))), (0, .ref (ad 15)), (1, .int r_), (2, .int tp), (3, .int bt)]) hx hb dX3_put_5 hl (by decide) rfl (fun ls hl => ?_)
  refine lv_iload_n (pc := 7) hx hb dX3_put_7 rfl (lv_at hl 4 rfl) ?_
  refine lv_if_ne (pc := 8) (tgt := 21) hx hb dX3_put_8 (by decide) (fun c_4 => ?_) (fun c_4 => ?_)
  · refine lv_aload_n (pc := 21) hx hb dX3_put_21 rfl (lv_at hl 1 rfl) ?_
    refine r_get (pc := 22) E hC hW.obj 5 (v := .ref (ad 6)) rfl rfl (by decide) uX3 (List.mem_cons_of_mem _ kw_119) (fun _ h => h) dX3_put_22 ?_
    refine lv_iload_n (pc := 25) hx hb dX3_put_25 rfl (lv_at hl 3 rfl) ?_
    refine lv_i2l (pc := 26) (v := tp.toInt64) hx hb dX3_put_26 rfl ?_
    refine lv_iload_n (pc := 27) hx hb dX3_put_27 rfl (lv_at hl 4 rfl) ?_
    refine lv_i2l (pc := 28) (v := bt.toInt64) hx hb dX3_put_28 rfl ?_
    refine k_v (pc := 29) (k_V E hC hS hA hl.1 (c1.recv hC (hW.fr (i := 6) (by decide)) rfl) rfl (c_X0_become l D tk N0 sa hAD H.size g 6 (by decide) tp.toInt64 bt.toInt64 ) kw_829 kw_495 kw_496 kw_2 kw_497 (n := 2) (by decide +kernel) rfl ⟨⟨rfl, rfl⟩, ⟨by decide, by decide⟩, by decide, by decide⟩ rfl (Nat.le_of_ble_eq_true rfl) hW dX3_put_29) hS (fun q _ w => cwA.go hS.1 q w) hn (fun H locs hR hz hk hS => ?_)
    have hW := hR
    obtain ⟨g_7, eg_7⟩ : ∃ z, z = f_become g 6 tp.toInt64 bt.toInt64 := ⟨_, rfl⟩
    rw [← eg_7] at hW
    refine lv_aload_n (pc := 32) hx hb dX3_put_32 rfl (lv_at hl 1 rfl) ?_
    refine lv_aload (pc := 33) hx hb dX3_put_33 (lv_at hl 0 rfl) ?_
    refine k_i (pc := 35) (k_V E hC hS hA hl.1 (c1.recv hC hW.obj rfl) rfl (c_X3_settle l D tk N0 sa hAD H.size g_7 ((nn r_)) hi_3 ) kw_830 kw_832 kp_16 kw_1 kw_833 (n := 1) (by decide +kernel) rfl ⟨⟨rfl, rfl⟩, ⟨by decide, by decide⟩, by decide, by decide⟩ rfl (Nat.le_of_ble_eq_true rfl) hW dX3_put_35) hS (fun q _ w => cwA.go hS.1 q w) hn (fun r_8 H locs hR hz hk hS => ?_)
    obtain ⟨er_8, hW⟩ := hR
    obtain ⟨g_10, eg_10⟩ : ∃ z, z = f_setW g_7 ((nn r_)) := ⟨_, rfl⟩
    rw [← eg_10] at hW
    refine vx_ret ?_
    refine r_iret (pc := 38) E hr hlk hS (by decide) (by decide) ?_ dX3_put_38
    exact ⟨(by subst eg_7 eg_10 er_8; first | assumption | (simp [xo, ek_2, c_4]; done)), (by subst eg_7 eg_10 er_8; first | with_reducible rfl | (simp [c_4, p_TB, p_TV, p_TC, p_TI, p_BT, p_BV, p_BC, p_BI, p_VT, p_VB, p_VC, p_VI, p_CT, p_CB, p_CV, p_CI, p_IT, p_IB, p_IV, p_IC, p_TT, p_BB, p_CC, p_II]; done)), hW.to (by subst eg_7 eg_10 er_8; first | with_reducible rfl | (simp [c_4, p_TB, p_TV, p_TC, p_TI, p_BT, p_BV, p_BC, p_BI, p_VT, p_VB, p_VC, p_VI, p_CT, p_CB, p_CV, p_CI, p_IT, p_IB, p_IV, p_IC, p_TT, p_BB, p_CC, p_II]; done))⟩
  · exact r_throwS (pc := 11) 2 hlst E hC hS hA hl.1 hlk htb hU rfl (by decide +kernel) kw_826 kw_15 at_RX3_58 dX3_put_11 dX3_put_14 dX3_put_15 dX3_put_17 dX3_put_20 (by decide) (Nat.le_of_ble_eq_true rfl) (by decide) (by decide) (by simp [xo, ek_2, c_4]) (by decide) (by decide)
