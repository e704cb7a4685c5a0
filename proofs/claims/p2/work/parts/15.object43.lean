set_option maxHeartbeats 4000000 in
set_option maxRecDepth 100000 in
/-- Bestratios.house(I)I -/
theorem c_X3_house (l : Launch) (hlst : l.stackTraces = false) (D : va_G) (tk : Nat → ClassId) (N0 : Nat) (sa : Nat → Nat) {ad : Nat → Nat} (hAD : ADok N0 ad) (sz : Nat) (g : CS) (w_ : Int32) : vx_Met l yX3_house (wsy yX3_house cX3_house 2 (some .int)) ({ frames := 7, cells := 1, slots := 6, locals := 112 } : Room) (cP D tk N0 sa [.ref (ad 15), .int w_] sz (fun H => CW D tk ad g H)) (kQi (fun r H => bW w_ 0 4 = 0 ∧ r = f_cnt g w_) (nwA sz)) (kX (fun E => (E = "java/lang/IllegalArgumentException" ∧ bW w_ 0 4 = 1)) sz) (1) (6) (nwA sz) := by
  refine mStartX RX3 rfl (by decide +kernel) (Nat.le_of_ble_eq_true rfl) ?_
  intro p e s m args below meth c E hr hlk htb hsz hC hF ls hl
  subst hsz
  obtain ⟨hx, hb, -⟩ := id E
  have hA : ∀ q, (nwA s.heap.size) q → N0 ≤ q := fun q h => Nat.le_trans hC.2.1 h
  have hn : ∀ q, s.heap.size ≤ q → (nwA s.heap.size) q := fun q h => h
  have hS : va_S (nwA s.heap.size) s.heap s.heap [] := va_S.rf
  have hU : ∀ q, q < s.heap.size → s.heap[q]? = s.heap[q]? := fun _ _ => rfl
  have hl : lv_has ls 2 [(0, .ref (ad 15)), (1, .int w_)] := hl
  have hW : CW D tk ad g s.heap := hF
  refine lv_iload_n (pc := 0) hx hb dX3_house_0 rfl (lv_at hl 1 rfl) ?_
  refine lv_iconst (pc := 1) (v := 0) hx hb dX3_house_1 (by decide) ?_
  refine lv_iconst (pc := 2) (v := 4) hx hb dX3_house_2 (by decide) ?_
  have hZ := hS.1
  refine kx_v (pc := 3) (kx_S E hC hS hA hl.1 (c_X3_requireWithin l hlst D tk N0 sa s.heap.size w_ 0 4 ) kw_851 kw_852 kw_1 kw_853 (n := 3) (by decide +kernel) rfl ⟨⟨rfl, rfl⟩, ⟨by decide, by decide⟩, by decide, by decide⟩ rfl (Nat.le_of_ble_eq_true rfl) trivial dX3_house_3) hS (fun q z w => absurd w (Nat.not_le.mpr z)) hn hlk htb hU (fun E9 h9 => by rcases h9 with ⟨rfl, h9⟩ <;> first | (simp [h9]; done) | (simp [xo, h9]; done)) ⟨by decide, by decide⟩ (fun H locs hR hz hk hS => ?_)
  have hU := fun q (hq : q < s.heap.size) => (hk q (Nat.lt_of_lt_of_le hq hZ) (Nat.not_le.mpr (Nat.lt_of_lt_of_le hq hZ))).trans (hU q hq)
  have ek_2 := hR
  have hW := hW.new hk
  refine lv_aload_n (pc := 6) hx hb dX3_house_6 rfl (lv_at hl 0 rfl) ?_
  refine lv_iload_n (pc := 7) hx hb dX3_house_7 rfl (lv_at hl 1 rfl) ?_
  have hZ := hS.1
  refine k_i (pc := 8) (k_V E hC hS hA hl.1 (c1.recv hC hW.obj rfl) rfl (c_X3_countOf l D tk N0 sa hAD H.size g w_ ) kw_674 kw_676 kp_8 kw_1 kw_677 (n := 1) (by decide +kernel) rfl ⟨⟨rfl, rfl⟩, ⟨by decide, by decide⟩, by decide, by decide⟩ rfl (Nat.le_of_ble_eq_true rfl) hW dX3_house_8) hS (fun q z w => absurd w (Nat.not_le.mpr z)) hn (fun r_3 H locs hR hz hk hS => ?_)
  have hU := fun q (hq : q < s.heap.size) => (hk q (Nat.lt_of_lt_of_le hq hZ) (Nat.not_le.mpr (Nat.lt_of_lt_of_le hq hZ))).trans (hU q hq)
  have er_3 := hR
  have hW := hW.new hk
  refine vx_ret ?_
  refine r_iret (pc := 11) E hr hlk hS (by decide) (by decide) ?_ dX3_house_11
  exact ⟨(by subst er_3; first | assumption | (simp [xo, ek_2]; done)), (by subst er_3; first | with_reducible rfl | (simp [p_TB, p_TV, p_TC, p_TI, p_BT, p_BV, p_BC, p_BI, p_VT, p_VB, p_VC, p_VI, p_CT, p_CB, p_CV, p_CI, p_IT, p_IB, p_IV, p_IC, p_TT, p_BB, p_CC, p_II]; done) | rfl)⟩
