set_option maxHeartbeats 4000000 in
set_option maxRecDepth 100000 in
/-- jdk/internal/util/ArraysSupport.newLength(III)I -/
theorem c_J8_newLength_cabcc (l : Launch) (D : va_G) (tk : Nat → ClassId) (N0 : Nat) (sa : Nat → Nat)  (sz : Nat) (ol : Int32) (mg : Int32) (pg : Int32) (hn1 : 0 < ol + f_max mg pg) (hn2 : ol + f_max mg pg ≤ 2147483639) : Met l yJ8_newLength_cabcc (wsy yJ8_newLength_cabcc cJ8_newLength_cabcc 4 (some .int)) ({ frames := 1, cells := 0, slots := 0, locals := 21 } : Room) (cP D tk N0 sa [.int ol, .int mg, .int pg] sz (fun H => True)) (kQi (fun r H => r = ol + f_max mg pg) (nwA sz)) (0) (0) (nwA sz) := by
  refine mStart RJ8 rfl (by decide +kernel) (Nat.le_of_ble_eq_true rfl) ?_
  intro p e s m args below meth c E hr hlk hnm hsz hC hF ls hl
  subst hsz
  obtain ⟨hx, hb, -⟩ := id E
  have hA : ∀ q, (nwA s.heap.size) q → N0 ≤ q := fun q h => Nat.le_trans hC.2.1 h
  have hn : ∀ q, s.heap.size ≤ q → (nwA s.heap.size) q := fun q h => h
  have hS : va_S (nwA s.heap.size) s.heap s.heap [] := va_S.rf
  have hl : lv_has ls 4 [(0, .int ol), (1, .int mg), (2, .int pg)] := hl
  refine lv_iload_n (pc := 0) hx hb dJ8_newLength_cabcc_0 rfl (lv_at hl 0 rfl) ?_
  refine lv_iload_n (pc := 1) hx hb dJ8_newLength_cabcc_1 rfl (lv_at hl 1 rfl) ?_
  refine lv_iload_n (pc := 2) hx hb dJ8_newLength_cabcc_2 rfl (lv_at hl 2 rfl) ?_
  refine k_i (pc := 3) (k_S E hC hS hA hl.1 (c_J9_max_7cf53 l D tk N0 sa s.heap.size mg pg ) kw_200 kw_201 kw_9 kw_202 (n := 2) (by decide +kernel) rfl ⟨⟨rfl, rfl⟩, ⟨by decide, by decide⟩, by decide, by decide⟩ rfl (Nat.le_of_ble_eq_true rfl) trivial dJ8_newLength_cabcc_3) hS (fun q z w => absurd w (Nat.not_le.mpr z)) hn (fun r_1 H locs hR hz hk hS => ?_)
  have er_1 := hR
  refine lv_iadd (pc := 6) hx hb dJ8_newLength_cabcc_6 ?_
  obtain ⟨x_3, ex_3⟩ : ∃ z9 : Int32, z9 = ol + r_1 := ⟨_, rfl⟩
  rw [← ex_3]
  refine lv_istore_n (pc := 7) (lv' := [(3, .int x_3), (0, .int ol), (1, .int mg), (2, .int pg)]) hx hb dJ8_newLength_cabcc_7 rfl hl (by decide) rfl (fun ls hl => ?_)
  refine lv_iconst (pc := 8) (v := 0) hx hb dJ8_newLength_cabcc_8 (by decide) ?_
  refine lv_iload_n (pc := 9) hx hb dJ8_newLength_cabcc_9 rfl (lv_at hl 0 rfl) ?_
  refine lv_icmp_ge (pc := 10) (tgt := 21) hx hb dJ8_newLength_cabcc_10 (by decide) (fun c_4 => ?_) (fun c_4 => ?_)
  · exact absurd c_4 (Int32.not_le.mpr (by rw [ex_3, er_1]; exact hn1))
  refine lv_iload_n (pc := 13) hx hb dJ8_newLength_cabcc_13 rfl (lv_at hl 0 rfl) ?_
  refine lv_ldc (pc := 14) (v := 2147483639) hx hb E.2.2.2.1 (E.2.2.2.2 _ (List.mem_cons_of_mem _ kw_203)) dJ8_newLength_cabcc_14 ?_
  refine lv_icmp_gt (pc := 16) (tgt := 21) hx hb dJ8_newLength_cabcc_16 (by decide) (fun c_5 => ?_) (fun c_5 => ?_)
  · exact absurd c_5 (Int32.not_lt.mpr (by rw [ex_3, er_1]; exact hn2))
  refine lv_iload_n (pc := 19) hx hb dJ8_newLength_cabcc_19 rfl (lv_at hl 0 rfl) ?_
  refine r_iret (pc := 20) E hr hlk hS (by decide) (by decide) ?_ dJ8_newLength_cabcc_20
  subst er_1 ex_3; first | with_reducible rfl | (simp [p_TB, p_TV, p_TC, p_TI, p_BT, p_BV, p_BC, p_BI, p_VT, p_VB, p_VC, p_VI, p_CT, p_CB, p_CV, p_CI, p_IT, p_IB, p_IV, p_IC, p_TT, p_BB, p_CC, p_II]; done) | rfl
