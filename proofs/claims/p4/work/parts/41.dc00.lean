set_option maxHeartbeats 40000000 in
set_option maxRecDepth 100000 in
theorem g3_X5_decimal {p : Program} {l : Launch} {e : Env} {s : State} {m : MethodId} {args : Array Value} {below : List Frame} {meth : Method} {c : Code} {Q : State → Prop} {D : va_G} {tk : Nat → ClassId} {N0 : Nat} {sa : Nat → Nat} (E : CallFix p m c cX5_decimal 5 s args (wsy yX5_decimal cX5_decimal 5 (some (.object "java/lang/String"))) RX5) (hC : Ctx D tk N0 sa s) (hA : ∀ q, (nwA s.heap.size) q → N0 ≤ q) (hn : ∀ q, s.heap.size ≤ q → (nwA s.heap.size) q) (hr : meth.sig.returnType = (some (.object "java/lang/String"))) (hlk : meth.locks = false) (x : Int64) (pl : Int32) (kp : Nat) (nd : Nat) (hpl : pl = nI kp) (hkp : kp ≤ 9) (hkn : kp + 1 ≤ nd) (hnd : nd ≤ 20) (hdg : dgJ (f_absJ x) ≤ nd) (hQ : Q = MQ below (kQr (fun r H => ∃ n9, n9 ≤ nd + 2 ∧ s.heap.size ≤ r ∧ SX D tk r n9 H) (nwA s.heap.size)) args s (16 + 4 * kp + 2 * m_dG nd) (83 + 3 * nd + 36 * kp + 68 * m_dG nd) (nwA s.heap.size)) (v_27 : Nat) (qf17 : Nat) (x_16 : Int32) (n : Nat) (k : Nat) (l9 : Nat) (q9 : Nat) (hf9 : kp + 1 - k < n + 1) (hk9 : k ≤ kp) (hL8 : l9 = dgJ (f_absJ x) + k) (hL7 : k = 0 ∨ l9 ≤ kp + 1) (ih_23 : ∀ (k : Nat) (l9 : Nat)(q9 : Nat), kp + 1 - k < n → k ≤ kp → l9 = dgJ (f_absJ x) + k → k = 0 ∨ l9 ≤ kp + 1 → ∀ (H : Heap) (locs : List Loc) (ls : Array Slot), va_S (nwA s.heap.size) s.heap H locs → SX D tk q9 l9 H → lv_has ls 5 [(0, .long x), (2, .int pl), (3, .ref q9)] → W p l e ({ frames := 6, cells := 16 + 4 * kp + 2 * m_dG nd, slots := 83 + 3 * nd + 36 * kp + 68 * m_dG nd, locals := 139 } : Room) s m args below meth c H locs (4 + m_dG nd + 4 * k) (24 + nd + 34 * m_dG nd + 34 * k) Q (F0 m 23 ls [])) (hl8 : 0 + 1 + (l9 - (l9 - kp)) ≤ 400000) (hln : l9 ≤ nd) (hcA : sbC 16 (0 + 0) ≤ 500000) (hcB : sbC (sbC 16 (0 + 0)) (0 + 0 + (l9 - kp - 0)) ≤ 500000) (hcP : sbC (sbC (sbC 16 (0 + 0)) (0 + 0 + (l9 - kp - 0))) (0 + 0 + (l9 - kp - 0) + (0 + 1 + (l9 - (l9 - kp)))) ≤ 500000) (hcZ : sbC (sbC (sbC 16 (0 + 0)) (0 + 0 + (l9 - kp - 0))) (0 + 0 + (l9 - kp - 0) + 0) ≤ 500000) (hTc1 : 4 + m_dG nd + 4 * k + 0 + 0 + 1 + 1 + (sbK 16 (0 + 0)) + 2 + (sbK (sbC 16 (0 + 0)) ((0 + 0) + (((l9 - kp) - 0)))) + (sbK (sbC (sbC 16 (0 + 0)) ((0 + 0) + (((l9 - kp) - 0)))) (((0 + 0) + (((l9 - kp) - 0))) + 0)) + 2 ≤ 16 + 4 * kp + 2 * m_dG nd) (hTs1 : 24 + nd + 34 * m_dG nd + 34 * k + 0 + 0 + 4 + 16 + (sbS 16 (0 + 0)) + (4 + ((l9 - kp) - 0)) + (sbS (sbC 16 (0 + 0)) ((0 + 0) + (((l9 - kp) - 0)))) + (sbS (sbC (sbC 16 (0 + 0)) ((0 + 0) + (((l9 - kp) - 0)))) (((0 + 0) + (((l9 - kp) - 0))) + 0)) + (4 + (((0 + 0) + (((l9 - kp) - 0))) + 0)) ≤ 83 + 3 * nd + 36 * kp + 68 * m_dG nd) (hWc1 : 4 + m_dG nd + 4 * k + 0 + 0 + 1 + 1 + (sbK 16 (0 + 0)) + 2 + (sbK (sbC 16 (0 + 0)) ((0 + 0) + (((l9 - kp) - 0)))) + (sbK (sbC (sbC 16 (0 + 0)) ((0 + 0) + (((l9 - kp) - 0)))) (((0 + 0) + (((l9 - kp) - 0))) + 0)) + 2 ≤ 16 + 4 * kp + 2 * m_dG nd) (hWs1 : 24 + nd + 34 * m_dG nd + 34 * k + 0 + 0 + 4 + 16 + (sbS 16 (0 + 0)) + (4 + ((l9 - kp) - 0)) + (sbS (sbC 16 (0 + 0)) ((0 + 0) + (((l9 - kp) - 0)))) + (sbS (sbC (sbC 16 (0 + 0)) ((0 + 0) + (((l9 - kp) - 0)))) (((0 + 0) + (((l9 - kp) - 0))) + 0)) + (4 + (((0 + 0) + (((l9 - kp) - 0))) + 0)) ≤ 83 + 3 * nd + 36 * kp + 68 * m_dG nd) (hTc2 : 4 + m_dG nd + 4 * k + 0 + 0 + 1 + 1 + (sbK 16 (0 + 0)) + 2 + (sbK (sbC 16 (0 + 0)) ((0 + 0) + (((l9 - kp) - 0)))) + 1 + 1 + (sbK 16 (0 + 1)) + 2 + (sbK (sbC 16 (0 + 1)) ((0 + 1) + ((l9 - (l9 - kp))))) + 2 + (sbK (sbC (sbC 16 (0 + 0)) ((0 + 0) + (((l9 - kp) - 0)))) (((0 + 0) + (((l9 - kp) - 0))) + (((0 + 1) + ((l9 - (l9 - kp))))))) + 2 ≤ 16 + 4 * kp + 2 * m_dG nd) (hTs2 : 24 + nd + 34 * m_dG nd + 34 * k + 0 + 0 + 4 + 16 + (sbS 16 (0 + 0)) + (4 + ((l9 - kp) - 0)) + (sbS (sbC 16 (0 + 0)) ((0 + 0) + (((l9 - kp) - 0)))) + 4 + 16 + (sbS 16 (0 + 1)) + (4 + (l9 - (l9 - kp))) + (sbS (sbC 16 (0 + 1)) ((0 + 1) + ((l9 - (l9 - kp))))) + (4 + ((0 + 1) + ((l9 - (l9 - kp))))) + (sbS (sbC (sbC 16 (0 + 0)) ((0 + 0) + (((l9 - kp) - 0)))) (((0 + 0) + (((l9 - kp) - 0))) + (((0 + 1) + ((l9 - (l9 - kp))))))) + (4 + (((0 + 0) + (((l9 - kp) - 0))) + (((0 + 1) + ((l9 - (l9 - kp))))))) ≤ 83 + 3 * nd + 36 * kp + 68 * m_dG nd) (hWc2 : 4 + m_dG nd + 4 * k + 0 + 0 + 1 + 1 + (sbK 16 (0 + 0)) + 2 + (sbK (sbC 16 (0 + 0)) ((0 + 0) + (((l9 - kp) - 0)))) + 1 + 1 + (sbK 16 (0 + 1)) + 2 + (sbK (sbC 16 (0 + 1)) ((0 + 1) + ((l9 - (l9 - kp))))) + 2 + (sbK (sbC (sbC 16 (0 + 0)) ((0 + 0) + (((l9 - kp) - 0)))) (((0 + 0) + (((l9 - kp) - 0))) + (((0 + 1) + ((l9 - (l9 - kp))))))) + 2 ≤ 16 + 4 * kp + 2 * m_dG nd) (hWs2 : 24 + nd + 34 * m_dG nd + 34 * k + 0 + 0 + 4 + 16 + (sbS 16 (0 + 0)) + (4 + ((l9 - kp) - 0)) + (sbS (sbC 16 (0 + 0)) ((0 + 0) + (((l9 - kp) - 0)))) + 4 + 16 + (sbS 16 (0 + 1)) + (4 + (l9 - (l9 - kp))) + (sbS (sbC 16 (0 + 1)) ((0 + 1) + ((l9 - (l9 - kp))))) + (4 + ((0 + 1) + ((l9 - (l9 - kp))))) + (sbS (sbC (sbC 16 (0 + 0)) ((0 + 0) + (((l9 - kp) - 0)))) (((0 + 0) + (((l9 - kp) - 0))) + (((0 + 1) + ((l9 - (l9 - kp))))))) + (4 + (((0 + 0) + (((l9 - kp) - 0))) + (((0 + 1) + ((l9 - (l9 - kp))))))) ≤ 83 + 3 * nd + 36 * kp + 68 * m_dG nd) (H : Heap) (locs : List Loc) (ls : Array Slot) (hS : va_S (nwA s.heap.size) s.heap H locs) (f17 : c1 D qf17 (.inr (1, [.ref v_27, .int 0, .int 0, .int (nI ((0 + 0) + (((l9 - kp) - 0))))])) H) (f19 : BA D tk v_27 (sbC (sbC 16 (0 + 0)) ((0 + 0) + (((l9 - kp) - 0)))) H) (k29 : SX D tk (sa (10 + 6)) 0 H) (s_f17 : s.heap.size ≤ qf17) (g_f17 : (nwA s.heap.size) qf17) (g_f19 : (nwA s.heap.size) v_27) (l_f17_f19 : qf17 < v_27) (hl : lv_has ls 5 [(4, .int x_16), (0, .long x), (2, .int pl), (3, .ref q9)]) : W p l e ({ frames := 6, cells := 16 + 4 * kp + 2 * m_dG nd, slots := 83 + 3 * nd + 36 * kp + 68 * m_dG nd, locals := 139 } : Room) s m args below meth c H locs (4 + m_dG nd + 4 * k + 0 + 0 + 1 + 1 + (sbK 16 (0 + 0)) + 2 + (sbK (sbC 16 (0 + 0)) ((0 + 0) + (((l9 - kp) - 0))))) (24 + nd + 34 * m_dG nd + 34 * k + 0 + 0 + 4 + 16 + (sbS 16 (0 + 0)) + (4 + ((l9 - kp) - 0)) + (sbS (sbC 16 (0 + 0)) ((0 + 0) + (((l9 - kp) - 0))))) Q (F0 m 131 ls [.ref (sa (10 + 6)), .ref qf17]) := by
  obtain ⟨hx, hb, -⟩ := id E
  have hZ0_ := hS.1
  have t_f17 := f17.lt
  have t_f19 := f19.lt
  have t_k29 := k29.lt
  refine k_r (pc := 131) (k_V E hC hS hA hl.1 (c1.recv hC f17 rfl) rfl (c_J4_append_15ec4 l D tk N0 sa H.size qf17 v_27 (sbC (sbC 16 (0 + 0)) ((0 + 0) + (((l9 - kp) - 0)))) ((0 + 0) + (((l9 - kp) - 0))) (sa (10 + 6)) 0 0 (hA _ g_f17) (hA _ g_f19) (sbC_ge _ _).1 hcB (by decide)) kw_1353 kw_399 kw_400 kw_19 kw_401 (n := 1) (by decide +kernel) rfl ⟨⟨rfl, rfl⟩, ⟨Nat.le_of_ble_eq_true rfl, Nat.le_of_ble_eq_true rfl⟩, (pre1 hTc1), (pre1 hTs1)⟩ rfl (Nat.le_of_ble_eq_true rfl) ⟨f17, f19, k29⟩ dX5_decimal_131) hS (inA2.to g_f17 g_f19) hn (fun r_30 H locs hR hz hk hS => ?_)
  obtain ⟨er9, hR⟩ := hR
  rw [er9]
  obtain ⟨v_31, hv_31, f17, f19⟩ := hR
  have g_f19 := hv_31.elim (fun e9 => e9 ▸ g_f19) (fun z9 => hn _ (Nat.le_trans hZ0_ z9))
  have l_f17_f19 : qf17 < v_31 := hv_31.elim (fun e9 => e9 ▸ l_f17_f19) (fun z9 => Nat.lt_of_lt_of_le t_f17 z9)
  have hv_31 := hv_31.imp_right (fun z9 => Nat.le_trans hZ0_ z9)
  have hZ0_ := hS.1
  have t_f17 := f17.lt
  have t_f19 := f19.lt
  refine k_r (pc := 134) (k_V E hC hS hA hl.1 (c1.recv hC f17 rfl) rfl (c_J4_toString_0e30d l D tk N0 sa H.size qf17 v_31 (sbC (sbC (sbC 16 (0 + 0)) ((0 + 0) + (((l9 - kp) - 0)))) (((0 + 0) + (((l9 - kp) - 0))) + 0)) (((0 + 0) + (((l9 - kp) - 0))) + 0) 0 (sbC_ge _ _).1 (Nat.le_trans hcZ (by decide))) kw_1381 kw_316 kw_317 kw_19 kw_318 (n := 0) (by decide +kernel) rfl ⟨⟨rfl, rfl⟩, ⟨Nat.le_of_ble_eq_true rfl, Nat.le_of_ble_eq_true rfl⟩, hTc1, hTs1⟩ rfl (Nat.le_of_ble_eq_true rfl) ⟨f17, f19⟩ dX5_decimal_134) hS (fun q z w => absurd w (Nat.not_le.mpr z)) hn (fun r_32 H locs hR hz hk hS => ?_)
  have f17 := f17.kept (hk _ f17.lt (Nat.not_le.mpr f17.lt))
  have f19 := f19.kept (hk _ f19.lt (Nat.not_le.mpr f19.lt))
  obtain ⟨q_f33, z9_, y9_, f33⟩ := hR
  have f33 := SM.sx f33
  have zr_f33 : s.heap.size ≤ r_32 := Nat.le_trans hZ0_ z9_
  try rw [hQ]
  refine r_aret (pc := 137) E hr (Or.inl ⟨_, rfl⟩) hlk hS hTc1 hTs1 ?_ dX5_decimal_137
  exact ⟨_, (by omega), zr_f33, f33⟩
set_option maxHeartbeats 40000000 in
set_option maxRecDepth 100000 in
theorem g4_X5_decimal {p : Program} {l : Launch} {e : Env} {s : State} {m : MethodId} {args : Array Value} {below : List Frame} {meth : Method} {c : Code} {Q : State → Prop} {D : va_G} {tk : Nat → ClassId} {N0 : Nat} {sa : Nat → Nat} (E : CallFix p m c cX5_decimal 5 s args (wsy yX5_decimal cX5_decimal 5 (some (.object "java/lang/String"))) RX5) (hC : Ctx D tk N0 sa s) (hA : ∀ q, (nwA s.heap.size) q → N0 ≤ q) (hn : ∀ q, s.heap.size ≤ q → (nwA s.heap.size) q) (hr : meth.sig.returnType = (some (.object "java/lang/String"))) (hlk : meth.locks = false) (x : Int64) (pl : Int32) (kp : Nat) (nd : Nat) (hpl : pl = nI kp) (hkp : kp ≤ 9) (hkn : kp + 1 ≤ nd) (hnd : nd ≤ 20) (hdg : dgJ (f_absJ x) ≤ nd) (hQ : Q = MQ below (kQr (fun r H => ∃ n9, n9 ≤ nd + 2 ∧ s.heap.size ≤ r ∧ SX D tk r n9 H) (nwA s.heap.size)) args s (16 + 4 * kp + 2 * m_dG nd) (83 + 3 * nd + 36 * kp + 68 * m_dG nd) (nwA s.heap.size)) (v_27 : Nat) (r_44 : Nat) (qf17 : Nat) (x_16 : Int32) (n : Nat) (k : Nat) (l9 : Nat) (q9 : Nat) (hf9 : kp + 1 - k < n + 1) (hk9 : k ≤ kp) (hL8 : l9 = dgJ (f_absJ x) + k) (hL7 : k = 0 ∨ l9 ≤ kp + 1) (ih_23 : ∀ (k : Nat) (l9 : Nat)(q9 : Nat), kp + 1 - k < n → k ≤ kp → l9 = dgJ (f_absJ x) + k → k = 0 ∨ l9 ≤ kp + 1 → ∀ (H : Heap) (locs : List Loc) (ls : Array Slot), va_S (nwA s.heap.size) s.heap H locs → SX D tk q9 l9 H → lv_has ls 5 [(0, .long x), (2, .int pl), (3, .ref q9)] → W p l e ({ frames := 6, cells := 16 + 4 * kp + 2 * m_dG nd, slots := 83 + 3 * nd + 36 * kp + 68 * m_dG nd, locals := 139 } : Room) s m args below meth c H locs (4 + m_dG nd + 4 * k) (24 + nd + 34 * m_dG nd + 34 * k) Q (F0 m 23 ls [])) (hl8 : 0 + 1 + (l9 - (l9 - kp)) ≤ 400000) (hln : l9 ≤ nd) (hcA : sbC 16 (0 + 0) ≤ 500000) (hcB : sbC (sbC 16 (0 + 0)) (0 + 0 + (l9 - kp - 0)) ≤ 500000) (hcP : sbC (sbC (sbC 16 (0 + 0)) (0 + 0 + (l9 - kp - 0))) (0 + 0 + (l9 - kp - 0) + (0 + 1 + (l9 - (l9 - kp)))) ≤ 500000) (hcZ : sbC (sbC (sbC 16 (0 + 0)) (0 + 0 + (l9 - kp - 0))) (0 + 0 + (l9 - kp - 0) + 0) ≤ 500000) (hTc2 : 4 + m_dG nd + 4 * k + 0 + 0 + 1 + 1 + (sbK 16 (0 + 0)) + 2 + (sbK (sbC 16 (0 + 0)) ((0 + 0) + (((l9 - kp) - 0)))) + 1 + 1 + (sbK 16 (0 + 1)) + 2 + (sbK (sbC 16 (0 + 1)) ((0 + 1) + ((l9 - (l9 - kp))))) + 2 + (sbK (sbC (sbC 16 (0 + 0)) ((0 + 0) + (((l9 - kp) - 0)))) (((0 + 0) + (((l9 - kp) - 0))) + (((0 + 1) + ((l9 - (l9 - kp))))))) + 2 ≤ 16 + 4 * kp + 2 * m_dG nd) (hTs2 : 24 + nd + 34 * m_dG nd + 34 * k + 0 + 0 + 4 + 16 + (sbS 16 (0 + 0)) + (4 + ((l9 - kp) - 0)) + (sbS (sbC 16 (0 + 0)) ((0 + 0) + (((l9 - kp) - 0)))) + 4 + 16 + (sbS 16 (0 + 1)) + (4 + (l9 - (l9 - kp))) + (sbS (sbC 16 (0 + 1)) ((0 + 1) + ((l9 - (l9 - kp))))) + (4 + ((0 + 1) + ((l9 - (l9 - kp))))) + (sbS (sbC (sbC 16 (0 + 0)) ((0 + 0) + (((l9 - kp) - 0)))) (((0 + 0) + (((l9 - kp) - 0))) + (((0 + 1) + ((l9 - (l9 - kp))))))) + (4 + (((0 + 0) + (((l9 - kp) - 0))) + (((0 + 1) + ((l9 - (l9 - kp))))))) ≤ 83 + 3 * nd + 36 * kp + 68 * m_dG nd) (hWc2 : 4 + m_dG nd + 4 * k + 0 + 0 + 1 + 1 + (sbK 16 (0 + 0)) + 2 + (sbK (sbC 16 (0 + 0)) ((0 + 0) + (((l9 - kp) - 0)))) + 1 + 1 + (sbK 16 (0 + 1)) + 2 + (sbK (sbC 16 (0 + 1)) ((0 + 1) + ((l9 - (l9 - kp))))) + 2 + (sbK (sbC (sbC 16 (0 + 0)) ((0 + 0) + (((l9 - kp) - 0)))) (((0 + 0) + (((l9 - kp) - 0))) + (((0 + 1) + ((l9 - (l9 - kp))))))) + 2 ≤ 16 + 4 * kp + 2 * m_dG nd) (hWs2 : 24 + nd + 34 * m_dG nd + 34 * k + 0 + 0 + 4 + 16 + (sbS 16 (0 + 0)) + (4 + ((l9 - kp) - 0)) + (sbS (sbC 16 (0 + 0)) ((0 + 0) + (((l9 - kp) - 0)))) + 4 + 16 + (sbS 16 (0 + 1)) + (4 + (l9 - (l9 - kp))) + (sbS (sbC 16 (0 + 1)) ((0 + 1) + ((l9 - (l9 - kp))))) + (4 + ((0 + 1) + ((l9 - (l9 - kp))))) + (sbS (sbC (sbC 16 (0 + 0)) ((0 + 0) + (((l9 - kp) - 0)))) (((0 + 0) + (((l9 - kp) - 0))) + (((0 + 1) + ((l9 - (l9 - kp))))))) + (4 + (((0 + 0) + (((l9 - kp) - 0))) + (((0 + 1) + ((l9 - (l9 - kp))))))) ≤ 83 + 3 * nd + 36 * kp + 68 * m_dG nd) (H : Heap) (locs : List Loc) (ls : Array Slot) (hS : va_S (nwA s.heap.size) s.heap H locs) (f17 : c1 D qf17 (.inr (1, [.ref v_27, .int 0, .int 0, .int (nI ((0 + 0) + (((l9 - kp) - 0))))])) H) (f19 : BA D tk v_27 (sbC (sbC 16 (0 + 0)) ((0 + 0) + (((l9 - kp) - 0)))) H) (f45 : SX D tk r_44 (((0 + 1) + ((l9 - (l9 - kp))))) H) (s_f17 : s.heap.size ≤ qf17) (g_f17 : (nwA s.heap.size) qf17) (g_f19 : (nwA s.heap.size) v_27) (l_f17_f19 : qf17 < v_27) (hl : lv_has ls 5 [(4, .int x_16), (0, .long x), (2, .int pl), (3, .ref q9)]) : W p l e ({ frames := 6, cells := 16 + 4 * kp + 2 * m_dG nd, slots := 83 + 3 * nd + 36 * kp + 68 * m_dG nd, locals := 139 } : Room) s m args below meth c H locs (4 + m_dG nd + 4 * k + 0 + 0 + 1 + 1 + (sbK 16 (0 + 0)) + 2 + (sbK (sbC 16 (0 + 0)) ((0 + 0) + (((l9 - kp) - 0)))) + 1 + 1 + (sbK 16 (0 + 1)) + 2 + (sbK (sbC 16 (0 + 1)) ((0 + 1) + ((l9 - (l9 - kp))))) + 2) (24 + nd + 34 * m_dG nd + 34 * k + 0 + 0 + 4 + 16 + (sbS 16 (0 + 0)) + (4 + ((l9 - kp) - 0)) + (sbS (sbC 16 (0 + 0)) ((0 + 0) + (((l9 - kp) - 0)))) + 4 + 16 + (sbS 16 (0 + 1)) + (4 + (l9 - (l9 - kp))) + (sbS (sbC 16 (0 + 1)) ((0 + 1) + ((l9 - (l9 - kp))))) + (4 + ((0 + 1) + ((l9 - (l9 - kp)))))) Q (F0 m 131 ls [.ref r_44, .ref qf17]) := by
  obtain ⟨hx, hb, -⟩ := id E
  have hZ0_ := hS.1
  have t_f17 := f17.lt
  have t_f19 := f19.lt
  have t_f45 := f45.lt
  refine k_r (pc := 131) (k_V E hC hS hA hl.1 (c1.recv hC f17 rfl) rfl (c_J4_append_15ec4 l D tk N0 sa H.size qf17 v_27 (sbC (sbC 16 (0 + 0)) ((0 + 0) + (((l9 - kp) - 0)))) ((0 + 0) + (((l9 - kp) - 0))) r_44 (((0 + 1) + ((l9 - (l9 - kp))))) 0 (hA _ g_f17) (hA _ g_f19) (sbC_ge _ _).1 hcB hl8) kw_1353 kw_399 kw_400 kw_19 kw_401 (n := 1) (by decide +kernel) rfl ⟨⟨rfl, rfl⟩, ⟨Nat.le_of_ble_eq_true rfl, Nat.le_of_ble_eq_true rfl⟩, (pre1 hTc2), (pre1 hTs2)⟩ rfl (Nat.le_of_ble_eq_true rfl) ⟨f17, f19, f45⟩ dX5_decimal_131) hS (inA2.to g_f17 g_f19) hn (fun r_46 H locs hR hz hk hS => ?_)
  obtain ⟨er9, hR⟩ := hR
  rw [er9]
  obtain ⟨v_47, hv_47, f17, f19⟩ := hR
  have g_f19 := hv_47.elim (fun e9 => e9 ▸ g_f19) (fun z9 => hn _ (Nat.le_trans hZ0_ z9))
  have l_f17_f19 : qf17 < v_47 := hv_47.elim (fun e9 => e9 ▸ l_f17_f19) (fun z9 => Nat.lt_of_lt_of_le t_f17 z9)
  have hv_47 := hv_47.imp_right (fun z9 => Nat.le_trans hZ0_ z9)
  have hZ0_ := hS.1
  have t_f17 := f17.lt
  have t_f19 := f19.lt
  refine k_r (pc := 134) (k_V E hC hS hA hl.1 (c1.recv hC f17 rfl) rfl (c_J4_toString_0e30d l D tk N0 sa H.size qf17 v_47 (sbC (sbC (sbC 16 (0 + 0)) ((0 + 0) + (((l9 - kp) - 0)))) (((0 + 0) + (((l9 - kp) - 0))) + (((0 + 1) + ((l9 - (l9 - kp))))))) (((0 + 0) + (((l9 - kp) - 0))) + (((0 + 1) + ((l9 - (l9 - kp)))))) 0 (sbC_ge _ _).1 (Nat.le_trans hcP (by decide))) kw_1381 kw_316 kw_317 kw_19 kw_318 (n := 0) (by decide +kernel) rfl ⟨⟨rfl, rfl⟩, ⟨Nat.le_of_ble_eq_true rfl, Nat.le_of_ble_eq_true rfl⟩, hTc2, hTs2⟩ rfl (Nat.le_of_ble_eq_true rfl) ⟨f17, f19⟩ dX5_decimal_134) hS (fun q z w => absurd w (Nat.not_le.mpr z)) hn (fun r_48 H locs hR hz hk hS => ?_)
  have f17 := f17.kept (hk _ f17.lt (Nat.not_le.mpr f17.lt))
  have f19 := f19.kept (hk _ f19.lt (Nat.not_le.mpr f19.lt))
  obtain ⟨q_f49, z9_, y9_, f49⟩ := hR
  have f49 := SM.sx f49
  have zr_f49 : s.heap.size ≤ r_48 := Nat.le_trans hZ0_ z9_
  try rw [hQ]
  refine r_aret (pc := 137) E hr (Or.inl ⟨_, rfl⟩) hlk hS hTc2 hTs2 ?_ dX5_decimal_137
  exact ⟨_, (by omega), zr_f49, f49⟩
set_option maxHeartbeats 40000000 in
set_option maxRecDepth 100000 in
theorem g2_X5_decimal {p : Program} {l : Launch} {e : Env} {s : State} {m : MethodId} {args : Array Value} {below : List Frame} {meth : Method} {c : Code} {Q : State → Prop} {D : va_G} {tk : Nat → ClassId} {N0 : Nat} {sa : Nat → Nat} (E : CallFix p m c cX5_decimal 5 s args (wsy yX5_decimal cX5_decimal 5 (some (.object "java/lang/String"))) RX5) (hC : Ctx D tk N0 sa s) (hA : ∀ q, (nwA s.heap.size) q → N0 ≤ q) (hn : ∀ q, s.heap.size ≤ q → (nwA s.heap.size) q) (hr : meth.sig.returnType = (some (.object "java/lang/String"))) (hlk : meth.locks = false) (x : Int64) (pl : Int32) (kp : Nat) (nd : Nat) (hpl : pl = nI kp) (hkp : kp ≤ 9) (hkn : kp + 1 ≤ nd) (hnd : nd ≤ 20) (hdg : dgJ (f_absJ x) ≤ nd) (hQ : Q = MQ below (kQr (fun r H => ∃ n9, n9 ≤ nd + 2 ∧ s.heap.size ≤ r ∧ SX D tk r n9 H) (nwA s.heap.size)) args s (16 + 4 * kp + 2 * m_dG nd) (83 + 3 * nd + 36 * kp + 68 * m_dG nd) (nwA s.heap.size)) (q_f19 : Nat) (qf17 : Nat) (x_16 : Int32) (n : Nat) (k : Nat) (l9 : Nat) (q9 : Nat) (hf9 : kp + 1 - k < n + 1) (hk9 : k ≤ kp) (hL8 : l9 = dgJ (f_absJ x) + k) (hL7 : k = 0 ∨ l9 ≤ kp + 1) (ih_23 : ∀ (k : Nat) (l9 : Nat)(q9 : Nat), kp + 1 - k < n → k ≤ kp → l9 = dgJ (f_absJ x) + k → k = 0 ∨ l9 ≤ kp + 1 → ∀ (H : Heap) (locs : List Loc) (ls : Array Slot), va_S (nwA s.heap.size) s.heap H locs → SX D tk q9 l9 H → lv_has ls 5 [(0, .long x), (2, .int pl), (3, .ref q9)] → W p l e ({ frames := 6, cells := 16 + 4 * kp + 2 * m_dG nd, slots := 83 + 3 * nd + 36 * kp + 68 * m_dG nd, locals := 139 } : Room) s m args below meth c H locs (4 + m_dG nd + 4 * k) (24 + nd + 34 * m_dG nd + 34 * k) Q (F0 m 23 ls [])) (b0_ : Nat) (hx9 : x_16 = nI (l9 - kp)) (hl5 : l9 ≤ 100000000) (hl6 : l9 - kp - 0 ≤ 400000) (hl7 : l9 - (l9 - kp) ≤ 400000) (hl8 : 0 + 1 + (l9 - (l9 - kp)) ≤ 400000) (hln : l9 ≤ nd) (hcp3 : sbC (sbC 16 (0 + 1)) (0 + 1 + (l9 - (l9 - kp))) ≤ 100000000) (hcA : sbC 16 (0 + 0) ≤ 500000) (hcB : sbC (sbC 16 (0 + 0)) (0 + 0 + (l9 - kp - 0)) ≤ 500000) (hcP : sbC (sbC (sbC 16 (0 + 0)) (0 + 0 + (l9 - kp - 0))) (0 + 0 + (l9 - kp - 0) + (0 + 1 + (l9 - (l9 - kp)))) ≤ 500000) (hcZ : sbC (sbC (sbC 16 (0 + 0)) (0 + 0 + (l9 - kp - 0))) (0 + 0 + (l9 - kp - 0) + 0) ≤ 500000) (hTc1 : 4 + m_dG nd + 4 * k + 0 + 0 + 1 + 1 + (sbK 16 (0 + 0)) + 2 + (sbK (sbC 16 (0 + 0)) ((0 + 0) + (((l9 - kp) - 0)))) + (sbK (sbC (sbC 16 (0 + 0)) ((0 + 0) + (((l9 - kp) - 0)))) (((0 + 0) + (((l9 - kp) - 0))) + 0)) + 2 ≤ 16 + 4 * kp + 2 * m_dG nd) (hTs1 : 24 + nd + 34 * m_dG nd + 34 * k + 0 + 0 + 4 + 16 + (sbS 16 (0 + 0)) + (4 + ((l9 - kp) - 0)) + (sbS (sbC 16 (0 + 0)) ((0 + 0) + (((l9 - kp) - 0)))) + (sbS (sbC (sbC 16 (0 + 0)) ((0 + 0) + (((l9 - kp) - 0)))) (((0 + 0) + (((l9 - kp) - 0))) + 0)) + (4 + (((0 + 0) + (((l9 - kp) - 0))) + 0)) ≤ 83 + 3 * nd + 36 * kp + 68 * m_dG nd) (hWc1 : 4 + m_dG nd + 4 * k + 0 + 0 + 1 + 1 + (sbK 16 (0 + 0)) + 2 + (sbK (sbC 16 (0 + 0)) ((0 + 0) + (((l9 - kp) - 0)))) + (sbK (sbC (sbC 16 (0 + 0)) ((0 + 0) + (((l9 - kp) - 0)))) (((0 + 0) + (((l9 - kp) - 0))) + 0)) + 2 ≤ 16 + 4 * kp + 2 * m_dG nd) (hWs1 : 24 + nd + 34 * m_dG nd + 34 * k + 0 + 0 + 4 + 16 + (sbS 16 (0 + 0)) + (4 + ((l9 - kp) - 0)) + (sbS (sbC 16 (0 + 0)) ((0 + 0) + (((l9 - kp) - 0)))) + (sbS (sbC (sbC 16 (0 + 0)) ((0 + 0) + (((l9 - kp) - 0)))) (((0 + 0) + (((l9 - kp) - 0))) + 0)) + (4 + (((0 + 0) + (((l9 - kp) - 0))) + 0)) ≤ 83 + 3 * nd + 36 * kp + 68 * m_dG nd) (hTc2 : 4 + m_dG nd + 4 * k + 0 + 0 + 1 + 1 + (sbK 16 (0 + 0)) + 2 + (sbK (sbC 16 (0 + 0)) ((0 + 0) + (((l9 - kp) - 0)))) + 1 + 1 + (sbK 16 (0 + 1)) + 2 + (sbK (sbC 16 (0 + 1)) ((0 + 1) + ((l9 - (l9 - kp))))) + 2 + (sbK (sbC (sbC 16 (0 + 0)) ((0 + 0) + (((l9 - kp) - 0)))) (((0 + 0) + (((l9 - kp) - 0))) + (((0 + 1) + ((l9 - (l9 - kp))))))) + 2 ≤ 16 + 4 * kp + 2 * m_dG nd) (hTs2 : 24 + nd + 34 * m_dG nd + 34 * k + 0 + 0 + 4 + 16 + (sbS 16 (0 + 0)) + (4 + ((l9 - kp) - 0)) + (sbS (sbC 16 (0 + 0)) ((0 + 0) + (((l9 - kp) - 0)))) + 4 + 16 + (sbS 16 (0 + 1)) + (4 + (l9 - (l9 - kp))) + (sbS (sbC 16 (0 + 1)) ((0 + 1) + ((l9 - (l9 - kp))))) + (4 + ((0 + 1) + ((l9 - (l9 - kp))))) + (sbS (sbC (sbC 16 (0 + 0)) ((0 + 0) + (((l9 - kp) - 0)))) (((0 + 0) + (((l9 - kp) - 0))) + (((0 + 1) + ((l9 - (l9 - kp))))))) + (4 + (((0 + 0) + (((l9 - kp) - 0))) + (((0 + 1) + ((l9 - (l9 - kp))))))) ≤ 83 + 3 * nd + 36 * kp + 68 * m_dG nd) (hWc2 : 4 + m_dG nd + 4 * k + 0 + 0 + 1 + 1 + (sbK 16 (0 + 0)) + 2 + (sbK (sbC 16 (0 + 0)) ((0 + 0) + (((l9 - kp) - 0)))) + 1 + 1 + (sbK 16 (0 + 1)) + 2 + (sbK (sbC 16 (0 + 1)) ((0 + 1) + ((l9 - (l9 - kp))))) + 2 + (sbK (sbC (sbC 16 (0 + 0)) ((0 + 0) + (((l9 - kp) - 0)))) (((0 + 0) + (((l9 - kp) - 0))) + (((0 + 1) + ((l9 - (l9 - kp))))))) + 2 ≤ 16 + 4 * kp + 2 * m_dG nd) (hWs2 : 24 + nd + 34 * m_dG nd + 34 * k + 0 + 0 + 4 + 16 + (sbS 16 (0 + 0)) + (4 + ((l9 - kp) - 0)) + (sbS (sbC 16 (0 + 0)) ((0 + 0) + (((l9 - kp) - 0)))) + 4 + 16 + (sbS 16 (0 + 1)) + (4 + (l9 - (l9 - kp))) + (sbS (sbC 16 (0 + 1)) ((0 + 1) + ((l9 - (l9 - kp))))) + (4 + ((0 + 1) + ((l9 - (l9 - kp))))) + (sbS (sbC (sbC 16 (0 + 0)) ((0 + 0) + (((l9 - kp) - 0)))) (((0 + 0) + (((l9 - kp) - 0))) + (((0 + 1) + ((l9 - (l9 - kp))))))) + (4 + (((0 + 0) + (((l9 - kp) - 0))) + (((0 + 1) + ((l9 - (l9 - kp))))))) ≤ 83 + 3 * nd + 36 * kp + 68 * m_dG nd) (hTc3 : 4 + m_dG nd + 4 * k + 0 + 0 + 1 + 1 + (sbK 16 (0 + 1)) + 2 + (sbK (sbC 16 (0 + 1)) ((0 + 1) + (((l9 - kp) - 0)))) + (sbK (sbC (sbC 16 (0 + 1)) ((0 + 1) + (((l9 - kp) - 0)))) (((0 + 1) + (((l9 - kp) - 0))) + 0)) + 2 ≤ 16 + 4 * kp + 2 * m_dG nd) (hTs3 : 24 + nd + 34 * m_dG nd + 34 * k + 0 + 0 + 4 + 16 + (sbS 16 (0 + 1)) + (4 + ((l9 - kp) - 0)) + (sbS (sbC 16 (0 + 1)) ((0 + 1) + (((l9 - kp) - 0)))) + (sbS (sbC (sbC 16 (0 + 1)) ((0 + 1) + (((l9 - kp) - 0)))) (((0 + 1) + (((l9 - kp) - 0))) + 0)) + (4 + (((0 + 1) + (((l9 - kp) - 0))) + 0)) ≤ 83 + 3 * nd + 36 * kp + 68 * m_dG nd) (hWc3 : 4 + m_dG nd + 4 * k + 0 + 0 + 1 + 1 + (sbK 16 (0 + 1)) + 2 + (sbK (sbC 16 (0 + 1)) ((0 + 1) + (((l9 - kp) - 0)))) + (sbK (sbC (sbC 16 (0 + 1)) ((0 + 1) + (((l9 - kp) - 0)))) (((0 + 1) + (((l9 - kp) - 0))) + 0)) + 2 ≤ 16 + 4 * kp + 2 * m_dG nd) (hWs3 : 24 + nd + 34 * m_dG nd + 34 * k + 0 + 0 + 4 + 16 + (sbS 16 (0 + 1)) + (4 + ((l9 - kp) - 0)) + (sbS (sbC 16 (0 + 1)) ((0 + 1) + (((l9 - kp) - 0)))) + (sbS (sbC (sbC 16 (0 + 1)) ((0 + 1) + (((l9 - kp) - 0)))) (((0 + 1) + (((l9 - kp) - 0))) + 0)) + (4 + (((0 + 1) + (((l9 - kp) - 0))) + 0)) ≤ 83 + 3 * nd + 36 * kp + 68 * m_dG nd) (hTc4 : 4 + m_dG nd + 4 * k + 0 + 0 + 1 + 1 + (sbK 16 (0 + 1)) + 2 + (sbK (sbC 16 (0 + 1)) ((0 + 1) + (((l9 - kp) - 0)))) + 1 + 1 + (sbK 16 (0 + 1)) + 2 + (sbK (sbC 16 (0 + 1)) ((0 + 1) + ((l9 - (l9 - kp))))) + 2 + (sbK (sbC (sbC 16 (0 + 1)) ((0 + 1) + (((l9 - kp) - 0)))) (((0 + 1) + (((l9 - kp) - 0))) + (((0 + 1) + ((l9 - (l9 - kp))))))) + 2 ≤ 16 + 4 * kp + 2 * m_dG nd) (hTs4 : 24 + nd + 34 * m_dG nd + 34 * k + 0 + 0 + 4 + 16 + (sbS 16 (0 + 1)) + (4 + ((l9 - kp) - 0)) + (sbS (sbC 16 (0 + 1)) ((0 + 1) + (((l9 - kp) - 0)))) + 4 + 16 + (sbS 16 (0 + 1)) + (4 + (l9 - (l9 - kp))) + (sbS (sbC 16 (0 + 1)) ((0 + 1) + ((l9 - (l9 - kp))))) + (4 + ((0 + 1) + ((l9 - (l9 - kp))))) + (sbS (sbC (sbC 16 (0 + 1)) ((0 + 1) + (((l9 - kp) - 0)))) (((0 + 1) + (((l9 - kp) - 0))) + (((0 + 1) + ((l9 - (l9 - kp))))))) + (4 + (((0 + 1) + (((l9 - kp) - 0))) + (((0 + 1) + ((l9 - (l9 - kp))))))) ≤ 83 + 3 * nd + 36 * kp + 68 * m_dG nd) (hWc4 : 4 + m_dG nd + 4 * k + 0 + 0 + 1 + 1 + (sbK 16 (0 + 1)) + 2 + (sbK (sbC 16 (0 + 1)) ((0 + 1) + (((l9 - kp) - 0)))) + 1 + 1 + (sbK 16 (0 + 1)) + 2 + (sbK (sbC 16 (0 + 1)) ((0 + 1) + ((l9 - (l9 - kp))))) + 2 + (sbK (sbC (sbC 16 (0 + 1)) ((0 + 1) + (((l9 - kp) - 0)))) (((0 + 1) + (((l9 - kp) - 0))) + (((0 + 1) + ((l9 - (l9 - kp))))))) + 2 ≤ 16 + 4 * kp + 2 * m_dG nd) (hWs4 : 24 + nd + 34 * m_dG nd + 34 * k + 0 + 0 + 4 + 16 + (sbS 16 (0 + 1)) + (4 + ((l9 - kp) - 0)) + (sbS (sbC 16 (0 + 1)) ((0 + 1) + (((l9 - kp) - 0)))) + 4 + 16 + (sbS 16 (0 + 1)) + (4 + (l9 - (l9 - kp))) + (sbS (sbC 16 (0 + 1)) ((0 + 1) + ((l9 - (l9 - kp))))) + (4 + ((0 + 1) + ((l9 - (l9 - kp))))) + (sbS (sbC (sbC 16 (0 + 1)) ((0 + 1) + (((l9 - kp) - 0)))) (((0 + 1) + (((l9 - kp) - 0))) + (((0 + 1) + ((l9 - (l9 - kp))))))) + (4 + (((0 + 1) + (((l9 - kp) - 0))) + (((0 + 1) + ((l9 - (l9 - kp))))))) ≤ 83 + 3 * nd + 36 * kp + 68 * m_dG nd) (H : Heap) (locs : List Loc) (ls : Array Slot) (hS : va_S (nwA s.heap.size) s.heap H locs) (h0s : xf D 0 q9 0 (.ref b0_) H) (h1s : xf D 0 q9 1 (.int 0) H) (h2s : BX tk b0_ l9 H) (f17 : c1 D qf17 (.inr (1, [.ref q_f19, .int 0, .int 0, .int 0])) H) (f19 : BA D tk q_f19 16 H) (k21 : SX D tk (sa (10 + 6)) 0 H) (s_f17 : s.heap.size ≤ qf17) (g_f17 : (nwA s.heap.size) qf17) (g_f19 : (nwA s.heap.size) q_f19) (l_f17_f19 : qf17 < q_f19) (l_h0s_f17 : q9 < qf17) (l_h0s_f19 : q9 < q_f19) (l_h1s_f17 : q9 < qf17) (l_h1s_f19 : q9 < q_f19) (l_h2s_f17 : b0_ < qf17) (l_h2s_f19 : b0_ < q_f19) (hl : lv_has ls 5 [(4, .int x_16), (0, .long x), (2, .int pl), (3, .ref q9)]) : W p l e ({ frames := 6, cells := 16 + 4 * kp + 2 * m_dG nd, slots := 83 + 3 * nd + 36 * kp + 68 * m_dG nd, locals := 139 } : Room) s m args below meth c H locs (4 + m_dG nd + 4 * k + 0 + 0 + 1 + 1) (24 + nd + 34 * m_dG nd + 34 * k + 0 + 0 + 4 + 16) Q (F0 m 84 ls [.ref (sa (10 + 6)), .ref qf17]) := by
  obtain ⟨hx, hb, -⟩ := id E
  have hZ0_ := hS.1
  have t_h0s := h0s.lt
  have t_h1s := h1s.lt
  have t_h2s := h2s.lt
  have t_f17 := f17.lt
  have t_f19 := f19.lt
  have t_k21 := k21.lt
  refine k_r (pc := 84) (k_V E hC hS hA hl.1 (c1.recv hC f17 rfl) rfl (c_J4_append_15ec4 l D tk N0 sa H.size qf17 q_f19 16 0 (sa (10 + 6)) 0 0 (hA _ g_f17) (hA _ g_f19) (Nat.zero_le _) (by decide) (by decide)) kw_1353 kw_399 kw_400 kw_19 kw_401 (n := 1) (by decide +kernel) rfl ⟨⟨rfl, rfl⟩, ⟨Nat.le_of_ble_eq_true rfl, Nat.le_of_ble_eq_true rfl⟩, (pre1 (pre1 (pre1 (pre1 hTc1)))), (pre1 (pre1 (pre1 (pre1 hTs1))))⟩ rfl (Nat.le_of_ble_eq_true rfl) ⟨f17, f19, k21⟩ dX5_decimal_84) hS (inA2.to g_f17 g_f19) hn (fun r_22 H locs hR hz hk hS => ?_)
  have h0s := h0s.kept (hk _ h0s.lt (inA2.not (clA.ne h0s.cl f17.cl (hC.oo 0 1 rfl rfl (by decide))) (clA.ne h0s.cl f19.cl (hC.oa 0 1 rfl rfl)) h0s.lt))
  have h1s := h1s.kept (hk _ h1s.lt (inA2.not (clA.ne h1s.cl f17.cl (hC.oo 0 1 rfl rfl (by decide))) (clA.ne h1s.cl f19.cl (hC.oa 0 1 rfl rfl)) h1s.lt))
  have h2s := h2s.kept (hk _ h2s.lt (inA2.not (h2s.neo hC f17.cl (ci := 1) rfl) (Nat.ne_of_lt l_h2s_f19) h2s.lt))
  obtain ⟨er9, hR⟩ := hR
  rw [er9]
  obtain ⟨v_23, hv_23, f17, f19⟩ := hR
  have g_f19 := hv_23.elim (fun e9 => e9 ▸ g_f19) (fun z9 => hn _ (Nat.le_trans hZ0_ z9))
  have l_h0s_f19 : q9 < v_23 := hv_23.elim (fun e9 => e9 ▸ l_h0s_f19) (fun z9 => Nat.lt_of_lt_of_le t_h0s z9)
  have l_h1s_f19 : q9 < v_23 := hv_23.elim (fun e9 => e9 ▸ l_h1s_f19) (fun z9 => Nat.lt_of_lt_of_le t_h1s z9)
  have l_h2s_f19 : b0_ < v_23 := hv_23.elim (fun e9 => e9 ▸ l_h2s_f19) (fun z9 => Nat.lt_of_lt_of_le t_h2s z9)
  have l_f17_f19 : qf17 < v_23 := hv_23.elim (fun e9 => e9 ▸ l_f17_f19) (fun z9 => Nat.lt_of_lt_of_le t_f17 z9)
  have hv_23 := hv_23.imp_right (fun z9 => Nat.le_trans hZ0_ z9)
  refine lv_aload_n (pc := 87) hx hb dX5_decimal_87 rfl (lv_at hl 3 rfl) ?_
  refine lv_iconst (pc := 88) (v := 0) hx hb dX5_decimal_88 (by decide) ?_
  refine lv_iload (pc := 89) hx hb dX5_decimal_89 (lv_at hl 0 rfl) ?_
  have hZ0_ := hS.1
  have t_h0s := h0s.lt
  have t_h1s := h1s.lt
  have t_h2s := h2s.lt
  have t_f17 := f17.lt
  have t_f19 := f19.lt
  refine k_r (pc := 91) (k_V E hC hS hA hl.1 (xf.recv hC h0s rfl) rfl (c_J0_substring_37a41 l D tk N0 sa H.size q9 l9 0 (l9 - kp) 0 x_16 nI_0.symm hx9 (Nat.zero_le _) (Nat.sub_le _ _) hl5) kw_1713 kw_1714 kw_1715 kw_20 kw_1716 (n := 2) (by decide +kernel) rfl ⟨⟨rfl, rfl⟩, ⟨Nat.le_of_ble_eq_true rfl, Nat.le_of_ble_eq_true rfl⟩, (pre1 (pre1 (pre1 hTc1))), (pre1 (pre1 (pre1 hTs1)))⟩ rfl (Nat.le_of_ble_eq_true rfl) ⟨_, h0s, h1s, h2s⟩ dX5_decimal_91) hS (fun q z w => absurd w (Nat.not_le.mpr z)) hn (fun r_24 H locs hR hz hk hS => ?_)
  have h0s := h0s.kept (hk _ h0s.lt (Nat.not_le.mpr h0s.lt))
  have h1s := h1s.kept (hk _ h1s.lt (Nat.not_le.mpr h1s.lt))
  have h2s := h2s.kept (hk _ h2s.lt (Nat.not_le.mpr h2s.lt))
  have f17 := f17.kept (hk _ f17.lt (Nat.not_le.mpr f17.lt))
  have f19 := f19.kept (hk _ f19.lt (Nat.not_le.mpr f19.lt))
  have f25 := hR
  have hZ0_ := hS.1
  have t_h0s := h0s.lt
  have t_h1s := h1s.lt
  have t_h2s := h2s.lt
  have t_f17 := f17.lt
  have t_f19 := f19.lt
  have t_f25 := f25.lt
  refine k_r (pc := 94) (k_V E hC hS hA hl.1 (c1.recv hC f17 rfl) rfl (c_J4_append_15ec4 l D tk N0 sa H.size qf17 v_23 (sbC 16 (0 + 0)) (0 + 0) r_24 (((l9 - kp) - 0)) 0 (hA _ g_f17) (hA _ g_f19) (sbC_ge _ _).1 hcA hl6) kw_1353 kw_399 kw_400 kw_19 kw_401 (n := 1) (by decide +kernel) rfl ⟨⟨rfl, rfl⟩, ⟨Nat.le_of_ble_eq_true rfl, Nat.le_of_ble_eq_true rfl⟩, (pre1 (pre1 hTc1)), (pre1 (pre1 hTs1))⟩ rfl (Nat.le_of_ble_eq_true rfl) ⟨f17, f19, f25⟩ dX5_decimal_94) hS (inA2.to g_f17 g_f19) hn (fun r_26 H locs hR hz hk hS => ?_)
  have h0s := h0s.kept (hk _ h0s.lt (inA2.not (clA.ne h0s.cl f17.cl (hC.oo 0 1 rfl rfl (by decide))) (clA.ne h0s.cl f19.cl (hC.oa 0 1 rfl rfl)) h0s.lt))
  have h1s := h1s.kept (hk _ h1s.lt (inA2.not (clA.ne h1s.cl f17.cl (hC.oo 0 1 rfl rfl (by decide))) (clA.ne h1s.cl f19.cl (hC.oa 0 1 rfl rfl)) h1s.lt))
  have h2s := h2s.kept (hk _ h2s.lt (inA2.not (h2s.neo hC f17.cl (ci := 1) rfl) (Nat.ne_of_lt l_h2s_f19) h2s.lt))
  obtain ⟨er9, hR⟩ := hR
  rw [er9]
  obtain ⟨v_27, hv_27, f17, f19⟩ := hR
  have g_f19 := hv_27.elim (fun e9 => e9 ▸ g_f19) (fun z9 => hn _ (Nat.le_trans hZ0_ z9))
  have l_h0s_f19 : q9 < v_27 := hv_27.elim (fun e9 => e9 ▸ l_h0s_f19) (fun z9 => Nat.lt_of_lt_of_le t_h0s z9)
  have l_h1s_f19 : q9 < v_27 := hv_27.elim (fun e9 => e9 ▸ l_h1s_f19) (fun z9 => Nat.lt_of_lt_of_le t_h1s z9)
  have l_h2s_f19 : b0_ < v_27 := hv_27.elim (fun e9 => e9 ▸ l_h2s_f19) (fun z9 => Nat.lt_of_lt_of_le t_h2s z9)
  have l_f17_f19 : qf17 < v_27 := hv_27.elim (fun e9 => e9 ▸ l_f17_f19) (fun z9 => Nat.lt_of_lt_of_le t_f17 z9)
  have hv_27 := hv_27.imp_right (fun z9 => Nat.le_trans hZ0_ z9)
  have hv_27 := hv_27.elim (fun e9 => e9 ▸ hv_23) Or.inr
  refine lv_iload_n (pc := 97) hx hb dX5_decimal_97 rfl (lv_at hl 2 rfl) ?_
  refine lv_if_le (pc := 98) (tgt := 129) hx hb dX5_decimal_98 (by decide) (fun c_28 => ?_) (fun c_28 => ?_)
  · refine va_ldcS (pc := 129) hx hb E.2.2.2.1 (hC.2.2.2.2.1 6 _ rfl).1 dX5_decimal_129 ?_
    have k29 : SX D tk (sa (10 + 6)) 0 H := hC.str hS hA 6 _ rfl (by decide)
    exact g3_X5_decimal E hC hA hn hr hlk x pl kp nd hpl hkp hkn hnd hdg hQ v_27 qf17 x_16 n k l9 q9 hf9 hk9 hL8 hL7 ih_23 hl8 hln hcA hcB hcP hcZ hTc1 hTs1 hWc1 hWs1 hTc2 hTs2 hWc2 hWs2 _ _ _ hS f17 f19 k29 s_f17 g_f17 g_f19 l_f17_f19 hl
  · have hS0_ := hS
    refine r_new (pc := 101) E hC hS tyJ4_ok uJ4 (List.mem_cons_of_mem _ kw_1351) (List.mem_cons_of_mem _ kw_150) (List.mem_cons_of_mem _ kw_19) (ci := 1) rfl (fs := [.null, .int 0, .int 0, .int 0]) (by decide) (pre1 (pre1 (pre1 (pre1 (pre1 (pre1 (pre1 hTc2))))))) (pre1 (pre1 (pre1 (pre1 (pre1 (pre1 (pre1 hTs2))))))) dX5_decimal_101 (fun qf34 H zq_ n_ ho_ hS => ?_)
    have l_h0s_f34 : q9 < qf34 := zq_ ▸ h0s.lt
    have h0s := h0s.kept (ho_ _ h0s.lt)
    have l_h1s_f34 : q9 < qf34 := zq_ ▸ h1s.lt
    have h1s := h1s.kept (ho_ _ h1s.lt)
    have l_h2s_f34 : b0_ < qf34 := zq_ ▸ h2s.lt
    have h2s := h2s.kept (ho_ _ h2s.lt)
    have l_f17_f34 : qf17 < qf34 := zq_ ▸ f17.lt
    have f17 := f17.kept (ho_ _ f17.lt)
    have l_f19_f34 : v_27 < qf34 := zq_ ▸ f19.lt
    have f19 := f19.kept (ho_ _ f19.lt)
    have f34 := n_
    have s_f34 : s.heap.size ≤ qf34 := zq_ ▸ hS0_.1
    have g_f34 := hn _ s_f34
    refine lv_dup (pc := 104) hx hb dX5_decimal_104 rfl ?_
    have hZ0_ := hS.1
    have t_h0s := h0s.lt
    have t_h1s := h1s.lt
    have t_h2s := h2s.lt
    have t_f17 := f17.lt
    have t_f19 := f19.lt
    have t_f34 := f34.lt
    refine k_v (pc := 105) (k_I E hC hS hA hl.1 (c_J4_init_da8c8 l D tk N0 sa H.size qf34 (hA _ g_f34)) kw_1352 kw_152 kw_19 kw_153 rfl (n := 0) (by decide +kernel) rfl ⟨⟨rfl, rfl⟩, ⟨Nat.le_of_ble_eq_true rfl, Nat.le_of_ble_eq_true rfl⟩, (pre1 (pre1 (pre1 (pre1 (pre1 (pre1 hTc2)))))), (pre1 (pre1 (pre1 (pre1 (pre1 (pre1 hTs2))))))⟩ rfl (Nat.le_of_ble_eq_true rfl) f34 dX5_decimal_105) hS (inA1.to g_f34) hn (fun H locs hR hz hk hS => ?_)
    have h0s := h0s.kept (hk _ h0s.lt (inA1.not (clA.ne h0s.cl f34.cl (hC.oo 0 1 rfl rfl (by decide))) h0s.lt))
    have h1s := h1s.kept (hk _ h1s.lt (inA1.not (clA.ne h1s.cl f34.cl (hC.oo 0 1 rfl rfl (by decide))) h1s.lt))
    have h2s := h2s.kept (hk _ h2s.lt (inA1.not (h2s.neo hC f34.cl (ci := 1) rfl) h2s.lt))
    have f17 := f17.kept (hk _ f17.lt (inA1.not (Nat.ne_of_lt l_f17_f34) f17.lt))
    have f19 := f19.kept (hk _ f19.lt (inA1.not (clA.ne f19.cl f34.cl (hC.ao 1 1 rfl rfl)) f19.lt))
    obtain ⟨q_f36, z9_, f34, f36⟩ := hR
    have s_f36 : s.heap.size ≤ q_f36 := Nat.le_trans hZ0_ z9_
    have g_f36 := hn _ s_f36
    have l_h0s_f36 : q9 < q_f36 := Nat.lt_of_lt_of_le t_h0s z9_
    have l_h1s_f36 : q9 < q_f36 := Nat.lt_of_lt_of_le t_h1s z9_
    have l_h2s_f36 : b0_ < q_f36 := Nat.lt_of_lt_of_le t_h2s z9_
    have l_f17_f36 : qf17 < q_f36 := Nat.lt_of_lt_of_le t_f17 z9_
    have l_f19_f36 : v_27 < q_f36 := Nat.lt_of_lt_of_le t_f19 z9_
    have l_f34_f36 : qf34 < q_f36 := Nat.lt_of_lt_of_le t_f34 z9_
    refine r_ldcwS (pc := 108) E hC 15 _ rfl rfl rfl dX5_decimal_108 ?_
    have k37 : SX D tk (sa (10 + 15)) 1 H := hC.str hS hA 15 _ rfl (by decide)
    have hZ0_ := hS.1
    have t_h0s := h0s.lt
    have t_h1s := h1s.lt
    have t_h2s := h2s.lt
    have t_f17 := f17.lt
    have t_f19 := f19.lt
    have t_f34 := f34.lt
    have t_f36 := f36.lt
    have t_k37 := k37.lt
    refine k_r (pc := 111) (k_V E hC hS hA hl.1 (c1.recv hC f34 rfl) rfl (c_J4_append_15ec4 l D tk N0 sa H.size qf34 q_f36 16 0 (sa (10 + 15)) 1 0 (hA _ g_f34) (hA _ g_f36) (Nat.zero_le _) (by decide) (by decide)) kw_1353 kw_399 kw_400 kw_19 kw_401 (n := 1) (by decide +kernel) rfl ⟨⟨rfl, rfl⟩, ⟨Nat.le_of_ble_eq_true rfl, Nat.le_of_ble_eq_true rfl⟩, (pre1 (pre1 (pre1 (pre1 (pre1 hTc2))))), (pre1 (pre1 (pre1 (pre1 (pre1 hTs2)))))⟩ rfl (Nat.le_of_ble_eq_true rfl) ⟨f34, f36, k37⟩ dX5_decimal_111) hS (inA2.to g_f34 g_f36) hn (fun r_38 H locs hR hz hk hS => ?_)
    have h0s := h0s.kept (hk _ h0s.lt (inA2.not (clA.ne h0s.cl f34.cl (hC.oo 0 1 rfl rfl (by decide))) (clA.ne h0s.cl f36.cl (hC.oa 0 1 rfl rfl)) h0s.lt))
    have h1s := h1s.kept (hk _ h1s.lt (inA2.not (clA.ne h1s.cl f34.cl (hC.oo 0 1 rfl rfl (by decide))) (clA.ne h1s.cl f36.cl (hC.oa 0 1 rfl rfl)) h1s.lt))
    have h2s := h2s.kept (hk _ h2s.lt (inA2.not (h2s.neo hC f34.cl (ci := 1) rfl) (Nat.ne_of_lt l_h2s_f36) h2s.lt))
    have f17 := f17.kept (hk _ f17.lt (inA2.not (Nat.ne_of_lt l_f17_f34) (clA.ne f17.cl f36.cl (hC.oa 1 1 rfl rfl)) f17.lt))
    have f19 := f19.kept (hk _ f19.lt (inA2.not (clA.ne f19.cl f34.cl (hC.ao 1 1 rfl rfl)) (Nat.ne_of_lt l_f19_f36) f19.lt))
    obtain ⟨er9, hR⟩ := hR
    rw [er9]
    obtain ⟨v_39, hv_39, f34, f36⟩ := hR
    have g_f36 := hv_39.elim (fun e9 => e9 ▸ g_f36) (fun z9 => hn _ (Nat.le_trans hZ0_ z9))
    have l_h0s_f36 : q9 < v_39 := hv_39.elim (fun e9 => e9 ▸ l_h0s_f36) (fun z9 => Nat.lt_of_lt_of_le t_h0s z9)
    have l_h1s_f36 : q9 < v_39 := hv_39.elim (fun e9 => e9 ▸ l_h1s_f36) (fun z9 => Nat.lt_of_lt_of_le t_h1s z9)
    have l_h2s_f36 : b0_ < v_39 := hv_39.elim (fun e9 => e9 ▸ l_h2s_f36) (fun z9 => Nat.lt_of_lt_of_le t_h2s z9)
    have l_f17_f36 : qf17 < v_39 := hv_39.elim (fun e9 => e9 ▸ l_f17_f36) (fun z9 => Nat.lt_of_lt_of_le t_f17 z9)
    have l_f19_f36 : v_27 < v_39 := hv_39.elim (fun e9 => e9 ▸ l_f19_f36) (fun z9 => Nat.lt_of_lt_of_le t_f19 z9)
    have l_f34_f36 : qf34 < v_39 := hv_39.elim (fun e9 => e9 ▸ l_f34_f36) (fun z9 => Nat.lt_of_lt_of_le t_f34 z9)
    have hv_39 := hv_39.imp_right (fun z9 => Nat.le_trans hZ0_ z9)
    refine lv_aload_n (pc := 114) hx hb dX5_decimal_114 rfl (lv_at hl 3 rfl) ?_
    refine lv_iload (pc := 115) hx hb dX5_decimal_115 (lv_at hl 0 rfl) ?_
    have hZ0_ := hS.1
    have t_h0s := h0s.lt
    have t_h1s := h1s.lt
    have t_h2s := h2s.lt
    have t_f17 := f17.lt
    have t_f19 := f19.lt
    have t_f34 := f34.lt
    have t_f36 := f36.lt
    refine k_r (pc := 117) (k_V E hC hS hA hl.1 (xf.recv hC h0s rfl) rfl (c_J0_substring_b52d3 l D tk N0 sa H.size q9 l9 (l9 - kp) x_16 hx9 (Nat.sub_le _ _) hl5) kw_1742 kw_1743 kw_1744 kw_20 kw_1745 (n := 1) (by decide +kernel) rfl ⟨⟨rfl, rfl⟩, ⟨Nat.le_of_ble_eq_true rfl, Nat.le_of_ble_eq_true rfl⟩, (pre1 (pre1 (pre1 (pre1 hTc2)))), (pre1 (pre1 (pre1 (pre1 hTs2))))⟩ rfl (Nat.le_of_ble_eq_true rfl) ⟨_, h0s, h1s, h2s⟩ dX5_decimal_117) hS (fun q z w => absurd w (Nat.not_le.mpr z)) hn (fun r_40 H locs hR hz hk hS => ?_)
    have h0s := h0s.kept (hk _ h0s.lt (Nat.not_le.mpr h0s.lt))
    have h1s := h1s.kept (hk _ h1s.lt (Nat.not_le.mpr h1s.lt))
    have h2s := h2s.kept (hk _ h2s.lt (Nat.not_le.mpr h2s.lt))
    have f17 := f17.kept (hk _ f17.lt (Nat.not_le.mpr f17.lt))
    have f19 := f19.kept (hk _ f19.lt (Nat.not_le.mpr f19.lt))
    have f34 := f34.kept (hk _ f34.lt (Nat.not_le.mpr f34.lt))
    have f36 := f36.kept (hk _ f36.lt (Nat.not_le.mpr f36.lt))
    have f41 := hR
    have hZ0_ := hS.1
    have t_h0s := h0s.lt
    have t_h1s := h1s.lt
    have t_h2s := h2s.lt
    have t_f17 := f17.lt
    have t_f19 := f19.lt
    have t_f34 := f34.lt
    have t_f36 := f36.lt
    have t_f41 := f41.lt
    refine k_r (pc := 120) (k_V E hC hS hA hl.1 (c1.recv hC f34 rfl) rfl (c_J4_append_15ec4 l D tk N0 sa H.size qf34 v_39 (sbC 16 (0 + 1)) (0 + 1) r_40 ((l9 - (l9 - kp))) 0 (hA _ g_f34) (hA _ g_f36) (sbC_ge _ _).1 (by decide) hl7) kw_1353 kw_399 kw_400 kw_19 kw_401 (n := 1) (by decide +kernel) rfl ⟨⟨rfl, rfl⟩, ⟨Nat.le_of_ble_eq_true rfl, Nat.le_of_ble_eq_true rfl⟩, (pre1 (pre1 (pre1 hTc2))), (pre1 (pre1 (pre1 hTs2)))⟩ rfl (Nat.le_of_ble_eq_true rfl) ⟨f34, f36, f41⟩ dX5_decimal_120) hS (inA2.to g_f34 g_f36) hn (fun r_42 H locs hR hz hk hS => ?_)
    have h0s := h0s.kept (hk _ h0s.lt (inA2.not (clA.ne h0s.cl f34.cl (hC.oo 0 1 rfl rfl (by decide))) (clA.ne h0s.cl f36.cl (hC.oa 0 1 rfl rfl)) h0s.lt))
    have h1s := h1s.kept (hk _ h1s.lt (inA2.not (clA.ne h1s.cl f34.cl (hC.oo 0 1 rfl rfl (by decide))) (clA.ne h1s.cl f36.cl (hC.oa 0 1 rfl rfl)) h1s.lt))
    have h2s := h2s.kept (hk _ h2s.lt (inA2.not (h2s.neo hC f34.cl (ci := 1) rfl) (Nat.ne_of_lt l_h2s_f36) h2s.lt))
    have f17 := f17.kept (hk _ f17.lt (inA2.not (Nat.ne_of_lt l_f17_f34) (clA.ne f17.cl f36.cl (hC.oa 1 1 rfl rfl)) f17.lt))
    have f19 := f19.kept (hk _ f19.lt (inA2.not (clA.ne f19.cl f34.cl (hC.ao 1 1 rfl rfl)) (Nat.ne_of_lt l_f19_f36) f19.lt))
    obtain ⟨er9, hR⟩ := hR
    rw [er9]
    obtain ⟨v_43, hv_43, f34, f36⟩ := hR
    have g_f36 := hv_43.elim (fun e9 => e9 ▸ g_f36) (fun z9 => hn _ (Nat.le_trans hZ0_ z9))
    have l_h0s_f36 : q9 < v_43 := hv_43.elim (fun e9 => e9 ▸ l_h0s_f36) (fun z9 => Nat.lt_of_lt_of_le t_h0s z9)
    have l_h1s_f36 : q9 < v_43 := hv_43.elim (fun e9 => e9 ▸ l_h1s_f36) (fun z9 => Nat.lt_of_lt_of_le t_h1s z9)
    have l_h2s_f36 : b0_ < v_43 := hv_43.elim (fun e9 => e9 ▸ l_h2s_f36) (fun z9 => Nat.lt_of_lt_of_le t_h2s z9)
    have l_f17_f36 : qf17 < v_43 := hv_43.elim (fun e9 => e9 ▸ l_f17_f36) (fun z9 => Nat.lt_of_lt_of_le t_f17 z9)
    have l_f19_f36 : v_27 < v_43 := hv_43.elim (fun e9 => e9 ▸ l_f19_f36) (fun z9 => Nat.lt_of_lt_of_le t_f19 z9)
    have l_f34_f36 : qf34 < v_43 := hv_43.elim (fun e9 => e9 ▸ l_f34_f36) (fun z9 => Nat.lt_of_lt_of_le t_f34 z9)
    have hv_43 := hv_43.imp_right (fun z9 => Nat.le_trans hZ0_ z9)
    have hv_43 := hv_43.elim (fun e9 => e9 ▸ hv_39) Or.inr
    have hZ0_ := hS.1
    have t_h0s := h0s.lt
    have t_h1s := h1s.lt
    have t_h2s := h2s.lt
    have t_f17 := f17.lt
    have t_f19 := f19.lt
    have t_f34 := f34.lt
    have t_f36 := f36.lt
    refine k_r (pc := 123) (k_V E hC hS hA hl.1 (c1.recv hC f34 rfl) rfl (c_J4_toString_0e30d l D tk N0 sa H.size qf34 v_43 (sbC (sbC 16 (0 + 1)) ((0 + 1) + ((l9 - (l9 - kp))))) ((0 + 1) + ((l9 - (l9 - kp)))) 0 (sbC_ge _ _).1 hcp3) kw_1381 kw_316 kw_317 kw_19 kw_318 (n := 0) (by decide +kernel) rfl ⟨⟨rfl, rfl⟩, ⟨Nat.le_of_ble_eq_true rfl, Nat.le_of_ble_eq_true rfl⟩, (pre1 (pre1 hTc2)), (pre1 (pre1 hTs2))⟩ rfl (Nat.le_of_ble_eq_true rfl) ⟨f34, f36⟩ dX5_decimal_123) hS (fun q z w => absurd w (Nat.not_le.mpr z)) hn (fun r_44 H locs hR hz hk hS => ?_)
    have h0s := h0s.kept (hk _ h0s.lt (Nat.not_le.mpr h0s.lt))
    have h1s := h1s.kept (hk _ h1s.lt (Nat.not_le.mpr h1s.lt))
    have h2s := h2s.kept (hk _ h2s.lt (Nat.not_le.mpr h2s.lt))
    have f17 := f17.kept (hk _ f17.lt (Nat.not_le.mpr f17.lt))
    have f19 := f19.kept (hk _ f19.lt (Nat.not_le.mpr f19.lt))
    have f34 := f34.kept (hk _ f34.lt (Nat.not_le.mpr f34.lt))
    have f36 := f36.kept (hk _ f36.lt (Nat.not_le.mpr f36.lt))
    obtain ⟨q_f45, z9_, y9_, f45⟩ := hR
    have f45 := SM.sx f45
    have zr_f45 : s.heap.size ≤ r_44 := Nat.le_trans hZ0_ z9_
    refine lv_goto (pc := 126) (tgt := 131) hx hb dX5_decimal_126 (by decide) ?_
    exact g4_X5_decimal E hC hA hn hr hlk x pl kp nd hpl hkp hkn hnd hdg hQ v_27 r_44 qf17 x_16 n k l9 q9 hf9 hk9 hL8 hL7 ih_23 hl8 hln hcA hcB hcP hcZ hTc2 hTs2 hWc2 hWs2 _ _ _ hS f17 f19 f45 s_f17 g_f17 g_f19 l_f17_f19 hl
set_option maxHeartbeats 40000000 in
set_option maxRecDepth 100000 in
theorem g6_X5_decimal {p : Program} {l : Launch} {e : Env} {s : State} {m : MethodId} {args : Array Value} {below : List Frame} {meth : Method} {c : Code} {Q : State → Prop} {D : va_G} {tk : Nat → ClassId} {N0 : Nat} {sa : Nat → Nat} (E : CallFix p m c cX5_decimal 5 s args (wsy yX5_decimal cX5_decimal 5 (some (.object "java/lang/String"))) RX5) (hC : Ctx D tk N0 sa s) (hA : ∀ q, (nwA s.heap.size) q → N0 ≤ q) (hn : ∀ q, s.heap.size ≤ q → (nwA s.heap.size) q) (hr : meth.sig.returnType = (some (.object "java/lang/String"))) (hlk : meth.locks = false) (x : Int64) (pl : Int32) (kp : Nat) (nd : Nat) (hpl : pl = nI kp) (hkp : kp ≤ 9) (hkn : kp + 1 ≤ nd) (hnd : nd ≤ 20) (hdg : dgJ (f_absJ x) ≤ nd) (hQ : Q = MQ below (kQr (fun r H => ∃ n9, n9 ≤ nd + 2 ∧ s.heap.size ≤ r ∧ SX D tk r n9 H) (nwA s.heap.size)) args s (16 + 4 * kp + 2 * m_dG nd) (83 + 3 * nd + 36 * kp + 68 * m_dG nd) (nwA s.heap.size)) (v_56 : Nat) (qf17 : Nat) (x_16 : Int32) (n : Nat) (k : Nat) (l9 : Nat) (q9 : Nat) (hf9 : kp + 1 - k < n + 1) (hk9 : k ≤ kp) (hL8 : l9 = dgJ (f_absJ x) + k) (hL7 : k = 0 ∨ l9 ≤ kp + 1) (ih_23 : ∀ (k : Nat) (l9 : Nat)(q9 : Nat), kp + 1 - k < n → k ≤ kp → l9 = dgJ (f_absJ x) + k → k = 0 ∨ l9 ≤ kp + 1 → ∀ (H : Heap) (locs : List Loc) (ls : Array Slot), va_S (nwA s.heap.size) s.heap H locs → SX D tk q9 l9 H → lv_has ls 5 [(0, .long x), (2, .int pl), (3, .ref q9)] → W p l e ({ frames := 6, cells := 16 + 4 * kp + 2 * m_dG nd, slots := 83 + 3 * nd + 36 * kp + 68 * m_dG nd, locals := 139 } : Room) s m args below meth c H locs (4 + m_dG nd + 4 * k) (24 + nd + 34 * m_dG nd + 34 * k) Q (F0 m 23 ls [])) (hl8 : 0 + 1 + (l9 - (l9 - kp)) ≤ 400000) (hln : l9 ≤ nd) (hcA : sbC 16 (0 + 1) ≤ 500000) (hcB : sbC (sbC 16 (0 + 1)) (0 + 1 + (l9 - kp - 0)) ≤ 500000) (hcP : sbC (sbC (sbC 16 (0 + 1)) (0 + 1 + (l9 - kp - 0))) (0 + 1 + (l9 - kp - 0) + (0 + 1 + (l9 - (l9 - kp)))) ≤ 500000) (hcZ : sbC (sbC (sbC 16 (0 + 1)) (0 + 1 + (l9 - kp - 0))) (0 + 1 + (l9 - kp - 0) + 0) ≤ 500000) (hTc3 : 4 + m_dG nd + 4 * k + 0 + 0 + 1 + 1 + (sbK 16 (0 + 1)) + 2 + (sbK (sbC 16 (0 + 1)) ((0 + 1) + (((l9 - kp) - 0)))) + (sbK (sbC (sbC 16 (0 + 1)) ((0 + 1) + (((l9 - kp) - 0)))) (((0 + 1) + (((l9 - kp) - 0))) + 0)) + 2 ≤ 16 + 4 * kp + 2 * m_dG nd) (hTs3 : 24 + nd + 34 * m_dG nd + 34 * k + 0 + 0 + 4 + 16 + (sbS 16 (0 + 1)) + (4 + ((l9 - kp) - 0)) + (sbS (sbC 16 (0 + 1)) ((0 + 1) + (((l9 - kp) - 0)))) + (sbS (sbC (sbC 16 (0 + 1)) ((0 + 1) + (((l9 - kp) - 0)))) (((0 + 1) + (((l9 - kp) - 0))) + 0)) + (4 + (((0 + 1) + (((l9 - kp) - 0))) + 0)) ≤ 83 + 3 * nd + 36 * kp + 68 * m_dG nd) (hWc3 : 4 + m_dG nd + 4 * k + 0 + 0 + 1 + 1 + (sbK 16 (0 + 1)) + 2 + (sbK (sbC 16 (0 + 1)) ((0 + 1) + (((l9 - kp) - 0)))) + (sbK (sbC (sbC 16 (0 + 1)) ((0 + 1) + (((l9 - kp) - 0)))) (((0 + 1) + (((l9 - kp) - 0))) + 0)) + 2 ≤ 16 + 4 * kp + 2 * m_dG nd) (hWs3 : 24 + nd + 34 * m_dG nd + 34 * k + 0 + 0 + 4 + 16 + (sbS 16 (0 + 1)) + (4 + ((l9 - kp) - 0)) + (sbS (sbC 16 (0 + 1)) ((0 + 1) + (((l9 - kp) - 0)))) + (sbS (sbC (sbC 16 (0 + 1)) ((0 + 1) + (((l9 - kp) - 0)))) (((0 + 1) + (((l9 - kp) - 0))) + 0)) + (4 + (((0 + 1) + (((l9 - kp) - 0))) + 0)) ≤ 83 + 3 * nd + 36 * kp + 68 * m_dG nd) (hTc4 : 4 + m_dG nd + 4 * k + 0 + 0 + 1 + 1 + (sbK 16 (0 + 1)) + 2 + (sbK (sbC 16 (0 + 1)) ((0 + 1) + (((l9 - kp) - 0)))) + 1 + 1 + (sbK 16 (0 + 1)) + 2 + (sbK (sbC 16 (0 + 1)) ((0 + 1) + ((l9 - (l9 - kp))))) + 2 + (sbK (sbC (sbC 16 (0 + 1)) ((0 + 1) + (((l9 - kp) - 0)))) (((0 + 1) + (((l9 - kp) - 0))) + (((0 + 1) + ((l9 - (l9 - kp))))))) + 2 ≤ 16 + 4 * kp + 2 * m_dG nd) (hTs4 : 24 + nd + 34 * m_dG nd + 34 * k + 0 + 0 + 4 + 16 + (sbS 16 (0 + 1)) + (4 + ((l9 - kp) - 0)) + (sbS (sbC 16 (0 + 1)) ((0 + 1) + (((l9 - kp) - 0)))) + 4 + 16 + (sbS 16 (0 + 1)) + (4 + (l9 - (l9 - kp))) + (sbS (sbC 16 (0 + 1)) ((0 + 1) + ((l9 - (l9 - kp))))) + (4 + ((0 + 1) + ((l9 - (l9 - kp))))) + (sbS (sbC (sbC 16 (0 + 1)) ((0 + 1) + (((l9 - kp) - 0)))) (((0 + 1) + (((l9 - kp) - 0))) + (((0 + 1) + ((l9 - (l9 - kp))))))) + (4 + (((0 + 1) + (((l9 - kp) - 0))) + (((0 + 1) + ((l9 - (l9 - kp))))))) ≤ 83 + 3 * nd + 36 * kp + 68 * m_dG nd) (hWc4 : 4 + m_dG nd + 4 * k + 0 + 0 + 1 + 1 + (sbK 16 (0 + 1)) + 2 + (sbK (sbC 16 (0 + 1)) ((0 + 1) + (((l9 - kp) - 0)))) + 1 + 1 + (sbK 16 (0 + 1)) + 2 + (sbK (sbC 16 (0 + 1)) ((0 + 1) + ((l9 - (l9 - kp))))) + 2 + (sbK (sbC (sbC 16 (0 + 1)) ((0 + 1) + (((l9 - kp) - 0)))) (((0 + 1) + (((l9 - kp) - 0))) + (((0 + 1) + ((l9 - (l9 - kp))))))) + 2 ≤ 16 + 4 * kp + 2 * m_dG nd) (hWs4 : 24 + nd + 34 * m_dG nd + 34 * k + 0 + 0 + 4 + 16 + (sbS 16 (0 + 1)) + (4 + ((l9 - kp) - 0)) + (sbS (sbC 16 (0 + 1)) ((0 + 1) + (((l9 - kp) - 0)))) + 4 + 16 + (sbS 16 (0 + 1)) + (4 + (l9 - (l9 - kp))) + (sbS (sbC 16 (0 + 1)) ((0 + 1) + ((l9 - (l9 - kp))))) + (4 + ((0 + 1) + ((l9 - (l9 - kp))))) + (sbS (sbC (sbC 16 (0 + 1)) ((0 + 1) + (((l9 - kp) - 0)))) (((0 + 1) + (((l9 - kp) - 0))) + (((0 + 1) + ((l9 - (l9 - kp))))))) + (4 + (((0 + 1) + (((l9 - kp) - 0))) + (((0 + 1) + ((l9 - (l9 - kp))))))) ≤ 83 + 3 * nd + 36 * kp + 68 * m_dG nd) (H : Heap) (locs : List Loc) (ls : Array Slot) (hS : va_S (nwA s.heap.size) s.heap H locs) (f17 : c1 D qf17 (.inr (1, [.ref v_56, .int 0, .int 0, .int (nI ((0 + 1) + (((l9 - kp) - 0))))])) H) (f19 : BA D tk v_56 (sbC (sbC 16 (0 + 1)) ((0 + 1) + (((l9 - kp) - 0)))) H) (k58 : SX D tk (sa (10 + 6)) 0 H) (s_f17 : s.heap.size ≤ qf17) (g_f17 : (nwA s.heap.size) qf17) (g_f19 : (nwA s.heap.size) v_56) (l_f17_f19 : qf17 < v_56) (hl : lv_has ls 5 [(4, .int x_16), (0, .long x), (2, .int pl), (3, .ref q9)]) : W p l e ({ frames := 6, cells := 16 + 4 * kp + 2 * m_dG nd, slots := 83 + 3 * nd + 36 * kp + 68 * m_dG nd, locals := 139 } : Room) s m args below meth c H locs (4 + m_dG nd + 4 * k + 0 + 0 + 1 + 1 + (sbK 16 (0 + 1)) + 2 + (sbK (sbC 16 (0 + 1)) ((0 + 1) + (((l9 - kp) - 0))))) (24 + nd + 34 * m_dG nd + 34 * k + 0 + 0 + 4 + 16 + (sbS 16 (0 + 1)) + (4 + ((l9 - kp) - 0)) + (sbS (sbC 16 (0 + 1)) ((0 + 1) + (((l9 - kp) - 0))))) Q (F0 m 131 ls [.ref (sa (10 + 6)), .ref qf17]) := by
  obtain ⟨hx, hb, -⟩ := id E
  have hZ0_ := hS.1
  have t_f17 := f17.lt
  have t_f19 := f19.lt
  have t_k58 := k58.lt
  refine k_r (pc := 131) (k_V E hC hS hA hl.1 (c1.recv hC f17 rfl) rfl (c_J4_append_15ec4 l D tk N0 sa H.size qf17 v_56 (sbC (sbC 16 (0 + 1)) ((0 + 1) + (((l9 - kp) - 0)))) ((0 + 1) + (((l9 - kp) - 0))) (sa (10 + 6)) 0 0 (hA _ g_f17) (hA _ g_f19) (sbC_ge _ _).1 hcB (by decide)) kw_1353 kw_399 kw_400 kw_19 kw_401 (n := 1) (by decide +kernel) rfl ⟨⟨rfl, rfl⟩, ⟨Nat.le_of_ble_eq_true rfl, Nat.le_of_ble_eq_true rfl⟩, (pre1 hTc3), (pre1 hTs3)⟩ rfl (Nat.le_of_ble_eq_true rfl) ⟨f17, f19, k58⟩ dX5_decimal_131) hS (inA2.to g_f17 g_f19) hn (fun r_59 H locs hR hz hk hS => ?_)
  obtain ⟨er9, hR⟩ := hR
  rw [er9]
  obtain ⟨v_60, hv_60, f17, f19⟩ := hR
  have g_f19 := hv_60.elim (fun e9 => e9 ▸ g_f19) (fun z9 => hn _ (Nat.le_trans hZ0_ z9))
  have l_f17_f19 : qf17 < v_60 := hv_60.elim (fun e9 => e9 ▸ l_f17_f19) (fun z9 => Nat.lt_of_lt_of_le t_f17 z9)
  have hv_60 := hv_60.imp_right (fun z9 => Nat.le_trans hZ0_ z9)
  have hZ0_ := hS.1
  have t_f17 := f17.lt
  have t_f19 := f19.lt
  refine k_r (pc := 134) (k_V E hC hS hA hl.1 (c1.recv hC f17 rfl) rfl (c_J4_toString_0e30d l D tk N0 sa H.size qf17 v_60 (sbC (sbC (sbC 16 (0 + 1)) ((0 + 1) + (((l9 - kp) - 0)))) (((0 + 1) + (((l9 - kp) - 0))) + 0)) (((0 + 1) + (((l9 - kp) - 0))) + 0) 0 (sbC_ge _ _).1 (Nat.le_trans hcZ (by decide))) kw_1381 kw_316 kw_317 kw_19 kw_318 (n := 0) (by decide +kernel) rfl ⟨⟨rfl, rfl⟩, ⟨Nat.le_of_ble_eq_true rfl, Nat.le_of_ble_eq_true rfl⟩, hTc3, hTs3⟩ rfl (Nat.le_of_ble_eq_true rfl) ⟨f17, f19⟩ dX5_decimal_134) hS (fun q z w => absurd w (Nat.not_le.mpr z)) hn (fun r_61 H locs hR hz hk hS => ?_)
  have f17 := f17.kept (hk _ f17.lt (Nat.not_le.mpr f17.lt))
  have f19 := f19.kept (hk _ f19.lt (Nat.not_le.mpr f19.lt))
  obtain ⟨q_f62, z9_, y9_, f62⟩ := hR
  have f62 := SM.sx f62
  have zr_f62 : s.heap.size ≤ r_61 := Nat.le_trans hZ0_ z9_
  try rw [hQ]
  refine r_aret (pc := 137) E hr (Or.inl ⟨_, rfl⟩) hlk hS hTc3 hTs3 ?_ dX5_decimal_137
  exact ⟨_, (by omega), zr_f62, f62⟩
set_option maxHeartbeats 40000000 in
set_option maxRecDepth 100000 in
theorem g7_X5_decimal {p : Program} {l : Launch} {e : Env} {s : State} {m : MethodId} {args : Array Value} {below : List Frame} {meth : Method} {c : Code} {Q : State → Prop} {D : va_G} {tk : Nat → ClassId} {N0 : Nat} {sa : Nat → Nat} (E : CallFix p m c cX5_decimal 5 s args (wsy yX5_decimal cX5_decimal 5 (some (.object "java/lang/String"))) RX5) (hC : Ctx D tk N0 sa s) (hA : ∀ q, (nwA s.heap.size) q → N0 ≤ q) (hn : ∀ q, s.heap.size ≤ q → (nwA s.heap.size) q) (hr : meth.sig.returnType = (some (.object "java/lang/String"))) (hlk : meth.locks = false) (x : Int64) (pl : Int32) (kp : Nat) (nd : Nat) (hpl : pl = nI kp) (hkp : kp ≤ 9) (hkn : kp + 1 ≤ nd) (hnd : nd ≤ 20) (hdg : dgJ (f_absJ x) ≤ nd) (hQ : Q = MQ below (kQr (fun r H => ∃ n9, n9 ≤ nd + 2 ∧ s.heap.size ≤ r ∧ SX D tk r n9 H) (nwA s.heap.size)) args s (16 + 4 * kp + 2 * m_dG nd) (83 + 3 * nd + 36 * kp + 68 * m_dG nd) (nwA s.heap.size)) (v_56 : Nat) (r_73 : Nat) (qf17 : Nat) (x_16 : Int32) (n : Nat) (k : Nat) (l9 : Nat) (q9 : Nat) (hf9 : kp + 1 - k < n + 1) (hk9 : k ≤ kp) (hL8 : l9 = dgJ (f_absJ x) + k) (hL7 : k = 0 ∨ l9 ≤ kp + 1) (ih_23 : ∀ (k : Nat) (l9 : Nat)(q9 : Nat), kp + 1 - k < n → k ≤ kp → l9 = dgJ (f_absJ x) + k → k = 0 ∨ l9 ≤ kp + 1 → ∀ (H : Heap) (locs : List Loc) (ls : Array Slot), va_S (nwA s.heap.size) s.heap H locs → SX D tk q9 l9 H → lv_has ls 5 [(0, .long x), (2, .int pl), (3, .ref q9)] → W p l e ({ frames := 6, cells := 16 + 4 * kp + 2 * m_dG nd, slots := 83 + 3 * nd + 36 * kp + 68 * m_dG nd, locals := 139 } : Room) s m args below meth c H locs (4 + m_dG nd + 4 * k) (24 + nd + 34 * m_dG nd + 34 * k) Q (F0 m 23 ls [])) (hl8 : 0 + 1 + (l9 - (l9 - kp)) ≤ 400000) (hln : l9 ≤ nd) (hcA : sbC 16 (0 + 1) ≤ 500000) (hcB : sbC (sbC 16 (0 + 1)) (0 + 1 + (l9 - kp - 0)) ≤ 500000) (hcP : sbC (sbC (sbC 16 (0 + 1)) (0 + 1 + (l9 - kp - 0))) (0 + 1 + (l9 - kp - 0) + (0 + 1 + (l9 - (l9 - kp)))) ≤ 500000) (hcZ : sbC (sbC (sbC 16 (0 + 1)) (0 + 1 + (l9 - kp - 0))) (0 + 1 + (l9 - kp - 0) + 0) ≤ 500000) (hTc4 : 4 + m_dG nd + 4 * k + 0 + 0 + 1 + 1 + (sbK 16 (0 + 1)) + 2 + (sbK (sbC 16 (0 + 1)) ((0 + 1) + (((l9 - kp) - 0)))) + 1 + 1 + (sbK 16 (0 + 1)) + 2 + (sbK (sbC 16 (0 + 1)) ((0 + 1) + ((l9 - (l9 - kp))))) + 2 + (sbK (sbC (sbC 16 (0 + 1)) ((0 + 1) + (((l9 - kp) - 0)))) (((0 + 1) + (((l9 - kp) - 0))) + (((0 + 1) + ((l9 - (l9 - kp))))))) + 2 ≤ 16 + 4 * kp + 2 * m_dG nd) (hTs4 : 24 + nd + 34 * m_dG nd + 34 * k + 0 + 0 + 4 + 16 + (sbS 16 (0 + 1)) + (4 + ((l9 - kp) - 0)) + (sbS (sbC 16 (0 + 1)) ((0 + 1) + (((l9 - kp) - 0)))) + 4 + 16 + (sbS 16 (0 + 1)) + (4 + (l9 - (l9 - kp))) + (sbS (sbC 16 (0 + 1)) ((0 + 1) + ((l9 - (l9 - kp))))) + (4 + ((0 + 1) + ((l9 - (l9 - kp))))) + (sbS (sbC (sbC 16 (0 + 1)) ((0 + 1) + (((l9 - kp) - 0)))) (((0 + 1) + (((l9 - kp) - 0))) + (((0 + 1) + ((l9 - (l9 - kp))))))) + (4 + (((0 + 1) + (((l9 - kp) - 0))) + (((0 + 1) + ((l9 - (l9 - kp))))))) ≤ 83 + 3 * nd + 36 * kp + 68 * m_dG nd) (hWc4 : 4 + m_dG nd + 4 * k + 0 + 0 + 1 + 1 + (sbK 16 (0 + 1)) + 2 + (sbK (sbC 16 (0 + 1)) ((0 + 1) + (((l9 - kp) - 0)))) + 1 + 1 + (sbK 16 (0 + 1)) + 2 + (sbK (sbC 16 (0 + 1)) ((0 + 1) + ((l9 - (l9 - kp))))) + 2 + (sbK (sbC (sbC 16 (0 + 1)) ((0 + 1) + (((l9 - kp) - 0)))) (((0 + 1) + (((l9 - kp) - 0))) + (((0 + 1) + ((l9 - (l9 - kp))))))) + 2 ≤ 16 + 4 * kp + 2 * m_dG nd) (hWs4 : 24 + nd + 34 * m_dG nd + 34 * k + 0 + 0 + 4 + 16 + (sbS 16 (0 + 1)) + (4 + ((l9 - kp) - 0)) + (sbS (sbC 16 (0 + 1)) ((0 + 1) + (((l9 - kp) - 0)))) + 4 + 16 + (sbS 16 (0 + 1)) + (4 + (l9 - (l9 - kp))) + (sbS (sbC 16 (0 + 1)) ((0 + 1) + ((l9 - (l9 - kp))))) + (4 + ((0 + 1) + ((l9 - (l9 - kp))))) + (sbS (sbC (sbC 16 (0 + 1)) ((0 + 1) + (((l9 - kp) - 0)))) (((0 + 1) + (((l9 - kp) - 0))) + (((0 + 1) + ((l9 - (l9 - kp))))))) + (4 + (((0 + 1) + (((l9 - kp) - 0))) + (((0 + 1) + ((l9 - (l9 - kp))))))) ≤ 83 + 3 * nd + 36 * kp + 68 * m_dG nd) (H : Heap) (locs : List Loc) (ls : Array Slot) (hS : va_S (nwA s.heap.size) s.heap H locs) (f17 : c1 D qf17 (.inr (1, [.ref v_56, .int 0, .int 0, .int (nI ((0 + 1) + (((l9 - kp) - 0))))])) H) (f19 : BA D tk v_56 (sbC (sbC 16 (0 + 1)) ((0 + 1) + (((l9 - kp) - 0)))) H) (f74 : SX D tk r_73 (((0 + 1) + ((l9 - (l9 - kp))))) H) (s_f17 : s.heap.size ≤ qf17) (g_f17 : (nwA s.heap.size) qf17) (g_f19 : (nwA s.heap.size) v_56) (l_f17_f19 : qf17 < v_56) (hl : lv_has ls 5 [(4, .int x_16), (0, .long x), (2, .int pl), (3, .ref q9)]) : W p l e ({ frames := 6, cells := 16 + 4 * kp + 2 * m_dG nd, slots := 83 + 3 * nd + 36 * kp + 68 * m_dG nd, locals := 139 } : Room) s m args below meth c H locs (4 + m_dG nd + 4 * k + 0 + 0 + 1 + 1 + (sbK 16 (0 + 1)) + 2 + (sbK (sbC 16 (0 + 1)) ((0 + 1) + (((l9 - kp) - 0)))) + 1 + 1 + (sbK 16 (0 + 1)) + 2 + (sbK (sbC 16 (0 + 1)) ((0 + 1) + ((l9 - (l9 - kp))))) + 2) (24 + nd + 34 * m_dG nd + 34 * k + 0 + 0 + 4 + 16 + (sbS 16 (0 + 1)) + (4 + ((l9 - kp) - 0)) + (sbS (sbC 16 (0 + 1)) ((0 + 1) + (((l9 - kp) - 0)))) + 4 + 16 + (sbS 16 (0 + 1)) + (4 + (l9 - (l9 - kp))) + (sbS (sbC 16 (0 + 1)) ((0 + 1) + ((l9 - (l9 - kp))))) + (4 + ((0 + 1) + ((l9 - (l9 - kp)))))) Q (F0 m 131 ls [.ref r_73, .ref qf17]) := by
  obtain ⟨hx, hb, -⟩ := id E
  have hZ0_ := hS.1
  have t_f17 := f17.lt
  have t_f19 := f19.lt
  have t_f74 := f74.lt
  refine k_r (pc := 131) (k_V E hC hS hA hl.1 (c1.recv hC f17 rfl) rfl (c_J4_append_15ec4 l D tk N0 sa H.size qf17 v_56 (sbC (sbC 16 (0 + 1)) ((0 + 1) + (((l9 - kp) - 0)))) ((0 + 1) + (((l9 - kp) - 0))) r_73 (((0 + 1) + ((l9 - (l9 - kp))))) 0 (hA _ g_f17) (hA _ g_f19) (sbC_ge _ _).1 hcB hl8) kw_1353 kw_399 kw_400 kw_19 kw_401 (n := 1) (by decide +kernel) rfl ⟨⟨rfl, rfl⟩, ⟨Nat.le_of_ble_eq_true rfl, Nat.le_of_ble_eq_true rfl⟩, (pre1 hTc4), (pre1 hTs4)⟩ rfl (Nat.le_of_ble_eq_true rfl) ⟨f17, f19, f74⟩ dX5_decimal_131) hS (inA2.to g_f17 g_f19) hn (fun r_75 H locs hR hz hk hS => ?_)
  obtain ⟨er9, hR⟩ := hR
  rw [er9]
  obtain ⟨v_76, hv_76, f17, f19⟩ := hR
  have g_f19 := hv_76.elim (fun e9 => e9 ▸ g_f19) (fun z9 => hn _ (Nat.le_trans hZ0_ z9))
  have l_f17_f19 : qf17 < v_76 := hv_76.elim (fun e9 => e9 ▸ l_f17_f19) (fun z9 => Nat.lt_of_lt_of_le t_f17 z9)
  have hv_76 := hv_76.imp_right (fun z9 => Nat.le_trans hZ0_ z9)
  have hZ0_ := hS.1
  have t_f17 := f17.lt
  have t_f19 := f19.lt
  refine k_r (pc := 134) (k_V E hC hS hA hl.1 (c1.recv hC f17 rfl) rfl (c_J4_toString_0e30d l D tk N0 sa H.size qf17 v_76 (sbC (sbC (sbC 16 (0 + 1)) ((0 + 1) + (((l9 - kp) - 0)))) (((0 + 1) + (((l9 - kp) - 0))) + (((0 + 1) + ((l9 - (l9 - kp))))))) (((0 + 1) + (((l9 - kp) - 0))) + (((0 + 1) + ((l9 - (l9 - kp)))))) 0 (sbC_ge _ _).1 (Nat.le_trans hcP (by decide))) kw_1381 kw_316 kw_317 kw_19 kw_318 (n := 0) (by decide +kernel) rfl ⟨⟨rfl, rfl⟩, ⟨Nat.le_of_ble_eq_true rfl, Nat.le_of_ble_eq_true rfl⟩, hTc4, hTs4⟩ rfl (Nat.le_of_ble_eq_true rfl) ⟨f17, f19⟩ dX5_decimal_134) hS (fun q z w => absurd w (Nat.not_le.mpr z)) hn (fun r_77 H locs hR hz hk hS => ?_)
  have f17 := f17.kept (hk _ f17.lt (Nat.not_le.mpr f17.lt))
  have f19 := f19.kept (hk _ f19.lt (Nat.not_le.mpr f19.lt))
  obtain ⟨q_f78, z9_, y9_, f78⟩ := hR
  have f78 := SM.sx f78
  have zr_f78 : s.heap.size ≤ r_77 := Nat.le_trans hZ0_ z9_
  try rw [hQ]
  refine r_aret (pc := 137) E hr (Or.inl ⟨_, rfl⟩) hlk hS hTc4 hTs4 ?_ dX5_decimal_137
  exact ⟨_, (by omega), zr_f78, f78⟩
set_option maxHeartbeats 40000000 in
set_option maxRecDepth 100000 in
theorem g5_X5_decimal {p : Program} {l : Launch} {e : Env} {s : State} {m : MethodId} {args : Array Value} {below : List Frame} {meth : Method} {c : Code} {Q : State → Prop} {D : va_G} {tk : Nat → ClassId} {N0 : Nat} {sa : Nat → Nat} (E : CallFix p m c cX5_decimal 5 s args (wsy yX5_decimal cX5_decimal 5 (some (.object "java/lang/String"))) RX5) (hC : Ctx D tk N0 sa s) (hA : ∀ q, (nwA s.heap.size) q → N0 ≤ q) (hn : ∀ q, s.heap.size ≤ q → (nwA s.heap.size) q) (hr : meth.sig.returnType = (some (.object "java/lang/String"))) (hlk : meth.locks = false) (x : Int64) (pl : Int32) (kp : Nat) (nd : Nat) (hpl : pl = nI kp) (hkp : kp ≤ 9) (hkn : kp + 1 ≤ nd) (hnd : nd ≤ 20) (hdg : dgJ (f_absJ x) ≤ nd) (hQ : Q = MQ below (kQr (fun r H => ∃ n9, n9 ≤ nd + 2 ∧ s.heap.size ≤ r ∧ SX D tk r n9 H) (nwA s.heap.size)) args s (16 + 4 * kp + 2 * m_dG nd) (83 + 3 * nd + 36 * kp + 68 * m_dG nd) (nwA s.heap.size)) (q_f19 : Nat) (qf17 : Nat) (x_16 : Int32) (n : Nat) (k : Nat) (l9 : Nat) (q9 : Nat) (hf9 : kp + 1 - k < n + 1) (hk9 : k ≤ kp) (hL8 : l9 = dgJ (f_absJ x) + k) (hL7 : k = 0 ∨ l9 ≤ kp + 1) (ih_23 : ∀ (k : Nat) (l9 : Nat)(q9 : Nat), kp + 1 - k < n → k ≤ kp → l9 = dgJ (f_absJ x) + k → k = 0 ∨ l9 ≤ kp + 1 → ∀ (H : Heap) (locs : List Loc) (ls : Array Slot), va_S (nwA s.heap.size) s.heap H locs → SX D tk q9 l9 H → lv_has ls 5 [(0, .long x), (2, .int pl), (3, .ref q9)] → W p l e ({ frames := 6, cells := 16 + 4 * kp + 2 * m_dG nd, slots := 83 + 3 * nd + 36 * kp + 68 * m_dG nd, locals := 139 } : Room) s m args below meth c H locs (4 + m_dG nd + 4 * k) (24 + nd + 34 * m_dG nd + 34 * k) Q (F0 m 23 ls [])) (b0_ : Nat) (hx9 : x_16 = nI (l9 - kp)) (hl5 : l9 ≤ 100000000) (hl6 : l9 - kp - 0 ≤ 400000) (hl7 : l9 - (l9 - kp) ≤ 400000) (hl8 : 0 + 1 + (l9 - (l9 - kp)) ≤ 400000) (hln : l9 ≤ nd) (hcp3 : sbC (sbC 16 (0 + 1)) (0 + 1 + (l9 - (l9 - kp))) ≤ 100000000) (hcA : sbC 16 (0 + 1) ≤ 500000) (hcB : sbC (sbC 16 (0 + 1)) (0 + 1 + (l9 - kp - 0)) ≤ 500000) (hcP : sbC (sbC (sbC 16 (0 + 1)) (0 + 1 + (l9 - kp - 0))) (0 + 1 + (l9 - kp - 0) + (0 + 1 + (l9 - (l9 - kp)))) ≤ 500000) (hcZ : sbC (sbC (sbC 16 (0 + 1)) (0 + 1 + (l9 - kp - 0))) (0 + 1 + (l9 - kp - 0) + 0) ≤ 500000) (hTc1 : 4 + m_dG nd + 4 * k + 0 + 0 + 1 + 1 + (sbK 16 (0 + 0)) + 2 + (sbK (sbC 16 (0 + 0)) ((0 + 0) + (((l9 - kp) - 0)))) + (sbK (sbC (sbC 16 (0 + 0)) ((0 + 0) + (((l9 - kp) - 0)))) (((0 + 0) + (((l9 - kp) - 0))) + 0)) + 2 ≤ 16 + 4 * kp + 2 * m_dG nd) (hTs1 : 24 + nd + 34 * m_dG nd + 34 * k + 0 + 0 + 4 + 16 + (sbS 16 (0 + 0)) + (4 + ((l9 - kp) - 0)) + (sbS (sbC 16 (0 + 0)) ((0 + 0) + (((l9 - kp) - 0)))) + (sbS (sbC (sbC 16 (0 + 0)) ((0 + 0) + (((l9 - kp) - 0)))) (((0 + 0) + (((l9 - kp) - 0))) + 0)) + (4 + (((0 + 0) + (((l9 - kp) - 0))) + 0)) ≤ 83 + 3 * nd + 36 * kp + 68 * m_dG nd) (hWc1 : 4 + m_dG nd + 4 * k + 0 + 0 + 1 + 1 + (sbK 16 (0 + 0)) + 2 + (sbK (sbC 16 (0 + 0)) ((0 + 0) + (((l9 - kp) - 0)))) + (sbK (sbC (sbC 16 (0 + 0)) ((0 + 0) + (((l9 - kp) - 0)))) (((0 + 0) + (((l9 - kp) - 0))) + 0)) + 2 ≤ 16 + 4 * kp + 2 * m_dG nd) (hWs1 : 24 + nd + 34 * m_dG nd + 34 * k + 0 + 0 + 4 + 16 + (sbS 16 (0 + 0)) + (4 + ((l9 - kp) - 0)) + (sbS (sbC 16 (0 + 0)) ((0 + 0) + (((l9 - kp) - 0)))) + (sbS (sbC (sbC 16 (0 + 0)) ((0 + 0) + (((l9 - kp) - 0)))) (((0 + 0) + (((l9 - kp) - 0))) + 0)) + (4 + (((0 + 0) + (((l9 - kp) - 0))) + 0)) ≤ 83 + 3 * nd + 36 * kp + 68 * m_dG nd) (hTc2 : 4 + m_dG nd + 4 * k + 0 + 0 + 1 + 1 + (sbK 16 (0 + 0)) + 2 + (sbK (sbC 16 (0 + 0)) ((0 + 0) + (((l9 - kp) - 0)))) + 1 + 1 + (sbK 16 (0 + 1)) + 2 + (sbK (sbC 16 (0 + 1)) ((0 + 1) + ((l9 - (l9 - kp))))) + 2 + (sbK (sbC (sbC 16 (0 + 0)) ((0 + 0) + (((l9 - kp) - 0)))) (((0 + 0) + (((l9 - kp) - 0))) + (((0 + 1) + ((l9 - (l9 - kp))))))) + 2 ≤ 16 + 4 * kp + 2 * m_dG nd) (hTs2 : 24 + nd + 34 * m_dG nd + 34 * k + 0 + 0 + 4 + 16 + (sbS 16 (0 + 0)) + (4 + ((l9 - kp) - 0)) + (sbS (sbC 16 (0 + 0)) ((0 + 0) + (((l9 - kp) - 0)))) + 4 + 16 + (sbS 16 (0 + 1)) + (4 + (l9 - (l9 - kp))) + (sbS (sbC 16 (0 + 1)) ((0 + 1) + ((l9 - (l9 - kp))))) + (4 + ((0 + 1) + ((l9 - (l9 - kp))))) + (sbS (sbC (sbC 16 (0 + 0)) ((0 + 0) + (((l9 - kp) - 0)))) (((0 + 0) + (((l9 - kp) - 0))) + (((0 + 1) + ((l9 - (l9 - kp))))))) + (4 + (((0 + 0) + (((l9 - kp) - 0))) + (((0 + 1) + ((l9 - (l9 - kp))))))) ≤ 83 + 3 * nd + 36 * kp + 68 * m_dG nd) (hWc2 : 4 + m_dG nd + 4 * k + 0 + 0 + 1 + 1 + (sbK 16 (0 + 0)) + 2 + (sbK (sbC 16 (0 + 0)) ((0 + 0) + (((l9 - kp) - 0)))) + 1 + 1 + (sbK 16 (0 + 1)) + 2 + (sbK (sbC 16 (0 + 1)) ((0 + 1) + ((l9 - (l9 - kp))))) + 2 + (sbK (sbC (sbC 16 (0 + 0)) ((0 + 0) + (((l9 - kp) - 0)))) (((0 + 0) + (((l9 - kp) - 0))) + (((0 + 1) + ((l9 - (l9 - kp))))))) + 2 ≤ 16 + 4 * kp + 2 * m_dG nd) (hWs2 : 24 + nd + 34 * m_dG nd + 34 * k + 0 + 0 + 4 + 16 + (sbS 16 (0 + 0)) + (4 + ((l9 - kp) - 0)) + (sbS (sbC 16 (0 + 0)) ((0 + 0) + (((l9 - kp) - 0)))) + 4 + 16 + (sbS 16 (0 + 1)) + (4 + (l9 - (l9 - kp))) + (sbS (sbC 16 (0 + 1)) ((0 + 1) + ((l9 - (l9 - kp))))) + (4 + ((0 + 1) + ((l9 - (l9 - kp))))) + (sbS (sbC (sbC 16 (0 + 0)) ((0 + 0) + (((l9 - kp) - 0)))) (((0 + 0) + (((l9 - kp) - 0))) + (((0 + 1) + ((l9 - (l9 - kp))))))) + (4 + (((0 + 0) + (((l9 - kp) - 0))) + (((0 + 1) + ((l9 - (l9 - kp))))))) ≤ 83 + 3 * nd + 36 * kp + 68 * m_dG nd) (hTc3 : 4 + m_dG nd + 4 * k + 0 + 0 + 1 + 1 + (sbK 16 (0 + 1)) + 2 + (sbK (sbC 16 (0 + 1)) ((0 + 1) + (((l9 - kp) - 0)))) + (sbK (sbC (sbC 16 (0 + 1)) ((0 + 1) + (((l9 - kp) - 0)))) (((0 + 1) + (((l9 - kp) - 0))) + 0)) + 2 ≤ 16 + 4 * kp + 2 * m_dG nd) (hTs3 : 24 + nd + 34 * m_dG nd + 34 * k + 0 + 0 + 4 + 16 + (sbS 16 (0 + 1)) + (4 + ((l9 - kp) - 0)) + (sbS (sbC 16 (0 + 1)) ((0 + 1) + (((l9 - kp) - 0)))) + (sbS (sbC (sbC 16 (0 + 1)) ((0 + 1) + (((l9 - kp) - 0)))) (((0 + 1) + (((l9 - kp) - 0))) + 0)) + (4 + (((0 + 1) + (((l9 - kp) - 0))) + 0)) ≤ 83 + 3 * nd + 36 * kp + 68 * m_dG nd) (hWc3 : 4 + m_dG nd + 4 * k + 0 + 0 + 1 + 1 + (sbK 16 (0 + 1)) + 2 + (sbK (sbC 16 (0 + 1)) ((0 + 1) + (((l9 - kp) - 0)))) + (sbK (sbC (sbC 16 (0 + 1)) ((0 + 1) + (((l9 - kp) - 0)))) (((0 + 1) + (((l9 - kp) - 0))) + 0)) + 2 ≤ 16 + 4 * kp + 2 * m_dG nd) (hWs3 : 24 + nd + 34 * m_dG nd + 34 * k + 0 + 0 + 4 + 16 + (sbS 16 (0 + 1)) + (4 + ((l9 - kp) - 0)) + (sbS (sbC 16 (0 + 1)) ((0 + 1) + (((l9 - kp) - 0)))) + (sbS (sbC (sbC 16 (0 + 1)) ((0 + 1) + (((l9 - kp) - 0)))) (((0 + 1) + (((l9 - kp) - 0))) + 0)) + (4 + (((0 + 1) + (((l9 - kp) - 0))) + 0)) ≤ 83 + 3 * nd + 36 * kp + 68 * m_dG nd) (hTc4 : 4 + m_dG nd + 4 * k + 0 + 0 + 1 + 1 + (sbK 16 (0 + 1)) + 2 + (sbK (sbC 16 (0 + 1)) ((0 + 1) + (((l9 - kp) - 0)))) + 1 + 1 + (sbK 16 (0 + 1)) + 2 + (sbK (sbC 16 (0 + 1)) ((0 + 1) + ((l9 - (l9 - kp))))) + 2 + (sbK (sbC (sbC 16 (0 + 1)) ((0 + 1) + (((l9 - kp) - 0)))) (((0 + 1) + (((l9 - kp) - 0))) + (((0 + 1) + ((l9 - (l9 - kp))))))) + 2 ≤ 16 + 4 * kp + 2 * m_dG nd) (hTs4 : 24 + nd + 34 * m_dG nd + 34 * k + 0 + 0 + 4 + 16 + (sbS 16 (0 + 1)) + (4 + ((l9 - kp) - 0)) + (sbS (sbC 16 (0 + 1)) ((0 + 1) + (((l9 - kp) - 0)))) + 4 + 16 + (sbS 16 (0 + 1)) + (4 + (l9 - (l9 - kp))) + (sbS (sbC 16 (0 + 1)) ((0 + 1) + ((l9 - (l9 - kp))))) + (4 + ((0 + 1) + ((l9 - (l9 - kp))))) + (sbS (sbC (sbC 16 (0 + 1)) ((0 + 1) + (((l9 - kp) - 0)))) (((0 + 1) + (((l9 - kp) - 0))) + (((0 + 1) + ((l9 - (l9 - kp))))))) + (4 + (((0 + 1) + (((l9 - kp) - 0))) + (((0 + 1) + ((l9 - (l9 - kp))))))) ≤ 83 + 3 * nd + 36 * kp + 68 * m_dG nd) (hWc4 : 4 + m_dG nd + 4 * k + 0 + 0 + 1 + 1 + (sbK 16 (0 + 1)) + 2 + (sbK (sbC 16 (0 + 1)) ((0 + 1) + (((l9 - kp) - 0)))) + 1 + 1 + (sbK 16 (0 + 1)) + 2 + (sbK (sbC 16 (0 + 1)) ((0 + 1) + ((l9 - (l9 - kp))))) + 2 + (sbK (sbC (sbC 16 (0 + 1)) ((0 + 1) + (((l9 - kp) - 0)))) (((0 + 1) + (((l9 - kp) - 0))) + (((0 + 1) + ((l9 - (l9 - kp))))))) + 2 ≤ 16 + 4 * kp + 2 * m_dG nd) (hWs4 : 24 + nd + 34 * m_dG nd + 34 * k + 0 + 0 + 4 + 16 + (sbS 16 (0 + 1)) + (4 + ((l9 - kp) - 0)) + (sbS (sbC 16 (0 + 1)) ((0 + 1) + (((l9 - kp) - 0)))) + 4 + 16 + (sbS 16 (0 + 1)) + (4 + (l9 - (l9 - kp))) + (sbS (sbC 16 (0 + 1)) ((0 + 1) + ((l9 - (l9 - kp))))) + (4 + ((0 + 1) + ((l9 - (l9 - kp))))) + (sbS (sbC (sbC 16 (0 + 1)) ((0 + 1) + (((l9 - kp) - 0)))) (((0 + 1) + (((l9 - kp) - 0))) + (((0 + 1) + ((l9 - (l9 - kp))))))) + (4 + (((0 + 1) + (((l9 - kp) - 0))) + (((0 + 1) + ((l9 - (l9 - kp))))))) ≤ 83 + 3 * nd + 36 * kp + 68 * m_dG nd) (H : Heap) (locs : List Loc) (ls : Array Slot) (hS : va_S (nwA s.heap.size) s.heap H locs) (h0s : xf D 0 q9 0 (.ref b0_) H) (h1s : xf D 0 q9 1 (.int 0) H) (h2s : BX tk b0_ l9 H) (f17 : c1 D qf17 (.inr (1, [.ref q_f19, .int 0, .int 0, .int 0])) H) (f19 : BA D tk q_f19 16 H) (k50 : SX D tk (sa (10 + 13)) 1 H) (s_f17 : s.heap.size ≤ qf17) (g_f17 : (nwA s.heap.size) qf17) (g_f19 : (nwA s.heap.size) q_f19) (l_f17_f19 : qf17 < q_f19) (l_h0s_f17 : q9 < qf17) (l_h0s_f19 : q9 < q_f19) (l_h1s_f17 : q9 < qf17) (l_h1s_f19 : q9 < q_f19) (l_h2s_f17 : b0_ < qf17) (l_h2s_f19 : b0_ < q_f19) (hl : lv_has ls 5 [(4, .int x_16), (0, .long x), (2, .int pl), (3, .ref q9)]) : W p l e ({ frames := 6, cells := 16 + 4 * kp + 2 * m_dG nd, slots := 83 + 3 * nd + 36 * kp + 68 * m_dG nd, locals := 139 } : Room) s m args below meth c H locs (4 + m_dG nd + 4 * k + 0 + 0 + 1 + 1) (24 + nd + 34 * m_dG nd + 34 * k + 0 + 0 + 4 + 16) Q (F0 m 84 ls [.ref (sa (10 + 13)), .ref qf17]) := by
  obtain ⟨hx, hb, -⟩ := id E
  have hZ0_ := hS.1
  have t_h0s := h0s.lt
  have t_h1s := h1s.lt
  have t_h2s := h2s.lt
  have t_f17 := f17.lt
  have t_f19 := f19.lt
  have t_k50 := k50.lt
  refine k_r (pc := 84) (k_V E hC hS hA hl.1 (c1.recv hC f17 rfl) rfl (c_J4_append_15ec4 l D tk N0 sa H.size qf17 q_f19 16 0 (sa (10 + 13)) 1 0 (hA _ g_f17) (hA _ g_f19) (Nat.zero_le _) (by decide) (by decide)) kw_1353 kw_399 kw_400 kw_19 kw_401 (n := 1) (by decide +kernel) rfl ⟨⟨rfl, rfl⟩, ⟨Nat.le_of_ble_eq_true rfl, Nat.le_of_ble_eq_true rfl⟩, (pre1 (pre1 (pre1 (pre1 hTc3)))), (pre1 (pre1 (pre1 (pre1 hTs3))))⟩ rfl (Nat.le_of_ble_eq_true rfl) ⟨f17, f19, k50⟩ dX5_decimal_84) hS (inA2.to g_f17 g_f19) hn (fun r_51 H locs hR hz hk hS => ?_)
  have h0s := h0s.kept (hk _ h0s.lt (inA2.not (clA.ne h0s.cl f17.cl (hC.oo 0 1 rfl rfl (by decide))) (clA.ne h0s.cl f19.cl (hC.oa 0 1 rfl rfl)) h0s.lt))
  have h1s := h1s.kept (hk _ h1s.lt (inA2.not (clA.ne h1s.cl f17.cl (hC.oo 0 1 rfl rfl (by decide))) (clA.ne h1s.cl f19.cl (hC.oa 0 1 rfl rfl)) h1s.lt))
  have h2s := h2s.kept (hk _ h2s.lt (inA2.not (h2s.neo hC f17.cl (ci := 1) rfl) (Nat.ne_of_lt l_h2s_f19) h2s.lt))
  obtain ⟨er9, hR⟩ := hR
  rw [er9]
  obtain ⟨v_52, hv_52, f17, f19⟩ := hR
  have g_f19 := hv_52.elim (fun e9 => e9 ▸ g_f19) (fun z9 => hn _ (Nat.le_trans hZ0_ z9))
  have l_h0s_f19 : q9 < v_52 := hv_52.elim (fun e9 => e9 ▸ l_h0s_f19) (fun z9 => Nat.lt_of_lt_of_le t_h0s z9)
  have l_h1s_f19 : q9 < v_52 := hv_52.elim (fun e9 => e9 ▸ l_h1s_f19) (fun z9 => Nat.lt_of_lt_of_le t_h1s z9)
  have l_h2s_f19 : b0_ < v_52 := hv_52.elim (fun e9 => e9 ▸ l_h2s_f19) (fun z9 => Nat.lt_of_lt_of_le t_h2s z9)
  have l_f17_f19 : qf17 < v_52 := hv_52.elim (fun e9 => e9 ▸ l_f17_f19) (fun z9 => Nat.lt_of_lt_of_le t_f17 z9)
  have hv_52 := hv_52.imp_right (fun z9 => Nat.le_trans hZ0_ z9)
  refine lv_aload_n (pc := 87) hx hb dX5_decimal_87 rfl (lv_at hl 3 rfl) ?_
  refine lv_iconst (pc := 88) (v := 0) hx hb dX5_decimal_88 (by decide) ?_
  refine lv_iload (pc := 89) hx hb dX5_decimal_89 (lv_at hl 0 rfl) ?_
  have hZ0_ := hS.1
  have t_h0s := h0s.lt
  have t_h1s := h1s.lt
  have t_h2s := h2s.lt
  have t_f17 := f17.lt
  have t_f19 := f19.lt
  refine k_r (pc := 91) (k_V E hC hS hA hl.1 (xf.recv hC h0s rfl) rfl (c_J0_substring_37a41 l D tk N0 sa H.size q9 l9 0 (l9 - kp) 0 x_16 nI_0.symm hx9 (Nat.zero_le _) (Nat.sub_le _ _) hl5) kw_1713 kw_1714 kw_1715 kw_20 kw_1716 (n := 2) (by decide +kernel) rfl ⟨⟨rfl, rfl⟩, ⟨Nat.le_of_ble_eq_true rfl, Nat.le_of_ble_eq_true rfl⟩, (pre1 (pre1 (pre1 hTc3))), (pre1 (pre1 (pre1 hTs3)))⟩ rfl (Nat.le_of_ble_eq_true rfl) ⟨_, h0s, h1s, h2s⟩ dX5_decimal_91) hS (fun q z w => absurd w (Nat.not_le.mpr z)) hn (fun r_53 H locs hR hz hk hS => ?_)
  have h0s := h0s.kept (hk _ h0s.lt (Nat.not_le.mpr h0s.lt))
  have h1s := h1s.kept (hk _ h1s.lt (Nat.not_le.mpr h1s.lt))
  have h2s := h2s.kept (hk _ h2s.lt (Nat.not_le.mpr h2s.lt))
  have f17 := f17.kept (hk _ f17.lt (Nat.not_le.mpr f17.lt))
  have f19 := f19.kept (hk _ f19.lt (Nat.not_le.mpr f19.lt))
  have f54 := hR
  have hZ0_ := hS.1
  have t_h0s := h0s.lt
  have t_h1s := h1s.lt
  have t_h2s := h2s.lt
  have t_f17 := f17.lt
  have t_f19 := f19.lt
  have t_f54 := f54.lt
  refine k_r (pc := 94) (k_V E hC hS hA hl.1 (c1.recv hC f17 rfl) rfl (c_J4_append_15ec4 l D tk N0 sa H.size qf17 v_52 (sbC 16 (0 + 1)) (0 + 1) r_53 (((l9 - kp) - 0)) 0 (hA _ g_f17) (hA _ g_f19) (sbC_ge _ _).1 hcA hl6) kw_1353 kw_399 kw_400 kw_19 kw_401 (n := 1) (by decide +kernel) rfl ⟨⟨rfl, rfl⟩, ⟨Nat.le_of_ble_eq_true rfl, Nat.le_of_ble_eq_true rfl⟩, (pre1 (pre1 hTc3)), (pre1 (pre1 hTs3))⟩ rfl (Nat.le_of_ble_eq_true rfl) ⟨f17, f19, f54⟩ dX5_decimal_94) hS (inA2.to g_f17 g_f19) hn (fun r_55 H locs hR hz hk hS => ?_)
  have h0s := h0s.kept (hk _ h0s.lt (inA2.not (clA.ne h0s.cl f17.cl (hC.oo 0 1 rfl rfl (by decide))) (clA.ne h0s.cl f19.cl (hC.oa 0 1 rfl rfl)) h0s.lt))
  have h1s := h1s.kept (hk _ h1s.lt (inA2.not (clA.ne h1s.cl f17.cl (hC.oo 0 1 rfl rfl (by decide))) (clA.ne h1s.cl f19.cl (hC.oa 0 1 rfl rfl)) h1s.lt))
  have h2s := h2s.kept (hk _ h2s.lt (inA2.not (h2s.neo hC f17.cl (ci := 1) rfl) (Nat.ne_of_lt l_h2s_f19) h2s.lt))
  obtain ⟨er9, hR⟩ := hR
  rw [er9]
  obtain ⟨v_56, hv_56, f17, f19⟩ := hR
  have g_f19 := hv_56.elim (fun e9 => e9 ▸ g_f19) (fun z9 => hn _ (Nat.le_trans hZ0_ z9))
  have l_h0s_f19 : q9 < v_56 := hv_56.elim (fun e9 => e9 ▸ l_h0s_f19) (fun z9 => Nat.lt_of_lt_of_le t_h0s z9)
  have l_h1s_f19 : q9 < v_56 := hv_56.elim (fun e9 => e9 ▸ l_h1s_f19) (fun z9 => Nat.lt_of_lt_of_le t_h1s z9)
  have l_h2s_f19 : b0_ < v_56 := hv_56.elim (fun e9 => e9 ▸ l_h2s_f19) (fun z9 => Nat.lt_of_lt_of_le t_h2s z9)
  have l_f17_f19 : qf17 < v_56 := hv_56.elim (fun e9 => e9 ▸ l_f17_f19) (fun z9 => Nat.lt_of_lt_of_le t_f17 z9)
  have hv_56 := hv_56.imp_right (fun z9 => Nat.le_trans hZ0_ z9)
  have hv_56 := hv_56.elim (fun e9 => e9 ▸ hv_52) Or.inr
  refine lv_iload_n (pc := 97) hx hb dX5_decimal_97 rfl (lv_at hl 2 rfl) ?_
  refine lv_if_le (pc := 98) (tgt := 129) hx hb dX5_decimal_98 (by decide) (fun c_57 => ?_) (fun c_57 => ?_)
  · refine va_ldcS (pc := 129) hx hb E.2.2.2.1 (hC.2.2.2.2.1 6 _ rfl).1 dX5_decimal_129 ?_
    have k58 : SX D tk (sa (10 + 6)) 0 H := hC.str hS hA 6 _ rfl (by decide)
    exact g6_X5_decimal E hC hA hn hr hlk x pl kp nd hpl hkp hkn hnd hdg hQ v_56 qf17 x_16 n k l9 q9 hf9 hk9 hL8 hL7 ih_23 hl8 hln hcA hcB hcP hcZ hTc3 hTs3 hWc3 hWs3 hTc4 hTs4 hWc4 hWs4 _ _ _ hS f17 f19 k58 s_f17 g_f17 g_f19 l_f17_f19 hl
  · have hS0_ := hS
    refine r_new (pc := 101) E hC hS tyJ4_ok uJ4 (List.mem_cons_of_mem _ kw_1351) (List.mem_cons_of_mem _ kw_150) (List.mem_cons_of_mem _ kw_19) (ci := 1) rfl (fs := [.null, .int 0, .int 0, .int 0]) (by decide) (pre1 (pre1 (pre1 (pre1 (pre1 (pre1 (pre1 hTc4))))))) (pre1 (pre1 (pre1 (pre1 (pre1 (pre1 (pre1 hTs4))))))) dX5_decimal_101 (fun qf63 H zq_ n_ ho_ hS => ?_)
    have l_h0s_f63 : q9 < qf63 := zq_ ▸ h0s.lt
    have h0s := h0s.kept (ho_ _ h0s.lt)
    have l_h1s_f63 : q9 < qf63 := zq_ ▸ h1s.lt
    have h1s := h1s.kept (ho_ _ h1s.lt)
    have l_h2s_f63 : b0_ < qf63 := zq_ ▸ h2s.lt
    have h2s := h2s.kept (ho_ _ h2s.lt)
    have l_f17_f63 : qf17 < qf63 := zq_ ▸ f17.lt
    have f17 := f17.kept (ho_ _ f17.lt)
    have l_f19_f63 : v_56 < qf63 := zq_ ▸ f19.lt
    have f19 := f19.kept (ho_ _ f19.lt)
    have f63 := n_
    have s_f63 : s.heap.size ≤ qf63 := zq_ ▸ hS0_.1
    have g_f63 := hn _ s_f63
    refine lv_dup (pc := 104) hx hb dX5_decimal_104 rfl ?_
    have hZ0_ := hS.1
    have t_h0s := h0s.lt
    have t_h1s := h1s.lt
    have t_h2s := h2s.lt
    have t_f17 := f17.lt
    have t_f19 := f19.lt
    have t_f63 := f63.lt
    refine k_v (pc := 105) (k_I E hC hS hA hl.1 (c_J4_init_da8c8 l D tk N0 sa H.size qf63 (hA _ g_f63)) kw_1352 kw_152 kw_19 kw_153 rfl (n := 0) (by decide +kernel) rfl ⟨⟨rfl, rfl⟩, ⟨Nat.le_of_ble_eq_true rfl, Nat.le_of_ble_eq_true rfl⟩, (pre1 (pre1 (pre1 (pre1 (pre1 (pre1 hTc4)))))), (pre1 (pre1 (pre1 (pre1 (pre1 (pre1 hTs4))))))⟩ rfl (Nat.le_of_ble_eq_true rfl) f63 dX5_decimal_105) hS (inA1.to g_f63) hn (fun H locs hR hz hk hS => ?_)
    have h0s := h0s.kept (hk _ h0s.lt (inA1.not (clA.ne h0s.cl f63.cl (hC.oo 0 1 rfl rfl (by decide))) h0s.lt))
    have h1s := h1s.kept (hk _ h1s.lt (inA1.not (clA.ne h1s.cl f63.cl (hC.oo 0 1 rfl rfl (by decide))) h1s.lt))
    have h2s := h2s.kept (hk _ h2s.lt (inA1.not (h2s.neo hC f63.cl (ci := 1) rfl) h2s.lt))
    have f17 := f17.kept (hk _ f17.lt (inA1.not (Nat.ne_of_lt l_f17_f63) f17.lt))
    have f19 := f19.kept (hk _ f19.lt (inA1.not (clA.ne f19.cl f63.cl (hC.ao 1 1 rfl rfl)) f19.lt))
    obtain ⟨q_f65, z9_, f63, f65⟩ := hR
    have s_f65 : s.heap.size ≤ q_f65 := Nat.le_trans hZ0_ z9_
    have g_f65 := hn _ s_f65
    have l_h0s_f65 : q9 < q_f65 := Nat.lt_of_lt_of_le t_h0s z9_
    have l_h1s_f65 : q9 < q_f65 := Nat.lt_of_lt_of_le t_h1s z9_
    have l_h2s_f65 : b0_ < q_f65 := Nat.lt_of_lt_of_le t_h2s z9_
    have l_f17_f65 : qf17 < q_f65 := Nat.lt_of_lt_of_le t_f17 z9_
    have l_f19_f65 : v_56 < q_f65 := Nat.lt_of_lt_of_le t_f19 z9_
    have l_f63_f65 : qf63 < q_f65 := Nat.lt_of_lt_of_le t_f63 z9_
    refine r_ldcwS (pc := 108) E hC 15 _ rfl rfl rfl dX5_decimal_108 ?_
    have k66 : SX D tk (sa (10 + 15)) 1 H := hC.str hS hA 15 _ rfl (by decide)
    have hZ0_ := hS.1
    have t_h0s := h0s.lt
    have t_h1s := h1s.lt
    have t_h2s := h2s.lt
    have t_f17 := f17.lt
    have t_f19 := f19.lt
    have t_f63 := f63.lt
    have t_f65 := f65.lt
    have t_k66 := k66.lt
    refine k_r (pc := 111) (k_V E hC hS hA hl.1 (c1.recv hC f63 rfl) rfl (c_J4_append_15ec4 l D tk N0 sa H.size qf63 q_f65 16 0 (sa (10 + 15)) 1 0 (hA _ g_f63) (hA _ g_f65) (Nat.zero_le _) (by decide) (by decide)) kw_1353 kw_399 kw_400 kw_19 kw_401 (n := 1) (by decide +kernel) rfl ⟨⟨rfl, rfl⟩, ⟨Nat.le_of_ble_eq_true rfl, Nat.le_of_ble_eq_true rfl⟩, (pre1 (pre1 (pre1 (pre1 (pre1 hTc4))))), (pre1 (pre1 (pre1 (pre1 (pre1 hTs4)))))⟩ rfl (Nat.le_of_ble_eq_true rfl) ⟨f63, f65, k66⟩ dX5_decimal_111) hS (inA2.to g_f63 g_f65) hn (fun r_67 H locs hR hz hk hS => ?_)
    have h0s := h0s.kept (hk _ h0s.lt (inA2.not (clA.ne h0s.cl f63.cl (hC.oo 0 1 rfl rfl (by decide))) (clA.ne h0s.cl f65.cl (hC.oa 0 1 rfl rfl)) h0s.lt))
    have h1s := h1s.kept (hk _ h1s.lt (inA2.not (clA.ne h1s.cl f63.cl (hC.oo 0 1 rfl rfl (by decide))) (clA.ne h1s.cl f65.cl (hC.oa 0 1 rfl rfl)) h1s.lt))
    have h2s := h2s.kept (hk _ h2s.lt (inA2.not (h2s.neo hC f63.cl (ci := 1) rfl) (Nat.ne_of_lt l_h2s_f65) h2s.lt))
    have f17 := f17.kept (hk _ f17.lt (inA2.not (Nat.ne_of_lt l_f17_f63) (clA.ne f17.cl f65.cl (hC.oa 1 1 rfl rfl)) f17.lt))
    have f19 := f19.kept (hk _ f19.lt (inA2.not (clA.ne f19.cl f63.cl (hC.ao 1 1 rfl rfl)) (Nat.ne_of_lt l_f19_f65) f19.lt))
    obtain ⟨er9, hR⟩ := hR
    rw [er9]
    obtain ⟨v_68, hv_68, f63, f65⟩ := hR
    have g_f65 := hv_68.elim (fun e9 => e9 ▸ g_f65) (fun z9 => hn _ (Nat.le_trans hZ0_ z9))
    have l_h0s_f65 : q9 < v_68 := hv_68.elim (fun e9 => e9 ▸ l_h0s_f65) (fun z9 => Nat.lt_of_lt_of_le t_h0s z9)
    have l_h1s_f65 : q9 < v_68 := hv_68.elim (fun e9 => e9 ▸ l_h1s_f65) (fun z9 => Nat.lt_of_lt_of_le t_h1s z9)
    have l_h2s_f65 : b0_ < v_68 := hv_68.elim (fun e9 => e9 ▸ l_h2s_f65) (fun z9 => Nat.lt_of_lt_of_le t_h2s z9)
    have l_f17_f65 : qf17 < v_68 := hv_68.elim (fun e9 => e9 ▸ l_f17_f65) (fun z9 => Nat.lt_of_lt_of_le t_f17 z9)
    have l_f19_f65 : v_56 < v_68 := hv_68.elim (fun e9 => e9 ▸ l_f19_f65) (fun z9 => Nat.lt_of_lt_of_le t_f19 z9)
    have l_f63_f65 : qf63 < v_68 := hv_68.elim (fun e9 => e9 ▸ l_f63_f65) (fun z9 => Nat.lt_of_lt_of_le t_f63 z9)
    have hv_68 := hv_68.imp_right (fun z9 => Nat.le_trans hZ0_ z9)
    refine lv_aload_n (pc := 114) hx hb dX5_decimal_114 rfl (lv_at hl 3 rfl) ?_
    refine lv_iload (pc := 115) hx hb dX5_decimal_115 (lv_at hl 0 rfl) ?_
    have hZ0_ := hS.1
    have t_h0s := h0s.lt
    have t_h1s := h1s.lt
    have t_h2s := h2s.lt
    have t_f17 := f17.lt
    have t_f19 := f19.lt
    have t_f63 := f63.lt
    have t_f65 := f65.lt
    refine k_r (pc := 117) (k_V E hC hS hA hl.1 (xf.recv hC h0s rfl) rfl (c_J0_substring_b52d3 l D tk N0 sa H.size q9 l9 (l9 - kp) x_16 hx9 (Nat.sub_le _ _) hl5) kw_1742 kw_1743 kw_1744 kw_20 kw_1745 (n := 1) (by decide +kernel) rfl ⟨⟨rfl, rfl⟩, ⟨Nat.le_of_ble_eq_true rfl, Nat.le_of_ble_eq_true rfl⟩, (pre1 (pre1 (pre1 (pre1 hTc4)))), (pre1 (pre1 (pre1 (pre1 hTs4))))⟩ rfl (Nat.le_of_ble_eq_true rfl) ⟨_, h0s, h1s, h2s⟩ dX5_decimal_117) hS (fun q z w => absurd w (Nat.not_le.mpr z)) hn (fun r_69 H locs hR hz hk hS => ?_)
    have h0s := h0s.kept (hk _ h0s.lt (Nat.not_le.mpr h0s.lt))
    have h1s := h1s.kept (hk _ h1s.lt (Nat.not_le.mpr h1s.lt))
    have h2s := h2s.kept (hk _ h2s.lt (Nat.not_le.mpr h2s.lt))
    have f17 := f17.kept (hk _ f17.lt (Nat.not_le.mpr f17.lt))
    have f19 := f19.kept (hk _ f19.lt (Nat.not_le.mpr f19.lt))
    have f63 := f63.kept (hk _ f63.lt (Nat.not_le.mpr f63.lt))
    have f65 := f65.kept (hk _ f65.lt (Nat.not_le.mpr f65.lt))
    have f70 := hR
    have hZ0_ := hS.1
    have t_h0s := h0s.lt
    have t_h1s := h1s.lt
    have t_h2s := h2s.lt
    have t_f17 := f17.lt
    have t_f19 := f19.lt
    have t_f63 := f63.lt
    have t_f65 := f65.lt
    have t_f70 := f70.lt
    refine k_r (pc := 120) (k_V E hC hS hA hl.1 (c1.recv hC f63 rfl) rfl (c_J4_append_15ec4 l D tk N0 sa H.size qf63 v_68 (sbC 16 (0 + 1)) (0 + 1) r_69 ((l9 - (l9 - kp))) 0 (hA _ g_f63) (hA _ g_f65) (sbC_ge _ _).1 (by decide) hl7) kw_1353 kw_399 kw_400 kw_19 kw_401 (n := 1) (by decide +kernel) rfl ⟨⟨rfl, rfl⟩, ⟨Nat.le_of_ble_eq_true rfl, Nat.le_of_ble_eq_true rfl⟩, (pre1 (pre1 (pre1 hTc4))), (pre1 (pre1 (pre1 hTs4)))⟩ rfl (Nat.le_of_ble_eq_true rfl) ⟨f63, f65, f70⟩ dX5_decimal_120) hS (inA2.to g_f63 g_f65) hn (fun r_71 H locs hR hz hk hS => ?_)
    have h0s := h0s.kept (hk _ h0s.lt (inA2.not (clA.ne h0s.cl f63.cl (hC.oo 0 1 rfl rfl (by decide))) (clA.ne h0s.cl f65.cl (hC.oa 0 1 rfl rfl)) h0s.lt))
    have h1s := h1s.kept (hk _ h1s.lt (inA2.not (clA.ne h1s.cl f63.cl (hC.oo 0 1 rfl rfl (by decide))) (clA.ne h1s.cl f65.cl (hC.oa 0 1 rfl rfl)) h1s.lt))
    have h2s := h2s.kept (hk _ h2s.lt (inA2.not (h2s.neo hC f63.cl (ci := 1) rfl) (Nat.ne_of_lt l_h2s_f65) h2s.lt))
    have f17 := f17.kept (hk _ f17.lt (inA2.not (Nat.ne_of_lt l_f17_f63) (clA.ne f17.cl f65.cl (hC.oa 1 1 rfl rfl)) f17.lt))
    have f19 := f19.kept (hk _ f19.lt (inA2.not (clA.ne f19.cl f63.cl (hC.ao 1 1 rfl rfl)) (Nat.ne_of_lt l_f19_f65) f19.lt))
    obtain ⟨er9, hR⟩ := hR
    rw [er9]
    obtain ⟨v_72, hv_72, f63, f65⟩ := hR
    have g_f65 := hv_72.elim (fun e9 => e9 ▸ g_f65) (fun z9 => hn _ (Nat.le_trans hZ0_ z9))
    have l_h0s_f65 : q9 < v_72 := hv_72.elim (fun e9 => e9 ▸ l_h0s_f65) (fun z9 => Nat.lt_of_lt_of_le t_h0s z9)
    have l_h1s_f65 : q9 < v_72 := hv_72.elim (fun e9 => e9 ▸ l_h1s_f65) (fun z9 => Nat.lt_of_lt_of_le t_h1s z9)
    have l_h2s_f65 : b0_ < v_72 := hv_72.elim (fun e9 => e9 ▸ l_h2s_f65) (fun z9 => Nat.lt_of_lt_of_le t_h2s z9)
    have l_f17_f65 : qf17 < v_72 := hv_72.elim (fun e9 => e9 ▸ l_f17_f65) (fun z9 => Nat.lt_of_lt_of_le t_f17 z9)
    have l_f19_f65 : v_56 < v_72 := hv_72.elim (fun e9 => e9 ▸ l_f19_f65) (fun z9 => Nat.lt_of_lt_of_le t_f19 z9)
    have l_f63_f65 : qf63 < v_72 := hv_72.elim (fun e9 => e9 ▸ l_f63_f65) (fun z9 => Nat.lt_of_lt_of_le t_f63 z9)
    have hv_72 := hv_72.imp_right (fun z9 => Nat.le_trans hZ0_ z9)
    have hv_72 := hv_72.elim (fun e9 => e9 ▸ hv_68) Or.inr
    have hZ0_ := hS.1
    have t_h0s := h0s.lt
    have t_h1s := h1s.lt
    have t_h2s := h2s.lt
    have t_f17 := f17.lt
    have t_f19 := f19.lt
    have t_f63 := f63.lt
    have t_f65 := f65.lt
    refine k_r (pc := 123) (k_V E hC hS hA hl.1 (c1.recv hC f63 rfl) rfl (c_J4_toString_0e30d l D tk N0 sa H.size qf63 v_72 (sbC (sbC 16 (0 + 1)) ((0 + 1) + ((l9 - (l9 - kp))))) ((0 + 1) + ((l9 - (l9 - kp)))) 0 (sbC_ge _ _).1 hcp3) kw_1381 kw_316 kw_317 kw_19 kw_318 (n := 0) (by decide +kernel) rfl ⟨⟨rfl, rfl⟩, ⟨Nat.le_of_ble_eq_true rfl, Nat.le_of_ble_eq_true rfl⟩, (pre1 (pre1 hTc4)), (pre1 (pre1 hTs4))⟩ rfl (Nat.le_of_ble_eq_true rfl) ⟨f63, f65⟩ dX5_decimal_123) hS (fun q z w => absurd w (Nat.not_le.mpr z)) hn (fun r_73 H locs hR hz hk hS => ?_)
    have h0s := h0s.kept (hk _ h0s.lt (Nat.not_le.mpr h0s.lt))
    have h1s := h1s.kept (hk _ h1s.lt (Nat.not_le.mpr h1s.lt))
    have h2s := h2s.kept (hk _ h2s.lt (Nat.not_le.mpr h2s.lt))
    have f17 := f17.kept (hk _ f17.lt (Nat.not_le.mpr f17.lt))
    have f19 := f19.kept (hk _ f19.lt (Nat.not_le.mpr f19.lt))
    have f63 := f63.kept (hk _ f63.lt (Nat.not_le.mpr f63.lt))
    have f65 := f65.kept (hk _ f65.lt (Nat.not_le.mpr f65.lt))
    obtain ⟨q_f74, z9_, y9_, f74⟩ := hR
    have f74 := SM.sx f74
    have zr_f74 : s.heap.size ≤ r_73 := Nat.le_trans hZ0_ z9_
    refine lv_goto (pc := 126) (tgt := 131) hx hb dX5_decimal_126 (by decide) ?_
    exact g7_X5_decimal E hC hA hn hr hlk x pl kp nd hpl hkp hkn hnd hdg hQ v_56 r_73 qf17 x_16 n k l9 q9 hf9 hk9 hL8 hL7 ih_23 hl8 hln hcA hcB hcP hcZ hTc4 hTs4 hWc4 hWs4 _ _ _ hS f17 f19 f74 s_f17 g_f17 g_f19 l_f17_f19 hl
set_option maxHeartbeats 40000000 in
set_option maxRecDepth 100000 in
theorem g1_X5_decimal {p : Program} {l : Launch} {e : Env} {s : State} {m : MethodId} {args : Array Value} {below : List Frame} {meth : Method} {c : Code} {Q : State → Prop} {D : va_G} {tk : Nat → ClassId} {N0 : Nat} {sa : Nat → Nat} (E : CallFix p m c cX5_decimal 5 s args (wsy yX5_decimal cX5_decimal 5 (some (.object "java/lang/String"))) RX5) (hC : Ctx D tk N0 sa s) (hA : ∀ q, (nwA s.heap.size) q → N0 ≤ q) (hn : ∀ q, s.heap.size ≤ q → (nwA s.heap.size) q) (hr : meth.sig.returnType = (some (.object "java/lang/String"))) (hlk : meth.locks = false) (x : Int64) (pl : Int32) (kp : Nat) (nd : Nat) (hpl : pl = nI kp) (hkp : kp ≤ 9) (hkn : kp + 1 ≤ nd) (hnd : nd ≤ 20) (hdg : dgJ (f_absJ x) ≤ nd) (hQ : Q = MQ below (kQr (fun r H => ∃ n9, n9 ≤ nd + 2 ∧ s.heap.size ≤ r ∧ SX D tk r n9 H) (nwA s.heap.size)) args s (16 + 4 * kp + 2 * m_dG nd) (83 + 3 * nd + 36 * kp + 68 * m_dG nd) (nwA s.heap.size)) (x_16 : Int32) (n : Nat) (k : Nat) (l9 : Nat) (q9 : Nat) (hf9 : kp + 1 - k < n + 1) (hk9 : k ≤ kp) (hL8 : l9 = dgJ (f_absJ x) + k) (hL7 : k = 0 ∨ l9 ≤ kp + 1) (ih_23 : ∀ (k : Nat) (l9 : Nat)(q9 : Nat), kp + 1 - k < n → k ≤ kp → l9 = dgJ (f_absJ x) + k → k = 0 ∨ l9 ≤ kp + 1 → ∀ (H : Heap) (locs : List Loc) (ls : Array Slot), va_S (nwA s.heap.size) s.heap H locs → SX D tk q9 l9 H → lv_has ls 5 [(0, .long x), (2, .int pl), (3, .ref q9)] → W p l e ({ frames := 6, cells := 16 + 4 * kp + 2 * m_dG nd, slots := 83 + 3 * nd + 36 * kp + 68 * m_dG nd, locals := 139 } : Room) s m args below meth c H locs (4 + m_dG nd + 4 * k) (24 + nd + 34 * m_dG nd + 34 * k) Q (F0 m 23 ls [])) (b0_ : Nat) (hd1 : 1 ≤ dgJ (f_absJ x)) (c_14 : pl < (nI l9)) (ex_16 : x_16 = (nI l9) - pl) (H : Heap) (locs : List Loc) (ls : Array Slot) (hS : va_S (nwA s.heap.size) s.heap H locs) (h0s : xf D 0 q9 0 (.ref b0_) H) (h1s : xf D 0 q9 1 (.int 0) H) (h2s : BX tk b0_ l9 H) (hl : lv_has ls 5 [(4, .int x_16), (0, .long x), (2, .int pl), (3, .ref q9)]) : W p l e ({ frames := 6, cells := 16 + 4 * kp + 2 * m_dG nd, slots := 83 + 3 * nd + 36 * kp + 68 * m_dG nd, locals := 139 } : Room) s m args below meth c H locs (4 + m_dG nd + 4 * k + 0 + 0) (24 + nd + 34 * m_dG nd + 34 * k + 0 + 0) Q (F0 m 63 ls []) := by
  obtain ⟨hx, hb, -⟩ := id E
  have hlt : kp < l9 := by
    rw [hpl] at c_14
    exact (nI_ltI (by omega) (by omega)).mp c_14
  have hx9 : x_16 = nI (l9 - kp) := by rw [ex_16, hpl]; exact pk_sub (by omega)
  have hln : l9 ≤ nd := by omega
  have hG := m_dG1 nd
  have hc0p := m_ct3 0 (l9 - kp - 0) (0 + 1 + (l9 - (l9 - kp))) (by omega)
  have hc00 := m_ct3 0 (l9 - kp - 0) (0) (by omega)
  have hc1p := m_ct3 1 (l9 - kp - 0) (0 + 1 + (l9 - (l9 - kp))) (by omega)
  have hc10 := m_ct3 1 (l9 - kp - 0) (0) (by omega)
  have hcd := m_ct2 1 (l9 - (l9 - kp)) (by omega)
  have hl5 : l9 ≤ 100000000 := by omega
  have hl6 : l9 - kp - 0 ≤ 400000 := by omega
  have hl7 : l9 - (l9 - kp) ≤ 400000 := by omega
  have hl8 : 0 + 1 + (l9 - (l9 - kp)) ≤ 400000 := by omega
  have hcp3 := Nat.le_trans hcd.2.2.2.2 (show 500000 ≤ 100000000 by decide)
  have hWc1 : 4 + m_dG nd + 4 * k + 0 + 0 + 1 + 1 + (sbK 16 (0 + 0)) + 2 + (sbK (sbC 16 (0 + 0)) ((0 + 0) + (((l9 - kp) - 0)))) + (sbK (sbC (sbC 16 (0 + 0)) ((0 + 0) + (((l9 - kp) - 0)))) (((0 + 0) + (((l9 - kp) - 0))) + 0)) + 2 ≤ 16 + 4 * kp + 2 * m_dG nd := by have h9 := hc00.1; have h8 := hc00.2.2.1; have h7 := hcd.1; omega
  have hWs1 : 24 + nd + 34 * m_dG nd + 34 * k + 0 + 0 + 4 + 16 + (sbS 16 (0 + 0)) + (4 + ((l9 - kp) - 0)) + (sbS (sbC 16 (0 + 0)) ((0 + 0) + (((l9 - kp) - 0)))) + (sbS (sbC (sbC 16 (0 + 0)) ((0 + 0) + (((l9 - kp) - 0)))) (((0 + 0) + (((l9 - kp) - 0))) + 0)) + (4 + (((0 + 0) + (((l9 - kp) - 0))) + 0)) ≤ 83 + 3 * nd + 36 * kp + 68 * m_dG nd := by have h9 := hc00.1; have h8 := hc00.2.1; have h7 := hcd.1; omega
  have hTc1 : 4 + m_dG nd + 4 * k + 0 + 0 + 1 + 1 + (sbK 16 (0 + 0)) + 2 + (sbK (sbC 16 (0 + 0)) ((0 + 0) + (((l9 - kp) - 0)))) + (sbK (sbC (sbC 16 (0 + 0)) ((0 + 0) + (((l9 - kp) - 0)))) (((0 + 0) + (((l9 - kp) - 0))) + 0)) + 2 ≤ 16 + 4 * kp + 2 * m_dG nd := Nat.le_trans hWc1 (Nat.le_refl _)
  have hTs1 : 24 + nd + 34 * m_dG nd + 34 * k + 0 + 0 + 4 + 16 + (sbS 16 (0 + 0)) + (4 + ((l9 - kp) - 0)) + (sbS (sbC 16 (0 + 0)) ((0 + 0) + (((l9 - kp) - 0)))) + (sbS (sbC (sbC 16 (0 + 0)) ((0 + 0) + (((l9 - kp) - 0)))) (((0 + 0) + (((l9 - kp) - 0))) + 0)) + (4 + (((0 + 0) + (((l9 - kp) - 0))) + 0)) ≤ 83 + 3 * nd + 36 * kp + 68 * m_dG nd := Nat.le_trans hWs1 (Nat.le_refl _)
  have hWc2 : 4 + m_dG nd + 4 * k + 0 + 0 + 1 + 1 + (sbK 16 (0 + 0)) + 2 + (sbK (sbC 16 (0 + 0)) ((0 + 0) + (((l9 - kp) - 0)))) + 1 + 1 + (sbK 16 (0 + 1)) + 2 + (sbK (sbC 16 (0 + 1)) ((0 + 1) + ((l9 - (l9 - kp))))) + 2 + (sbK (sbC (sbC 16 (0 + 0)) ((0 + 0) + (((l9 - kp) - 0)))) (((0 + 0) + (((l9 - kp) - 0))) + (((0 + 1) + ((l9 - (l9 - kp))))))) + 2 ≤ 16 + 4 * kp + 2 * m_dG nd := by have h9 := hc0p.1; have h8 := hc0p.2.2.1; have h7 := hcd.1; omega
  have hWs2 : 24 + nd + 34 * m_dG nd + 34 * k + 0 + 0 + 4 + 16 + (sbS 16 (0 + 0)) + (4 + ((l9 - kp) - 0)) + (sbS (sbC 16 (0 + 0)) ((0 + 0) + (((l9 - kp) - 0)))) + 4 + 16 + (sbS 16 (0 + 1)) + (4 + (l9 - (l9 - kp))) + (sbS (sbC 16 (0 + 1)) ((0 + 1) + ((l9 - (l9 - kp))))) + (4 + ((0 + 1) + ((l9 - (l9 - kp))))) + (sbS (sbC (sbC 16 (0 + 0)) ((0 + 0) + (((l9 - kp) - 0)))) (((0 + 0) + (((l9 - kp) - 0))) + (((0 + 1) + ((l9 - (l9 - kp))))))) + (4 + (((0 + 0) + (((l9 - kp) - 0))) + (((0 + 1) + ((l9 - (l9 - kp))))))) ≤ 83 + 3 * nd + 36 * kp + 68 * m_dG nd := by have h9 := hc0p.1; have h8 := hc0p.2.1; have h7 := hcd.1; omega
  have hTc2 : 4 + m_dG nd + 4 * k + 0 + 0 + 1 + 1 + (sbK 16 (0 + 0)) + 2 + (sbK (sbC 16 (0 + 0)) ((0 + 0) + (((l9 - kp) - 0)))) + 1 + 1 + (sbK 16 (0 + 1)) + 2 + (sbK (sbC 16 (0 + 1)) ((0 + 1) + ((l9 - (l9 - kp))))) + 2 + (sbK (sbC (sbC 16 (0 + 0)) ((0 + 0) + (((l9 - kp) - 0)))) (((0 + 0) + (((l9 - kp) - 0))) + (((0 + 1) + ((l9 - (l9 - kp))))))) + 2 ≤ 16 + 4 * kp + 2 * m_dG nd := Nat.le_trans hWc2 (Nat.le_refl _)
  have hTs2 : 24 + nd + 34 * m_dG nd + 34 * k + 0 + 0 + 4 + 16 + (sbS 16 (0 + 0)) + (4 + ((l9 - kp) - 0)) + (sbS (sbC 16 (0 + 0)) ((0 + 0) + (((l9 - kp) - 0)))) + 4 + 16 + (sbS 16 (0 + 1)) + (4 + (l9 - (l9 - kp))) + (sbS (sbC 16 (0 + 1)) ((0 + 1) + ((l9 - (l9 - kp))))) + (4 + ((0 + 1) + ((l9 - (l9 - kp))))) + (sbS (sbC (sbC 16 (0 + 0)) ((0 + 0) + (((l9 - kp) - 0)))) (((0 + 0) + (((l9 - kp) - 0))) + (((0 + 1) + ((l9 - (l9 - kp))))))) + (4 + (((0 + 0) + (((l9 - kp) - 0))) + (((0 + 1) + ((l9 - (l9 - kp))))))) ≤ 83 + 3 * nd + 36 * kp + 68 * m_dG nd := Nat.le_trans hWs2 (Nat.le_refl _)
  have hWc3 : 4 + m_dG nd + 4 * k + 0 + 0 + 1 + 1 + (sbK 16 (0 + 1)) + 2 + (sbK (sbC 16 (0 + 1)) ((0 + 1) + (((l9 - kp) - 0)))) + (sbK (sbC (sbC 16 (0 + 1)) ((0 + 1) + (((l9 - kp) - 0)))) (((0 + 1) + (((l9 - kp) - 0))) + 0)) + 2 ≤ 16 + 4 * kp + 2 * m_dG nd := by have h9 := hc10.1; have h8 := hc10.2.2.1; have h7 := hcd.1; omega
  have hWs3 : 24 + nd + 34 * m_dG nd + 34 * k + 0 + 0 + 4 + 16 + (sbS 16 (0 + 1)) + (4 + ((l9 - kp) - 0)) + (sbS (sbC 16 (0 + 1)) ((0 + 1) + (((l9 - kp) - 0)))) + (sbS (sbC (sbC 16 (0 + 1)) ((0 + 1) + (((l9 - kp) - 0)))) (((0 + 1) + (((l9 - kp) - 0))) + 0)) + (4 + (((0 + 1) + (((l9 - kp) - 0))) + 0)) ≤ 83 + 3 * nd + 36 * kp + 68 * m_dG nd := by have h9 := hc10.1; have h8 := hc10.2.1; have h7 := hcd.1; omega
  have hTc3 : 4 + m_dG nd + 4 * k + 0 + 0 + 1 + 1 + (sbK 16 (0 + 1)) + 2 + (sbK (sbC 16 (0 + 1)) ((0 + 1) + (((l9 - kp) - 0)))) + (sbK (sbC (sbC 16 (0 + 1)) ((0 + 1) + (((l9 - kp) - 0)))) (((0 + 1) + (((l9 - kp) - 0))) + 0)) + 2 ≤ 16 + 4 * kp + 2 * m_dG nd := Nat.le_trans hWc3 (Nat.le_refl _)
  have hTs3 : 24 + nd + 34 * m_dG nd + 34 * k + 0 + 0 + 4 + 16 + (sbS 16 (0 + 1)) + (4 + ((l9 - kp) - 0)) + (sbS (sbC 16 (0 + 1)) ((0 + 1) + (((l9 - kp) - 0)))) + (sbS (sbC (sbC 16 (0 + 1)) ((0 + 1) + (((l9 - kp) - 0)))) (((0 + 1) + (((l9 - kp) - 0))) + 0)) + (4 + (((0 + 1) + (((l9 - kp) - 0))) + 0)) ≤ 83 + 3 * nd + 36 * kp + 68 * m_dG nd := Nat.le_trans hWs3 (Nat.le_refl _)
  have hWc4 : 4 + m_dG nd + 4 * k + 0 + 0 + 1 + 1 + (sbK 16 (0 + 1)) + 2 + (sbK (sbC 16 (0 + 1)) ((0 + 1) + (((l9 - kp) - 0)))) + 1 + 1 + (sbK 16 (0 + 1)) + 2 + (sbK (sbC 16 (0 + 1)) ((0 + 1) + ((l9 - (l9 - kp))))) + 2 + (sbK (sbC (sbC 16 (0 + 1)) ((0 + 1) + (((l9 - kp) - 0)))) (((0 + 1) + (((l9 - kp) - 0))) + (((0 + 1) + ((l9 - (l9 - kp))))))) + 2 ≤ 16 + 4 * kp + 2 * m_dG nd := by have h9 := hc1p.1; have h8 := hc1p.2.2.1; have h7 := hcd.1; omega
  have hWs4 : 24 + nd + 34 * m_dG nd + 34 * k + 0 + 0 + 4 + 16 + (sbS 16 (0 + 1)) + (4 + ((l9 - kp) - 0)) + (sbS (sbC 16 (0 + 1)) ((0 + 1) + (((l9 - kp) - 0)))) + 4 + 16 + (sbS 16 (0 + 1)) + (4 + (l9 - (l9 - kp))) + (sbS (sbC 16 (0 + 1)) ((0 + 1) + ((l9 - (l9 - kp))))) + (4 + ((0 + 1) + ((l9 - (l9 - kp))))) + (sbS (sbC (sbC 16 (0 + 1)) ((0 + 1) + (((l9 - kp) - 0)))) (((0 + 1) + (((l9 - kp) - 0))) + (((0 + 1) + ((l9 - (l9 - kp))))))) + (4 + (((0 + 1) + (((l9 - kp) - 0))) + (((0 + 1) + ((l9 - (l9 - kp))))))) ≤ 83 + 3 * nd + 36 * kp + 68 * m_dG nd := by have h9 := hc1p.1; have h8 := hc1p.2.1; have h7 := hcd.1; omega
  have hTc4 : 4 + m_dG nd + 4 * k + 0 + 0 + 1 + 1 + (sbK 16 (0 + 1)) + 2 + (sbK (sbC 16 (0 + 1)) ((0 + 1) + (((l9 - kp) - 0)))) + 1 + 1 + (sbK 16 (0 + 1)) + 2 + (sbK (sbC 16 (0 + 1)) ((0 + 1) + ((l9 - (l9 - kp))))) + 2 + (sbK (sbC (sbC 16 (0 + 1)) ((0 + 1) + (((l9 - kp) - 0)))) (((0 + 1) + (((l9 - kp) - 0))) + (((0 + 1) + ((l9 - (l9 - kp))))))) + 2 ≤ 16 + 4 * kp + 2 * m_dG nd := Nat.le_trans hWc4 (Nat.le_refl _)
  have hTs4 : 24 + nd + 34 * m_dG nd + 34 * k + 0 + 0 + 4 + 16 + (sbS 16 (0 + 1)) + (4 + ((l9 - kp) - 0)) + (sbS (sbC 16 (0 + 1)) ((0 + 1) + (((l9 - kp) - 0)))) + 4 + 16 + (sbS 16 (0 + 1)) + (4 + (l9 - (l9 - kp))) + (sbS (sbC 16 (0 + 1)) ((0 + 1) + ((l9 - (l9 - kp))))) + (4 + ((0 + 1) + ((l9 - (l9 - kp))))) + (sbS (sbC (sbC 16 (0 + 1)) ((0 + 1) + (((l9 - kp) - 0)))) (((0 + 1) + (((l9 - kp) - 0))) + (((0 + 1) + ((l9 - (l9 - kp))))))) + (4 + (((0 + 1) + (((l9 - kp) - 0))) + (((0 + 1) + ((l9 - (l9 - kp))))))) ≤ 83 + 3 * nd + 36 * kp + 68 * m_dG nd := Nat.le_trans hWs4 (Nat.le_refl _)
  have hS0_ := hS
  refine r_new (pc := 63) E hC hS tyJ4_ok uJ4 (List.mem_cons_of_mem _ kw_1351) (List.mem_cons_of_mem _ kw_150) (List.mem_cons_of_mem _ kw_19) (ci := 1) rfl (fs := [.null, .int 0, .int 0, .int 0]) (by decide) (pre1 (pre1 (pre1 (pre1 (pre1 (pre1 hTc1)))))) (pre1 (pre1 (pre1 (pre1 (pre1 (pre1 hTs1)))))) dX5_decimal_63 (fun qf17 H zq_ n_ ho_ hS => ?_)
  have l_h0s_f17 : q9 < qf17 := zq_ ▸ h0s.lt
  have h0s := h0s.kept (ho_ _ h0s.lt)
  have l_h1s_f17 : q9 < qf17 := zq_ ▸ h1s.lt
  have h1s := h1s.kept (ho_ _ h1s.lt)
  have l_h2s_f17 : b0_ < qf17 := zq_ ▸ h2s.lt
  have h2s := h2s.kept (ho_ _ h2s.lt)
  have f17 := n_
  have s_f17 : s.heap.size ≤ qf17 := zq_ ▸ hS0_.1
  have g_f17 := hn _ s_f17
  refine lv_dup (pc := 66) hx hb dX5_decimal_66 rfl ?_
  have hZ0_ := hS.1
  have t_h0s := h0s.lt
  have t_h1s := h1s.lt
  have t_h2s := h2s.lt
  have t_f17 := f17.lt
  refine k_v (pc := 67) (k_I E hC hS hA hl.1 (c_J4_init_da8c8 l D tk N0 sa H.size qf17 (hA _ g_f17)) kw_1352 kw_152 kw_19 kw_153 rfl (n := 0) (by decide +kernel) rfl ⟨⟨rfl, rfl⟩, ⟨Nat.le_of_ble_eq_true rfl, Nat.le_of_ble_eq_true rfl⟩, (pre1 (pre1 (pre1 (pre1 (pre1 hTc1))))), (pre1 (pre1 (pre1 (pre1 (pre1 hTs1)))))⟩ rfl (Nat.le_of_ble_eq_true rfl) f17 dX5_decimal_67) hS (inA1.to g_f17) hn (fun H locs hR hz hk hS => ?_)
  have h0s := h0s.kept (hk _ h0s.lt (inA1.not (clA.ne h0s.cl f17.cl (hC.oo 0 1 rfl rfl (by decide))) h0s.lt))
  have h1s := h1s.kept (hk _ h1s.lt (inA1.not (clA.ne h1s.cl f17.cl (hC.oo 0 1 rfl rfl (by decide))) h1s.lt))
  have h2s := h2s.kept (hk _ h2s.lt (inA1.not (h2s.neo hC f17.cl (ci := 1) rfl) h2s.lt))
  obtain ⟨q_f19, z9_, f17, f19⟩ := hR
  have s_f19 : s.heap.size ≤ q_f19 := Nat.le_trans hZ0_ z9_
  have g_f19 := hn _ s_f19
  have l_h0s_f19 : q9 < q_f19 := Nat.lt_of_lt_of_le t_h0s z9_
  have l_h1s_f19 : q9 < q_f19 := Nat.lt_of_lt_of_le t_h1s z9_
  have l_h2s_f19 : b0_ < q_f19 := Nat.lt_of_lt_of_le t_h2s z9_
  have l_f17_f19 : qf17 < q_f19 := Nat.lt_of_lt_of_le t_f17 z9_
  refine lv_lload_n (pc := 70) hx hb dX5_decimal_70 rfl (lv_at hl 1 rfl) ?_
  refine lv_lconst (pc := 71) (v := 0) hx hb dX5_decimal_71 (by decide) ?_
  refine r_lcge (pc := 72) (tgt := 82) E dX5_decimal_72 dX5_decimal_73 (by decide) (fun c_20 => ?_) (fun c_20 => ?_)
  · have hcA := hc00.2.2.2.1
    have hcB := hc00.2.2.2.2.1
    have hcP := hc0p.2.2.2.2.2
    have hcZ := hc00.2.2.2.2.2
    refine va_ldcS (pc := 82) hx hb E.2.2.2.1 (hC.2.2.2.2.1 6 _ rfl).1 dX5_decimal_82 ?_
    have k21 : SX D tk (sa (10 + 6)) 0 H := hC.str hS hA 6 _ rfl (by decide)
    exact g2_X5_decimal E hC hA hn hr hlk x pl kp nd hpl hkp hkn hnd hdg hQ q_f19 qf17 x_16 n k l9 q9 hf9 hk9 hL8 hL7 ih_23 b0_ hx9 hl5 hl6 hl7 hl8 hln hcp3 hcA hcB hcP hcZ hTc1 hTs1 hWc1 hWs1 hTc2 hTs2 hWc2 hWs2 hTc3 hTs3 hWc3 hWs3 hTc4 hTs4 hWc4 hWs4 _ _ _ hS h0s h1s h2s f17 f19 k21 s_f17 g_f17 g_f19 l_f17_f19 l_h0s_f17 l_h0s_f19 l_h1s_f17 l_h1s_f19 l_h2s_f17 l_h2s_f19 hl
  · have hcA := hc10.2.2.2.1
    have hcB := hc10.2.2.2.2.1
    have hcP := hc1p.2.2.2.2.2
    have hcZ := hc10.2.2.2.2.2
    refine r_ldcwS (pc := 76) E hC 13 _ rfl rfl rfl dX5_decimal_76 ?_
    have k50 : SX D tk (sa (10 + 13)) 1 H := hC.str hS hA 13 _ rfl (by decide)
    refine lv_goto (pc := 79) (tgt := 84) hx hb dX5_decimal_79 (by decide) ?_
    exact g5_X5_decimal E hC hA hn hr hlk x pl kp nd hpl hkp hkn hnd hdg hQ q_f19 qf17 x_16 n k l9 q9 hf9 hk9 hL8 hL7 ih_23 b0_ hx9 hl5 hl6 hl7 hl8 hln hcp3 hcA hcB hcP hcZ hTc1 hTs1 hWc1 hWs1 hTc2 hTs2 hWc2 hWs2 hTc3 hTs3 hWc3 hWs3 hTc4 hTs4 hWc4 hWs4 _ _ _ hS h0s h1s h2s f17 f19 k50 s_f17 g_f17 g_f19 l_f17_f19 l_h0s_f17 l_h0s_f19 l_h1s_f17 l_h1s_f19 l_h2s_f17 l_h2s_f19 hl
set_option maxHeartbeats 40000000 in
set_option maxRecDepth 100000 in
theorem g8_X5_decimal {p : Program} {l : Launch} {e : Env} {s : State} {m : MethodId} {args : Array Value} {below : List Frame} {meth : Method} {c : Code} {Q : State → Prop} {D : va_G} {tk : Nat → ClassId} {N0 : Nat} {sa : Nat → Nat} (E : CallFix p m c cX5_decimal 5 s args (wsy yX5_decimal cX5_decimal 5 (some (.object "java/lang/String"))) RX5) (hC : Ctx D tk N0 sa s) (hA : ∀ q, (nwA s.heap.size) q → N0 ≤ q) (hn : ∀ q, s.heap.size ≤ q → (nwA s.heap.size) q) (hr : meth.sig.returnType = (some (.object "java/lang/String"))) (hlk : meth.locks = false) (x : Int64) (pl : Int32) (kp : Nat) (nd : Nat) (hpl : pl = nI kp) (hkp : kp ≤ 9) (hkn : kp + 1 ≤ nd) (hnd : nd ≤ 20) (hdg : dgJ (f_absJ x) ≤ nd) (n : Nat) (k : Nat) (l9 : Nat) (q9 : Nat) (hf9 : kp + 1 - k < n + 1) (hk9 : k ≤ kp) (hL8 : l9 = dgJ (f_absJ x) + k) (hL7 : k = 0 ∨ l9 ≤ kp + 1) (ih_23 : ∀ (k : Nat) (l9 : Nat)(q9 : Nat), kp + 1 - k < n → k ≤ kp → l9 = dgJ (f_absJ x) + k → k = 0 ∨ l9 ≤ kp + 1 → ∀ (H : Heap) (locs : List Loc) (ls : Array Slot), va_S (nwA s.heap.size) s.heap H locs → SX D tk q9 l9 H → lv_has ls 5 [(0, .long x), (2, .int pl), (3, .ref q9)] → W p l e ({ frames := 6, cells := 16 + 4 * kp + 2 * m_dG nd, slots := 83 + 3 * nd + 36 * kp + 68 * m_dG nd, locals := 139 } : Room) s m args below meth c H locs (4 + m_dG nd + 4 * k) (24 + nd + 34 * m_dG nd + 34 * k) Q (F0 m 23 ls [])) (b0_ : Nat) (hd1 : 1 ≤ dgJ (f_absJ x)) (c_14 : ¬ (pl < (nI l9))) (H : Heap) (locs : List Loc) (ls : Array Slot) (hS : va_S (nwA s.heap.size) s.heap H locs) (h0s : xf D 0 q9 0 (.ref b0_) H) (h1s : xf D 0 q9 1 (.int 0) H) (h2s : BX tk b0_ l9 H) (hl : lv_has ls 5 [(0, .long x), (2, .int pl), (3, .ref q9)]) : W p l e ({ frames := 6, cells := 16 + 4 * kp + 2 * m_dG nd, slots := 83 + 3 * nd + 36 * kp + 68 * m_dG nd, locals := 139 } : Room) s m args below meth c H locs (4 + m_dG nd + 4 * k + 0) (24 + nd + 34 * m_dG nd + 34 * k + 0) Q (F0 m 31 ls []) := by
  obtain ⟨hx, hb, -⟩ := id E
  have hle : l9 ≤ kp := by
    rw [hpl] at c_14
    exact Nat.not_lt.mp (fun z9 => c_14 (nI_lt z9 (by omega)))
  have hct := m_ct2 1 l9 (by omega)
  have hl4 : l9 ≤ 400000 := by omega
  have hcp2 := Nat.le_trans hct.2.2.2.2 (show 500000 ≤ 100000000 by decide)
  have hNc2 : 4 + m_dG nd + 4 * (k + 1) ≤ 16 + 4 * kp + 2 * m_dG nd := by omega
  have hNs2 : 24 + nd + 34 * m_dG nd + 34 * (k + 1) ≤ 83 + 3 * nd + 36 * kp + 68 * m_dG nd := by omega
  have hWc1 : 4 + m_dG nd + 4 * k + 0 + 1 + 1 + (sbK 16 (0 + 1)) + (sbK (sbC 16 (0 + 1)) ((0 + 1) + l9)) + 2 ≤ 4 + m_dG nd + 4 * (k + 1) := by omega
  have hWs1 : 24 + nd + 34 * m_dG nd + 34 * k + 0 + 4 + 16 + (sbS 16 (0 + 1)) + (sbS (sbC 16 (0 + 1)) ((0 + 1) + l9)) + (4 + ((0 + 1) + l9)) ≤ 24 + nd + 34 * m_dG nd + 34 * (k + 1) := by omega
  have hTc1 : 4 + m_dG nd + 4 * k + 0 + 1 + 1 + (sbK 16 (0 + 1)) + (sbK (sbC 16 (0 + 1)) ((0 + 1) + l9)) + 2 ≤ 16 + 4 * kp + 2 * m_dG nd := Nat.le_trans hWc1 hNc2
  have hTs1 : 24 + nd + 34 * m_dG nd + 34 * k + 0 + 4 + 16 + (sbS 16 (0 + 1)) + (sbS (sbC 16 (0 + 1)) ((0 + 1) + l9)) + (4 + ((0 + 1) + l9)) ≤ 83 + 3 * nd + 36 * kp + 68 * m_dG nd := Nat.le_trans hWs1 hNs2
  have hS0_ := hS
  refine r_new (pc := 31) E hC hS tyJ4_ok uJ4 (List.mem_cons_of_mem _ kw_1351) (List.mem_cons_of_mem _ kw_150) (List.mem_cons_of_mem _ kw_19) (ci := 1) rfl (fs := [.null, .int 0, .int 0, .int 0]) (by decide) (pre1 (pre1 (pre1 (pre1 hTc1)))) (pre1 (pre1 (pre1 (pre1 hTs1)))) dX5_decimal_31 (fun qf79 H zq_ n_ ho_ hS => ?_)
  have l_h0s_f79 : q9 < qf79 := zq_ ▸ h0s.lt
  have h0s := h0s.kept (ho_ _ h0s.lt)
  have l_h1s_f79 : q9 < qf79 := zq_ ▸ h1s.lt
  have h1s := h1s.kept (ho_ _ h1s.lt)
  have l_h2s_f79 : b0_ < qf79 := zq_ ▸ h2s.lt
  have h2s := h2s.kept (ho_ _ h2s.lt)
  have f79 := n_
  have s_f79 : s.heap.size ≤ qf79 := zq_ ▸ hS0_.1
  have g_f79 := hn _ s_f79
  refine lv_dup (pc := 34) hx hb dX5_decimal_34 rfl ?_
  have hZ0_ := hS.1
  have t_h0s := h0s.lt
  have t_h1s := h1s.lt
  have t_h2s := h2s.lt
  have t_f79 := f79.lt
  refine k_v (pc := 35) (k_I E hC hS hA hl.1 (c_J4_init_da8c8 l D tk N0 sa H.size qf79 (hA _ g_f79)) kw_1352 kw_152 kw_19 kw_153 rfl (n := 0) (by decide +kernel) rfl ⟨⟨rfl, rfl⟩, ⟨Nat.le_of_ble_eq_true rfl, Nat.le_of_ble_eq_true rfl⟩, (pre1 (pre1 (pre1 hTc1))), (pre1 (pre1 (pre1 hTs1)))⟩ rfl (Nat.le_of_ble_eq_true rfl) f79 dX5_decimal_35) hS (inA1.to g_f79) hn (fun H locs hR hz hk hS => ?_)
  have h0s := h0s.kept (hk _ h0s.lt (inA1.not (clA.ne h0s.cl f79.cl (hC.oo 0 1 rfl rfl (by decide))) h0s.lt))
  have h1s := h1s.kept (hk _ h1s.lt (inA1.not (clA.ne h1s.cl f79.cl (hC.oo 0 1 rfl rfl (by decide))) h1s.lt))
  have h2s := h2s.kept (hk _ h2s.lt (inA1.not (h2s.neo hC f79.cl (ci := 1) rfl) h2s.lt))
  obtain ⟨q_f81, z9_, f79, f81⟩ := hR
  have s_f81 : s.heap.size ≤ q_f81 := Nat.le_trans hZ0_ z9_
  have g_f81 := hn _ s_f81
  have l_h0s_f81 : q9 < q_f81 := Nat.lt_of_lt_of_le t_h0s z9_
  have l_h1s_f81 : q9 < q_f81 := Nat.lt_of_lt_of_le t_h1s z9_
  have l_h2s_f81 : b0_ < q_f81 := Nat.lt_of_lt_of_le t_h2s z9_
  have l_f79_f81 : qf79 < q_f81 := Nat.lt_of_lt_of_le t_f79 z9_
  refine r_ldcwS (pc := 38) E hC 12 _ rfl rfl rfl dX5_decimal_38 ?_
  have k82 : SX D tk (sa (10 + 12)) 1 H := hC.str hS hA 12 _ rfl (by decide)
  have hZ0_ := hS.1
  have t_h0s := h0s.lt
  have t_h1s := h1s.lt
  have t_h2s := h2s.lt
  have t_f79 := f79.lt
  have t_f81 := f81.lt
  have t_k82 := k82.lt
  refine k_r (pc := 41) (k_V E hC hS hA hl.1 (c1.recv hC f79 rfl) rfl (c_J4_append_15ec4 l D tk N0 sa H.size qf79 q_f81 16 0 (sa (10 + 12)) 1 0 (hA _ g_f79) (hA _ g_f81) (Nat.zero_le _) (by decide) (by decide)) kw_1353 kw_399 kw_400 kw_19 kw_401 (n := 1) (by decide +kernel) rfl ⟨⟨rfl, rfl⟩, ⟨Nat.le_of_ble_eq_true rfl, Nat.le_of_ble_eq_true rfl⟩, (pre1 (pre1 hTc1)), (pre1 (pre1 hTs1))⟩ rfl (Nat.le_of_ble_eq_true rfl) ⟨f79, f81, k82⟩ dX5_decimal_41) hS (inA2.to g_f79 g_f81) hn (fun r_83 H locs hR hz hk hS => ?_)
  have h0s := h0s.kept (hk _ h0s.lt (inA2.not (clA.ne h0s.cl f79.cl (hC.oo 0 1 rfl rfl (by decide))) (clA.ne h0s.cl f81.cl (hC.oa 0 1 rfl rfl)) h0s.lt))
  have h1s := h1s.kept (hk _ h1s.lt (inA2.not (clA.ne h1s.cl f79.cl (hC.oo 0 1 rfl rfl (by decide))) (clA.ne h1s.cl f81.cl (hC.oa 0 1 rfl rfl)) h1s.lt))
  have h2s := h2s.kept (hk _ h2s.lt (inA2.not (h2s.neo hC f79.cl (ci := 1) rfl) (Nat.ne_of_lt l_h2s_f81) h2s.lt))
  obtain ⟨er9, hR⟩ := hR
  rw [er9]
  obtain ⟨v_84, hv_84, f79, f81⟩ := hR
  have g_f81 := hv_84.elim (fun e9 => e9 ▸ g_f81) (fun z9 => hn _ (Nat.le_trans hZ0_ z9))
  have l_h0s_f81 : q9 < v_84 := hv_84.elim (fun e9 => e9 ▸ l_h0s_f81) (fun z9 => Nat.lt_of_lt_of_le t_h0s z9)
  have l_h1s_f81 : q9 < v_84 := hv_84.elim (fun e9 => e9 ▸ l_h1s_f81) (fun z9 => Nat.lt_of_lt_of_le t_h1s z9)
  have l_h2s_f81 : b0_ < v_84 := hv_84.elim (fun e9 => e9 ▸ l_h2s_f81) (fun z9 => Nat.lt_of_lt_of_le t_h2s z9)
  have l_f79_f81 : qf79 < v_84 := hv_84.elim (fun e9 => e9 ▸ l_f79_f81) (fun z9 => Nat.lt_of_lt_of_le t_f79 z9)
  have hv_84 := hv_84.imp_right (fun z9 => Nat.le_trans hZ0_ z9)
  refine lv_aload_n (pc := 44) hx hb dX5_decimal_44 rfl (lv_at hl 2 rfl) ?_
  have hZ0_ := hS.1
  have t_h0s := h0s.lt
  have t_h1s := h1s.lt
  have t_h2s := h2s.lt
  have t_f79 := f79.lt
  have t_f81 := f81.lt
  refine k_r (pc := 45) (k_V E hC hS hA hl.1 (c1.recv hC f79 rfl) rfl (c_J4_append_15ec4 l D tk N0 sa H.size qf79 v_84 (sbC 16 (0 + 1)) (0 + 1) q9 l9 0 (hA _ g_f79) (hA _ g_f81) (sbC_ge _ _).1 (by decide) hl4) kw_1353 kw_399 kw_400 kw_19 kw_401 (n := 1) (by decide +kernel) rfl ⟨⟨rfl, rfl⟩, ⟨Nat.le_of_ble_eq_true rfl, Nat.le_of_ble_eq_true rfl⟩, (pre1 hTc1), (pre1 hTs1)⟩ rfl (Nat.le_of_ble_eq_true rfl) ⟨f79, f81, ⟨_, h0s, h1s, h2s⟩⟩ dX5_decimal_45) hS (inA2.to g_f79 g_f81) hn (fun r_85 H locs hR hz hk hS => ?_)
  have h0s := h0s.kept (hk _ h0s.lt (inA2.not (clA.ne h0s.cl f79.cl (hC.oo 0 1 rfl rfl (by decide))) (clA.ne h0s.cl f81.cl (hC.oa 0 1 rfl rfl)) h0s.lt))
  have h1s := h1s.kept (hk _ h1s.lt (inA2.not (clA.ne h1s.cl f79.cl (hC.oo 0 1 rfl rfl (by decide))) (clA.ne h1s.cl f81.cl (hC.oa 0 1 rfl rfl)) h1s.lt))
  have h2s := h2s.kept (hk _ h2s.lt (inA2.not (h2s.neo hC f79.cl (ci := 1) rfl) (Nat.ne_of_lt l_h2s_f81) h2s.lt))
  obtain ⟨er9, hR⟩ := hR
  rw [er9]
  obtain ⟨v_86, hv_86, f79, f81⟩ := hR
  have g_f81 := hv_86.elim (fun e9 => e9 ▸ g_f81) (fun z9 => hn _ (Nat.le_trans hZ0_ z9))
  have l_h0s_f81 : q9 < v_86 := hv_86.elim (fun e9 => e9 ▸ l_h0s_f81) (fun z9 => Nat.lt_of_lt_of_le t_h0s z9)
  have l_h1s_f81 : q9 < v_86 := hv_86.elim (fun e9 => e9 ▸ l_h1s_f81) (fun z9 => Nat.lt_of_lt_of_le t_h1s z9)
  have l_h2s_f81 : b0_ < v_86 := hv_86.elim (fun e9 => e9 ▸ l_h2s_f81) (fun z9 => Nat.lt_of_lt_of_le t_h2s z9)
  have l_f79_f81 : qf79 < v_86 := hv_86.elim (fun e9 => e9 ▸ l_f79_f81) (fun z9 => Nat.lt_of_lt_of_le t_f79 z9)
  have hv_86 := hv_86.imp_right (fun z9 => Nat.le_trans hZ0_ z9)
  have hv_86 := hv_86.elim (fun e9 => e9 ▸ hv_84) Or.inr
  have hZ0_ := hS.1
  have t_h0s := h0s.lt
  have t_h1s := h1s.lt
  have t_h2s := h2s.lt
  have t_f79 := f79.lt
  have t_f81 := f81.lt
  refine k_r (pc := 48) (k_V E hC hS hA hl.1 (c1.recv hC f79 rfl) rfl (c_J4_toString_0e30d l D tk N0 sa H.size qf79 v_86 (sbC (sbC 16 (0 + 1)) ((0 + 1) + l9)) ((0 + 1) + l9) 0 (sbC_ge _ _).1 hcp2) kw_1381 kw_316 kw_317 kw_19 kw_318 (n := 0) (by decide +kernel) rfl ⟨⟨rfl, rfl⟩, ⟨Nat.le_of_ble_eq_true rfl, Nat.le_of_ble_eq_true rfl⟩, hTc1, hTs1⟩ rfl (Nat.le_of_ble_eq_true rfl) ⟨f79, f81⟩ dX5_decimal_48) hS (fun q z w => absurd w (Nat.not_le.mpr z)) hn (fun r_87 H locs hR hz hk hS => ?_)
  have h0s := h0s.kept (hk _ h0s.lt (Nat.not_le.mpr h0s.lt))
  have h1s := h1s.kept (hk _ h1s.lt (Nat.not_le.mpr h1s.lt))
  have h2s := h2s.kept (hk _ h2s.lt (Nat.not_le.mpr h2s.lt))
  have f79 := f79.kept (hk _ f79.lt (Nat.not_le.mpr f79.lt))
  have f81 := f81.kept (hk _ f81.lt (Nat.not_le.mpr f81.lt))
  obtain ⟨q_f88, z9_, y9_, f88⟩ := hR
  have f88 := SM.sx f88
  have zr_f88 : s.heap.size ≤ r_87 := Nat.le_trans hZ0_ z9_
  refine lv_astore_n (pc := 51) (lv' := [(3, .ref r_87), (0, .long x), (2, .int pl)]) hx hb dX5_decimal_51 rfl hl (by decide) rfl (fun ls hl => ?_)
  refine lv_goto (pc := 52) (tgt := 23) hx hb dX5_decimal_52 (by decide) ?_
  refine W.widen (k := 4 + m_dG nd + 4 * (k + 1)) (n := 24 + nd + 34 * m_dG nd + 34 * (k + 1)) hWc1 hWs1 ?_
  exact ih_23  (k + 1) _  r_87 (by omega) (by omega) (by omega) (by omega) _ _ _ hS f88 (lv_sub hl [1, 2, 0] rfl)
set_option maxHeartbeats 40000000 in
set_option maxRecDepth 100000 in
/-- BestratiosModel.decimal(JI)Ljava/lang/String; -/
theorem c_X5_decimal (l : Launch) (D : va_G) (tk : Nat → ClassId) (N0 : Nat) (sa : Nat → Nat)  (sz : Nat) (x : Int64) (pl : Int32) (kp nd : Nat) (hpl : pl = nI kp) (hkp : kp ≤ 9) (hkn : kp + 1 ≤ nd) (hnd : nd ≤ 20) (hdg : dgJ (f_absJ x) ≤ nd) : Met l yX5_decimal (wsy yX5_decimal cX5_decimal 5 (some (.object "java/lang/String"))) ({ frames := 6, cells := 16 + 4 * kp + 2 * m_dG nd, slots := 83 + 3 * nd + 36 * kp + 68 * m_dG nd, locals := 139 } : Room) (cP D tk N0 sa [.long x, .int pl] sz (fun H => True)) (kQr (fun r H => ∃ n9, n9 ≤ nd + 2 ∧ sz ≤ r ∧ SX D tk r n9 H) (nwA sz)) (16 + 4 * kp + 2 * m_dG nd) (83 + 3 * nd + 36 * kp + 68 * m_dG nd) (nwA sz) := by
  refine mStart RX5 rfl (by decide +kernel) (Nat.le_of_ble_eq_true rfl) ?_
  intro p e s m args below meth c E hr hlk hnm hsz hC hF ls hl
  subst hsz
  obtain ⟨hx, hb, -⟩ := id E
  have hA : ∀ q, (nwA s.heap.size) q → N0 ≤ q := fun q h => Nat.le_trans hC.2.1 h
  have hn : ∀ q, s.heap.size ≤ q → (nwA s.heap.size) q := fun q h => h
  have hS : va_S (nwA s.heap.size) s.heap s.heap [] := va_S.rf
  have hl : lv_has ls 5 [(0, .long x), (2, .int pl)] := hl
  obtain ⟨Q, hQ⟩ : ∃ Q, Q = MQ below (kQr (fun r H => ∃ n9, n9 ≤ nd + 2 ∧ s.heap.size ≤ r ∧ SX D tk r n9 H) (nwA s.heap.size)) args s (16 + 4 * kp + 2 * m_dG nd) (83 + 3 * nd + 36 * kp + 68 * m_dG nd) (nwA s.heap.size) := ⟨_, rfl⟩
  rw [← hQ]
  have hz0 : sbK 16 (0 + 0) = 0 ∧ sbS 16 (0 + 0) = 0 ∧ sbC 16 (0 + 0) = 16 := ⟨rfl, rfl, rfl⟩
  have hd1 := m_dg1 (f_absJ x)
  have hNc : 4 + m_dG nd + 4 * 0 ≤ 16 + 4 * kp + 2 * m_dG nd := by omega
  have hNs : 24 + nd + 34 * m_dG nd + 34 * 0 ≤ 83 + 3 * nd + 36 * kp + 68 * m_dG nd := by omega
  have hS0_ := hS
  refine r_new (pc := 0) E hC hS tyJ4_ok uJ4 (List.mem_cons_of_mem _ kw_1351) (List.mem_cons_of_mem _ kw_150) (List.mem_cons_of_mem _ kw_19) (ci := 1) rfl (fs := [.null, .int 0, .int 0, .int 0]) (by decide) (by dsimp only; omega) (by dsimp only; omega) dX5_decimal_0 (fun qf1 H zq_ n_ ho_ hS => ?_)
  have f1 := n_
  have s_f1 : s.heap.size ≤ qf1 := zq_ ▸ hS0_.1
  have g_f1 := hn _ s_f1
  refine lv_dup (pc := 3) hx hb dX5_decimal_3 rfl ?_
  have hZ0_ := hS.1
  have t_f1 := f1.lt
  refine k_v (pc := 4) (k_I E hC hS hA hl.1 (c_J4_init_da8c8 l D tk N0 sa H.size qf1 (hA _ g_f1)) kw_1352 kw_152 kw_19 kw_153 rfl (n := 0) (by decide +kernel) rfl ⟨⟨rfl, rfl⟩, ⟨Nat.le_of_ble_eq_true rfl, Nat.le_of_ble_eq_true rfl⟩, (by dsimp only; omega), (by dsimp only; omega)⟩ rfl (Nat.le_of_ble_eq_true rfl) f1 dX5_decimal_4) hS (inA1.to g_f1) hn (fun H locs hR hz hk hS => ?_)
  obtain ⟨q_f3, z9_, f1, f3⟩ := hR
  have s_f3 : s.heap.size ≤ q_f3 := Nat.le_trans hZ0_ z9_
  have g_f3 := hn _ s_f3
  have l_f1_f3 : qf1 < q_f3 := Nat.lt_of_lt_of_le t_f1 z9_
  refine va_ldcS (pc := 7) hx hb E.2.2.2.1 (hC.2.2.2.2.1 6 _ rfl).1 dX5_decimal_7 ?_
  have k4 : SX D tk (sa (10 + 6)) 0 H := hC.str hS hA 6 _ rfl (by decide)
  have hZ0_ := hS.1
  have t_f1 := f1.lt
  have t_f3 := f3.lt
  have t_k4 := k4.lt
  refine k_r (pc := 9) (k_V E hC hS hA hl.1 (c1.recv hC f1 rfl) rfl (c_J4_append_15ec4 l D tk N0 sa H.size qf1 q_f3 16 0 (sa (10 + 6)) 0 0 (hA _ g_f1) (hA _ g_f3) (Nat.zero_le _) (by decide) (by decide)) kw_1353 kw_399 kw_400 kw_19 kw_401 (n := 1) (by decide +kernel) rfl ⟨⟨rfl, rfl⟩, ⟨Nat.le_of_ble_eq_true rfl, Nat.le_of_ble_eq_true rfl⟩, (by dsimp only; omega), (by dsimp only; omega)⟩ rfl (Nat.le_of_ble_eq_true rfl) ⟨f1, f3, k4⟩ dX5_decimal_9) hS (inA2.to g_f1 g_f3) hn (fun r_5 H locs hR hz hk hS => ?_)
  obtain ⟨er9, hR⟩ := hR
  rw [er9]
  obtain ⟨v_6, hv_6, f1, f3⟩ := hR
  have g_f3 := hv_6.elim (fun e9 => e9 ▸ g_f3) (fun z9 => hn _ (Nat.le_trans hZ0_ z9))
  have l_f1_f3 : qf1 < v_6 := hv_6.elim (fun e9 => e9 ▸ l_f1_f3) (fun z9 => Nat.lt_of_lt_of_le t_f1 z9)
  have hv_6 := hv_6.imp_right (fun z9 => Nat.le_trans hZ0_ z9)
  refine lv_lload_n (pc := 12) hx hb dX5_decimal_12 rfl (lv_at hl 0 rfl) ?_
  refine k_l (pc := 13) (k_S E hC hS hA hl.1 (c_J9_abs_067f4 l D tk N0 sa H.size x ) kw_1205 kw_1206 kw_9 kw_1207 (n := 1) (by decide +kernel) rfl ⟨⟨rfl, rfl⟩, ⟨Nat.le_of_ble_eq_true rfl, Nat.le_of_ble_eq_true rfl⟩, (by dsimp only; omega), (by dsimp only; omega)⟩ rfl (Nat.le_of_ble_eq_true rfl) trivial dX5_decimal_13) hS (fun q z w => absurd w (Nat.not_le.mpr z)) hn (fun r_7 H locs hR hz hk hS => ?_)
  have er_7 := hR
  have f1 := f1.kept (hk _ f1.lt (Nat.not_le.mpr f1.lt))
  have f3 := f3.kept (hk _ f3.lt (Nat.not_le.mpr f3.lt))
  have hd9 : dgJ r_7 ≤ nd := by rw [er_7]; exact hdg
  have hct := m_ct2 0 (dgJ r_7) (by omega)
  have hG := m_dG1 nd
  have hcp1 := Nat.le_trans hct.2.2.2.2 (show 500000 ≤ 100000000 by decide)
  have hWc1 : 0 + 1 + 1 + (sbK 16 (0 + 0)) + 0 + (sbK (sbC 16 (0 + 0)) ((0 + 0) + dgJ r_7)) + 2 ≤ 4 + m_dG nd + 4 * 0 := by omega
  have hWs1 : 0 + 4 + 16 + (sbS 16 (0 + 0)) + 0 + (sbS (sbC 16 (0 + 0)) ((0 + 0) + dgJ r_7)) + (4 + ((0 + 0) + dgJ r_7)) ≤ 24 + nd + 34 * m_dG nd + 34 * 0 := by omega
  have hTc1 : 0 + 1 + 1 + (sbK 16 (0 + 0)) + 0 + (sbK (sbC 16 (0 + 0)) ((0 + 0) + dgJ r_7)) + 2 ≤ 16 + 4 * kp + 2 * m_dG nd := Nat.le_trans hWc1 hNc
  have hTs1 : 0 + 4 + 16 + (sbS 16 (0 + 0)) + 0 + (sbS (sbC 16 (0 + 0)) ((0 + 0) + dgJ r_7)) + (4 + ((0 + 0) + dgJ r_7)) ≤ 83 + 3 * nd + 36 * kp + 68 * m_dG nd := Nat.le_trans hWs1 hNs
  have hZ0_ := hS.1
  have t_f1 := f1.lt
  have t_f3 := f3.lt
  refine k_r (pc := 16) (k_V E hC hS hA hl.1 (c1.recv hC f1 rfl) rfl (c_J4_append_f7089 l D tk N0 sa H.size qf1 v_6 (sbC 16 (0 + 0)) (0 + 0) 0 r_7 (hA _ g_f1) (hA _ g_f3) (sbC_ge _ _).1 (by decide)) kw_1354 kw_1355 kw_1356 kw_19 kw_1357 (n := 1) (by decide +kernel) rfl ⟨⟨rfl, rfl⟩, ⟨Nat.le_of_ble_eq_true rfl, Nat.le_of_ble_eq_true rfl⟩, (pre1 hTc1), (pre1 hTs1)⟩ rfl (Nat.le_of_ble_eq_true rfl) ⟨f1, f3⟩ dX5_decimal_16) hS (inA2.to g_f1 g_f3) hn (fun r_9 H locs hR hz hk hS => ?_)
  obtain ⟨er9, hR⟩ := hR
  rw [er9]
  obtain ⟨v_10, hv_10, f1, f3⟩ := hR
  have g_f3 := hv_10.elim (fun e9 => e9 ▸ g_f3) (fun z9 => hn _ (Nat.le_trans hZ0_ z9))
  have l_f1_f3 : qf1 < v_10 := hv_10.elim (fun e9 => e9 ▸ l_f1_f3) (fun z9 => Nat.lt_of_lt_of_le t_f1 z9)
  have hv_10 := hv_10.imp_right (fun z9 => Nat.le_trans hZ0_ z9)
  have hv_10 := hv_10.elim (fun e9 => e9 ▸ hv_6) Or.inr
  have hZ0_ := hS.1
  have t_f1 := f1.lt
  have t_f3 := f3.lt
  refine k_r (pc := 19) (k_V E hC hS hA hl.1 (c1.recv hC f1 rfl) rfl (c_J4_toString_0e30d l D tk N0 sa H.size qf1 v_10 (sbC (sbC 16 (0 + 0)) ((0 + 0) + dgJ r_7)) ((0 + 0) + dgJ r_7) 0 (sbC_ge _ _).1 hcp1) kw_1381 kw_316 kw_317 kw_19 kw_318 (n := 0) (by decide +kernel) rfl ⟨⟨rfl, rfl⟩, ⟨Nat.le_of_ble_eq_true rfl, Nat.le_of_ble_eq_true rfl⟩, hTc1, hTs1⟩ rfl (Nat.le_of_ble_eq_true rfl) ⟨f1, f3⟩ dX5_decimal_19) hS (fun q z w => absurd w (Nat.not_le.mpr z)) hn (fun r_11 H locs hR hz hk hS => ?_)
  have f1 := f1.kept (hk _ f1.lt (Nat.not_le.mpr f1.lt))
  have f3 := f3.kept (hk _ f3.lt (Nat.not_le.mpr f3.lt))
  obtain ⟨q_f12, z9_, y9_, f12⟩ := hR
  have f12 := SM.sx f12
  have zr_f12 : s.heap.size ≤ r_11 := Nat.le_trans hZ0_ z9_
  refine lv_astore_n (pc := 22) (lv' := [(3, .ref r_11), (0, .long x), (2, .int pl)]) hx hb dX5_decimal_22 rfl hl (by decide) rfl (fun ls hl => ?_)
  have loop_23 : ∀ (n : Nat) (k : Nat) (l9 : Nat)(q9 : Nat), kp + 1 - k < n → k ≤ kp → l9 = dgJ (f_absJ x) + k → k = 0 ∨ l9 ≤ kp + 1 → ∀ (H : Heap) (locs : List Loc) (ls : Array Slot), va_S (nwA s.heap.size) s.heap H locs → SX D tk q9 l9 H → lv_has ls 5 [(0, .long x), (2, .int pl), (3, .ref q9)] → W p l e ({ frames := 6, cells := 16 + 4 * kp + 2 * m_dG nd, slots := 83 + 3 * nd + 36 * kp + 68 * m_dG nd, locals := 139 } : Room) s m args below meth c H locs (4 + m_dG nd + 4 * k) (24 + nd + 34 * m_dG nd + 34 * k) Q (F0 m 23 ls []) := by
    intro n
    induction n with
    | zero =>
      intro k l9 q9 hf9 hk9 hL8 hL7 H locs ls hS fs hl
      omega
    | succ n ih_23 =>
      intro k l9 q9 hf9 hk9 hL8 hL7 H locs ls hS fs hl
      obtain ⟨b0_, h0s, h1s, h2s⟩ := fs
      refine lv_aload_n (pc := 23) hx hb dX5_decimal_23 rfl (lv_at hl 2 rfl) ?_
      refine k_i (pc := 24) (k_V E hC hS hA hl.1 (xf.recv hC h0s rfl) rfl (c_J0_length_8abf5 l D tk N0 sa H.size q9 l9) kw_1710 kw_413 kw_414 kw_20 kw_415 (n := 0) (by decide +kernel) rfl ⟨⟨rfl, rfl⟩, ⟨Nat.le_of_ble_eq_true rfl, Nat.le_of_ble_eq_true rfl⟩, (by dsimp only; omega), (by dsimp only; omega)⟩ rfl (Nat.le_of_ble_eq_true rfl) ⟨_, h0s, h1s, h2s⟩ dX5_decimal_24) hS (fun q z w => absurd w (Nat.not_le.mpr z)) hn (fun r_13 H locs hR hz hk hS => ?_)
      have h0s := h0s.kept (hk _ h0s.lt (Nat.not_le.mpr h0s.lt))
      have h1s := h1s.kept (hk _ h1s.lt (Nat.not_le.mpr h1s.lt))
      have h2s := h2s.kept (hk _ h2s.lt (Nat.not_le.mpr h2s.lt))
      rw [show r_13 = nI l9 from hR]
      refine lv_iload_n (pc := 27) hx hb dX5_decimal_27 rfl (lv_at hl 1 rfl) ?_
      refine lv_icmp_gt (pc := 28) (tgt := 55) hx hb dX5_decimal_28 (by decide) (fun c_14 => ?_) (fun c_14 => ?_)
      · refine lv_aload_n (pc := 55) hx hb dX5_decimal_55 rfl (lv_at hl 2 rfl) ?_
        refine k_i (pc := 56) (k_V E hC hS hA hl.1 (xf.recv hC h0s rfl) rfl (c_J0_length_8abf5 l D tk N0 sa H.size q9 l9) kw_1710 kw_413 kw_414 kw_20 kw_415 (n := 0) (by decide +kernel) rfl ⟨⟨rfl, rfl⟩, ⟨Nat.le_of_ble_eq_true rfl, Nat.le_of_ble_eq_true rfl⟩, (by dsimp only; omega), (by dsimp only; omega)⟩ rfl (Nat.le_of_ble_eq_true rfl) ⟨_, h0s, h1s, h2s⟩ dX5_decimal_56) hS (fun q z w => absurd w (Nat.not_le.mpr z)) hn (fun r_15 H locs hR hz hk hS => ?_)
        have h0s := h0s.kept (hk _ h0s.lt (Nat.not_le.mpr h0s.lt))
        have h1s := h1s.kept (hk _ h1s.lt (Nat.not_le.mpr h1s.lt))
        have h2s := h2s.kept (hk _ h2s.lt (Nat.not_le.mpr h2s.lt))
        rw [show r_15 = nI l9 from hR]
        refine lv_iload_n (pc := 59) hx hb dX5_decimal_59 rfl (lv_at hl 1 rfl) ?_
        refine lv_isub (pc := 60) hx hb dX5_decimal_60 ?_
        obtain ⟨x_16, ex_16⟩ : ∃ z9 : Int32, z9 = (nI l9) - pl := ⟨_, rfl⟩
        rw [← ex_16]
        refine lv_istore (pc := 61) (lv' := [(4, .int x_16), (0, .long x), (2, .int pl), (3, .ref q9)]) hx hb dX5_decimal_61 hl (by decide) rfl (fun ls hl => ?_)
        exact g1_X5_decimal E hC hA hn hr hlk x pl kp nd hpl hkp hkn hnd hdg hQ x_16 n k l9 q9 hf9 hk9 hL8 hL7 ih_23 b0_ hd1 c_14 ex_16 _ _ _ hS h0s h1s h2s hl
      · exact g8_X5_decimal E hC hA hn hr hlk x pl kp nd hpl hkp hkn hnd hdg n k l9 q9 hf9 hk9 hL8 hL7 ih_23 b0_ hd1 c_14 _ _ _ hS h0s h1s h2s hl
  refine W.widen (k := 4 + m_dG nd + 4 * 0) (n := 24 + nd + 34 * m_dG nd + 34 * 0) hWc1 hWs1 ?_
  exact loop_23 (kp + 2) 0 _  r_11 (by omega) (Nat.zero_le _) (by rw [er_7]; omega) (Or.inl rfl) _ _ _ hS f12 (lv_sub hl [1, 2, 0] rfl)
