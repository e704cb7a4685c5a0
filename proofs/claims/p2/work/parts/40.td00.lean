set_option maxHeartbeats 20000000 in
set_option maxRecDepth 100000 in
theorem g2_X5_told {p : Program} {l : Launch} {e : Env} {s : State} {m : MethodId} {args : Array Value} {below : List Frame} {meth : Method} {c : Code} {Q : State → Prop} {D : va_G} {tk : Nat → ClassId} {N0 : Nat} {sa : Nat → Nat} (E : CallFix p m c cX5_told 5 s args (wsy yX5_told cX5_told 5 (some (.object "java/lang/String"))) RX5) (hC : Ctx D tk N0 sa s) (hA : ∀ q, (nwA s.heap.size) q → N0 ≤ q) (hn : ∀ q, s.heap.size ≤ q → (nwA s.heap.size) q) (hr : meth.sig.returnType = (some (.object "java/lang/String"))) (hlk : meth.locks = false) (a : Nat) (b : Nat) (ln : Nat) (cap : Nat) (md : Int32) (f : Nat → Option Nat) (vs : Nat → Value) (hnc : ln ≤ cap) (hcap : cap ≤ 1000) (hl9 : ln ≤ 43) (hPV : PV ln vs) (r_2 : Nat) (v_13 : Nat) (qf9 : Nat) (r_8 : Int64) (n : Nat) (k : Nat) (l9 : Nat) (lr : Int32) (q9 : Nat) (hf9 : 44 - k < n + 1) (hk9 : k ≤ ln) (hl8 : l9 ≤ 12 * k) (ih_8 : ∀ (k : Nat) (l9 : Nat) (lr : Int32)(q9 : Nat), 44 - k < n → k ≤ ln → l9 ≤ 12 * k → ∀ (H : Heap) (locs : List Loc) (ls : Array Slot), va_S (nwA s.heap.size) s.heap H locs → c1 D a (.inr (7, [.int md, .ref b, .int (nI ln)])) H → c1 D b (.inl (tk 4, cap, .inr (.inr (.inr (.inr f))))) H → EL D 3 ln f vs H → SX D tk q9 l9 H → c1 D r_2 (.inr (6, [.int (nI k), .int lr, .int md, .ref a])) H → lv_has ls 5 [(0, .ref a), (1, .ref q9), (2, .ref r_2)] → W p l e ({ frames := 6, cells := 302, slots := 56764, locals := 137 } : Room) s m args below meth c H locs (1 + 7 * k) (4 + m_tS k) Q (F0 m 8 ls [])) (b0_ : Nat) (hkn : k < ln) (hd11 : dgJ r_8 ≤ 11) (hl4 : l9 ≤ 400000) (hcA : sbC 16 (0 + l9) ≤ 500000) (hcB : sbC (sbC 16 (0 + l9)) (0 + l9 + 1) ≤ 500000) (hcC : sbC (sbC (sbC 16 (0 + l9)) (0 + l9 + 1)) (0 + l9 + 1 + dgJ r_8) ≤ 100000000) (hTc1 : 1 + 7 * k + 0 + 0 + 0 + 1 + 1 + (sbK 16 (0 + l9)) + 0 + (sbK (sbC 16 (0 + l9)) ((0 + l9) + 1)) + (sbK (sbC (sbC 16 (0 + l9)) ((0 + l9) + 1)) (((0 + l9) + 1) + dgJ r_8)) + 2 ≤ 302) (hTs1 : 4 + m_tS k + 0 + 0 + 0 + 4 + 16 + (sbS 16 (0 + l9)) + 0 + (sbS (sbC 16 (0 + l9)) ((0 + l9) + 1)) + (sbS (sbC (sbC 16 (0 + l9)) ((0 + l9) + 1)) (((0 + l9) + 1) + dgJ r_8)) + (4 + (((0 + l9) + 1) + dgJ r_8)) ≤ 56764) (hWc1 : 1 + 7 * k + 0 + 0 + 0 + 1 + 1 + (sbK 16 (0 + l9)) + 0 + (sbK (sbC 16 (0 + l9)) ((0 + l9) + 1)) + (sbK (sbC (sbC 16 (0 + l9)) ((0 + l9) + 1)) (((0 + l9) + 1) + dgJ r_8)) + 2 ≤ 1 + 7 * (k + 1)) (hWs1 : 4 + m_tS k + 0 + 0 + 0 + 4 + 16 + (sbS 16 (0 + l9)) + 0 + (sbS (sbC 16 (0 + l9)) ((0 + l9) + 1)) + (sbS (sbC (sbC 16 (0 + l9)) ((0 + l9) + 1)) (((0 + l9) + 1) + dgJ r_8)) + (4 + (((0 + l9) + 1) + dgJ r_8)) ≤ 4 + m_tS (k + 1)) (hTc2 : 1 + 7 * k + 0 + 0 + 0 + 1 + 1 + (sbK 16 (0 + l9)) + 0 + (sbK (sbC 16 (0 + l9)) ((0 + l9) + 0)) + (sbK (sbC (sbC 16 (0 + l9)) ((0 + l9) + 0)) (((0 + l9) + 0) + dgJ r_8)) + 2 ≤ 302) (hTs2 : 4 + m_tS k + 0 + 0 + 0 + 4 + 16 + (sbS 16 (0 + l9)) + 0 + (sbS (sbC 16 (0 + l9)) ((0 + l9) + 0)) + (sbS (sbC (sbC 16 (0 + l9)) ((0 + l9) + 0)) (((0 + l9) + 0) + dgJ r_8)) + (4 + (((0 + l9) + 0) + dgJ r_8)) ≤ 56764) (hWc2 : 1 + 7 * k + 0 + 0 + 0 + 1 + 1 + (sbK 16 (0 + l9)) + 0 + (sbK (sbC 16 (0 + l9)) ((0 + l9) + 0)) + (sbK (sbC (sbC 16 (0 + l9)) ((0 + l9) + 0)) (((0 + l9) + 0) + dgJ r_8)) + 2 ≤ 1 + 7 * (k + 1)) (hWs2 : 4 + m_tS k + 0 + 0 + 0 + 4 + 16 + (sbS 16 (0 + l9)) + 0 + (sbS (sbC 16 (0 + l9)) ((0 + l9) + 0)) + (sbS (sbC (sbC 16 (0 + l9)) ((0 + l9) + 0)) (((0 + l9) + 0) + dgJ r_8)) + (4 + (((0 + l9) + 0) + dgJ r_8)) ≤ 4 + m_tS (k + 1)) (H : Heap) (locs : List Loc) (ls : Array Slot) (hS : va_S (nwA s.heap.size) s.heap H locs) (f0 : c1 D a (.inr (7, [.int md, .ref b, .int (nI ln)])) H) (fR : c1 D b (.inl (tk 4, cap, .inr (.inr (.inr (.inr (f)))))) H) (el : EL D 3 ln f vs H) (h0s : xf D 0 q9 0 (.ref b0_) H) (h1s : xf D 0 q9 1 (.int 0) H) (h2s : BX tk b0_ l9 H) (f3 : c1 D r_2 (.inr (6, [.int (nI (k + 1)), .int (nI k), .int md, .ref a])) H) (f9 : c1 D qf9 (.inr (1, [.ref v_13, .int 0, .int 0, .int (nI (0 + l9))])) H) (f11 : BA D tk v_13 (sbC 16 (0 + l9)) H) (k16 : SX D tk (sa (10 + 8)) 1 H) (s_f9 : s.heap.size ≤ qf9) (g_f9 : (nwA s.heap.size) qf9) (g_f11 : (nwA s.heap.size) v_13) (l_f0_f11 : a < v_13) (l_f0_f9 : a < qf9) (l_f3_f11 : r_2 < v_13) (l_f3_f9 : r_2 < qf9) (l_f9_f11 : qf9 < v_13) (l_fR_f11 : b < v_13) (l_fR_f9 : b < qf9) (l_h0s_f11 : q9 < v_13) (l_h0s_f9 : q9 < qf9) (l_h1s_f11 : q9 < v_13) (l_h1s_f9 : q9 < qf9) (l_h2s_f11 : b0_ < v_13) (l_h2s_f9 : b0_ < qf9) (hl : lv_has ls 5 [(3, .long r_8), (0, .ref a), (1, .ref q9), (2, .ref r_2)]) : W p l e ({ frames := 6, cells := 302, slots := 56764, locals := 137 } : Room) s m args below meth c H locs (1 + 7 * k + 0 + 0 + 0 + 1 + 1 + (sbK 16 (0 + l9)) + 0) (4 + m_tS k + 0 + 0 + 0 + 4 + 16 + (sbS 16 (0 + l9)) + 0) Q (F0 m 55 ls [.ref (sa (10 + 8)), .ref qf9]) := by
  obtain ⟨hx, hb, -⟩ := id E
  have hZ0_ := hS.1
  have t_f0 := f0.lt
  have t_fR := fR.lt
  have t_h0s := h0s.lt
  have t_h1s := h1s.lt
  have t_h2s := h2s.lt
  have t_f3 := f3.lt
  have t_f9 := f9.lt
  have t_f11 := f11.lt
  have t_k16 := k16.lt
  refine k_r (pc := 55) (k_V E hC hS hA hl.1 (c1.recv hC f9 rfl) rfl (c_J4_append_15ec4 l D tk N0 sa H.size qf9 v_13 (sbC 16 (0 + l9)) (0 + l9) (sa (10 + 8)) 1 0 (hA _ g_f9) (hA _ g_f11) (sbC_ge _ _).1 hcA (by decide)) kw_1353 kw_399 kw_400 kw_19 kw_401 (n := 1) (by decide +kernel) rfl ⟨⟨rfl, rfl⟩, ⟨Nat.le_of_ble_eq_true rfl, Nat.le_of_ble_eq_true rfl⟩, (pre1 (pre1 hTc1)), (pre1 (pre1 hTs1))⟩ rfl (Nat.le_of_ble_eq_true rfl) ⟨f9, f11, k16⟩ dX5_told_55) hS (inA2.to g_f9 g_f11) hn (fun r_17 H locs hR hz hk hS => ?_)
  have f0 := f0.kept (hk _ f0.lt (inA2.not (clA.ne f0.cl f9.cl (hC.oo 7 1 rfl rfl (by decide))) (clA.ne f0.cl f11.cl (hC.oa 7 1 rfl rfl)) f0.lt))
  have fR := fR.kept (hk _ fR.lt (inA2.not (clA.ne fR.cla f9.cl (hC.ao 1 4 rfl rfl)) (clA.ne fR.cla f11.cl (hC.aa 4 1 rfl rfl (by dsimp only; decide))) fR.lt))
  have el := el.keep2 hk (fun q9 h9 => clA.ne h9 f9.cl (hC.ceo (Or.inl rfl) 1 rfl (by decide))) (fun q9 h9 => clA.ne h9 f11.cl (hC.cea (Or.inl rfl) 1 rfl))
  have h0s := h0s.kept (hk _ h0s.lt (inA2.not (clA.ne h0s.cl f9.cl (hC.oo 0 1 rfl rfl (by decide))) (clA.ne h0s.cl f11.cl (hC.oa 0 1 rfl rfl)) h0s.lt))
  have h1s := h1s.kept (hk _ h1s.lt (inA2.not (clA.ne h1s.cl f9.cl (hC.oo 0 1 rfl rfl (by decide))) (clA.ne h1s.cl f11.cl (hC.oa 0 1 rfl rfl)) h1s.lt))
  have h2s := h2s.kept (hk _ h2s.lt (inA2.not (h2s.neo hC f9.cl (ci := 1) rfl) (Nat.ne_of_lt l_h2s_f11) h2s.lt))
  have f3 := f3.kept (hk _ f3.lt (inA2.not (clA.ne f3.cl f9.cl (hC.oo 6 1 rfl rfl (by decide))) (clA.ne f3.cl f11.cl (hC.oa 6 1 rfl rfl)) f3.lt))
  obtain ⟨er9, hR⟩ := hR
  rw [er9]
  obtain ⟨v_18, hv_18, f9, f11⟩ := hR
  have g_f11 := hv_18.elim (fun e9 => e9 ▸ g_f11) (fun z9 => hn _ (Nat.le_trans hZ0_ z9))
  have l_f0_f11 : a < v_18 := hv_18.elim (fun e9 => e9 ▸ l_f0_f11) (fun z9 => Nat.lt_of_lt_of_le t_f0 z9)
  have l_fR_f11 : b < v_18 := hv_18.elim (fun e9 => e9 ▸ l_fR_f11) (fun z9 => Nat.lt_of_lt_of_le t_fR z9)
  have l_h0s_f11 : q9 < v_18 := hv_18.elim (fun e9 => e9 ▸ l_h0s_f11) (fun z9 => Nat.lt_of_lt_of_le t_h0s z9)
  have l_h1s_f11 : q9 < v_18 := hv_18.elim (fun e9 => e9 ▸ l_h1s_f11) (fun z9 => Nat.lt_of_lt_of_le t_h1s z9)
  have l_h2s_f11 : b0_ < v_18 := hv_18.elim (fun e9 => e9 ▸ l_h2s_f11) (fun z9 => Nat.lt_of_lt_of_le t_h2s z9)
  have l_f3_f11 : r_2 < v_18 := hv_18.elim (fun e9 => e9 ▸ l_f3_f11) (fun z9 => Nat.lt_of_lt_of_le t_f3 z9)
  have l_f9_f11 : qf9 < v_18 := hv_18.elim (fun e9 => e9 ▸ l_f9_f11) (fun z9 => Nat.lt_of_lt_of_le t_f9 z9)
  have hv_18 := hv_18.imp_right (fun z9 => Nat.le_trans hZ0_ z9)
  refine lv_lload_n (pc := 58) hx hb dX5_told_58 rfl (lv_at hl 0 rfl) ?_
  have hZ0_ := hS.1
  have t_f0 := f0.lt
  have t_fR := fR.lt
  have t_h0s := h0s.lt
  have t_h1s := h1s.lt
  have t_h2s := h2s.lt
  have t_f3 := f3.lt
  have t_f9 := f9.lt
  have t_f11 := f11.lt
  refine k_r (pc := 59) (k_V E hC hS hA hl.1 (c1.recv hC f9 rfl) rfl (c_J4_append_f7089 l D tk N0 sa H.size qf9 v_18 (sbC (sbC 16 (0 + l9)) ((0 + l9) + 1)) ((0 + l9) + 1) 0 r_8 (hA _ g_f9) (hA _ g_f11) (sbC_ge _ _).1 hcB) kw_1354 kw_1355 kw_1356 kw_19 kw_1357 (n := 1) (by decide +kernel) rfl ⟨⟨rfl, rfl⟩, ⟨Nat.le_of_ble_eq_true rfl, Nat.le_of_ble_eq_true rfl⟩, (pre1 hTc1), (pre1 hTs1)⟩ rfl (Nat.le_of_ble_eq_true rfl) ⟨f9, f11⟩ dX5_told_59) hS (inA2.to g_f9 g_f11) hn (fun r_19 H locs hR hz hk hS => ?_)
  have f0 := f0.kept (hk _ f0.lt (inA2.not (clA.ne f0.cl f9.cl (hC.oo 7 1 rfl rfl (by decide))) (clA.ne f0.cl f11.cl (hC.oa 7 1 rfl rfl)) f0.lt))
  have fR := fR.kept (hk _ fR.lt (inA2.not (clA.ne fR.cla f9.cl (hC.ao 1 4 rfl rfl)) (clA.ne fR.cla f11.cl (hC.aa 4 1 rfl rfl (by dsimp only; decide))) fR.lt))
  have el := el.keep2 hk (fun q9 h9 => clA.ne h9 f9.cl (hC.ceo (Or.inl rfl) 1 rfl (by decide))) (fun q9 h9 => clA.ne h9 f11.cl (hC.cea (Or.inl rfl) 1 rfl))
  have h0s := h0s.kept (hk _ h0s.lt (inA2.not (clA.ne h0s.cl f9.cl (hC.oo 0 1 rfl rfl (by decide))) (clA.ne h0s.cl f11.cl (hC.oa 0 1 rfl rfl)) h0s.lt))
  have h1s := h1s.kept (hk _ h1s.lt (inA2.not (clA.ne h1s.cl f9.cl (hC.oo 0 1 rfl rfl (by decide))) (clA.ne h1s.cl f11.cl (hC.oa 0 1 rfl rfl)) h1s.lt))
  have h2s := h2s.kept (hk _ h2s.lt (inA2.not (h2s.neo hC f9.cl (ci := 1) rfl) (Nat.ne_of_lt l_h2s_f11) h2s.lt))
  have f3 := f3.kept (hk _ f3.lt (inA2.not (clA.ne f3.cl f9.cl (hC.oo 6 1 rfl rfl (by decide))) (clA.ne f3.cl f11.cl (hC.oa 6 1 rfl rfl)) f3.lt))
  obtain ⟨er9, hR⟩ := hR
  rw [er9]
  obtain ⟨v_20, hv_20, f9, f11⟩ := hR
  have g_f11 := hv_20.elim (fun e9 => e9 ▸ g_f11) (fun z9 => hn _ (Nat.le_trans hZ0_ z9))
  have l_f0_f11 : a < v_20 := hv_20.elim (fun e9 => e9 ▸ l_f0_f11) (fun z9 => Nat.lt_of_lt_of_le t_f0 z9)
  have l_fR_f11 : b < v_20 := hv_20.elim (fun e9 => e9 ▸ l_fR_f11) (fun z9 => Nat.lt_of_lt_of_le t_fR z9)
  have l_h0s_f11 : q9 < v_20 := hv_20.elim (fun e9 => e9 ▸ l_h0s_f11) (fun z9 => Nat.lt_of_lt_of_le t_h0s z9)
  have l_h1s_f11 : q9 < v_20 := hv_20.elim (fun e9 => e9 ▸ l_h1s_f11) (fun z9 => Nat.lt_of_lt_of_le t_h1s z9)
  have l_h2s_f11 : b0_ < v_20 := hv_20.elim (fun e9 => e9 ▸ l_h2s_f11) (fun z9 => Nat.lt_of_lt_of_le t_h2s z9)
  have l_f3_f11 : r_2 < v_20 := hv_20.elim (fun e9 => e9 ▸ l_f3_f11) (fun z9 => Nat.lt_of_lt_of_le t_f3 z9)
  have l_f9_f11 : qf9 < v_20 := hv_20.elim (fun e9 => e9 ▸ l_f9_f11) (fun z9 => Nat.lt_of_lt_of_le t_f9 z9)
  have hv_20 := hv_20.imp_right (fun z9 => Nat.le_trans hZ0_ z9)
  have hv_20 := hv_20.elim (fun e9 => e9 ▸ hv_18) Or.inr
  have hZ0_ := hS.1
  have t_f0 := f0.lt
  have t_fR := fR.lt
  have t_h0s := h0s.lt
  have t_h1s := h1s.lt
  have t_h2s := h2s.lt
  have t_f3 := f3.lt
  have t_f9 := f9.lt
  have t_f11 := f11.lt
  refine k_r (pc := 62) (k_V E hC hS hA hl.1 (c1.recv hC f9 rfl) rfl (c_J4_toString_0e30d l D tk N0 sa H.size qf9 v_20 (sbC (sbC (sbC 16 (0 + l9)) ((0 + l9) + 1)) (((0 + l9) + 1) + dgJ r_8)) (((0 + l9) + 1) + dgJ r_8) 0 (sbC_ge _ _).1 hcC) kw_1381 kw_316 kw_317 kw_19 kw_318 (n := 0) (by decide +kernel) rfl ⟨⟨rfl, rfl⟩, ⟨Nat.le_of_ble_eq_true rfl, Nat.le_of_ble_eq_true rfl⟩, hTc1, hTs1⟩ rfl (Nat.le_of_ble_eq_true rfl) ⟨f9, f11⟩ dX5_told_62) hS (fun q z w => absurd w (Nat.not_le.mpr z)) hn (fun r_21 H locs hR hz hk hS => ?_)
  have f0 := f0.kept (hk _ f0.lt (Nat.not_le.mpr f0.lt))
  have fR := fR.kept (hk _ fR.lt (Nat.not_le.mpr fR.lt))
  have el := el.new hk
  have h0s := h0s.kept (hk _ h0s.lt (Nat.not_le.mpr h0s.lt))
  have h1s := h1s.kept (hk _ h1s.lt (Nat.not_le.mpr h1s.lt))
  have h2s := h2s.kept (hk _ h2s.lt (Nat.not_le.mpr h2s.lt))
  have f3 := f3.kept (hk _ f3.lt (Nat.not_le.mpr f3.lt))
  have f9 := f9.kept (hk _ f9.lt (Nat.not_le.mpr f9.lt))
  have f11 := f11.kept (hk _ f11.lt (Nat.not_le.mpr f11.lt))
  obtain ⟨q_f22, z9_, y9_, f22⟩ := hR
  have f22 := SM.sx f22
  have zr_f22 : s.heap.size ≤ r_21 := Nat.le_trans hZ0_ z9_
  refine lv_astore_n (pc := 65) (lv' := [(1, .ref r_21), (3, .long r_8), (0, .ref a), (2, .ref r_2)]) hx hb dX5_told_65 rfl hl (by decide) rfl (fun ls hl => ?_)
  refine lv_goto (pc := 66) (tgt := 8) hx hb dX5_told_66 (by decide) ?_
  refine W.widen (k := 1 + 7 * (k + 1)) (n := 4 + m_tS (k + 1)) hWc1 hWs1 ?_
  exact ih_8  (k + 1) _ _  r_21 (by omega) (by omega) (by omega) _ _ _ hS f0 fR el f22 f3 (lv_sub hl [2, 0, 3] rfl)
set_option maxHeartbeats 20000000 in
set_option maxRecDepth 100000 in
theorem g3_X5_told {p : Program} {l : Launch} {e : Env} {s : State} {m : MethodId} {args : Array Value} {below : List Frame} {meth : Method} {c : Code} {Q : State → Prop} {D : va_G} {tk : Nat → ClassId} {N0 : Nat} {sa : Nat → Nat} (E : CallFix p m c cX5_told 5 s args (wsy yX5_told cX5_told 5 (some (.object "java/lang/String"))) RX5) (hC : Ctx D tk N0 sa s) (hA : ∀ q, (nwA s.heap.size) q → N0 ≤ q) (hn : ∀ q, s.heap.size ≤ q → (nwA s.heap.size) q) (hr : meth.sig.returnType = (some (.object "java/lang/String"))) (hlk : meth.locks = false) (a : Nat) (b : Nat) (ln : Nat) (cap : Nat) (md : Int32) (f : Nat → Option Nat) (vs : Nat → Value) (hnc : ln ≤ cap) (hcap : cap ≤ 1000) (hl9 : ln ≤ 43) (hPV : PV ln vs) (r_2 : Nat) (v_13 : Nat) (qf9 : Nat) (r_8 : Int64) (n : Nat) (k : Nat) (l9 : Nat) (lr : Int32) (q9 : Nat) (hf9 : 44 - k < n + 1) (hk9 : k ≤ ln) (hl8 : l9 ≤ 12 * k) (ih_8 : ∀ (k : Nat) (l9 : Nat) (lr : Int32)(q9 : Nat), 44 - k < n → k ≤ ln → l9 ≤ 12 * k → ∀ (H : Heap) (locs : List Loc) (ls : Array Slot), va_S (nwA s.heap.size) s.heap H locs → c1 D a (.inr (7, [.int md, .ref b, .int (nI ln)])) H → c1 D b (.inl (tk 4, cap, .inr (.inr (.inr (.inr f))))) H → EL D 3 ln f vs H → SX D tk q9 l9 H → c1 D r_2 (.inr (6, [.int (nI k), .int lr, .int md, .ref a])) H → lv_has ls 5 [(0, .ref a), (1, .ref q9), (2, .ref r_2)] → W p l e ({ frames := 6, cells := 302, slots := 56764, locals := 137 } : Room) s m args below meth c H locs (1 + 7 * k) (4 + m_tS k) Q (F0 m 8 ls [])) (b0_ : Nat) (hkn : k < ln) (hd11 : dgJ r_8 ≤ 11) (hl4 : l9 ≤ 400000) (hcA : sbC 16 (0 + l9) ≤ 500000) (hcB : sbC (sbC 16 (0 + l9)) (0 + l9 + 0) ≤ 500000) (hcC : sbC (sbC (sbC 16 (0 + l9)) (0 + l9 + 0)) (0 + l9 + 0 + dgJ r_8) ≤ 100000000) (hTc1 : 1 + 7 * k + 0 + 0 + 0 + 1 + 1 + (sbK 16 (0 + l9)) + 0 + (sbK (sbC 16 (0 + l9)) ((0 + l9) + 1)) + (sbK (sbC (sbC 16 (0 + l9)) ((0 + l9) + 1)) (((0 + l9) + 1) + dgJ r_8)) + 2 ≤ 302) (hTs1 : 4 + m_tS k + 0 + 0 + 0 + 4 + 16 + (sbS 16 (0 + l9)) + 0 + (sbS (sbC 16 (0 + l9)) ((0 + l9) + 1)) + (sbS (sbC (sbC 16 (0 + l9)) ((0 + l9) + 1)) (((0 + l9) + 1) + dgJ r_8)) + (4 + (((0 + l9) + 1) + dgJ r_8)) ≤ 56764) (hWc1 : 1 + 7 * k + 0 + 0 + 0 + 1 + 1 + (sbK 16 (0 + l9)) + 0 + (sbK (sbC 16 (0 + l9)) ((0 + l9) + 1)) + (sbK (sbC (sbC 16 (0 + l9)) ((0 + l9) + 1)) (((0 + l9) + 1) + dgJ r_8)) + 2 ≤ 1 + 7 * (k + 1)) (hWs1 : 4 + m_tS k + 0 + 0 + 0 + 4 + 16 + (sbS 16 (0 + l9)) + 0 + (sbS (sbC 16 (0 + l9)) ((0 + l9) + 1)) + (sbS (sbC (sbC 16 (0 + l9)) ((0 + l9) + 1)) (((0 + l9) + 1) + dgJ r_8)) + (4 + (((0 + l9) + 1) + dgJ r_8)) ≤ 4 + m_tS (k + 1)) (hTc2 : 1 + 7 * k + 0 + 0 + 0 + 1 + 1 + (sbK 16 (0 + l9)) + 0 + (sbK (sbC 16 (0 + l9)) ((0 + l9) + 0)) + (sbK (sbC (sbC 16 (0 + l9)) ((0 + l9) + 0)) (((0 + l9) + 0) + dgJ r_8)) + 2 ≤ 302) (hTs2 : 4 + m_tS k + 0 + 0 + 0 + 4 + 16 + (sbS 16 (0 + l9)) + 0 + (sbS (sbC 16 (0 + l9)) ((0 + l9) + 0)) + (sbS (sbC (sbC 16 (0 + l9)) ((0 + l9) + 0)) (((0 + l9) + 0) + dgJ r_8)) + (4 + (((0 + l9) + 0) + dgJ r_8)) ≤ 56764) (hWc2 : 1 + 7 * k + 0 + 0 + 0 + 1 + 1 + (sbK 16 (0 + l9)) + 0 + (sbK (sbC 16 (0 + l9)) ((0 + l9) + 0)) + (sbK (sbC (sbC 16 (0 + l9)) ((0 + l9) + 0)) (((0 + l9) + 0) + dgJ r_8)) + 2 ≤ 1 + 7 * (k + 1)) (hWs2 : 4 + m_tS k + 0 + 0 + 0 + 4 + 16 + (sbS 16 (0 + l9)) + 0 + (sbS (sbC 16 (0 + l9)) ((0 + l9) + 0)) + (sbS (sbC (sbC 16 (0 + l9)) ((0 + l9) + 0)) (((0 + l9) + 0) + dgJ r_8)) + (4 + (((0 + l9) + 0) + dgJ r_8)) ≤ 4 + m_tS (k + 1)) (H : Heap) (locs : List Loc) (ls : Array Slot) (hS : va_S (nwA s.heap.size) s.heap H locs) (f0 : c1 D a (.inr (7, [.int md, .ref b, .int (nI ln)])) H) (fR : c1 D b (.inl (tk 4, cap, .inr (.inr (.inr (.inr (f)))))) H) (el : EL D 3 ln f vs H) (h0s : xf D 0 q9 0 (.ref b0_) H) (h1s : xf D 0 q9 1 (.int 0) H) (h2s : BX tk b0_ l9 H) (f3 : c1 D r_2 (.inr (6, [.int (nI (k + 1)), .int (nI k), .int md, .ref a])) H) (f9 : c1 D qf9 (.inr (1, [.ref v_13, .int 0, .int 0, .int (nI (0 + l9))])) H) (f11 : BA D tk v_13 (sbC 16 (0 + l9)) H) (k23 : SX D tk (sa (10 + 6)) 0 H) (s_f9 : s.heap.size ≤ qf9) (g_f9 : (nwA s.heap.size) qf9) (g_f11 : (nwA s.heap.size) v_13) (l_f0_f11 : a < v_13) (l_f0_f9 : a < qf9) (l_f3_f11 : r_2 < v_13) (l_f3_f9 : r_2 < qf9) (l_f9_f11 : qf9 < v_13) (l_fR_f11 : b < v_13) (l_fR_f9 : b < qf9) (l_h0s_f11 : q9 < v_13) (l_h0s_f9 : q9 < qf9) (l_h1s_f11 : q9 < v_13) (l_h1s_f9 : q9 < qf9) (l_h2s_f11 : b0_ < v_13) (l_h2s_f9 : b0_ < qf9) (hl : lv_has ls 5 [(3, .long r_8), (0, .ref a), (1, .ref q9), (2, .ref r_2)]) : W p l e ({ frames := 6, cells := 302, slots := 56764, locals := 137 } : Room) s m args below meth c H locs (1 + 7 * k + 0 + 0 + 0 + 1 + 1 + (sbK 16 (0 + l9)) + 0) (4 + m_tS k + 0 + 0 + 0 + 4 + 16 + (sbS 16 (0 + l9)) + 0) Q (F0 m 55 ls [.ref (sa (10 + 6)), .ref qf9]) := by
  obtain ⟨hx, hb, -⟩ := id E
  have hZ0_ := hS.1
  have t_f0 := f0.lt
  have t_fR := fR.lt
  have t_h0s := h0s.lt
  have t_h1s := h1s.lt
  have t_h2s := h2s.lt
  have t_f3 := f3.lt
  have t_f9 := f9.lt
  have t_f11 := f11.lt
  have t_k23 := k23.lt
  refine k_r (pc := 55) (k_V E hC hS hA hl.1 (c1.recv hC f9 rfl) rfl (c_J4_append_15ec4 l D tk N0 sa H.size qf9 v_13 (sbC 16 (0 + l9)) (0 + l9) (sa (10 + 6)) 0 0 (hA _ g_f9) (hA _ g_f11) (sbC_ge _ _).1 hcA (by decide)) kw_1353 kw_399 kw_400 kw_19 kw_401 (n := 1) (by decide +kernel) rfl ⟨⟨rfl, rfl⟩, ⟨Nat.le_of_ble_eq_true rfl, Nat.le_of_ble_eq_true rfl⟩, (pre1 (pre1 hTc2)), (pre1 (pre1 hTs2))⟩ rfl (Nat.le_of_ble_eq_true rfl) ⟨f9, f11, k23⟩ dX5_told_55) hS (inA2.to g_f9 g_f11) hn (fun r_24 H locs hR hz hk hS => ?_)
  have f0 := f0.kept (hk _ f0.lt (inA2.not (clA.ne f0.cl f9.cl (hC.oo 7 1 rfl rfl (by decide))) (clA.ne f0.cl f11.cl (hC.oa 7 1 rfl rfl)) f0.lt))
  have fR := fR.kept (hk _ fR.lt (inA2.not (clA.ne fR.cla f9.cl (hC.ao 1 4 rfl rfl)) (clA.ne fR.cla f11.cl (hC.aa 4 1 rfl rfl (by dsimp only; decide))) fR.lt))
  have el := el.keep2 hk (fun q9 h9 => clA.ne h9 f9.cl (hC.ceo (Or.inl rfl) 1 rfl (by decide))) (fun q9 h9 => clA.ne h9 f11.cl (hC.cea (Or.inl rfl) 1 rfl))
  have h0s := h0s.kept (hk _ h0s.lt (inA2.not (clA.ne h0s.cl f9.cl (hC.oo 0 1 rfl rfl (by decide))) (clA.ne h0s.cl f11.cl (hC.oa 0 1 rfl rfl)) h0s.lt))
  have h1s := h1s.kept (hk _ h1s.lt (inA2.not (clA.ne h1s.cl f9.cl (hC.oo 0 1 rfl rfl (by decide))) (clA.ne h1s.cl f11.cl (hC.oa 0 1 rfl rfl)) h1s.lt))
  have h2s := h2s.kept (hk _ h2s.lt (inA2.not (h2s.neo hC f9.cl (ci := 1) rfl) (Nat.ne_of_lt l_h2s_f11) h2s.lt))
  have f3 := f3.kept (hk _ f3.lt (inA2.not (clA.ne f3.cl f9.cl (hC.oo 6 1 rfl rfl (by decide))) (clA.ne f3.cl f11.cl (hC.oa 6 1 rfl rfl)) f3.lt))
  obtain ⟨er9, hR⟩ := hR
  rw [er9]
  obtain ⟨v_25, hv_25, f9, f11⟩ := hR
  have g_f11 := hv_25.elim (fun e9 => e9 ▸ g_f11) (fun z9 => hn _ (Nat.le_trans hZ0_ z9))
  have l_f0_f11 : a < v_25 := hv_25.elim (fun e9 => e9 ▸ l_f0_f11) (fun z9 => Nat.lt_of_lt_of_le t_f0 z9)
  have l_fR_f11 : b < v_25 := hv_25.elim (fun e9 => e9 ▸ l_fR_f11) (fun z9 => Nat.lt_of_lt_of_le t_fR z9)
  have l_h0s_f11 : q9 < v_25 := hv_25.elim (fun e9 => e9 ▸ l_h0s_f11) (fun z9 => Nat.lt_of_lt_of_le t_h0s z9)
  have l_h1s_f11 : q9 < v_25 := hv_25.elim (fun e9 => e9 ▸ l_h1s_f11) (fun z9 => Nat.lt_of_lt_of_le t_h1s z9)
  have l_h2s_f11 : b0_ < v_25 := hv_25.elim (fun e9 => e9 ▸ l_h2s_f11) (fun z9 => Nat.lt_of_lt_of_le t_h2s z9)
  have l_f3_f11 : r_2 < v_25 := hv_25.elim (fun e9 => e9 ▸ l_f3_f11) (fun z9 => Nat.lt_of_lt_of_le t_f3 z9)
  have l_f9_f11 : qf9 < v_25 := hv_25.elim (fun e9 => e9 ▸ l_f9_f11) (fun z9 => Nat.lt_of_lt_of_le t_f9 z9)
  have hv_25 := hv_25.imp_right (fun z9 => Nat.le_trans hZ0_ z9)
  refine lv_lload_n (pc := 58) hx hb dX5_told_58 rfl (lv_at hl 0 rfl) ?_
  have hZ0_ := hS.1
  have t_f0 := f0.lt
  have t_fR := fR.lt
  have t_h0s := h0s.lt
  have t_h1s := h1s.lt
  have t_h2s := h2s.lt
  have t_f3 := f3.lt
  have t_f9 := f9.lt
  have t_f11 := f11.lt
  refine k_r (pc := 59) (k_V E hC hS hA hl.1 (c1.recv hC f9 rfl) rfl (c_J4_append_f7089 l D tk N0 sa H.size qf9 v_25 (sbC (sbC 16 (0 + l9)) ((0 + l9) + 0)) ((0 + l9) + 0) 0 r_8 (hA _ g_f9) (hA _ g_f11) (sbC_ge _ _).1 hcB) kw_1354 kw_1355 kw_1356 kw_19 kw_1357 (n := 1) (by decide +kernel) rfl ⟨⟨rfl, rfl⟩, ⟨Nat.le_of_ble_eq_true rfl, Nat.le_of_ble_eq_true rfl⟩, (pre1 hTc2), (pre1 hTs2)⟩ rfl (Nat.le_of_ble_eq_true rfl) ⟨f9, f11⟩ dX5_told_59) hS (inA2.to g_f9 g_f11) hn (fun r_26 H locs hR hz hk hS => ?_)
  have f0 := f0.kept (hk _ f0.lt (inA2.not (clA.ne f0.cl f9.cl (hC.oo 7 1 rfl rfl (by decide))) (clA.ne f0.cl f11.cl (hC.oa 7 1 rfl rfl)) f0.lt))
  have fR := fR.kept (hk _ fR.lt (inA2.not (clA.ne fR.cla f9.cl (hC.ao 1 4 rfl rfl)) (clA.ne fR.cla f11.cl (hC.aa 4 1 rfl rfl (by dsimp only; decide))) fR.lt))
  have el := el.keep2 hk (fun q9 h9 => clA.ne h9 f9.cl (hC.ceo (Or.inl rfl) 1 rfl (by decide))) (fun q9 h9 => clA.ne h9 f11.cl (hC.cea (Or.inl rfl) 1 rfl))
  have h0s := h0s.kept (hk _ h0s.lt (inA2.not (clA.ne h0s.cl f9.cl (hC.oo 0 1 rfl rfl (by decide))) (clA.ne h0s.cl f11.cl (hC.oa 0 1 rfl rfl)) h0s.lt))
  have h1s := h1s.kept (hk _ h1s.lt (inA2.not (clA.ne h1s.cl f9.cl (hC.oo 0 1 rfl rfl (by decide))) (clA.ne h1s.cl f11.cl (hC.oa 0 1 rfl rfl)) h1s.lt))
  have h2s := h2s.kept (hk _ h2s.lt (inA2.not (h2s.neo hC f9.cl (ci := 1) rfl) (Nat.ne_of_lt l_h2s_f11) h2s.lt))
  have f3 := f3.kept (hk _ f3.lt (inA2.not (clA.ne f3.cl f9.cl (hC.oo 6 1 rfl rfl (by decide))) (clA.ne f3.cl f11.cl (hC.oa 6 1 rfl rfl)) f3.lt))
  obtain ⟨er9, hR⟩ := hR
  rw [er9]
  obtain ⟨v_27, hv_27, f9, f11⟩ := hR
  have g_f11 := hv_27.elim (fun e9 => e9 ▸ g_f11) (fun z9 => hn _ (Nat.le_trans hZ0_ z9))
  have l_f0_f11 : a < v_27 := hv_27.elim (fun e9 => e9 ▸ l_f0_f11) (fun z9 => Nat.lt_of_lt_of_le t_f0 z9)
  have l_fR_f11 : b < v_27 := hv_27.elim (fun e9 => e9 ▸ l_fR_f11) (fun z9 => Nat.lt_of_lt_of_le t_fR z9)
  have l_h0s_f11 : q9 < v_27 := hv_27.elim (fun e9 => e9 ▸ l_h0s_f11) (fun z9 => Nat.lt_of_lt_of_le t_h0s z9)
  have l_h1s_f11 : q9 < v_27 := hv_27.elim (fun e9 => e9 ▸ l_h1s_f11) (fun z9 => Nat.lt_of_lt_of_le t_h1s z9)
  have l_h2s_f11 : b0_ < v_27 := hv_27.elim (fun e9 => e9 ▸ l_h2s_f11) (fun z9 => Nat.lt_of_lt_of_le t_h2s z9)
  have l_f3_f11 : r_2 < v_27 := hv_27.elim (fun e9 => e9 ▸ l_f3_f11) (fun z9 => Nat.lt_of_lt_of_le t_f3 z9)
  have l_f9_f11 : qf9 < v_27 := hv_27.elim (fun e9 => e9 ▸ l_f9_f11) (fun z9 => Nat.lt_of_lt_of_le t_f9 z9)
  have hv_27 := hv_27.imp_right (fun z9 => Nat.le_trans hZ0_ z9)
  have hv_27 := hv_27.elim (fun e9 => e9 ▸ hv_25) Or.inr
  have hZ0_ := hS.1
  have t_f0 := f0.lt
  have t_fR := fR.lt
  have t_h0s := h0s.lt
  have t_h1s := h1s.lt
  have t_h2s := h2s.lt
  have t_f3 := f3.lt
  have t_f9 := f9.lt
  have t_f11 := f11.lt
  refine k_r (pc := 62) (k_V E hC hS hA hl.1 (c1.recv hC f9 rfl) rfl (c_J4_toString_0e30d l D tk N0 sa H.size qf9 v_27 (sbC (sbC (sbC 16 (0 + l9)) ((0 + l9) + 0)) (((0 + l9) + 0) + dgJ r_8)) (((0 + l9) + 0) + dgJ r_8) 0 (sbC_ge _ _).1 hcC) kw_1381 kw_316 kw_317 kw_19 kw_318 (n := 0) (by decide +kernel) rfl ⟨⟨rfl, rfl⟩, ⟨Nat.le_of_ble_eq_true rfl, Nat.le_of_ble_eq_true rfl⟩, hTc2, hTs2⟩ rfl (Nat.le_of_ble_eq_true rfl) ⟨f9, f11⟩ dX5_told_62) hS (fun q z w => absurd w (Nat.not_le.mpr z)) hn (fun r_28 H locs hR hz hk hS => ?_)
  have f0 := f0.kept (hk _ f0.lt (Nat.not_le.mpr f0.lt))
  have fR := fR.kept (hk _ fR.lt (Nat.not_le.mpr fR.lt))
  have el := el.new hk
  have h0s := h0s.kept (hk _ h0s.lt (Nat.not_le.mpr h0s.lt))
  have h1s := h1s.kept (hk _ h1s.lt (Nat.not_le.mpr h1s.lt))
  have h2s := h2s.kept (hk _ h2s.lt (Nat.not_le.mpr h2s.lt))
  have f3 := f3.kept (hk _ f3.lt (Nat.not_le.mpr f3.lt))
  have f9 := f9.kept (hk _ f9.lt (Nat.not_le.mpr f9.lt))
  have f11 := f11.kept (hk _ f11.lt (Nat.not_le.mpr f11.lt))
  obtain ⟨q_f29, z9_, y9_, f29⟩ := hR
  have f29 := SM.sx f29
  have zr_f29 : s.heap.size ≤ r_28 := Nat.le_trans hZ0_ z9_
  refine lv_astore_n (pc := 65) (lv' := [(1, .ref r_28), (3, .long r_8), (0, .ref a), (2, .ref r_2)]) hx hb dX5_told_65 rfl hl (by decide) rfl (fun ls hl => ?_)
  refine lv_goto (pc := 66) (tgt := 8) hx hb dX5_told_66 (by decide) ?_
  refine W.widen (k := 1 + 7 * (k + 1)) (n := 4 + m_tS (k + 1)) hWc2 hWs2 ?_
  exact ih_8  (k + 1) _ _  r_28 (by omega) (by omega) (by omega) _ _ _ hS f0 fR el f29 f3 (lv_sub hl [2, 0, 3] rfl)
set_option maxHeartbeats 20000000 in
set_option maxRecDepth 100000 in
theorem g1_X5_told {p : Program} {l : Launch} {e : Env} {s : State} {m : MethodId} {args : Array Value} {below : List Frame} {meth : Method} {c : Code} {Q : State → Prop} {D : va_G} {tk : Nat → ClassId} {N0 : Nat} {sa : Nat → Nat} (E : CallFix p m c cX5_told 5 s args (wsy yX5_told cX5_told 5 (some (.object "java/lang/String"))) RX5) (hC : Ctx D tk N0 sa s) (hA : ∀ q, (nwA s.heap.size) q → N0 ≤ q) (hn : ∀ q, s.heap.size ≤ q → (nwA s.heap.size) q) (hr : meth.sig.returnType = (some (.object "java/lang/String"))) (hlk : meth.locks = false) (a : Nat) (b : Nat) (ln : Nat) (cap : Nat) (md : Int32) (f : Nat → Option Nat) (vs : Nat → Value) (hnc : ln ≤ cap) (hcap : cap ≤ 1000) (hl9 : ln ≤ 43) (hPV : PV ln vs) (r_2 : Nat) (r_8 : Int64) (n : Nat) (k : Nat) (l9 : Nat) (lr : Int32) (q9 : Nat) (hf9 : 44 - k < n + 1) (hk9 : k ≤ ln) (hl8 : l9 ≤ 12 * k) (ih_8 : ∀ (k : Nat) (l9 : Nat) (lr : Int32)(q9 : Nat), 44 - k < n → k ≤ ln → l9 ≤ 12 * k → ∀ (H : Heap) (locs : List Loc) (ls : Array Slot), va_S (nwA s.heap.size) s.heap H locs → c1 D a (.inr (7, [.int md, .ref b, .int (nI ln)])) H → c1 D b (.inl (tk 4, cap, .inr (.inr (.inr (.inr f))))) H → EL D 3 ln f vs H → SX D tk q9 l9 H → c1 D r_2 (.inr (6, [.int (nI k), .int lr, .int md, .ref a])) H → lv_has ls 5 [(0, .ref a), (1, .ref q9), (2, .ref r_2)] → W p l e ({ frames := 6, cells := 302, slots := 56764, locals := 137 } : Room) s m args below meth c H locs (1 + 7 * k) (4 + m_tS k) Q (F0 m 8 ls [])) (b0_ : Nat) (hkn : k < ln) (hd11 : dgJ r_8 ≤ 11) (H : Heap) (locs : List Loc) (ls : Array Slot) (hS : va_S (nwA s.heap.size) s.heap H locs) (f0 : c1 D a (.inr (7, [.int md, .ref b, .int (nI ln)])) H) (fR : c1 D b (.inl (tk 4, cap, .inr (.inr (.inr (.inr (f)))))) H) (el : EL D 3 ln f vs H) (h0s : xf D 0 q9 0 (.ref b0_) H) (h1s : xf D 0 q9 1 (.int 0) H) (h2s : BX tk b0_ l9 H) (f3 : c1 D r_2 (.inr (6, [.int (nI (k + 1)), .int (nI k), .int md, .ref a])) H) (hl : lv_has ls 5 [(3, .long r_8), (0, .ref a), (1, .ref q9), (2, .ref r_2)]) : W p l e ({ frames := 6, cells := 302, slots := 56764, locals := 137 } : Room) s m args below meth c H locs (1 + 7 * k + 0 + 0 + 0) (4 + m_tS k + 0 + 0 + 0) Q (F0 m 30 ls []) := by
  obtain ⟨hx, hb, -⟩ := id E
  have htb0 := m_tSB (k := k) (by omega)
  have hts : m_tS (k + 1) = m_tS k + (60 * k + 60) := rfl
  have htb := m_tSB (k := k + 1) (by omega)
  have hl2 : l9 ≤ 2000 := by omega
  have hl4 : l9 ≤ 400000 := by omega
  have hct0 := m_cat3 0 hl2 (d1 := dgJ r_8) (by omega)
  have hct1 := m_cat3 1 hl2 (d1 := dgJ r_8) (by omega)
  have hNc : 1 + 7 * (k + 1) ≤ 302 := by omega
  have hNs : 4 + m_tS (k + 1) ≤ 56764 := by omega
  have hWc1 : 1 + 7 * k + 0 + 0 + 0 + 1 + 1 + (sbK 16 (0 + l9)) + 0 + (sbK (sbC 16 (0 + l9)) ((0 + l9) + 1)) + (sbK (sbC (sbC 16 (0 + l9)) ((0 + l9) + 1)) (((0 + l9) + 1) + dgJ r_8)) + 2 ≤ 1 + 7 * (k + 1) := by have k0_ := tx_k1 16 (0 + l9); have k1_ := tx_k1 (sbC 16 (0 + l9)) ((0 + l9) + 1); have k2_ := tx_k1 (sbC (sbC 16 (0 + l9)) ((0 + l9) + 1)) (((0 + l9) + 1) + dgJ r_8); omega
  have hWs1 : 4 + m_tS k + 0 + 0 + 0 + 4 + 16 + (sbS 16 (0 + l9)) + 0 + (sbS (sbC 16 (0 + l9)) ((0 + l9) + 1)) + (sbS (sbC (sbC 16 (0 + l9)) ((0 + l9) + 1)) (((0 + l9) + 1) + dgJ r_8)) + (4 + (((0 + l9) + 1) + dgJ r_8)) ≤ 4 + m_tS (k + 1) := by have h9 := hct1.1; have h8 := hct1.2.1; have h7 := hct1.2.2.1; omega
  have hTc1 : 1 + 7 * k + 0 + 0 + 0 + 1 + 1 + (sbK 16 (0 + l9)) + 0 + (sbK (sbC 16 (0 + l9)) ((0 + l9) + 1)) + (sbK (sbC (sbC 16 (0 + l9)) ((0 + l9) + 1)) (((0 + l9) + 1) + dgJ r_8)) + 2 ≤ 302 := Nat.le_trans hWc1 hNc
  have hTs1 : 4 + m_tS k + 0 + 0 + 0 + 4 + 16 + (sbS 16 (0 + l9)) + 0 + (sbS (sbC 16 (0 + l9)) ((0 + l9) + 1)) + (sbS (sbC (sbC 16 (0 + l9)) ((0 + l9) + 1)) (((0 + l9) + 1) + dgJ r_8)) + (4 + (((0 + l9) + 1) + dgJ r_8)) ≤ 56764 := Nat.le_trans hWs1 hNs
  have hWc2 : 1 + 7 * k + 0 + 0 + 0 + 1 + 1 + (sbK 16 (0 + l9)) + 0 + (sbK (sbC 16 (0 + l9)) ((0 + l9) + 0)) + (sbK (sbC (sbC 16 (0 + l9)) ((0 + l9) + 0)) (((0 + l9) + 0) + dgJ r_8)) + 2 ≤ 1 + 7 * (k + 1) := by have k0_ := tx_k1 16 (0 + l9); have k1_ := tx_k1 (sbC 16 (0 + l9)) ((0 + l9) + 0); have k2_ := tx_k1 (sbC (sbC 16 (0 + l9)) ((0 + l9) + 0)) (((0 + l9) + 0) + dgJ r_8); omega
  have hWs2 : 4 + m_tS k + 0 + 0 + 0 + 4 + 16 + (sbS 16 (0 + l9)) + 0 + (sbS (sbC 16 (0 + l9)) ((0 + l9) + 0)) + (sbS (sbC (sbC 16 (0 + l9)) ((0 + l9) + 0)) (((0 + l9) + 0) + dgJ r_8)) + (4 + (((0 + l9) + 0) + dgJ r_8)) ≤ 4 + m_tS (k + 1) := by have h9 := hct0.1; have h8 := hct0.2.1; have h7 := hct0.2.2.1; omega
  have hTc2 : 1 + 7 * k + 0 + 0 + 0 + 1 + 1 + (sbK 16 (0 + l9)) + 0 + (sbK (sbC 16 (0 + l9)) ((0 + l9) + 0)) + (sbK (sbC (sbC 16 (0 + l9)) ((0 + l9) + 0)) (((0 + l9) + 0) + dgJ r_8)) + 2 ≤ 302 := Nat.le_trans hWc2 hNc
  have hTs2 : 4 + m_tS k + 0 + 0 + 0 + 4 + 16 + (sbS 16 (0 + l9)) + 0 + (sbS (sbC 16 (0 + l9)) ((0 + l9) + 0)) + (sbS (sbC (sbC 16 (0 + l9)) ((0 + l9) + 0)) (((0 + l9) + 0) + dgJ r_8)) + (4 + (((0 + l9) + 0) + dgJ r_8)) ≤ 56764 := Nat.le_trans hWs2 hNs
  have hS0_ := hS
  refine r_new (pc := 30) E hC hS tyJ4_ok uJ4 (List.mem_cons_of_mem _ kw_1351) (List.mem_cons_of_mem _ kw_150) (List.mem_cons_of_mem _ kw_19) (ci := 1) rfl (fs := [.null, .int 0, .int 0, .int 0]) (by decide) (pre1 (pre1 (pre1 (pre1 (pre1 (pre1 hTc1)))))) (pre1 (pre1 (pre1 (pre1 (pre1 (pre1 hTs1)))))) dX5_told_30 (fun qf9 H zq_ n_ ho_ hS => ?_)
  have l_f0_f9 : a < qf9 := zq_ ▸ f0.lt
  have f0 := f0.kept (ho_ _ f0.lt)
  have l_fR_f9 : b < qf9 := zq_ ▸ fR.lt
  have fR := fR.kept (ho_ _ fR.lt)
  have el := el.old ho_
  have l_h0s_f9 : q9 < qf9 := zq_ ▸ h0s.lt
  have h0s := h0s.kept (ho_ _ h0s.lt)
  have l_h1s_f9 : q9 < qf9 := zq_ ▸ h1s.lt
  have h1s := h1s.kept (ho_ _ h1s.lt)
  have l_h2s_f9 : b0_ < qf9 := zq_ ▸ h2s.lt
  have h2s := h2s.kept (ho_ _ h2s.lt)
  have l_f3_f9 : r_2 < qf9 := zq_ ▸ f3.lt
  have f3 := f3.kept (ho_ _ f3.lt)
  have f9 := n_
  have s_f9 : s.heap.size ≤ qf9 := zq_ ▸ hS0_.1
  have g_f9 := hn _ s_f9
  refine lv_dup (pc := 33) hx hb dX5_told_33 rfl ?_
  have hZ0_ := hS.1
  have t_f0 := f0.lt
  have t_fR := fR.lt
  have t_h0s := h0s.lt
  have t_h1s := h1s.lt
  have t_h2s := h2s.lt
  have t_f3 := f3.lt
  have t_f9 := f9.lt
  refine k_v (pc := 34) (k_I E hC hS hA hl.1 (c_J4_init_da8c8 l D tk N0 sa H.size qf9 (hA _ g_f9)) kw_1352 kw_152 kw_19 kw_153 rfl (n := 0) (by decide +kernel) rfl ⟨⟨rfl, rfl⟩, ⟨Nat.le_of_ble_eq_true rfl, Nat.le_of_ble_eq_true rfl⟩, (pre1 (pre1 (pre1 (pre1 (pre1 hTc1))))), (pre1 (pre1 (pre1 (pre1 (pre1 hTs1)))))⟩ rfl (Nat.le_of_ble_eq_true rfl) f9 dX5_told_34) hS (inA1.to g_f9) hn (fun H locs hR hz hk hS => ?_)
  have f0 := f0.kept (hk _ f0.lt (inA1.not (clA.ne f0.cl f9.cl (hC.oo 7 1 rfl rfl (by decide))) f0.lt))
  have fR := fR.kept (hk _ fR.lt (inA1.not (clA.ne fR.cla f9.cl (hC.ao 1 4 rfl rfl)) fR.lt))
  have el := el.keep1 hk (fun q9 h9 => clA.ne h9 f9.cl (hC.ceo (Or.inl rfl) 1 rfl (by decide)))
  have h0s := h0s.kept (hk _ h0s.lt (inA1.not (clA.ne h0s.cl f9.cl (hC.oo 0 1 rfl rfl (by decide))) h0s.lt))
  have h1s := h1s.kept (hk _ h1s.lt (inA1.not (clA.ne h1s.cl f9.cl (hC.oo 0 1 rfl rfl (by decide))) h1s.lt))
  have h2s := h2s.kept (hk _ h2s.lt (inA1.not (h2s.neo hC f9.cl (ci := 1) rfl) h2s.lt))
  have f3 := f3.kept (hk _ f3.lt (inA1.not (clA.ne f3.cl f9.cl (hC.oo 6 1 rfl rfl (by decide))) f3.lt))
  obtain ⟨q_f11, z9_, f9, f11⟩ := hR
  have s_f11 : s.heap.size ≤ q_f11 := Nat.le_trans hZ0_ z9_
  have g_f11 := hn _ s_f11
  have l_f0_f11 : a < q_f11 := Nat.lt_of_lt_of_le t_f0 z9_
  have l_fR_f11 : b < q_f11 := Nat.lt_of_lt_of_le t_fR z9_
  have l_h0s_f11 : q9 < q_f11 := Nat.lt_of_lt_of_le t_h0s z9_
  have l_h1s_f11 : q9 < q_f11 := Nat.lt_of_lt_of_le t_h1s z9_
  have l_h2s_f11 : b0_ < q_f11 := Nat.lt_of_lt_of_le t_h2s z9_
  have l_f3_f11 : r_2 < q_f11 := Nat.lt_of_lt_of_le t_f3 z9_
  have l_f9_f11 : qf9 < q_f11 := Nat.lt_of_lt_of_le t_f9 z9_
  refine lv_aload_n (pc := 37) hx hb dX5_told_37 rfl (lv_at hl 2 rfl) ?_
  have hZ0_ := hS.1
  have t_f0 := f0.lt
  have t_fR := fR.lt
  have t_h0s := h0s.lt
  have t_h1s := h1s.lt
  have t_h2s := h2s.lt
  have t_f3 := f3.lt
  have t_f9 := f9.lt
  have t_f11 := f11.lt
  refine k_r (pc := 38) (k_V E hC hS hA hl.1 (c1.recv hC f9 rfl) rfl (c_J4_append_15ec4 l D tk N0 sa H.size qf9 q_f11 16 0 q9 l9 0 (hA _ g_f9) (hA _ g_f11) (Nat.zero_le _) (by decide) hl4) kw_1353 kw_399 kw_400 kw_19 kw_401 (n := 1) (by decide +kernel) rfl ⟨⟨rfl, rfl⟩, ⟨Nat.le_of_ble_eq_true rfl, Nat.le_of_ble_eq_true rfl⟩, (pre1 (pre1 (pre1 (pre1 hTc1)))), (pre1 (pre1 (pre1 (pre1 hTs1))))⟩ rfl (Nat.le_of_ble_eq_true rfl) ⟨f9, f11, ⟨_, h0s, h1s, h2s⟩⟩ dX5_told_38) hS (inA2.to g_f9 g_f11) hn (fun r_12 H locs hR hz hk hS => ?_)
  have f0 := f0.kept (hk _ f0.lt (inA2.not (clA.ne f0.cl f9.cl (hC.oo 7 1 rfl rfl (by decide))) (clA.ne f0.cl f11.cl (hC.oa 7 1 rfl rfl)) f0.lt))
  have fR := fR.kept (hk _ fR.lt (inA2.not (clA.ne fR.cla f9.cl (hC.ao 1 4 rfl rfl)) (clA.ne fR.cla f11.cl (hC.aa 4 1 rfl rfl (by dsimp only; decide))) fR.lt))
  have el := el.keep2 hk (fun q9 h9 => clA.ne h9 f9.cl (hC.ceo (Or.inl rfl) 1 rfl (by decide))) (fun q9 h9 => clA.ne h9 f11.cl (hC.cea (Or.inl rfl) 1 rfl))
  have h0s := h0s.kept (hk _ h0s.lt (inA2.not (clA.ne h0s.cl f9.cl (hC.oo 0 1 rfl rfl (by decide))) (clA.ne h0s.cl f11.cl (hC.oa 0 1 rfl rfl)) h0s.lt))
  have h1s := h1s.kept (hk _ h1s.lt (inA2.not (clA.ne h1s.cl f9.cl (hC.oo 0 1 rfl rfl (by decide))) (clA.ne h1s.cl f11.cl (hC.oa 0 1 rfl rfl)) h1s.lt))
  have h2s := h2s.kept (hk _ h2s.lt (inA2.not (h2s.neo hC f9.cl (ci := 1) rfl) (Nat.ne_of_lt l_h2s_f11) h2s.lt))
  have f3 := f3.kept (hk _ f3.lt (inA2.not (clA.ne f3.cl f9.cl (hC.oo 6 1 rfl rfl (by decide))) (clA.ne f3.cl f11.cl (hC.oa 6 1 rfl rfl)) f3.lt))
  obtain ⟨er9, hR⟩ := hR
  rw [er9]
  obtain ⟨v_13, hv_13, f9, f11⟩ := hR
  have g_f11 := hv_13.elim (fun e9 => e9 ▸ g_f11) (fun z9 => hn _ (Nat.le_trans hZ0_ z9))
  have l_f0_f11 : a < v_13 := hv_13.elim (fun e9 => e9 ▸ l_f0_f11) (fun z9 => Nat.lt_of_lt_of_le t_f0 z9)
  have l_fR_f11 : b < v_13 := hv_13.elim (fun e9 => e9 ▸ l_fR_f11) (fun z9 => Nat.lt_of_lt_of_le t_fR z9)
  have l_h0s_f11 : q9 < v_13 := hv_13.elim (fun e9 => e9 ▸ l_h0s_f11) (fun z9 => Nat.lt_of_lt_of_le t_h0s z9)
  have l_h1s_f11 : q9 < v_13 := hv_13.elim (fun e9 => e9 ▸ l_h1s_f11) (fun z9 => Nat.lt_of_lt_of_le t_h1s z9)
  have l_h2s_f11 : b0_ < v_13 := hv_13.elim (fun e9 => e9 ▸ l_h2s_f11) (fun z9 => Nat.lt_of_lt_of_le t_h2s z9)
  have l_f3_f11 : r_2 < v_13 := hv_13.elim (fun e9 => e9 ▸ l_f3_f11) (fun z9 => Nat.lt_of_lt_of_le t_f3 z9)
  have l_f9_f11 : qf9 < v_13 := hv_13.elim (fun e9 => e9 ▸ l_f9_f11) (fun z9 => Nat.lt_of_lt_of_le t_f9 z9)
  have hv_13 := hv_13.imp_right (fun z9 => Nat.le_trans hZ0_ z9)
  refine lv_aload_n (pc := 41) hx hb dX5_told_41 rfl (lv_at hl 2 rfl) ?_
  refine k_i (pc := 42) (k_V E hC hS hA hl.1 (xf.recv hC h0s rfl) rfl (c_J0_isEmpty_aae02 l D tk N0 sa H.size q9 l9 (by omega)) kw_1537 kw_1538 kw_1539 kw_20 kw_1540 (n := 0) (by decide +kernel) rfl ⟨⟨rfl, rfl⟩, ⟨Nat.le_of_ble_eq_true rfl, Nat.le_of_ble_eq_true rfl⟩, (pre1 (pre1 (pre1 hTc1))), (pre1 (pre1 (pre1 hTs1)))⟩ rfl (Nat.le_of_ble_eq_true rfl) ⟨_, h0s, h1s, h2s⟩ dX5_told_42) hS (fun q z w => absurd w (Nat.not_le.mpr z)) hn (fun r_14 H locs hR hz hk hS => ?_)
  have f0 := f0.kept (hk _ f0.lt (Nat.not_le.mpr f0.lt))
  have fR := fR.kept (hk _ fR.lt (Nat.not_le.mpr fR.lt))
  have el := el.new hk
  have h0s := h0s.kept (hk _ h0s.lt (Nat.not_le.mpr h0s.lt))
  have h1s := h1s.kept (hk _ h1s.lt (Nat.not_le.mpr h1s.lt))
  have h2s := h2s.kept (hk _ h2s.lt (Nat.not_le.mpr h2s.lt))
  have f3 := f3.kept (hk _ f3.lt (Nat.not_le.mpr f3.lt))
  have f9 := f9.kept (hk _ f9.lt (Nat.not_le.mpr f9.lt))
  have f11 := f11.kept (hk _ f11.lt (Nat.not_le.mpr f11.lt))
  have em_r_14 := hR
  refine lv_if_eq (pc := 45) (tgt := 53) hx hb dX5_told_45 (by decide) (fun c_15 => ?_) (fun c_15 => ?_)
  · have hcA := hct1.2.2.2.1
    have hcB := hct1.2.2.2.2.1
    have hcC := hct1.2.2.2.2.2
    refine va_ldcS (pc := 53) hx hb E.2.2.2.1 (hC.2.2.2.2.1 8 _ rfl).1 dX5_told_53 ?_
    have k16 : SX D tk (sa (10 + 8)) 1 H := hC.str hS hA 8 _ rfl (by decide)
    exact g2_X5_told E hC hA hn hr hlk a b ln cap md f vs hnc hcap hl9 hPV r_2 v_13 qf9 r_8 n k l9 lr q9 hf9 hk9 hl8 ih_8 b0_ hkn hd11 hl4 hcA hcB hcC hTc1 hTs1 hWc1 hWs1 hTc2 hTs2 hWc2 hWs2 _ _ _ hS f0 fR el h0s h1s h2s f3 f9 f11 k16 s_f9 g_f9 g_f11 l_f0_f11 l_f0_f9 l_f3_f11 l_f3_f9 l_f9_f11 l_fR_f11 l_fR_f9 l_h0s_f11 l_h0s_f9 l_h1s_f11 l_h1s_f9 l_h2s_f11 l_h2s_f9 hl
  · have hcA := hct0.2.2.2.1
    have hcB := hct0.2.2.2.2.1
    have hcC := hct0.2.2.2.2.2
    refine va_ldcS (pc := 48) hx hb E.2.2.2.1 (hC.2.2.2.2.1 6 _ rfl).1 dX5_told_48 ?_
    have k23 : SX D tk (sa (10 + 6)) 0 H := hC.str hS hA 6 _ rfl (by decide)
    refine lv_goto (pc := 50) (tgt := 55) hx hb dX5_told_50 (by decide) ?_
    exact g3_X5_told E hC hA hn hr hlk a b ln cap md f vs hnc hcap hl9 hPV r_2 v_13 qf9 r_8 n k l9 lr q9 hf9 hk9 hl8 ih_8 b0_ hkn hd11 hl4 hcA hcB hcC hTc1 hTs1 hWc1 hWs1 hTc2 hTs2 hWc2 hWs2 _ _ _ hS f0 fR el h0s h1s h2s f3 f9 f11 k23 s_f9 g_f9 g_f11 l_f0_f11 l_f0_f9 l_f3_f11 l_f3_f9 l_f9_f11 l_fR_f11 l_fR_f9 l_h0s_f11 l_h0s_f9 l_h1s_f11 l_h1s_f9 l_h2s_f11 l_h2s_f9 hl
set_option maxHeartbeats 20000000 in
set_option maxRecDepth 100000 in
/-- BestratiosModel.told(Ljava/util/ArrayList;)Ljava/lang/String; -/
theorem c_X5_told (l : Launch) (D : va_G) (tk : Nat → ClassId) (N0 : Nat) (sa : Nat → Nat)  (sz : Nat) (a b ln cap : Nat) (md : Int32) (f : Nat → Option Nat) (vs : Nat → Value) (hnc : ln ≤ cap) (hcap : cap ≤ 1000) (hl9 : ln ≤ 43) (hPV : PV ln vs) : Met l yX5_told (wsy yX5_told cX5_told 5 (some (.object "java/lang/String"))) ({ frames := 6, cells := 302, slots := 56764, locals := 137 } : Room) (cP D tk N0 sa [.ref a] sz (fun H => c1 D a (.inr (7, [.int md, .ref b, .int (nI ln)])) H ∧ c1 D b (.inl (tk 4, cap, .inr (.inr (.inr (.inr f))))) H ∧ EL D 3 ln f vs H)) (kQr (fun r H => ∃ n9, n9 ≤ 516 ∧ SX D tk r n9 H) (nwA sz)) (302) (56764) (nwA sz) := by
  refine mStart RX5 rfl (by decide +kernel) (Nat.le_of_ble_eq_true rfl) ?_
  intro p e s m args below meth c E hr hlk hnm hsz hC hF ls hl
  subst hsz
  obtain ⟨hx, hb, -⟩ := id E
  have hA : ∀ q, (nwA s.heap.size) q → N0 ≤ q := fun q h => Nat.le_trans hC.2.1 h
  have hn : ∀ q, s.heap.size ≤ q → (nwA s.heap.size) q := fun q h => h
  have hS : va_S (nwA s.heap.size) s.heap s.heap [] := va_S.rf
  have hl : lv_has ls 5 [(0, .ref a)] := hl
  obtain ⟨Q, hQ⟩ : ∃ Q, Q = MQ below (kQr (fun r H => ∃ n9, n9 ≤ 516 ∧ SX D tk r n9 H) (nwA s.heap.size)) args s (302) (56764) (nwA s.heap.size) := ⟨_, rfl⟩
  rw [← hQ]
  obtain ⟨f0, fR, el⟩ : c1 D a (.inr (7, [.int md, .ref b, .int (nI ln)])) s.heap ∧ c1 D b (.inl (tk 4, cap, .inr (.inr (.inr (.inr f))))) s.heap ∧ EL D 3 ln f vs s.heap := hF
  refine va_ldcS (pc := 0) hx hb E.2.2.2.1 (hC.2.2.2.2.1 6 _ rfl).1 dX5_told_0 ?_
  have k1 : SX D tk (sa (10 + 6)) 0 s.heap := hC.str hS hA 6 _ rfl (by decide)
  refine lv_astore_n (pc := 2) (lv' := [(1, .ref (sa (10 + 6))), (0, .ref a)]) hx hb dX5_told_2 rfl hl (by decide) rfl (fun ls hl => ?_)
  refine lv_aload_n (pc := 3) hx hb dX5_told_3 rfl (lv_at hl 1 rfl) ?_
  have hZ0_ := hS.1
  have t_f0 := f0.lt
  have t_fR := fR.lt
  have t_k1 := k1.lt
  refine k_r (pc := 4) (k_V E hC hS hA hl.1 (c1.recv hC f0 rfl) rfl (c_Jx4a65c_iterator_32c93 l D tk N0 sa s.heap.size a b ln md) kw_1486 kw_1487 kw_1488 kw_8 kw_1489 (n := 0) (by decide +kernel) rfl ⟨⟨rfl, rfl⟩, ⟨Nat.le_of_ble_eq_true rfl, Nat.le_of_ble_eq_true rfl⟩, (by dsimp only; omega), (by dsimp only; omega)⟩ rfl (Nat.le_of_ble_eq_true rfl) f0 dX5_told_4) hS (fun q z w => absurd w (Nat.not_le.mpr z)) hn (fun r_2 H locs hR hz hk hS => ?_)
  have f0 := f0.kept (hk _ f0.lt (Nat.not_le.mpr f0.lt))
  have fR := fR.kept (hk _ fR.lt (Nat.not_le.mpr fR.lt))
  have el := el.new hk
  have k1 := k1.new hk
  obtain ⟨z9_, f3⟩ := hR
  have s_f3 : s.heap.size ≤ r_2 := Nat.le_trans hZ0_ z9_
  have g_f3 := hn _ s_f3
  have l_f0_f3 : a < r_2 := Nat.lt_of_lt_of_le t_f0 z9_
  have l_fR_f3 : b < r_2 := Nat.lt_of_lt_of_le t_fR z9_
  have l_k1_f3 : sa (10 + 6) < r_2 := Nat.lt_of_lt_of_le t_k1 z9_
  refine lv_astore_n (pc := 7) (lv' := [(2, .ref r_2), (1, .ref (sa (10 + 6))), (0, .ref a)]) hx hb dX5_told_7 rfl hl (by decide) rfl (fun ls hl => ?_)
  have loop_8 : ∀ (n : Nat) (k : Nat) (l9 : Nat) (lr : Int32)(q9 : Nat), 44 - k < n → k ≤ ln → l9 ≤ 12 * k → ∀ (H : Heap) (locs : List Loc) (ls : Array Slot), va_S (nwA s.heap.size) s.heap H locs → c1 D a (.inr (7, [.int md, .ref b, .int (nI ln)])) H → c1 D b (.inl (tk 4, cap, .inr (.inr (.inr (.inr f))))) H → EL D 3 ln f vs H → SX D tk q9 l9 H → c1 D r_2 (.inr (6, [.int (nI k), .int lr, .int md, .ref a])) H → lv_has ls 5 [(0, .ref a), (1, .ref q9), (2, .ref r_2)] → W p l e ({ frames := 6, cells := 302, slots := 56764, locals := 137 } : Room) s m args below meth c H locs (1 + 7 * k) (4 + m_tS k) Q (F0 m 8 ls []) := by
    intro n
    induction n with
    | zero =>
      intro k l9 lr q9 hf9 hk9 hl8 H locs ls hS f0 fR el fs f3 hl
      omega
    | succ n ih_8 =>
      intro k l9 lr q9 hf9 hk9 hl8 H locs ls hS f0 fR el fs f3 hl
      obtain ⟨b0_, h0s, h1s, h2s⟩ := fs
      have htb0 := m_tSB (k := k) (by omega)
      refine lv_aload_n (pc := 8) hx hb dX5_told_8 rfl (lv_at hl 2 rfl) ?_
      refine k5_i (pc := 9) (k_F (ci := 6) rfl hC.xt.2.2.2.1 E hC hS hA hl.1 (c1.recv hC f3 rfl) (c_Jx35411_hasNext_aae02 l D tk N0 sa H.size r_2 a b ln k md lr (by omega) (by omega)) kw_1510 kw_1516 kw_1514 kw_29 kw_1518 (n := 0) (by decide +kernel) rfl ⟨⟨rfl, rfl⟩, ⟨Nat.le_of_ble_eq_true rfl, Nat.le_of_ble_eq_true rfl⟩, (by dsimp only; omega), (by dsimp only; omega)⟩ rfl (Nat.le_of_ble_eq_true rfl) ⟨f3, f0⟩ dX5_told_9) hS (fun q z w => absurd w (Nat.not_le.mpr z)) hn (fun r_4 H locs hR hz hk hS => ?_)
      have f0 := f0.kept (hk _ f0.lt (Nat.not_le.mpr f0.lt))
      have fR := fR.kept (hk _ fR.lt (Nat.not_le.mpr fR.lt))
      have el := el.new hk
      have h0s := h0s.kept (hk _ h0s.lt (Nat.not_le.mpr h0s.lt))
      have h1s := h1s.kept (hk _ h1s.lt (Nat.not_le.mpr h1s.lt))
      have h2s := h2s.kept (hk _ h2s.lt (Nat.not_le.mpr h2s.lt))
      have f3 := f3.kept (hk _ f3.lt (Nat.not_le.mpr f3.lt))
      have hn_r_4 := hR
      refine lv_if_eq (pc := 14) (tgt := 69) hx hb dX5_told_14 (by decide) (fun c_5 => ?_) (fun c_5 => ?_)
      · refine lv_aload_n (pc := 69) hx hb dX5_told_69 rfl (lv_at hl 1 rfl) ?_
        try rw [hQ]
        refine r_aret (pc := 70) E hr (Or.inl ⟨_, rfl⟩) hlk hS (by omega) (by omega) ?_ dX5_told_70
        exact ⟨l9, by omega, ⟨_, h0s, h1s, h2s⟩⟩
      · have hkn : k < ln := by
          rcases hn_r_4 with ⟨h9, _⟩ | ⟨_, h9⟩
          · exact absurd h9 c_5
          · omega
        refine lv_aload_n (pc := 17) hx hb dX5_told_17 rfl (lv_at hl 2 rfl) ?_
        obtain ⟨qe6, hq6, he6⟩ := el k hkn
        obtain ⟨xe6, ev6, pv6⟩ := hPV k hkn
        rw [ev6] at he6
        refine k5_r (pc := 18) (k_F (ci := 6) rfl hC.xt.2.2.2.2 E hC hS hA hl.1 (c1.recv hC f3 rfl) (c_Jx35411_next_0502b l D tk N0 sa H.size r_2 a b ln k cap qe6 md lr f (hA _ g_f3) hkn hnc (by omega) hq6) kw_1520 kw_1525 kw_1523 kw_29 kw_1527 (n := 0) (by decide +kernel) rfl ⟨⟨rfl, rfl⟩, ⟨Nat.le_of_ble_eq_true rfl, Nat.le_of_ble_eq_true rfl⟩, (by dsimp only; omega), (by dsimp only; omega)⟩ rfl (Nat.le_of_ble_eq_true rfl) ⟨f3, f0, fR⟩ dX5_told_18) hS (inA1.to g_f3) hn (fun r_7 H locs hR hz hk hS => ?_)
        have f0 := f0.kept (hk _ f0.lt (inA1.not (clA.ne f0.cl f3.cl (hC.oo 7 6 rfl rfl (by decide))) f0.lt))
        have fR := fR.kept (hk _ fR.lt (inA1.not (clA.ne fR.cla f3.cl (hC.ao 6 4 rfl rfl)) fR.lt))
        have el := el.keep1 hk (fun q9 h9 => clA.ne h9 f3.cl (hC.ceo (Or.inl rfl) 6 rfl (by decide)))
        have h0s := h0s.kept (hk _ h0s.lt (inA1.not (clA.ne h0s.cl f3.cl (hC.oo 0 6 rfl rfl (by decide))) h0s.lt))
        have h1s := h1s.kept (hk _ h1s.lt (inA1.not (clA.ne h1s.cl f3.cl (hC.oo 0 6 rfl rfl (by decide))) h1s.lt))
        have h2s := h2s.kept (hk _ h2s.lt (inA1.not (h2s.neo hC f3.cl (ci := 6) rfl) h2s.lt))
        have he6 := he6.kept (hk _ he6.lt (inA1.not (clA.ne he6.cl f3.cl (hC.oo 3 6 rfl rfl (by decide))) he6.lt))
        obtain ⟨hr9, f3⟩ := hR
        rw [hr9]
        refine r_castO (pc := 23) E hC he6 rfl kw_1532 dX5_told_23 ?_
        refine k_l (pc := 26) (k_V E hC hS hA hl.1 (xf.recv hC he6 rfl) rfl (c_J13_longValue_f9912 l D tk N0 sa H.size qe6 xe6) kw_1533 kw_1534 kw_1535 kw_17 kw_1536 (n := 0) (by decide +kernel) rfl ⟨⟨rfl, rfl⟩, ⟨Nat.le_of_ble_eq_true rfl, Nat.le_of_ble_eq_true rfl⟩, (by dsimp only; omega), (by dsimp only; omega)⟩ rfl (Nat.le_of_ble_eq_true rfl) he6 dX5_told_26) hS (fun q z w => absurd w (Nat.not_le.mpr z)) hn (fun r_8 H locs hR hz hk hS => ?_)
        have f0 := f0.kept (hk _ f0.lt (Nat.not_le.mpr f0.lt))
        have fR := fR.kept (hk _ fR.lt (Nat.not_le.mpr fR.lt))
        have el := el.new hk
        have h0s := h0s.kept (hk _ h0s.lt (Nat.not_le.mpr h0s.lt))
        have h1s := h1s.kept (hk _ h1s.lt (Nat.not_le.mpr h1s.lt))
        have h2s := h2s.kept (hk _ h2s.lt (Nat.not_le.mpr h2s.lt))
        have f3 := f3.kept (hk _ f3.lt (Nat.not_le.mpr f3.lt))
        have he6 := he6.kept (hk _ he6.lt (Nat.not_le.mpr he6.lt))
        have er_8 : r_8 = xe6 := hR
        have hd11 : dgJ r_8 ≤ 11 := m_dg (by rw [er_8]; have := pv6; omega)
        refine lv_lstore_n (pc := 29) (lv' := [(3, .long r_8), (0, .ref a), (1, .ref q9), (2, .ref r_2)]) hx hb dX5_told_29 rfl hl (by decide) rfl (fun ls hl => ?_)
        exact g1_X5_told E hC hA hn hr hlk a b ln cap md f vs hnc hcap hl9 hPV r_2 r_8 n k l9 lr q9 hf9 hk9 hl8 ih_8 b0_ hkn hd11 _ _ _ hS f0 fR el h0s h1s h2s f3 hl
  refine W.widen (k := 1 + 7 * 0) (n := 4 + m_tS 0) (by omega) (by show _ ≤ 4 + 0; omega) ?_
  exact loop_8 45 0 _ _  (sa (10 + 6)) (by omega) (by omega) (by omega) _ _ _ hS f0 fR el k1 f3 (lv_sub hl [2, 1, 0] rfl)
