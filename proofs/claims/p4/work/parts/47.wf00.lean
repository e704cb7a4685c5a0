set_option maxHeartbeats 20000000 in
set_option maxRecDepth 100000 in
theorem g3_X5_wayNow {p : Program} {l : Launch} {e : Env} {s : State} {m : MethodId} {args : Array Value} {below : List Frame} {meth : Method} {c : Code} {Q : State → Prop} {D : va_G} {tk : Nat → ClassId} {N0 : Nat} {sa : Nat → Nat} (E : CallFix p m c cX5_wayNow 7 s args (wsy yX5_wayNow cX5_wayNow 7 (some (.object "java/lang/String"))) RX5) (hC : Ctx D tk N0 sa s) (hA : ∀ q, (nwA s.heap.size) q → N0 ≤ q) (hn : ∀ q, s.heap.size ≤ q → (nwA s.heap.size) q) (hr : meth.sig.returnType = (some (.object "java/lang/String"))) (hlk : meth.locks = false) (P : Nat → Prop) (hPN : ∀ q, P q → N0 ≤ q) (mo : Nat) (n9 : Nat) (kn : Int32) (th : Int32) (tt : Nat → Int64) (bb : Nat → Int64) (eT : Int64) (eB : Int64) (oT : Int64) (oB : Int64) (pk : Nat) (ca : Int32) (rf : Int32) (vs : Nat → Value) (x : Int32) (k_x : Nat) (hx_x : x = nI k_x) (hk_x : k_x < 6) (nl6 : Nat) (bb6 : Nat) (cap6 : Nat) (ff6 : Nat → Option Nat) (ww6 : Nat → Value) (md6 : Int32) (T : Nat → Int) (u2 : T (nl6 + 1) = 0) (u3 : ∀ i, i < nl6 → ∃ x : Int64, ww6 i = .long x ∧ x.toInt * T (i + 1) + T (i + 2) = T i) (u4 : ∀ i, 1 ≤ i → i ≤ nl6 → 1 ≤ T i ∧ T i ≤ 1000000000) (hlm6 : nl6 ≤ 43) (r_5 : Nat) (v_29 : Nat) (qf20 : Nat) (x_17 : Int64) (n : Nat) (k : Nat) (l9 : Nat) (E9 : Nat) (q9 : Nat) (y9 : Int32) (hf9 : 44 - k < n + 1) (hk9 : k ≤ nl6) (hx9 : y9 = nI k) (hE9 : ((10 ^ E9 : Nat) : Int) * T k ≤ 1000000000) (hZ9 : (k = 0 → E9 = 0)) (hL8 : l9 ≤ 3 * k + E9) (ih_32 : ∀ (k : Nat) (l9 : Nat) (E9 : Nat)(q9 : Nat) (y9 : Int32), 44 - k < n → k ≤ nl6 → y9 = nI k → ((10 ^ E9 : Nat) : Int) * T k ≤ 1000000000 → (k = 0 → E9 = 0) → l9 ≤ 3 * k + E9 → ∀ (H : Heap) (locs : List Loc) (ls : Array Slot), va_S (nwA s.heap.size) s.heap H locs → c1 D r_5 (.inr (7, [.int md6, .ref bb6, .int (nI nl6)])) H → c1 D bb6 (.inl (tk 4, cap6, .inr (.inr (.inr (.inr (ff6)))))) H → EL D 3 nl6 ff6 ww6 H → SX D tk q9 l9 H → lv_has ls 7 [(0, .ref mo), (1, .int x), (2, .ref r_5), (3, .ref q9), (4, .int y9)] → W p l e ({ frames := 8, cells := 393, slots := 14193, locals := 186 } : Room) s m args below meth c H locs (49 + 8 * k) (175 + m_wS k) Q (F0 m 32 ls [])) (hd11 : dgJ x_17 ≤ 11) (hdl : 1 ≤ dgJ x_17) (hEn : ((10 ^ (E9 + (dgJ x_17 - 1)) : Nat) : Int) * T (k + 1) ≤ 1000000000) (hkn : k < nl6) (b0_ : Nat) (hcA : sbC 16 (0 + l9) ≤ 500000) (hcB : sbC (sbC 16 (0 + l9)) (0 + l9 + 1) ≤ 500000) (hcC : sbC (sbC (sbC 16 (0 + l9)) (0 + l9 + 1)) (0 + l9 + 1 + 1) ≤ 500000) (hcD : sbC (sbC (sbC (sbC 16 (0 + l9)) (0 + l9 + 1)) (0 + l9 + 1 + 1)) (0 + l9 + 1 + 1 + dgJ x_17) ≤ 100000000) (hTc1 : 49 + 8 * k + 0 + 0 + 0 + 0 + 0 + 1 + 1 + (sbK 16 (0 + l9)) + 0 + (sbK (sbC 16 (0 + l9)) ((0 + l9) + 1)) + (sbK (sbC (sbC 16 (0 + l9)) ((0 + l9) + 1)) (((0 + l9) + 1) + 1)) + (sbK (sbC (sbC (sbC 16 (0 + l9)) ((0 + l9) + 1)) (((0 + l9) + 1) + 1)) ((((0 + l9) + 1) + 1) + dgJ x_17)) + 2 ≤ 393) (hTs1 : 175 + m_wS k + 0 + 0 + 0 + 0 + 0 + 4 + 16 + (sbS 16 (0 + l9)) + 0 + (sbS (sbC 16 (0 + l9)) ((0 + l9) + 1)) + (sbS (sbC (sbC 16 (0 + l9)) ((0 + l9) + 1)) (((0 + l9) + 1) + 1)) + (sbS (sbC (sbC (sbC 16 (0 + l9)) ((0 + l9) + 1)) (((0 + l9) + 1) + 1)) ((((0 + l9) + 1) + 1) + dgJ x_17)) + (4 + ((((0 + l9) + 1) + 1) + dgJ x_17)) ≤ 14193) (hWc1 : 49 + 8 * k + 0 + 0 + 0 + 0 + 0 + 1 + 1 + (sbK 16 (0 + l9)) + 0 + (sbK (sbC 16 (0 + l9)) ((0 + l9) + 1)) + (sbK (sbC (sbC 16 (0 + l9)) ((0 + l9) + 1)) (((0 + l9) + 1) + 1)) + (sbK (sbC (sbC (sbC 16 (0 + l9)) ((0 + l9) + 1)) (((0 + l9) + 1) + 1)) ((((0 + l9) + 1) + 1) + dgJ x_17)) + 2 ≤ 49 + 8 * (k + 1)) (hWs1 : 175 + m_wS k + 0 + 0 + 0 + 0 + 0 + 4 + 16 + (sbS 16 (0 + l9)) + 0 + (sbS (sbC 16 (0 + l9)) ((0 + l9) + 1)) + (sbS (sbC (sbC 16 (0 + l9)) ((0 + l9) + 1)) (((0 + l9) + 1) + 1)) + (sbS (sbC (sbC (sbC 16 (0 + l9)) ((0 + l9) + 1)) (((0 + l9) + 1) + 1)) ((((0 + l9) + 1) + 1) + dgJ x_17)) + (4 + ((((0 + l9) + 1) + 1) + dgJ x_17)) ≤ 175 + m_wS (k + 1)) (H : Heap) (locs : List Loc) (ls : Array Slot) (hS : va_S (nwA s.heap.size) s.heap H locs) (fl6 : c1 D r_5 (.inr (7, [.int md6, .ref bb6, .int (nI nl6)])) H) (fR6 : c1 D bb6 (.inl (tk 4, cap6, .inr (.inr (.inr (.inr (ff6)))))) H) (el6 : EL D 3 nl6 ff6 ww6 H) (h0s : xf D 0 q9 0 (.ref b0_) H) (h1s : xf D 0 q9 1 (.int 0) H) (h2s : BX tk b0_ l9 H) (f20 : c1 D qf20 (.inr (1, [.ref v_29, .int 0, .int 0, .int (nI ((0 + l9) + 1))])) H) (f22 : BA D tk v_29 (sbC (sbC 16 (0 + l9)) ((0 + l9) + 1)) H) (k31 : SX D tk (sa (10 + 11)) 1 H) (s_f20 : s.heap.size ≤ qf20) (g_f20 : (nwA s.heap.size) qf20) (g_f22 : (nwA s.heap.size) v_29) (l_f20_f22 : qf20 < v_29) (l_fR6_f20 : bb6 < qf20) (l_fR6_f22 : bb6 < v_29) (l_fl6_f20 : r_5 < qf20) (l_fl6_f22 : r_5 < v_29) (l_h0s_f20 : q9 < qf20) (l_h0s_f22 : q9 < v_29) (l_h1s_f20 : q9 < qf20) (l_h1s_f22 : q9 < v_29) (l_h2s_f20 : b0_ < qf20) (l_h2s_f22 : b0_ < v_29) (hl : lv_has ls 7 [(5, .long x_17), (0, .ref mo), (1, .int x), (2, .ref r_5), (3, .ref q9), (4, .int y9)]) : W p l e ({ frames := 8, cells := 393, slots := 14193, locals := 186 } : Room) s m args below meth c H locs (49 + 8 * k + 0 + 0 + 0 + 0 + 0 + 1 + 1 + (sbK 16 (0 + l9)) + 0 + (sbK (sbC 16 (0 + l9)) ((0 + l9) + 1))) (175 + m_wS k + 0 + 0 + 0 + 0 + 0 + 4 + 16 + (sbS 16 (0 + l9)) + 0 + (sbS (sbC 16 (0 + l9)) ((0 + l9) + 1))) Q (F0 m 127 ls [.ref (sa (10 + 11)), .ref qf20]) := by
  obtain ⟨hx, hb, -⟩ := id E
  have hZ0_ := hS.1
  have t_fl6 := fl6.lt
  have t_fR6 := fR6.lt
  have t_h0s := h0s.lt
  have t_h1s := h1s.lt
  have t_h2s := h2s.lt
  have t_f20 := f20.lt
  have t_f22 := f22.lt
  have t_k31 := k31.lt
  refine k_r (pc := 127) (k_V E hC hS hA hl.1 (c1.recv hC f20 rfl) rfl (c_J4_append_15ec4 l D tk N0 sa H.size qf20 v_29 (sbC (sbC 16 (0 + l9)) ((0 + l9) + 1)) ((0 + l9) + 1) (sa (10 + 11)) 1 0 (hA _ g_f20) (hA _ g_f22) (sbC_ge _ _).1 hcB (by decide)) kw_1353 kw_399 kw_400 kw_19 kw_401 (n := 1) (by decide +kernel) rfl ⟨⟨rfl, rfl⟩, ⟨Nat.le_of_ble_eq_true rfl, Nat.le_of_ble_eq_true rfl⟩, (pre1 (pre1 hTc1)), (pre1 (pre1 hTs1))⟩ rfl (Nat.le_of_ble_eq_true rfl) ⟨f20, f22, k31⟩ dX5_wayNow_127) hS (inA2.to g_f20 g_f22) hn (fun r_32 H locs hR hz hk hS => ?_)
  have fl6 := fl6.kept (hk _ fl6.lt (inA2.not (clA.ne fl6.cl f20.cl (hC.oo 7 1 rfl rfl (by decide))) (clA.ne fl6.cl f22.cl (hC.oa 7 1 rfl rfl)) fl6.lt))
  have fR6 := fR6.kept (hk _ fR6.lt (inA2.not (clA.ne fR6.cla f20.cl (hC.ao 1 4 rfl rfl)) (clA.ne fR6.cla f22.cl (hC.aa 4 1 rfl rfl (by dsimp only; decide))) fR6.lt))
  have el6 := el6.keep2 hk (fun q9 h9 => clA.ne h9 f20.cl (hC.ceo (Or.inl rfl) 1 rfl (by decide))) (fun q9 h9 => clA.ne h9 f22.cl (hC.cea (Or.inl rfl) 1 rfl))
  have h0s := h0s.kept (hk _ h0s.lt (inA2.not (clA.ne h0s.cl f20.cl (hC.oo 0 1 rfl rfl (by decide))) (clA.ne h0s.cl f22.cl (hC.oa 0 1 rfl rfl)) h0s.lt))
  have h1s := h1s.kept (hk _ h1s.lt (inA2.not (clA.ne h1s.cl f20.cl (hC.oo 0 1 rfl rfl (by decide))) (clA.ne h1s.cl f22.cl (hC.oa 0 1 rfl rfl)) h1s.lt))
  have h2s := h2s.kept (hk _ h2s.lt (inA2.not (h2s.neo hC f20.cl (ci := 1) rfl) (Nat.ne_of_lt l_h2s_f22) h2s.lt))
  obtain ⟨er9, hR⟩ := hR
  rw [er9]
  obtain ⟨v_33, hv_33, f20, f22⟩ := hR
  have g_f22 := hv_33.elim (fun e9 => e9 ▸ g_f22) (fun z9 => hn _ (Nat.le_trans hZ0_ z9))
  have l_fl6_f22 : r_5 < v_33 := hv_33.elim (fun e9 => e9 ▸ l_fl6_f22) (fun z9 => Nat.lt_of_lt_of_le t_fl6 z9)
  have l_fR6_f22 : bb6 < v_33 := hv_33.elim (fun e9 => e9 ▸ l_fR6_f22) (fun z9 => Nat.lt_of_lt_of_le t_fR6 z9)
  have l_h0s_f22 : q9 < v_33 := hv_33.elim (fun e9 => e9 ▸ l_h0s_f22) (fun z9 => Nat.lt_of_lt_of_le t_h0s z9)
  have l_h1s_f22 : q9 < v_33 := hv_33.elim (fun e9 => e9 ▸ l_h1s_f22) (fun z9 => Nat.lt_of_lt_of_le t_h1s z9)
  have l_h2s_f22 : b0_ < v_33 := hv_33.elim (fun e9 => e9 ▸ l_h2s_f22) (fun z9 => Nat.lt_of_lt_of_le t_h2s z9)
  have l_f20_f22 : qf20 < v_33 := hv_33.elim (fun e9 => e9 ▸ l_f20_f22) (fun z9 => Nat.lt_of_lt_of_le t_f20 z9)
  have hv_33 := hv_33.imp_right (fun z9 => Nat.le_trans hZ0_ z9)
  refine lv_lload (pc := 130) hx hb dX5_wayNow_130 (lv_at hl 0 rfl) ?_
  have hZ0_ := hS.1
  have t_fl6 := fl6.lt
  have t_fR6 := fR6.lt
  have t_h0s := h0s.lt
  have t_h1s := h1s.lt
  have t_h2s := h2s.lt
  have t_f20 := f20.lt
  have t_f22 := f22.lt
  refine k_r (pc := 132) (k_V E hC hS hA hl.1 (c1.recv hC f20 rfl) rfl (c_J4_append_f7089 l D tk N0 sa H.size qf20 v_33 (sbC (sbC (sbC 16 (0 + l9)) ((0 + l9) + 1)) (((0 + l9) + 1) + 1)) (((0 + l9) + 1) + 1) 0 x_17 (hA _ g_f20) (hA _ g_f22) (sbC_ge _ _).1 hcC) kw_1354 kw_1355 kw_1356 kw_19 kw_1357 (n := 1) (by decide +kernel) rfl ⟨⟨rfl, rfl⟩, ⟨Nat.le_of_ble_eq_true rfl, Nat.le_of_ble_eq_true rfl⟩, (pre1 hTc1), (pre1 hTs1)⟩ rfl (Nat.le_of_ble_eq_true rfl) ⟨f20, f22⟩ dX5_wayNow_132) hS (inA2.to g_f20 g_f22) hn (fun r_34 H locs hR hz hk hS => ?_)
  have fl6 := fl6.kept (hk _ fl6.lt (inA2.not (clA.ne fl6.cl f20.cl (hC.oo 7 1 rfl rfl (by decide))) (clA.ne fl6.cl f22.cl (hC.oa 7 1 rfl rfl)) fl6.lt))
  have fR6 := fR6.kept (hk _ fR6.lt (inA2.not (clA.ne fR6.cla f20.cl (hC.ao 1 4 rfl rfl)) (clA.ne fR6.cla f22.cl (hC.aa 4 1 rfl rfl (by dsimp only; decide))) fR6.lt))
  have el6 := el6.keep2 hk (fun q9 h9 => clA.ne h9 f20.cl (hC.ceo (Or.inl rfl) 1 rfl (by decide))) (fun q9 h9 => clA.ne h9 f22.cl (hC.cea (Or.inl rfl) 1 rfl))
  have h0s := h0s.kept (hk _ h0s.lt (inA2.not (clA.ne h0s.cl f20.cl (hC.oo 0 1 rfl rfl (by decide))) (clA.ne h0s.cl f22.cl (hC.oa 0 1 rfl rfl)) h0s.lt))
  have h1s := h1s.kept (hk _ h1s.lt (inA2.not (clA.ne h1s.cl f20.cl (hC.oo 0 1 rfl rfl (by decide))) (clA.ne h1s.cl f22.cl (hC.oa 0 1 rfl rfl)) h1s.lt))
  have h2s := h2s.kept (hk _ h2s.lt (inA2.not (h2s.neo hC f20.cl (ci := 1) rfl) (Nat.ne_of_lt l_h2s_f22) h2s.lt))
  obtain ⟨er9, hR⟩ := hR
  rw [er9]
  obtain ⟨v_35, hv_35, f20, f22⟩ := hR
  have g_f22 := hv_35.elim (fun e9 => e9 ▸ g_f22) (fun z9 => hn _ (Nat.le_trans hZ0_ z9))
  have l_fl6_f22 : r_5 < v_35 := hv_35.elim (fun e9 => e9 ▸ l_fl6_f22) (fun z9 => Nat.lt_of_lt_of_le t_fl6 z9)
  have l_fR6_f22 : bb6 < v_35 := hv_35.elim (fun e9 => e9 ▸ l_fR6_f22) (fun z9 => Nat.lt_of_lt_of_le t_fR6 z9)
  have l_h0s_f22 : q9 < v_35 := hv_35.elim (fun e9 => e9 ▸ l_h0s_f22) (fun z9 => Nat.lt_of_lt_of_le t_h0s z9)
  have l_h1s_f22 : q9 < v_35 := hv_35.elim (fun e9 => e9 ▸ l_h1s_f22) (fun z9 => Nat.lt_of_lt_of_le t_h1s z9)
  have l_h2s_f22 : b0_ < v_35 := hv_35.elim (fun e9 => e9 ▸ l_h2s_f22) (fun z9 => Nat.lt_of_lt_of_le t_h2s z9)
  have l_f20_f22 : qf20 < v_35 := hv_35.elim (fun e9 => e9 ▸ l_f20_f22) (fun z9 => Nat.lt_of_lt_of_le t_f20 z9)
  have hv_35 := hv_35.imp_right (fun z9 => Nat.le_trans hZ0_ z9)
  have hv_35 := hv_35.elim (fun e9 => e9 ▸ hv_33) Or.inr
  have hZ0_ := hS.1
  have t_fl6 := fl6.lt
  have t_fR6 := fR6.lt
  have t_h0s := h0s.lt
  have t_h1s := h1s.lt
  have t_h2s := h2s.lt
  have t_f20 := f20.lt
  have t_f22 := f22.lt
  refine k_r (pc := 135) (k_V E hC hS hA hl.1 (c1.recv hC f20 rfl) rfl (c_J4_toString_0e30d l D tk N0 sa H.size qf20 v_35 (sbC (sbC (sbC (sbC 16 (0 + l9)) ((0 + l9) + 1)) (((0 + l9) + 1) + 1)) ((((0 + l9) + 1) + 1) + dgJ x_17)) ((((0 + l9) + 1) + 1) + dgJ x_17) 0 (sbC_ge _ _).1 hcD) kw_1381 kw_316 kw_317 kw_19 kw_318 (n := 0) (by decide +kernel) rfl ⟨⟨rfl, rfl⟩, ⟨Nat.le_of_ble_eq_true rfl, Nat.le_of_ble_eq_true rfl⟩, hTc1, hTs1⟩ rfl (Nat.le_of_ble_eq_true rfl) ⟨f20, f22⟩ dX5_wayNow_135) hS (fun q z w => absurd w (Nat.not_le.mpr z)) hn (fun r_36 H locs hR hz hk hS => ?_)
  have fl6 := fl6.kept (hk _ fl6.lt (Nat.not_le.mpr fl6.lt))
  have fR6 := fR6.kept (hk _ fR6.lt (Nat.not_le.mpr fR6.lt))
  have el6 := el6.new hk
  have h0s := h0s.kept (hk _ h0s.lt (Nat.not_le.mpr h0s.lt))
  have h1s := h1s.kept (hk _ h1s.lt (Nat.not_le.mpr h1s.lt))
  have h2s := h2s.kept (hk _ h2s.lt (Nat.not_le.mpr h2s.lt))
  have f20 := f20.kept (hk _ f20.lt (Nat.not_le.mpr f20.lt))
  have f22 := f22.kept (hk _ f22.lt (Nat.not_le.mpr f22.lt))
  obtain ⟨q_f37, z9_, y9_, f37⟩ := hR
  have f37 := SM.sx f37
  have zr_f37 : s.heap.size ≤ r_36 := Nat.le_trans hZ0_ z9_
  refine lv_astore_n (pc := 138) (lv' := [(3, .ref r_36), (5, .long x_17), (0, .ref mo), (1, .int x), (2, .ref r_5), (4, .int y9)]) hx hb dX5_wayNow_138 rfl hl (by decide) rfl (fun ls hl => ?_)
  obtain ⟨x_38, ex_38⟩ : ∃ z9 : Int32, z9 = y9 + 1 := ⟨_, rfl⟩
  refine lv_iinc (pc := 139) (v := x_38) (lv' := [(4, .int x_38), (3, .ref r_36), (5, .long x_17), (0, .ref mo), (1, .int x), (2, .ref r_5)]) hx hb dX5_wayNow_139 hl (k := 5) rfl (by rw [ex_38]; rfl) (by decide) rfl (fun ls hl => ?_)
  refine lv_goto (pc := 142) (tgt := 32) hx hb dX5_wayNow_142 (by decide) ?_
  refine W.widen (k := 49 + 8 * (k + 1)) (n := 175 + m_wS (k + 1)) hWc1 hWs1 ?_
  exact ih_32  (k + 1) _ (E9 + (dgJ x_17 - 1))  r_36 x_38 (by omega) (by omega) (i_up hx9 ex_38) hEn (fun z9 => absurd z9 (by omega)) (by omega) _ _ _ hS fl6 fR6 el6 f37 (lv_sub hl [3, 4, 5, 1, 0] rfl)
set_option maxHeartbeats 20000000 in
set_option maxRecDepth 100000 in
theorem g4_X5_wayNow {p : Program} {l : Launch} {e : Env} {s : State} {m : MethodId} {args : Array Value} {below : List Frame} {meth : Method} {c : Code} {Q : State → Prop} {D : va_G} {tk : Nat → ClassId} {N0 : Nat} {sa : Nat → Nat} (E : CallFix p m c cX5_wayNow 7 s args (wsy yX5_wayNow cX5_wayNow 7 (some (.object "java/lang/String"))) RX5) (hC : Ctx D tk N0 sa s) (hA : ∀ q, (nwA s.heap.size) q → N0 ≤ q) (hn : ∀ q, s.heap.size ≤ q → (nwA s.heap.size) q) (hr : meth.sig.returnType = (some (.object "java/lang/String"))) (hlk : meth.locks = false) (P : Nat → Prop) (hPN : ∀ q, P q → N0 ≤ q) (mo : Nat) (n9 : Nat) (kn : Int32) (th : Int32) (tt : Nat → Int64) (bb : Nat → Int64) (eT : Int64) (eB : Int64) (oT : Int64) (oB : Int64) (pk : Nat) (ca : Int32) (rf : Int32) (vs : Nat → Value) (x : Int32) (k_x : Nat) (hx_x : x = nI k_x) (hk_x : k_x < 6) (nl6 : Nat) (bb6 : Nat) (cap6 : Nat) (ff6 : Nat → Option Nat) (ww6 : Nat → Value) (md6 : Int32) (T : Nat → Int) (u2 : T (nl6 + 1) = 0) (u3 : ∀ i, i < nl6 → ∃ x : Int64, ww6 i = .long x ∧ x.toInt * T (i + 1) + T (i + 2) = T i) (u4 : ∀ i, 1 ≤ i → i ≤ nl6 → 1 ≤ T i ∧ T i ≤ 1000000000) (hlm6 : nl6 ≤ 43) (r_5 : Nat) (v_29 : Nat) (qf20 : Nat) (x_17 : Int64) (n : Nat) (k : Nat) (l9 : Nat) (E9 : Nat) (q9 : Nat) (y9 : Int32) (hf9 : 44 - k < n + 1) (hk9 : k ≤ nl6) (hx9 : y9 = nI k) (hE9 : ((10 ^ E9 : Nat) : Int) * T k ≤ 1000000000) (hZ9 : (k = 0 → E9 = 0)) (hL8 : l9 ≤ 3 * k + E9) (ih_32 : ∀ (k : Nat) (l9 : Nat) (E9 : Nat)(q9 : Nat) (y9 : Int32), 44 - k < n → k ≤ nl6 → y9 = nI k → ((10 ^ E9 : Nat) : Int) * T k ≤ 1000000000 → (k = 0 → E9 = 0) → l9 ≤ 3 * k + E9 → ∀ (H : Heap) (locs : List Loc) (ls : Array Slot), va_S (nwA s.heap.size) s.heap H locs → c1 D r_5 (.inr (7, [.int md6, .ref bb6, .int (nI nl6)])) H → c1 D bb6 (.inl (tk 4, cap6, .inr (.inr (.inr (.inr (ff6)))))) H → EL D 3 nl6 ff6 ww6 H → SX D tk q9 l9 H → lv_has ls 7 [(0, .ref mo), (1, .int x), (2, .ref r_5), (3, .ref q9), (4, .int y9)] → W p l e ({ frames := 8, cells := 393, slots := 14193, locals := 186 } : Room) s m args below meth c H locs (49 + 8 * k) (175 + m_wS k) Q (F0 m 32 ls [])) (hd11 : dgJ x_17 ≤ 11) (hdl : 1 ≤ dgJ x_17) (hEn : ((10 ^ (E9 + (dgJ x_17 - 1)) : Nat) : Int) * T (k + 1) ≤ 1000000000) (hkn : k < nl6) (b0_ : Nat) (hcA : sbC 16 (0 + l9) ≤ 500000) (hcB : sbC (sbC 16 (0 + l9)) (0 + l9 + 1) ≤ 500000) (hcC : sbC (sbC (sbC 16 (0 + l9)) (0 + l9 + 1)) (0 + l9 + 1 + 1) ≤ 500000) (hcD : sbC (sbC (sbC (sbC 16 (0 + l9)) (0 + l9 + 1)) (0 + l9 + 1 + 1)) (0 + l9 + 1 + 1 + dgJ x_17) ≤ 100000000) (hTc1 : 49 + 8 * k + 0 + 0 + 0 + 0 + 0 + 1 + 1 + (sbK 16 (0 + l9)) + 0 + (sbK (sbC 16 (0 + l9)) ((0 + l9) + 1)) + (sbK (sbC (sbC 16 (0 + l9)) ((0 + l9) + 1)) (((0 + l9) + 1) + 1)) + (sbK (sbC (sbC (sbC 16 (0 + l9)) ((0 + l9) + 1)) (((0 + l9) + 1) + 1)) ((((0 + l9) + 1) + 1) + dgJ x_17)) + 2 ≤ 393) (hTs1 : 175 + m_wS k + 0 + 0 + 0 + 0 + 0 + 4 + 16 + (sbS 16 (0 + l9)) + 0 + (sbS (sbC 16 (0 + l9)) ((0 + l9) + 1)) + (sbS (sbC (sbC 16 (0 + l9)) ((0 + l9) + 1)) (((0 + l9) + 1) + 1)) + (sbS (sbC (sbC (sbC 16 (0 + l9)) ((0 + l9) + 1)) (((0 + l9) + 1) + 1)) ((((0 + l9) + 1) + 1) + dgJ x_17)) + (4 + ((((0 + l9) + 1) + 1) + dgJ x_17)) ≤ 14193) (hWc1 : 49 + 8 * k + 0 + 0 + 0 + 0 + 0 + 1 + 1 + (sbK 16 (0 + l9)) + 0 + (sbK (sbC 16 (0 + l9)) ((0 + l9) + 1)) + (sbK (sbC (sbC 16 (0 + l9)) ((0 + l9) + 1)) (((0 + l9) + 1) + 1)) + (sbK (sbC (sbC (sbC 16 (0 + l9)) ((0 + l9) + 1)) (((0 + l9) + 1) + 1)) ((((0 + l9) + 1) + 1) + dgJ x_17)) + 2 ≤ 49 + 8 * (k + 1)) (hWs1 : 175 + m_wS k + 0 + 0 + 0 + 0 + 0 + 4 + 16 + (sbS 16 (0 + l9)) + 0 + (sbS (sbC 16 (0 + l9)) ((0 + l9) + 1)) + (sbS (sbC (sbC 16 (0 + l9)) ((0 + l9) + 1)) (((0 + l9) + 1) + 1)) + (sbS (sbC (sbC (sbC 16 (0 + l9)) ((0 + l9) + 1)) (((0 + l9) + 1) + 1)) ((((0 + l9) + 1) + 1) + dgJ x_17)) + (4 + ((((0 + l9) + 1) + 1) + dgJ x_17)) ≤ 175 + m_wS (k + 1)) (H : Heap) (locs : List Loc) (ls : Array Slot) (hS : va_S (nwA s.heap.size) s.heap H locs) (fl6 : c1 D r_5 (.inr (7, [.int md6, .ref bb6, .int (nI nl6)])) H) (fR6 : c1 D bb6 (.inl (tk 4, cap6, .inr (.inr (.inr (.inr (ff6)))))) H) (el6 : EL D 3 nl6 ff6 ww6 H) (h0s : xf D 0 q9 0 (.ref b0_) H) (h1s : xf D 0 q9 1 (.int 0) H) (h2s : BX tk b0_ l9 H) (f20 : c1 D qf20 (.inr (1, [.ref v_29, .int 0, .int 0, .int (nI ((0 + l9) + 1))])) H) (f22 : BA D tk v_29 (sbC (sbC 16 (0 + l9)) ((0 + l9) + 1)) H) (k39 : SX D tk (sa (10 + 10)) 1 H) (s_f20 : s.heap.size ≤ qf20) (g_f20 : (nwA s.heap.size) qf20) (g_f22 : (nwA s.heap.size) v_29) (l_f20_f22 : qf20 < v_29) (l_fR6_f20 : bb6 < qf20) (l_fR6_f22 : bb6 < v_29) (l_fl6_f20 : r_5 < qf20) (l_fl6_f22 : r_5 < v_29) (l_h0s_f20 : q9 < qf20) (l_h0s_f22 : q9 < v_29) (l_h1s_f20 : q9 < qf20) (l_h1s_f22 : q9 < v_29) (l_h2s_f20 : b0_ < qf20) (l_h2s_f22 : b0_ < v_29) (hl : lv_has ls 7 [(5, .long x_17), (0, .ref mo), (1, .int x), (2, .ref r_5), (3, .ref q9), (4, .int y9)]) : W p l e ({ frames := 8, cells := 393, slots := 14193, locals := 186 } : Room) s m args below meth c H locs (49 + 8 * k + 0 + 0 + 0 + 0 + 0 + 1 + 1 + (sbK 16 (0 + l9)) + 0 + (sbK (sbC 16 (0 + l9)) ((0 + l9) + 1))) (175 + m_wS k + 0 + 0 + 0 + 0 + 0 + 4 + 16 + (sbS 16 (0 + l9)) + 0 + (sbS (sbC 16 (0 + l9)) ((0 + l9) + 1))) Q (F0 m 127 ls [.ref (sa (10 + 10)), .ref qf20]) := by
  obtain ⟨hx, hb, -⟩ := id E
  have hZ0_ := hS.1
  have t_fl6 := fl6.lt
  have t_fR6 := fR6.lt
  have t_h0s := h0s.lt
  have t_h1s := h1s.lt
  have t_h2s := h2s.lt
  have t_f20 := f20.lt
  have t_f22 := f22.lt
  have t_k39 := k39.lt
  refine k_r (pc := 127) (k_V E hC hS hA hl.1 (c1.recv hC f20 rfl) rfl (c_J4_append_15ec4 l D tk N0 sa H.size qf20 v_29 (sbC (sbC 16 (0 + l9)) ((0 + l9) + 1)) ((0 + l9) + 1) (sa (10 + 10)) 1 0 (hA _ g_f20) (hA _ g_f22) (sbC_ge _ _).1 hcB (by decide)) kw_1353 kw_399 kw_400 kw_19 kw_401 (n := 1) (by decide +kernel) rfl ⟨⟨rfl, rfl⟩, ⟨Nat.le_of_ble_eq_true rfl, Nat.le_of_ble_eq_true rfl⟩, (pre1 (pre1 hTc1)), (pre1 (pre1 hTs1))⟩ rfl (Nat.le_of_ble_eq_true rfl) ⟨f20, f22, k39⟩ dX5_wayNow_127) hS (inA2.to g_f20 g_f22) hn (fun r_40 H locs hR hz hk hS => ?_)
  have fl6 := fl6.kept (hk _ fl6.lt (inA2.not (clA.ne fl6.cl f20.cl (hC.oo 7 1 rfl rfl (by decide))) (clA.ne fl6.cl f22.cl (hC.oa 7 1 rfl rfl)) fl6.lt))
  have fR6 := fR6.kept (hk _ fR6.lt (inA2.not (clA.ne fR6.cla f20.cl (hC.ao 1 4 rfl rfl)) (clA.ne fR6.cla f22.cl (hC.aa 4 1 rfl rfl (by dsimp only; decide))) fR6.lt))
  have el6 := el6.keep2 hk (fun q9 h9 => clA.ne h9 f20.cl (hC.ceo (Or.inl rfl) 1 rfl (by decide))) (fun q9 h9 => clA.ne h9 f22.cl (hC.cea (Or.inl rfl) 1 rfl))
  have h0s := h0s.kept (hk _ h0s.lt (inA2.not (clA.ne h0s.cl f20.cl (hC.oo 0 1 rfl rfl (by decide))) (clA.ne h0s.cl f22.cl (hC.oa 0 1 rfl rfl)) h0s.lt))
  have h1s := h1s.kept (hk _ h1s.lt (inA2.not (clA.ne h1s.cl f20.cl (hC.oo 0 1 rfl rfl (by decide))) (clA.ne h1s.cl f22.cl (hC.oa 0 1 rfl rfl)) h1s.lt))
  have h2s := h2s.kept (hk _ h2s.lt (inA2.not (h2s.neo hC f20.cl (ci := 1) rfl) (Nat.ne_of_lt l_h2s_f22) h2s.lt))
  obtain ⟨er9, hR⟩ := hR
  rw [er9]
  obtain ⟨v_41, hv_41, f20, f22⟩ := hR
  have g_f22 := hv_41.elim (fun e9 => e9 ▸ g_f22) (fun z9 => hn _ (Nat.le_trans hZ0_ z9))
  have l_fl6_f22 : r_5 < v_41 := hv_41.elim (fun e9 => e9 ▸ l_fl6_f22) (fun z9 => Nat.lt_of_lt_of_le t_fl6 z9)
  have l_fR6_f22 : bb6 < v_41 := hv_41.elim (fun e9 => e9 ▸ l_fR6_f22) (fun z9 => Nat.lt_of_lt_of_le t_fR6 z9)
  have l_h0s_f22 : q9 < v_41 := hv_41.elim (fun e9 => e9 ▸ l_h0s_f22) (fun z9 => Nat.lt_of_lt_of_le t_h0s z9)
  have l_h1s_f22 : q9 < v_41 := hv_41.elim (fun e9 => e9 ▸ l_h1s_f22) (fun z9 => Nat.lt_of_lt_of_le t_h1s z9)
  have l_h2s_f22 : b0_ < v_41 := hv_41.elim (fun e9 => e9 ▸ l_h2s_f22) (fun z9 => Nat.lt_of_lt_of_le t_h2s z9)
  have l_f20_f22 : qf20 < v_41 := hv_41.elim (fun e9 => e9 ▸ l_f20_f22) (fun z9 => Nat.lt_of_lt_of_le t_f20 z9)
  have hv_41 := hv_41.imp_right (fun z9 => Nat.le_trans hZ0_ z9)
  refine lv_lload (pc := 130) hx hb dX5_wayNow_130 (lv_at hl 0 rfl) ?_
  have hZ0_ := hS.1
  have t_fl6 := fl6.lt
  have t_fR6 := fR6.lt
  have t_h0s := h0s.lt
  have t_h1s := h1s.lt
  have t_h2s := h2s.lt
  have t_f20 := f20.lt
  have t_f22 := f22.lt
  refine k_r (pc := 132) (k_V E hC hS hA hl.1 (c1.recv hC f20 rfl) rfl (c_J4_append_f7089 l D tk N0 sa H.size qf20 v_41 (sbC (sbC (sbC 16 (0 + l9)) ((0 + l9) + 1)) (((0 + l9) + 1) + 1)) (((0 + l9) + 1) + 1) 0 x_17 (hA _ g_f20) (hA _ g_f22) (sbC_ge _ _).1 hcC) kw_1354 kw_1355 kw_1356 kw_19 kw_1357 (n := 1) (by decide +kernel) rfl ⟨⟨rfl, rfl⟩, ⟨Nat.le_of_ble_eq_true rfl, Nat.le_of_ble_eq_true rfl⟩, (pre1 hTc1), (pre1 hTs1)⟩ rfl (Nat.le_of_ble_eq_true rfl) ⟨f20, f22⟩ dX5_wayNow_132) hS (inA2.to g_f20 g_f22) hn (fun r_42 H locs hR hz hk hS => ?_)
  have fl6 := fl6.kept (hk _ fl6.lt (inA2.not (clA.ne fl6.cl f20.cl (hC.oo 7 1 rfl rfl (by decide))) (clA.ne fl6.cl f22.cl (hC.oa 7 1 rfl rfl)) fl6.lt))
  have fR6 := fR6.kept (hk _ fR6.lt (inA2.not (clA.ne fR6.cla f20.cl (hC.ao 1 4 rfl rfl)) (clA.ne fR6.cla f22.cl (hC.aa 4 1 rfl rfl (by dsimp only; decide))) fR6.lt))
  have el6 := el6.keep2 hk (fun q9 h9 => clA.ne h9 f20.cl (hC.ceo (Or.inl rfl) 1 rfl (by decide))) (fun q9 h9 => clA.ne h9 f22.cl (hC.cea (Or.inl rfl) 1 rfl))
  have h0s := h0s.kept (hk _ h0s.lt (inA2.not (clA.ne h0s.cl f20.cl (hC.oo 0 1 rfl rfl (by decide))) (clA.ne h0s.cl f22.cl (hC.oa 0 1 rfl rfl)) h0s.lt))
  have h1s := h1s.kept (hk _ h1s.lt (inA2.not (clA.ne h1s.cl f20.cl (hC.oo 0 1 rfl rfl (by decide))) (clA.ne h1s.cl f22.cl (hC.oa 0 1 rfl rfl)) h1s.lt))
  have h2s := h2s.kept (hk _ h2s.lt (inA2.not (h2s.neo hC f20.cl (ci := 1) rfl) (Nat.ne_of_lt l_h2s_f22) h2s.lt))
  obtain ⟨er9, hR⟩ := hR
  rw [er9]
  obtain ⟨v_43, hv_43, f20, f22⟩ := hR
  have g_f22 := hv_43.elim (fun e9 => e9 ▸ g_f22) (fun z9 => hn _ (Nat.le_trans hZ0_ z9))
  have l_fl6_f22 : r_5 < v_43 := hv_43.elim (fun e9 => e9 ▸ l_fl6_f22) (fun z9 => Nat.lt_of_lt_of_le t_fl6 z9)
  have l_fR6_f22 : bb6 < v_43 := hv_43.elim (fun e9 => e9 ▸ l_fR6_f22) (fun z9 => Nat.lt_of_lt_of_le t_fR6 z9)
  have l_h0s_f22 : q9 < v_43 := hv_43.elim (fun e9 => e9 ▸ l_h0s_f22) (fun z9 => Nat.lt_of_lt_of_le t_h0s z9)
  have l_h1s_f22 : q9 < v_43 := hv_43.elim (fun e9 => e9 ▸ l_h1s_f22) (fun z9 => Nat.lt_of_lt_of_le t_h1s z9)
  have l_h2s_f22 : b0_ < v_43 := hv_43.elim (fun e9 => e9 ▸ l_h2s_f22) (fun z9 => Nat.lt_of_lt_of_le t_h2s z9)
  have l_f20_f22 : qf20 < v_43 := hv_43.elim (fun e9 => e9 ▸ l_f20_f22) (fun z9 => Nat.lt_of_lt_of_le t_f20 z9)
  have hv_43 := hv_43.imp_right (fun z9 => Nat.le_trans hZ0_ z9)
  have hv_43 := hv_43.elim (fun e9 => e9 ▸ hv_41) Or.inr
  have hZ0_ := hS.1
  have t_fl6 := fl6.lt
  have t_fR6 := fR6.lt
  have t_h0s := h0s.lt
  have t_h1s := h1s.lt
  have t_h2s := h2s.lt
  have t_f20 := f20.lt
  have t_f22 := f22.lt
  refine k_r (pc := 135) (k_V E hC hS hA hl.1 (c1.recv hC f20 rfl) rfl (c_J4_toString_0e30d l D tk N0 sa H.size qf20 v_43 (sbC (sbC (sbC (sbC 16 (0 + l9)) ((0 + l9) + 1)) (((0 + l9) + 1) + 1)) ((((0 + l9) + 1) + 1) + dgJ x_17)) ((((0 + l9) + 1) + 1) + dgJ x_17) 0 (sbC_ge _ _).1 hcD) kw_1381 kw_316 kw_317 kw_19 kw_318 (n := 0) (by decide +kernel) rfl ⟨⟨rfl, rfl⟩, ⟨Nat.le_of_ble_eq_true rfl, Nat.le_of_ble_eq_true rfl⟩, hTc1, hTs1⟩ rfl (Nat.le_of_ble_eq_true rfl) ⟨f20, f22⟩ dX5_wayNow_135) hS (fun q z w => absurd w (Nat.not_le.mpr z)) hn (fun r_44 H locs hR hz hk hS => ?_)
  have fl6 := fl6.kept (hk _ fl6.lt (Nat.not_le.mpr fl6.lt))
  have fR6 := fR6.kept (hk _ fR6.lt (Nat.not_le.mpr fR6.lt))
  have el6 := el6.new hk
  have h0s := h0s.kept (hk _ h0s.lt (Nat.not_le.mpr h0s.lt))
  have h1s := h1s.kept (hk _ h1s.lt (Nat.not_le.mpr h1s.lt))
  have h2s := h2s.kept (hk _ h2s.lt (Nat.not_le.mpr h2s.lt))
  have f20 := f20.kept (hk _ f20.lt (Nat.not_le.mpr f20.lt))
  have f22 := f22.kept (hk _ f22.lt (Nat.not_le.mpr f22.lt))
  obtain ⟨q_f45, z9_, y9_, f45⟩ := hR
  have f45 := SM.sx f45
  have zr_f45 : s.heap.size ≤ r_44 := Nat.le_trans hZ0_ z9_
  refine lv_astore_n (pc := 138) (lv' := [(3, .ref r_44), (5, .long x_17), (0, .ref mo), (1, .int x), (2, .ref r_5), (4, .int y9)]) hx hb dX5_wayNow_138 rfl hl (by decide) rfl (fun ls hl => ?_)
  obtain ⟨x_46, ex_46⟩ : ∃ z9 : Int32, z9 = y9 + 1 := ⟨_, rfl⟩
  refine lv_iinc (pc := 139) (v := x_46) (lv' := [(4, .int x_46), (3, .ref r_44), (5, .long x_17), (0, .ref mo), (1, .int x), (2, .ref r_5)]) hx hb dX5_wayNow_139 hl (k := 5) rfl (by rw [ex_46]; rfl) (by decide) rfl (fun ls hl => ?_)
  refine lv_goto (pc := 142) (tgt := 32) hx hb dX5_wayNow_142 (by decide) ?_
  refine W.widen (k := 49 + 8 * (k + 1)) (n := 175 + m_wS (k + 1)) hWc1 hWs1 ?_
  exact ih_32  (k + 1) _ (E9 + (dgJ x_17 - 1))  r_44 x_46 (by omega) (by omega) (i_up hx9 ex_46) hEn (fun z9 => absurd z9 (by omega)) (by omega) _ _ _ hS fl6 fR6 el6 f45 (lv_sub hl [3, 4, 5, 1, 0] rfl)
set_option maxHeartbeats 20000000 in
set_option maxRecDepth 100000 in
theorem g2_X5_wayNow {p : Program} {l : Launch} {e : Env} {s : State} {m : MethodId} {args : Array Value} {below : List Frame} {meth : Method} {c : Code} {Q : State → Prop} {D : va_G} {tk : Nat → ClassId} {N0 : Nat} {sa : Nat → Nat} (E : CallFix p m c cX5_wayNow 7 s args (wsy yX5_wayNow cX5_wayNow 7 (some (.object "java/lang/String"))) RX5) (hC : Ctx D tk N0 sa s) (hA : ∀ q, (nwA s.heap.size) q → N0 ≤ q) (hn : ∀ q, s.heap.size ≤ q → (nwA s.heap.size) q) (hr : meth.sig.returnType = (some (.object "java/lang/String"))) (hlk : meth.locks = false) (P : Nat → Prop) (hPN : ∀ q, P q → N0 ≤ q) (mo : Nat) (n9 : Nat) (kn : Int32) (th : Int32) (tt : Nat → Int64) (bb : Nat → Int64) (eT : Int64) (eB : Int64) (oT : Int64) (oB : Int64) (pk : Nat) (ca : Int32) (rf : Int32) (vs : Nat → Value) (x : Int32) (k_x : Nat) (hx_x : x = nI k_x) (hk_x : k_x < 6) (nl6 : Nat) (bb6 : Nat) (cap6 : Nat) (ff6 : Nat → Option Nat) (ww6 : Nat → Value) (md6 : Int32) (T : Nat → Int) (u2 : T (nl6 + 1) = 0) (u3 : ∀ i, i < nl6 → ∃ x : Int64, ww6 i = .long x ∧ x.toInt * T (i + 1) + T (i + 2) = T i) (u4 : ∀ i, 1 ≤ i → i ≤ nl6 → 1 ≤ T i ∧ T i ≤ 1000000000) (hlm6 : nl6 ≤ 43) (r_5 : Nat) (v_24 : Nat) (qf20 : Nat) (x_17 : Int64) (n : Nat) (k : Nat) (l9 : Nat) (E9 : Nat) (q9 : Nat) (y9 : Int32) (hf9 : 44 - k < n + 1) (hk9 : k ≤ nl6) (hx9 : y9 = nI k) (hE9 : ((10 ^ E9 : Nat) : Int) * T k ≤ 1000000000) (hZ9 : (k = 0 → E9 = 0)) (hL8 : l9 ≤ 3 * k + E9) (ih_32 : ∀ (k : Nat) (l9 : Nat) (E9 : Nat)(q9 : Nat) (y9 : Int32), 44 - k < n → k ≤ nl6 → y9 = nI k → ((10 ^ E9 : Nat) : Int) * T k ≤ 1000000000 → (k = 0 → E9 = 0) → l9 ≤ 3 * k + E9 → ∀ (H : Heap) (locs : List Loc) (ls : Array Slot), va_S (nwA s.heap.size) s.heap H locs → c1 D r_5 (.inr (7, [.int md6, .ref bb6, .int (nI nl6)])) H → c1 D bb6 (.inl (tk 4, cap6, .inr (.inr (.inr (.inr (ff6)))))) H → EL D 3 nl6 ff6 ww6 H → SX D tk q9 l9 H → lv_has ls 7 [(0, .ref mo), (1, .int x), (2, .ref r_5), (3, .ref q9), (4, .int y9)] → W p l e ({ frames := 8, cells := 393, slots := 14193, locals := 186 } : Room) s m args below meth c H locs (49 + 8 * k) (175 + m_wS k) Q (F0 m 32 ls [])) (hd11 : dgJ x_17 ≤ 11) (hdl : 1 ≤ dgJ x_17) (hEn : ((10 ^ (E9 + (dgJ x_17 - 1)) : Nat) : Int) * T (k + 1) ≤ 1000000000) (hkn : k < nl6) (b0_ : Nat) (hcA : sbC 16 (0 + l9) ≤ 500000) (hcB : sbC (sbC 16 (0 + l9)) (0 + l9 + 1) ≤ 500000) (hcC : sbC (sbC (sbC 16 (0 + l9)) (0 + l9 + 1)) (0 + l9 + 1 + 1) ≤ 500000) (hcD : sbC (sbC (sbC (sbC 16 (0 + l9)) (0 + l9 + 1)) (0 + l9 + 1 + 1)) (0 + l9 + 1 + 1 + dgJ x_17) ≤ 100000000) (hTc1 : 49 + 8 * k + 0 + 0 + 0 + 0 + 0 + 1 + 1 + (sbK 16 (0 + l9)) + 0 + (sbK (sbC 16 (0 + l9)) ((0 + l9) + 1)) + (sbK (sbC (sbC 16 (0 + l9)) ((0 + l9) + 1)) (((0 + l9) + 1) + 1)) + (sbK (sbC (sbC (sbC 16 (0 + l9)) ((0 + l9) + 1)) (((0 + l9) + 1) + 1)) ((((0 + l9) + 1) + 1) + dgJ x_17)) + 2 ≤ 393) (hTs1 : 175 + m_wS k + 0 + 0 + 0 + 0 + 0 + 4 + 16 + (sbS 16 (0 + l9)) + 0 + (sbS (sbC 16 (0 + l9)) ((0 + l9) + 1)) + (sbS (sbC (sbC 16 (0 + l9)) ((0 + l9) + 1)) (((0 + l9) + 1) + 1)) + (sbS (sbC (sbC (sbC 16 (0 + l9)) ((0 + l9) + 1)) (((0 + l9) + 1) + 1)) ((((0 + l9) + 1) + 1) + dgJ x_17)) + (4 + ((((0 + l9) + 1) + 1) + dgJ x_17)) ≤ 14193) (hWc1 : 49 + 8 * k + 0 + 0 + 0 + 0 + 0 + 1 + 1 + (sbK 16 (0 + l9)) + 0 + (sbK (sbC 16 (0 + l9)) ((0 + l9) + 1)) + (sbK (sbC (sbC 16 (0 + l9)) ((0 + l9) + 1)) (((0 + l9) + 1) + 1)) + (sbK (sbC (sbC (sbC 16 (0 + l9)) ((0 + l9) + 1)) (((0 + l9) + 1) + 1)) ((((0 + l9) + 1) + 1) + dgJ x_17)) + 2 ≤ 49 + 8 * (k + 1)) (hWs1 : 175 + m_wS k + 0 + 0 + 0 + 0 + 0 + 4 + 16 + (sbS 16 (0 + l9)) + 0 + (sbS (sbC 16 (0 + l9)) ((0 + l9) + 1)) + (sbS (sbC (sbC 16 (0 + l9)) ((0 + l9) + 1)) (((0 + l9) + 1) + 1)) + (sbS (sbC (sbC (sbC 16 (0 + l9)) ((0 + l9) + 1)) (((0 + l9) + 1) + 1)) ((((0 + l9) + 1) + 1) + dgJ x_17)) + (4 + ((((0 + l9) + 1) + 1) + dgJ x_17)) ≤ 175 + m_wS (k + 1)) (hTc2 : 49 + 8 * k + 0 + 0 + 0 + 0 + 0 + 1 + 1 + (sbK 16 (0 + l9)) + 0 + (sbK (sbC 16 (0 + l9)) ((0 + l9) + 0)) + (sbK (sbC (sbC 16 (0 + l9)) ((0 + l9) + 0)) (((0 + l9) + 0) + 1)) + (sbK (sbC (sbC (sbC 16 (0 + l9)) ((0 + l9) + 0)) (((0 + l9) + 0) + 1)) ((((0 + l9) + 0) + 1) + dgJ x_17)) + 2 ≤ 393) (hTs2 : 175 + m_wS k + 0 + 0 + 0 + 0 + 0 + 4 + 16 + (sbS 16 (0 + l9)) + 0 + (sbS (sbC 16 (0 + l9)) ((0 + l9) + 0)) + (sbS (sbC (sbC 16 (0 + l9)) ((0 + l9) + 0)) (((0 + l9) + 0) + 1)) + (sbS (sbC (sbC (sbC 16 (0 + l9)) ((0 + l9) + 0)) (((0 + l9) + 0) + 1)) ((((0 + l9) + 0) + 1) + dgJ x_17)) + (4 + ((((0 + l9) + 0) + 1) + dgJ x_17)) ≤ 14193) (hWc2 : 49 + 8 * k + 0 + 0 + 0 + 0 + 0 + 1 + 1 + (sbK 16 (0 + l9)) + 0 + (sbK (sbC 16 (0 + l9)) ((0 + l9) + 0)) + (sbK (sbC (sbC 16 (0 + l9)) ((0 + l9) + 0)) (((0 + l9) + 0) + 1)) + (sbK (sbC (sbC (sbC 16 (0 + l9)) ((0 + l9) + 0)) (((0 + l9) + 0) + 1)) ((((0 + l9) + 0) + 1) + dgJ x_17)) + 2 ≤ 49 + 8 * (k + 1)) (hWs2 : 175 + m_wS k + 0 + 0 + 0 + 0 + 0 + 4 + 16 + (sbS 16 (0 + l9)) + 0 + (sbS (sbC 16 (0 + l9)) ((0 + l9) + 0)) + (sbS (sbC (sbC 16 (0 + l9)) ((0 + l9) + 0)) (((0 + l9) + 0) + 1)) + (sbS (sbC (sbC (sbC 16 (0 + l9)) ((0 + l9) + 0)) (((0 + l9) + 0) + 1)) ((((0 + l9) + 0) + 1) + dgJ x_17)) + (4 + ((((0 + l9) + 0) + 1) + dgJ x_17)) ≤ 175 + m_wS (k + 1)) (H : Heap) (locs : List Loc) (ls : Array Slot) (hS : va_S (nwA s.heap.size) s.heap H locs) (fl6 : c1 D r_5 (.inr (7, [.int md6, .ref bb6, .int (nI nl6)])) H) (fR6 : c1 D bb6 (.inl (tk 4, cap6, .inr (.inr (.inr (.inr (ff6)))))) H) (el6 : EL D 3 nl6 ff6 ww6 H) (h0s : xf D 0 q9 0 (.ref b0_) H) (h1s : xf D 0 q9 1 (.int 0) H) (h2s : BX tk b0_ l9 H) (f20 : c1 D qf20 (.inr (1, [.ref v_24, .int 0, .int 0, .int (nI (0 + l9))])) H) (f22 : BA D tk v_24 (sbC 16 (0 + l9)) H) (k27 : SX D tk (sa (10 + 8)) 1 H) (s_f20 : s.heap.size ≤ qf20) (g_f20 : (nwA s.heap.size) qf20) (g_f22 : (nwA s.heap.size) v_24) (l_f20_f22 : qf20 < v_24) (l_fR6_f20 : bb6 < qf20) (l_fR6_f22 : bb6 < v_24) (l_fl6_f20 : r_5 < qf20) (l_fl6_f22 : r_5 < v_24) (l_h0s_f20 : q9 < qf20) (l_h0s_f22 : q9 < v_24) (l_h1s_f20 : q9 < qf20) (l_h1s_f22 : q9 < v_24) (l_h2s_f20 : b0_ < qf20) (l_h2s_f22 : b0_ < v_24) (hl : lv_has ls 7 [(5, .long x_17), (0, .ref mo), (1, .int x), (2, .ref r_5), (3, .ref q9), (4, .int y9)]) : W p l e ({ frames := 8, cells := 393, slots := 14193, locals := 186 } : Room) s m args below meth c H locs (49 + 8 * k + 0 + 0 + 0 + 0 + 0 + 1 + 1 + (sbK 16 (0 + l9)) + 0) (175 + m_wS k + 0 + 0 + 0 + 0 + 0 + 4 + 16 + (sbS 16 (0 + l9)) + 0) Q (F0 m 108 ls [.ref (sa (10 + 8)), .ref qf20]) := by
  obtain ⟨hx, hb, -⟩ := id E
  have hZ0_ := hS.1
  have t_fl6 := fl6.lt
  have t_fR6 := fR6.lt
  have t_h0s := h0s.lt
  have t_h1s := h1s.lt
  have t_h2s := h2s.lt
  have t_f20 := f20.lt
  have t_f22 := f22.lt
  have t_k27 := k27.lt
  refine k_r (pc := 108) (k_V E hC hS hA hl.1 (c1.recv hC f20 rfl) rfl (c_J4_append_15ec4 l D tk N0 sa H.size qf20 v_24 (sbC 16 (0 + l9)) (0 + l9) (sa (10 + 8)) 1 0 (hA _ g_f20) (hA _ g_f22) (sbC_ge _ _).1 hcA (by decide)) kw_1353 kw_399 kw_400 kw_19 kw_401 (n := 1) (by decide +kernel) rfl ⟨⟨rfl, rfl⟩, ⟨Nat.le_of_ble_eq_true rfl, Nat.le_of_ble_eq_true rfl⟩, (pre1 (pre1 (pre1 hTc1))), (pre1 (pre1 (pre1 hTs1)))⟩ rfl (Nat.le_of_ble_eq_true rfl) ⟨f20, f22, k27⟩ dX5_wayNow_108) hS (inA2.to g_f20 g_f22) hn (fun r_28 H locs hR hz hk hS => ?_)
  have fl6 := fl6.kept (hk _ fl6.lt (inA2.not (clA.ne fl6.cl f20.cl (hC.oo 7 1 rfl rfl (by decide))) (clA.ne fl6.cl f22.cl (hC.oa 7 1 rfl rfl)) fl6.lt))
  have fR6 := fR6.kept (hk _ fR6.lt (inA2.not (clA.ne fR6.cla f20.cl (hC.ao 1 4 rfl rfl)) (clA.ne fR6.cla f22.cl (hC.aa 4 1 rfl rfl (by dsimp only; decide))) fR6.lt))
  have el6 := el6.keep2 hk (fun q9 h9 => clA.ne h9 f20.cl (hC.ceo (Or.inl rfl) 1 rfl (by decide))) (fun q9 h9 => clA.ne h9 f22.cl (hC.cea (Or.inl rfl) 1 rfl))
  have h0s := h0s.kept (hk _ h0s.lt (inA2.not (clA.ne h0s.cl f20.cl (hC.oo 0 1 rfl rfl (by decide))) (clA.ne h0s.cl f22.cl (hC.oa 0 1 rfl rfl)) h0s.lt))
  have h1s := h1s.kept (hk _ h1s.lt (inA2.not (clA.ne h1s.cl f20.cl (hC.oo 0 1 rfl rfl (by decide))) (clA.ne h1s.cl f22.cl (hC.oa 0 1 rfl rfl)) h1s.lt))
  have h2s := h2s.kept (hk _ h2s.lt (inA2.not (h2s.neo hC f20.cl (ci := 1) rfl) (Nat.ne_of_lt l_h2s_f22) h2s.lt))
  obtain ⟨er9, hR⟩ := hR
  rw [er9]
  obtain ⟨v_29, hv_29, f20, f22⟩ := hR
  have g_f22 := hv_29.elim (fun e9 => e9 ▸ g_f22) (fun z9 => hn _ (Nat.le_trans hZ0_ z9))
  have l_fl6_f22 : r_5 < v_29 := hv_29.elim (fun e9 => e9 ▸ l_fl6_f22) (fun z9 => Nat.lt_of_lt_of_le t_fl6 z9)
  have l_fR6_f22 : bb6 < v_29 := hv_29.elim (fun e9 => e9 ▸ l_fR6_f22) (fun z9 => Nat.lt_of_lt_of_le t_fR6 z9)
  have l_h0s_f22 : q9 < v_29 := hv_29.elim (fun e9 => e9 ▸ l_h0s_f22) (fun z9 => Nat.lt_of_lt_of_le t_h0s z9)
  have l_h1s_f22 : q9 < v_29 := hv_29.elim (fun e9 => e9 ▸ l_h1s_f22) (fun z9 => Nat.lt_of_lt_of_le t_h1s z9)
  have l_h2s_f22 : b0_ < v_29 := hv_29.elim (fun e9 => e9 ▸ l_h2s_f22) (fun z9 => Nat.lt_of_lt_of_le t_h2s z9)
  have l_f20_f22 : qf20 < v_29 := hv_29.elim (fun e9 => e9 ▸ l_f20_f22) (fun z9 => Nat.lt_of_lt_of_le t_f20 z9)
  have hv_29 := hv_29.imp_right (fun z9 => Nat.le_trans hZ0_ z9)
  refine lv_iload (pc := 111) hx hb dX5_wayNow_111 (lv_at hl 5 rfl) ?_
  refine lv_iconst (pc := 113) (v := 2) hx hb dX5_wayNow_113 (by decide) ?_
  refine lv_irem (pc := 114) hx hb dX5_wayNow_114 (by decide) ?_
  refine lv_if_ne (pc := 115) (tgt := 124) hx hb dX5_wayNow_115 (by decide) (fun c_30 => ?_) (fun c_30 => ?_)
  · refine r_ldcwS (pc := 124) E hC 11 _ rfl rfl rfl dX5_wayNow_124 ?_
    have k31 : SX D tk (sa (10 + 11)) 1 H := hC.str hS hA 11 _ rfl (by decide)
    exact g3_X5_wayNow E hC hA hn hr hlk P hPN mo n9 kn th tt bb eT eB oT oB pk ca rf vs x k_x hx_x hk_x nl6 bb6 cap6 ff6 ww6 md6 T u2 u3 u4 hlm6 r_5 v_29 qf20 x_17 n k l9 E9 q9 y9 hf9 hk9 hx9 hE9 hZ9 hL8 ih_32 hd11 hdl hEn hkn b0_ hcA hcB hcC hcD hTc1 hTs1 hWc1 hWs1 _ _ _ hS fl6 fR6 el6 h0s h1s h2s f20 f22 k31 s_f20 g_f20 g_f22 l_f20_f22 l_fR6_f20 l_fR6_f22 l_fl6_f20 l_fl6_f22 l_h0s_f20 l_h0s_f22 l_h1s_f20 l_h1s_f22 l_h2s_f20 l_h2s_f22 hl
  · refine r_ldcwS (pc := 118) E hC 10 _ rfl rfl rfl dX5_wayNow_118 ?_
    have k39 : SX D tk (sa (10 + 10)) 1 H := hC.str hS hA 10 _ rfl (by decide)
    refine lv_goto (pc := 121) (tgt := 127) hx hb dX5_wayNow_121 (by decide) ?_
    exact g4_X5_wayNow E hC hA hn hr hlk P hPN mo n9 kn th tt bb eT eB oT oB pk ca rf vs x k_x hx_x hk_x nl6 bb6 cap6 ff6 ww6 md6 T u2 u3 u4 hlm6 r_5 v_29 qf20 x_17 n k l9 E9 q9 y9 hf9 hk9 hx9 hE9 hZ9 hL8 ih_32 hd11 hdl hEn hkn b0_ hcA hcB hcC hcD hTc1 hTs1 hWc1 hWs1 _ _ _ hS fl6 fR6 el6 h0s h1s h2s f20 f22 k39 s_f20 g_f20 g_f22 l_f20_f22 l_fR6_f20 l_fR6_f22 l_fl6_f20 l_fl6_f22 l_h0s_f20 l_h0s_f22 l_h1s_f20 l_h1s_f22 l_h2s_f20 l_h2s_f22 hl
set_option maxHeartbeats 20000000 in
set_option maxRecDepth 100000 in
theorem g6_X5_wayNow {p : Program} {l : Launch} {e : Env} {s : State} {m : MethodId} {args : Array Value} {below : List Frame} {meth : Method} {c : Code} {Q : State → Prop} {D : va_G} {tk : Nat → ClassId} {N0 : Nat} {sa : Nat → Nat} (E : CallFix p m c cX5_wayNow 7 s args (wsy yX5_wayNow cX5_wayNow 7 (some (.object "java/lang/String"))) RX5) (hC : Ctx D tk N0 sa s) (hA : ∀ q, (nwA s.heap.size) q → N0 ≤ q) (hn : ∀ q, s.heap.size ≤ q → (nwA s.heap.size) q) (hr : meth.sig.returnType = (some (.object "java/lang/String"))) (hlk : meth.locks = false) (P : Nat → Prop) (hPN : ∀ q, P q → N0 ≤ q) (mo : Nat) (n9 : Nat) (kn : Int32) (th : Int32) (tt : Nat → Int64) (bb : Nat → Int64) (eT : Int64) (eB : Int64) (oT : Int64) (oB : Int64) (pk : Nat) (ca : Int32) (rf : Int32) (vs : Nat → Value) (x : Int32) (k_x : Nat) (hx_x : x = nI k_x) (hk_x : k_x < 6) (nl6 : Nat) (bb6 : Nat) (cap6 : Nat) (ff6 : Nat → Option Nat) (ww6 : Nat → Value) (md6 : Int32) (T : Nat → Int) (u2 : T (nl6 + 1) = 0) (u3 : ∀ i, i < nl6 → ∃ x : Int64, ww6 i = .long x ∧ x.toInt * T (i + 1) + T (i + 2) = T i) (u4 : ∀ i, 1 ≤ i → i ≤ nl6 → 1 ≤ T i ∧ T i ≤ 1000000000) (hlm6 : nl6 ≤ 43) (r_5 : Nat) (v_49 : Nat) (qf20 : Nat) (x_17 : Int64) (n : Nat) (k : Nat) (l9 : Nat) (E9 : Nat) (q9 : Nat) (y9 : Int32) (hf9 : 44 - k < n + 1) (hk9 : k ≤ nl6) (hx9 : y9 = nI k) (hE9 : ((10 ^ E9 : Nat) : Int) * T k ≤ 1000000000) (hZ9 : (k = 0 → E9 = 0)) (hL8 : l9 ≤ 3 * k + E9) (ih_32 : ∀ (k : Nat) (l9 : Nat) (E9 : Nat)(q9 : Nat) (y9 : Int32), 44 - k < n → k ≤ nl6 → y9 = nI k → ((10 ^ E9 : Nat) : Int) * T k ≤ 1000000000 → (k = 0 → E9 = 0) → l9 ≤ 3 * k + E9 → ∀ (H : Heap) (locs : List Loc) (ls : Array Slot), va_S (nwA s.heap.size) s.heap H locs → c1 D r_5 (.inr (7, [.int md6, .ref bb6, .int (nI nl6)])) H → c1 D bb6 (.inl (tk 4, cap6, .inr (.inr (.inr (.inr (ff6)))))) H → EL D 3 nl6 ff6 ww6 H → SX D tk q9 l9 H → lv_has ls 7 [(0, .ref mo), (1, .int x), (2, .ref r_5), (3, .ref q9), (4, .int y9)] → W p l e ({ frames := 8, cells := 393, slots := 14193, locals := 186 } : Room) s m args below meth c H locs (49 + 8 * k) (175 + m_wS k) Q (F0 m 32 ls [])) (hd11 : dgJ x_17 ≤ 11) (hdl : 1 ≤ dgJ x_17) (hEn : ((10 ^ (E9 + (dgJ x_17 - 1)) : Nat) : Int) * T (k + 1) ≤ 1000000000) (hkn : k < nl6) (b0_ : Nat) (hcA : sbC 16 (0 + l9) ≤ 500000) (hcB : sbC (sbC 16 (0 + l9)) (0 + l9 + 0) ≤ 500000) (hcC : sbC (sbC (sbC 16 (0 + l9)) (0 + l9 + 0)) (0 + l9 + 0 + 1) ≤ 500000) (hcD : sbC (sbC (sbC (sbC 16 (0 + l9)) (0 + l9 + 0)) (0 + l9 + 0 + 1)) (0 + l9 + 0 + 1 + dgJ x_17) ≤ 100000000) (hTc2 : 49 + 8 * k + 0 + 0 + 0 + 0 + 0 + 1 + 1 + (sbK 16 (0 + l9)) + 0 + (sbK (sbC 16 (0 + l9)) ((0 + l9) + 0)) + (sbK (sbC (sbC 16 (0 + l9)) ((0 + l9) + 0)) (((0 + l9) + 0) + 1)) + (sbK (sbC (sbC (sbC 16 (0 + l9)) ((0 + l9) + 0)) (((0 + l9) + 0) + 1)) ((((0 + l9) + 0) + 1) + dgJ x_17)) + 2 ≤ 393) (hTs2 : 175 + m_wS k + 0 + 0 + 0 + 0 + 0 + 4 + 16 + (sbS 16 (0 + l9)) + 0 + (sbS (sbC 16 (0 + l9)) ((0 + l9) + 0)) + (sbS (sbC (sbC 16 (0 + l9)) ((0 + l9) + 0)) (((0 + l9) + 0) + 1)) + (sbS (sbC (sbC (sbC 16 (0 + l9)) ((0 + l9) + 0)) (((0 + l9) + 0) + 1)) ((((0 + l9) + 0) + 1) + dgJ x_17)) + (4 + ((((0 + l9) + 0) + 1) + dgJ x_17)) ≤ 14193) (hWc2 : 49 + 8 * k + 0 + 0 + 0 + 0 + 0 + 1 + 1 + (sbK 16 (0 + l9)) + 0 + (sbK (sbC 16 (0 + l9)) ((0 + l9) + 0)) + (sbK (sbC (sbC 16 (0 + l9)) ((0 + l9) + 0)) (((0 + l9) + 0) + 1)) + (sbK (sbC (sbC (sbC 16 (0 + l9)) ((0 + l9) + 0)) (((0 + l9) + 0) + 1)) ((((0 + l9) + 0) + 1) + dgJ x_17)) + 2 ≤ 49 + 8 * (k + 1)) (hWs2 : 175 + m_wS k + 0 + 0 + 0 + 0 + 0 + 4 + 16 + (sbS 16 (0 + l9)) + 0 + (sbS (sbC 16 (0 + l9)) ((0 + l9) + 0)) + (sbS (sbC (sbC 16 (0 + l9)) ((0 + l9) + 0)) (((0 + l9) + 0) + 1)) + (sbS (sbC (sbC (sbC 16 (0 + l9)) ((0 + l9) + 0)) (((0 + l9) + 0) + 1)) ((((0 + l9) + 0) + 1) + dgJ x_17)) + (4 + ((((0 + l9) + 0) + 1) + dgJ x_17)) ≤ 175 + m_wS (k + 1)) (H : Heap) (locs : List Loc) (ls : Array Slot) (hS : va_S (nwA s.heap.size) s.heap H locs) (fl6 : c1 D r_5 (.inr (7, [.int md6, .ref bb6, .int (nI nl6)])) H) (fR6 : c1 D bb6 (.inl (tk 4, cap6, .inr (.inr (.inr (.inr (ff6)))))) H) (el6 : EL D 3 nl6 ff6 ww6 H) (h0s : xf D 0 q9 0 (.ref b0_) H) (h1s : xf D 0 q9 1 (.int 0) H) (h2s : BX tk b0_ l9 H) (f20 : c1 D qf20 (.inr (1, [.ref v_49, .int 0, .int 0, .int (nI ((0 + l9) + 0))])) H) (f22 : BA D tk v_49 (sbC (sbC 16 (0 + l9)) ((0 + l9) + 0)) H) (k51 : SX D tk (sa (10 + 11)) 1 H) (s_f20 : s.heap.size ≤ qf20) (g_f20 : (nwA s.heap.size) qf20) (g_f22 : (nwA s.heap.size) v_49) (l_f20_f22 : qf20 < v_49) (l_fR6_f20 : bb6 < qf20) (l_fR6_f22 : bb6 < v_49) (l_fl6_f20 : r_5 < qf20) (l_fl6_f22 : r_5 < v_49) (l_h0s_f20 : q9 < qf20) (l_h0s_f22 : q9 < v_49) (l_h1s_f20 : q9 < qf20) (l_h1s_f22 : q9 < v_49) (l_h2s_f20 : b0_ < qf20) (l_h2s_f22 : b0_ < v_49) (hl : lv_has ls 7 [(5, .long x_17), (0, .ref mo), (1, .int x), (2, .ref r_5), (3, .ref q9), (4, .int y9)]) : W p l e ({ frames := 8, cells := 393, slots := 14193, locals := 186 } : Room) s m args below meth c H locs (49 + 8 * k + 0 + 0 + 0 + 0 + 0 + 1 + 1 + (sbK 16 (0 + l9)) + 0 + (sbK (sbC 16 (0 + l9)) ((0 + l9) + 0))) (175 + m_wS k + 0 + 0 + 0 + 0 + 0 + 4 + 16 + (sbS 16 (0 + l9)) + 0 + (sbS (sbC 16 (0 + l9)) ((0 + l9) + 0))) Q (F0 m 127 ls [.ref (sa (10 + 11)), .ref qf20]) := by
  obtain ⟨hx, hb, -⟩ := id E
  have hZ0_ := hS.1
  have t_fl6 := fl6.lt
  have t_fR6 := fR6.lt
  have t_h0s := h0s.lt
  have t_h1s := h1s.lt
  have t_h2s := h2s.lt
  have t_f20 := f20.lt
  have t_f22 := f22.lt
  have t_k51 := k51.lt
  refine k_r (pc := 127) (k_V E hC hS hA hl.1 (c1.recv hC f20 rfl) rfl (c_J4_append_15ec4 l D tk N0 sa H.size qf20 v_49 (sbC (sbC 16 (0 + l9)) ((0 + l9) + 0)) ((0 + l9) + 0) (sa (10 + 11)) 1 0 (hA _ g_f20) (hA _ g_f22) (sbC_ge _ _).1 hcB (by decide)) kw_1353 kw_399 kw_400 kw_19 kw_401 (n := 1) (by decide +kernel) rfl ⟨⟨rfl, rfl⟩, ⟨Nat.le_of_ble_eq_true rfl, Nat.le_of_ble_eq_true rfl⟩, (pre1 (pre1 hTc2)), (pre1 (pre1 hTs2))⟩ rfl (Nat.le_of_ble_eq_true rfl) ⟨f20, f22, k51⟩ dX5_wayNow_127) hS (inA2.to g_f20 g_f22) hn (fun r_52 H locs hR hz hk hS => ?_)
  have fl6 := fl6.kept (hk _ fl6.lt (inA2.not (clA.ne fl6.cl f20.cl (hC.oo 7 1 rfl rfl (by decide))) (clA.ne fl6.cl f22.cl (hC.oa 7 1 rfl rfl)) fl6.lt))
  have fR6 := fR6.kept (hk _ fR6.lt (inA2.not (clA.ne fR6.cla f20.cl (hC.ao 1 4 rfl rfl)) (clA.ne fR6.cla f22.cl (hC.aa 4 1 rfl rfl (by dsimp only; decide))) fR6.lt))
  have el6 := el6.keep2 hk (fun q9 h9 => clA.ne h9 f20.cl (hC.ceo (Or.inl rfl) 1 rfl (by decide))) (fun q9 h9 => clA.ne h9 f22.cl (hC.cea (Or.inl rfl) 1 rfl))
  have h0s := h0s.kept (hk _ h0s.lt (inA2.not (clA.ne h0s.cl f20.cl (hC.oo 0 1 rfl rfl (by decide))) (clA.ne h0s.cl f22.cl (hC.oa 0 1 rfl rfl)) h0s.lt))
  have h1s := h1s.kept (hk _ h1s.lt (inA2.not (clA.ne h1s.cl f20.cl (hC.oo 0 1 rfl rfl (by decide))) (clA.ne h1s.cl f22.cl (hC.oa 0 1 rfl rfl)) h1s.lt))
  have h2s := h2s.kept (hk _ h2s.lt (inA2.not (h2s.neo hC f20.cl (ci := 1) rfl) (Nat.ne_of_lt l_h2s_f22) h2s.lt))
  obtain ⟨er9, hR⟩ := hR
  rw [er9]
  obtain ⟨v_53, hv_53, f20, f22⟩ := hR
  have g_f22 := hv_53.elim (fun e9 => e9 ▸ g_f22) (fun z9 => hn _ (Nat.le_trans hZ0_ z9))
  have l_fl6_f22 : r_5 < v_53 := hv_53.elim (fun e9 => e9 ▸ l_fl6_f22) (fun z9 => Nat.lt_of_lt_of_le t_fl6 z9)
  have l_fR6_f22 : bb6 < v_53 := hv_53.elim (fun e9 => e9 ▸ l_fR6_f22) (fun z9 => Nat.lt_of_lt_of_le t_fR6 z9)
  have l_h0s_f22 : q9 < v_53 := hv_53.elim (fun e9 => e9 ▸ l_h0s_f22) (fun z9 => Nat.lt_of_lt_of_le t_h0s z9)
  have l_h1s_f22 : q9 < v_53 := hv_53.elim (fun e9 => e9 ▸ l_h1s_f22) (fun z9 => Nat.lt_of_lt_of_le t_h1s z9)
  have l_h2s_f22 : b0_ < v_53 := hv_53.elim (fun e9 => e9 ▸ l_h2s_f22) (fun z9 => Nat.lt_of_lt_of_le t_h2s z9)
  have l_f20_f22 : qf20 < v_53 := hv_53.elim (fun e9 => e9 ▸ l_f20_f22) (fun z9 => Nat.lt_of_lt_of_le t_f20 z9)
  have hv_53 := hv_53.imp_right (fun z9 => Nat.le_trans hZ0_ z9)
  refine lv_lload (pc := 130) hx hb dX5_wayNow_130 (lv_at hl 0 rfl) ?_
  have hZ0_ := hS.1
  have t_fl6 := fl6.lt
  have t_fR6 := fR6.lt
  have t_h0s := h0s.lt
  have t_h1s := h1s.lt
  have t_h2s := h2s.lt
  have t_f20 := f20.lt
  have t_f22 := f22.lt
  refine k_r (pc := 132) (k_V E hC hS hA hl.1 (c1.recv hC f20 rfl) rfl (c_J4_append_f7089 l D tk N0 sa H.size qf20 v_53 (sbC (sbC (sbC 16 (0 + l9)) ((0 + l9) + 0)) (((0 + l9) + 0) + 1)) (((0 + l9) + 0) + 1) 0 x_17 (hA _ g_f20) (hA _ g_f22) (sbC_ge _ _).1 hcC) kw_1354 kw_1355 kw_1356 kw_19 kw_1357 (n := 1) (by decide +kernel) rfl ⟨⟨rfl, rfl⟩, ⟨Nat.le_of_ble_eq_true rfl, Nat.le_of_ble_eq_true rfl⟩, (pre1 hTc2), (pre1 hTs2)⟩ rfl (Nat.le_of_ble_eq_true rfl) ⟨f20, f22⟩ dX5_wayNow_132) hS (inA2.to g_f20 g_f22) hn (fun r_54 H locs hR hz hk hS => ?_)
  have fl6 := fl6.kept (hk _ fl6.lt (inA2.not (clA.ne fl6.cl f20.cl (hC.oo 7 1 rfl rfl (by decide))) (clA.ne fl6.cl f22.cl (hC.oa 7 1 rfl rfl)) fl6.lt))
  have fR6 := fR6.kept (hk _ fR6.lt (inA2.not (clA.ne fR6.cla f20.cl (hC.ao 1 4 rfl rfl)) (clA.ne fR6.cla f22.cl (hC.aa 4 1 rfl rfl (by dsimp only; decide))) fR6.lt))
  have el6 := el6.keep2 hk (fun q9 h9 => clA.ne h9 f20.cl (hC.ceo (Or.inl rfl) 1 rfl (by decide))) (fun q9 h9 => clA.ne h9 f22.cl (hC.cea (Or.inl rfl) 1 rfl))
  have h0s := h0s.kept (hk _ h0s.lt (inA2.not (clA.ne h0s.cl f20.cl (hC.oo 0 1 rfl rfl (by decide))) (clA.ne h0s.cl f22.cl (hC.oa 0 1 rfl rfl)) h0s.lt))
  have h1s := h1s.kept (hk _ h1s.lt (inA2.not (clA.ne h1s.cl f20.cl (hC.oo 0 1 rfl rfl (by decide))) (clA.ne h1s.cl f22.cl (hC.oa 0 1 rfl rfl)) h1s.lt))
  have h2s := h2s.kept (hk _ h2s.lt (inA2.not (h2s.neo hC f20.cl (ci := 1) rfl) (Nat.ne_of_lt l_h2s_f22) h2s.lt))
  obtain ⟨er9, hR⟩ := hR
  rw [er9]
  obtain ⟨v_55, hv_55, f20, f22⟩ := hR
  have g_f22 := hv_55.elim (fun e9 => e9 ▸ g_f22) (fun z9 => hn _ (Nat.le_trans hZ0_ z9))
  have l_fl6_f22 : r_5 < v_55 := hv_55.elim (fun e9 => e9 ▸ l_fl6_f22) (fun z9 => Nat.lt_of_lt_of_le t_fl6 z9)
  have l_fR6_f22 : bb6 < v_55 := hv_55.elim (fun e9 => e9 ▸ l_fR6_f22) (fun z9 => Nat.lt_of_lt_of_le t_fR6 z9)
  have l_h0s_f22 : q9 < v_55 := hv_55.elim (fun e9 => e9 ▸ l_h0s_f22) (fun z9 => Nat.lt_of_lt_of_le t_h0s z9)
  have l_h1s_f22 : q9 < v_55 := hv_55.elim (fun e9 => e9 ▸ l_h1s_f22) (fun z9 => Nat.lt_of_lt_of_le t_h1s z9)
  have l_h2s_f22 : b0_ < v_55 := hv_55.elim (fun e9 => e9 ▸ l_h2s_f22) (fun z9 => Nat.lt_of_lt_of_le t_h2s z9)
  have l_f20_f22 : qf20 < v_55 := hv_55.elim (fun e9 => e9 ▸ l_f20_f22) (fun z9 => Nat.lt_of_lt_of_le t_f20 z9)
  have hv_55 := hv_55.imp_right (fun z9 => Nat.le_trans hZ0_ z9)
  have hv_55 := hv_55.elim (fun e9 => e9 ▸ hv_53) Or.inr
  have hZ0_ := hS.1
  have t_fl6 := fl6.lt
  have t_fR6 := fR6.lt
  have t_h0s := h0s.lt
  have t_h1s := h1s.lt
  have t_h2s := h2s.lt
  have t_f20 := f20.lt
  have t_f22 := f22.lt
  refine k_r (pc := 135) (k_V E hC hS hA hl.1 (c1.recv hC f20 rfl) rfl (c_J4_toString_0e30d l D tk N0 sa H.size qf20 v_55 (sbC (sbC (sbC (sbC 16 (0 + l9)) ((0 + l9) + 0)) (((0 + l9) + 0) + 1)) ((((0 + l9) + 0) + 1) + dgJ x_17)) ((((0 + l9) + 0) + 1) + dgJ x_17) 0 (sbC_ge _ _).1 hcD) kw_1381 kw_316 kw_317 kw_19 kw_318 (n := 0) (by decide +kernel) rfl ⟨⟨rfl, rfl⟩, ⟨Nat.le_of_ble_eq_true rfl, Nat.le_of_ble_eq_true rfl⟩, hTc2, hTs2⟩ rfl (Nat.le_of_ble_eq_true rfl) ⟨f20, f22⟩ dX5_wayNow_135) hS (fun q z w => absurd w (Nat.not_le.mpr z)) hn (fun r_56 H locs hR hz hk hS => ?_)
  have fl6 := fl6.kept (hk _ fl6.lt (Nat.not_le.mpr fl6.lt))
  have fR6 := fR6.kept (hk _ fR6.lt (Nat.not_le.mpr fR6.lt))
  have el6 := el6.new hk
  have h0s := h0s.kept (hk _ h0s.lt (Nat.not_le.mpr h0s.lt))
  have h1s := h1s.kept (hk _ h1s.lt (Nat.not_le.mpr h1s.lt))
  have h2s := h2s.kept (hk _ h2s.lt (Nat.not_le.mpr h2s.lt))
  have f20 := f20.kept (hk _ f20.lt (Nat.not_le.mpr f20.lt))
  have f22 := f22.kept (hk _ f22.lt (Nat.not_le.mpr f22.lt))
  obtain ⟨q_f57, z9_, y9_, f57⟩ := hR
  have f57 := SM.sx f57
  have zr_f57 : s.heap.size ≤ r_56 := Nat.le_trans hZ0_ z9_
  refine lv_astore_n (pc := 138) (lv' := [(3, .ref r_56), (5, .long x_17), (0, .ref mo), (1, .int x), (2, .ref r_5), (4, .int y9)]) hx hb dX5_wayNow_138 rfl hl (by decide) rfl (fun ls hl => ?_)
  obtain ⟨x_58, ex_58⟩ : ∃ z9 : Int32, z9 = y9 + 1 := ⟨_, rfl⟩
  refine lv_iinc (pc := 139) (v := x_58) (lv' := [(4, .int x_58), (3, .ref r_56), (5, .long x_17), (0, .ref mo), (1, .int x), (2, .ref r_5)]) hx hb dX5_wayNow_139 hl (k := 5) rfl (by rw [ex_58]; rfl) (by decide) rfl (fun ls hl => ?_)
  refine lv_goto (pc := 142) (tgt := 32) hx hb dX5_wayNow_142 (by decide) ?_
  refine W.widen (k := 49 + 8 * (k + 1)) (n := 175 + m_wS (k + 1)) hWc2 hWs2 ?_
  exact ih_32  (k + 1) _ (E9 + (dgJ x_17 - 1))  r_56 x_58 (by omega) (by omega) (i_up hx9 ex_58) hEn (fun z9 => absurd z9 (by omega)) (by omega) _ _ _ hS fl6 fR6 el6 f57 (lv_sub hl [3, 4, 5, 1, 0] rfl)
set_option maxHeartbeats 20000000 in
set_option maxRecDepth 100000 in
theorem g7_X5_wayNow {p : Program} {l : Launch} {e : Env} {s : State} {m : MethodId} {args : Array Value} {below : List Frame} {meth : Method} {c : Code} {Q : State → Prop} {D : va_G} {tk : Nat → ClassId} {N0 : Nat} {sa : Nat → Nat} (E : CallFix p m c cX5_wayNow 7 s args (wsy yX5_wayNow cX5_wayNow 7 (some (.object "java/lang/String"))) RX5) (hC : Ctx D tk N0 sa s) (hA : ∀ q, (nwA s.heap.size) q → N0 ≤ q) (hn : ∀ q, s.heap.size ≤ q → (nwA s.heap.size) q) (hr : meth.sig.returnType = (some (.object "java/lang/String"))) (hlk : meth.locks = false) (P : Nat → Prop) (hPN : ∀ q, P q → N0 ≤ q) (mo : Nat) (n9 : Nat) (kn : Int32) (th : Int32) (tt : Nat → Int64) (bb : Nat → Int64) (eT : Int64) (eB : Int64) (oT : Int64) (oB : Int64) (pk : Nat) (ca : Int32) (rf : Int32) (vs : Nat → Value) (x : Int32) (k_x : Nat) (hx_x : x = nI k_x) (hk_x : k_x < 6) (nl6 : Nat) (bb6 : Nat) (cap6 : Nat) (ff6 : Nat → Option Nat) (ww6 : Nat → Value) (md6 : Int32) (T : Nat → Int) (u2 : T (nl6 + 1) = 0) (u3 : ∀ i, i < nl6 → ∃ x : Int64, ww6 i = .long x ∧ x.toInt * T (i + 1) + T (i + 2) = T i) (u4 : ∀ i, 1 ≤ i → i ≤ nl6 → 1 ≤ T i ∧ T i ≤ 1000000000) (hlm6 : nl6 ≤ 43) (r_5 : Nat) (v_49 : Nat) (qf20 : Nat) (x_17 : Int64) (n : Nat) (k : Nat) (l9 : Nat) (E9 : Nat) (q9 : Nat) (y9 : Int32) (hf9 : 44 - k < n + 1) (hk9 : k ≤ nl6) (hx9 : y9 = nI k) (hE9 : ((10 ^ E9 : Nat) : Int) * T k ≤ 1000000000) (hZ9 : (k = 0 → E9 = 0)) (hL8 : l9 ≤ 3 * k + E9) (ih_32 : ∀ (k : Nat) (l9 : Nat) (E9 : Nat)(q9 : Nat) (y9 : Int32), 44 - k < n → k ≤ nl6 → y9 = nI k → ((10 ^ E9 : Nat) : Int) * T k ≤ 1000000000 → (k = 0 → E9 = 0) → l9 ≤ 3 * k + E9 → ∀ (H : Heap) (locs : List Loc) (ls : Array Slot), va_S (nwA s.heap.size) s.heap H locs → c1 D r_5 (.inr (7, [.int md6, .ref bb6, .int (nI nl6)])) H → c1 D bb6 (.inl (tk 4, cap6, .inr (.inr (.inr (.inr (ff6)))))) H → EL D 3 nl6 ff6 ww6 H → SX D tk q9 l9 H → lv_has ls 7 [(0, .ref mo), (1, .int x), (2, .ref r_5), (3, .ref q9), (4, .int y9)] → W p l e ({ frames := 8, cells := 393, slots := 14193, locals := 186 } : Room) s m args below meth c H locs (49 + 8 * k) (175 + m_wS k) Q (F0 m 32 ls [])) (hd11 : dgJ x_17 ≤ 11) (hdl : 1 ≤ dgJ x_17) (hEn : ((10 ^ (E9 + (dgJ x_17 - 1)) : Nat) : Int) * T (k + 1) ≤ 1000000000) (hkn : k < nl6) (b0_ : Nat) (hcA : sbC 16 (0 + l9) ≤ 500000) (hcB : sbC (sbC 16 (0 + l9)) (0 + l9 + 0) ≤ 500000) (hcC : sbC (sbC (sbC 16 (0 + l9)) (0 + l9 + 0)) (0 + l9 + 0 + 1) ≤ 500000) (hcD : sbC (sbC (sbC (sbC 16 (0 + l9)) (0 + l9 + 0)) (0 + l9 + 0 + 1)) (0 + l9 + 0 + 1 + dgJ x_17) ≤ 100000000) (hTc2 : 49 + 8 * k + 0 + 0 + 0 + 0 + 0 + 1 + 1 + (sbK 16 (0 + l9)) + 0 + (sbK (sbC 16 (0 + l9)) ((0 + l9) + 0)) + (sbK (sbC (sbC 16 (0 + l9)) ((0 + l9) + 0)) (((0 + l9) + 0) + 1)) + (sbK (sbC (sbC (sbC 16 (0 + l9)) ((0 + l9) + 0)) (((0 + l9) + 0) + 1)) ((((0 + l9) + 0) + 1) + dgJ x_17)) + 2 ≤ 393) (hTs2 : 175 + m_wS k + 0 + 0 + 0 + 0 + 0 + 4 + 16 + (sbS 16 (0 + l9)) + 0 + (sbS (sbC 16 (0 + l9)) ((0 + l9) + 0)) + (sbS (sbC (sbC 16 (0 + l9)) ((0 + l9) + 0)) (((0 + l9) + 0) + 1)) + (sbS (sbC (sbC (sbC 16 (0 + l9)) ((0 + l9) + 0)) (((0 + l9) + 0) + 1)) ((((0 + l9) + 0) + 1) + dgJ x_17)) + (4 + ((((0 + l9) + 0) + 1) + dgJ x_17)) ≤ 14193) (hWc2 : 49 + 8 * k + 0 + 0 + 0 + 0 + 0 + 1 + 1 + (sbK 16 (0 + l9)) + 0 + (sbK (sbC 16 (0 + l9)) ((0 + l9) + 0)) + (sbK (sbC (sbC 16 (0 + l9)) ((0 + l9) + 0)) (((0 + l9) + 0) + 1)) + (sbK (sbC (sbC (sbC 16 (0 + l9)) ((0 + l9) + 0)) (((0 + l9) + 0) + 1)) ((((0 + l9) + 0) + 1) + dgJ x_17)) + 2 ≤ 49 + 8 * (k + 1)) (hWs2 : 175 + m_wS k + 0 + 0 + 0 + 0 + 0 + 4 + 16 + (sbS 16 (0 + l9)) + 0 + (sbS (sbC 16 (0 + l9)) ((0 + l9) + 0)) + (sbS (sbC (sbC 16 (0 + l9)) ((0 + l9) + 0)) (((0 + l9) + 0) + 1)) + (sbS (sbC (sbC (sbC 16 (0 + l9)) ((0 + l9) + 0)) (((0 + l9) + 0) + 1)) ((((0 + l9) + 0) + 1) + dgJ x_17)) + (4 + ((((0 + l9) + 0) + 1) + dgJ x_17)) ≤ 175 + m_wS (k + 1)) (H : Heap) (locs : List Loc) (ls : Array Slot) (hS : va_S (nwA s.heap.size) s.heap H locs) (fl6 : c1 D r_5 (.inr (7, [.int md6, .ref bb6, .int (nI nl6)])) H) (fR6 : c1 D bb6 (.inl (tk 4, cap6, .inr (.inr (.inr (.inr (ff6)))))) H) (el6 : EL D 3 nl6 ff6 ww6 H) (h0s : xf D 0 q9 0 (.ref b0_) H) (h1s : xf D 0 q9 1 (.int 0) H) (h2s : BX tk b0_ l9 H) (f20 : c1 D qf20 (.inr (1, [.ref v_49, .int 0, .int 0, .int (nI ((0 + l9) + 0))])) H) (f22 : BA D tk v_49 (sbC (sbC 16 (0 + l9)) ((0 + l9) + 0)) H) (k59 : SX D tk (sa (10 + 10)) 1 H) (s_f20 : s.heap.size ≤ qf20) (g_f20 : (nwA s.heap.size) qf20) (g_f22 : (nwA s.heap.size) v_49) (l_f20_f22 : qf20 < v_49) (l_fR6_f20 : bb6 < qf20) (l_fR6_f22 : bb6 < v_49) (l_fl6_f20 : r_5 < qf20) (l_fl6_f22 : r_5 < v_49) (l_h0s_f20 : q9 < qf20) (l_h0s_f22 : q9 < v_49) (l_h1s_f20 : q9 < qf20) (l_h1s_f22 : q9 < v_49) (l_h2s_f20 : b0_ < qf20) (l_h2s_f22 : b0_ < v_49) (hl : lv_has ls 7 [(5, .long x_17), (0, .ref mo), (1, .int x), (2, .ref r_5), (3, .ref q9), (4, .int y9)]) : W p l e ({ frames := 8, cells := 393, slots := 14193, locals := 186 } : Room) s m args below meth c H locs (49 + 8 * k + 0 + 0 + 0 + 0 + 0 + 1 + 1 + (sbK 16 (0 + l9)) + 0 + (sbK (sbC 16 (0 + l9)) ((0 + l9) + 0))) (175 + m_wS k + 0 + 0 + 0 + 0 + 0 + 4 + 16 + (sbS 16 (0 + l9)) + 0 + (sbS (sbC 16 (0 + l9)) ((0 + l9) + 0))) Q (F0 m 127 ls [.ref (sa (10 + 10)), .ref qf20]) := by
  obtain ⟨hx, hb, -⟩ := id E
  have hZ0_ := hS.1
  have t_fl6 := fl6.lt
  have t_fR6 := fR6.lt
  have t_h0s := h0s.lt
  have t_h1s := h1s.lt
  have t_h2s := h2s.lt
  have t_f20 := f20.lt
  have t_f22 := f22.lt
  have t_k59 := k59.lt
  refine k_r (pc := 127) (k_V E hC hS hA hl.1 (c1.recv hC f20 rfl) rfl (c_J4_append_15ec4 l D tk N0 sa H.size qf20 v_49 (sbC (sbC 16 (0 + l9)) ((0 + l9) + 0)) ((0 + l9) + 0) (sa (10 + 10)) 1 0 (hA _ g_f20) (hA _ g_f22) (sbC_ge _ _).1 hcB (by decide)) kw_1353 kw_399 kw_400 kw_19 kw_401 (n := 1) (by decide +kernel) rfl ⟨⟨rfl, rfl⟩, ⟨Nat.le_of_ble_eq_true rfl, Nat.le_of_ble_eq_true rfl⟩, (pre1 (pre1 hTc2)), (pre1 (pre1 hTs2))⟩ rfl (Nat.le_of_ble_eq_true rfl) ⟨f20, f22, k59⟩ dX5_wayNow_127) hS (inA2.to g_f20 g_f22) hn (fun r_60 H locs hR hz hk hS => ?_)
  have fl6 := fl6.kept (hk _ fl6.lt (inA2.not (clA.ne fl6.cl f20.cl (hC.oo 7 1 rfl rfl (by decide))) (clA.ne fl6.cl f22.cl (hC.oa 7 1 rfl rfl)) fl6.lt))
  have fR6 := fR6.kept (hk _ fR6.lt (inA2.not (clA.ne fR6.cla f20.cl (hC.ao 1 4 rfl rfl)) (clA.ne fR6.cla f22.cl (hC.aa 4 1 rfl rfl (by dsimp only; decide))) fR6.lt))
  have el6 := el6.keep2 hk (fun q9 h9 => clA.ne h9 f20.cl (hC.ceo (Or.inl rfl) 1 rfl (by decide))) (fun q9 h9 => clA.ne h9 f22.cl (hC.cea (Or.inl rfl) 1 rfl))
  have h0s := h0s.kept (hk _ h0s.lt (inA2.not (clA.ne h0s.cl f20.cl (hC.oo 0 1 rfl rfl (by decide))) (clA.ne h0s.cl f22.cl (hC.oa 0 1 rfl rfl)) h0s.lt))
  have h1s := h1s.kept (hk _ h1s.lt (inA2.not (clA.ne h1s.cl f20.cl (hC.oo 0 1 rfl rfl (by decide))) (clA.ne h1s.cl f22.cl (hC.oa 0 1 rfl rfl)) h1s.lt))
  have h2s := h2s.kept (hk _ h2s.lt (inA2.not (h2s.neo hC f20.cl (ci := 1) rfl) (Nat.ne_of_lt l_h2s_f22) h2s.lt))
  obtain ⟨er9, hR⟩ := hR
  rw [er9]
  obtain ⟨v_61, hv_61, f20, f22⟩ := hR
  have g_f22 := hv_61.elim (fun e9 => e9 ▸ g_f22) (fun z9 => hn _ (Nat.le_trans hZ0_ z9))
  have l_fl6_f22 : r_5 < v_61 := hv_61.elim (fun e9 => e9 ▸ l_fl6_f22) (fun z9 => Nat.lt_of_lt_of_le t_fl6 z9)
  have l_fR6_f22 : bb6 < v_61 := hv_61.elim (fun e9 => e9 ▸ l_fR6_f22) (fun z9 => Nat.lt_of_lt_of_le t_fR6 z9)
  have l_h0s_f22 : q9 < v_61 := hv_61.elim (fun e9 => e9 ▸ l_h0s_f22) (fun z9 => Nat.lt_of_lt_of_le t_h0s z9)
  have l_h1s_f22 : q9 < v_61 := hv_61.elim (fun e9 => e9 ▸ l_h1s_f22) (fun z9 => Nat.lt_of_lt_of_le t_h1s z9)
  have l_h2s_f22 : b0_ < v_61 := hv_61.elim (fun e9 => e9 ▸ l_h2s_f22) (fun z9 => Nat.lt_of_lt_of_le t_h2s z9)
  have l_f20_f22 : qf20 < v_61 := hv_61.elim (fun e9 => e9 ▸ l_f20_f22) (fun z9 => Nat.lt_of_lt_of_le t_f20 z9)
  have hv_61 := hv_61.imp_right (fun z9 => Nat.le_trans hZ0_ z9)
  refine lv_lload (pc := 130) hx hb dX5_wayNow_130 (lv_at hl 0 rfl) ?_
  have hZ0_ := hS.1
  have t_fl6 := fl6.lt
  have t_fR6 := fR6.lt
  have t_h0s := h0s.lt
  have t_h1s := h1s.lt
  have t_h2s := h2s.lt
  have t_f20 := f20.lt
  have t_f22 := f22.lt
  refine k_r (pc := 132) (k_V E hC hS hA hl.1 (c1.recv hC f20 rfl) rfl (c_J4_append_f7089 l D tk N0 sa H.size qf20 v_61 (sbC (sbC (sbC 16 (0 + l9)) ((0 + l9) + 0)) (((0 + l9) + 0) + 1)) (((0 + l9) + 0) + 1) 0 x_17 (hA _ g_f20) (hA _ g_f22) (sbC_ge _ _).1 hcC) kw_1354 kw_1355 kw_1356 kw_19 kw_1357 (n := 1) (by decide +kernel) rfl ⟨⟨rfl, rfl⟩, ⟨Nat.le_of_ble_eq_true rfl, Nat.le_of_ble_eq_true rfl⟩, (pre1 hTc2), (pre1 hTs2)⟩ rfl (Nat.le_of_ble_eq_true rfl) ⟨f20, f22⟩ dX5_wayNow_132) hS (inA2.to g_f20 g_f22) hn (fun r_62 H locs hR hz hk hS => ?_)
  have fl6 := fl6.kept (hk _ fl6.lt (inA2.not (clA.ne fl6.cl f20.cl (hC.oo 7 1 rfl rfl (by decide))) (clA.ne fl6.cl f22.cl (hC.oa 7 1 rfl rfl)) fl6.lt))
  have fR6 := fR6.kept (hk _ fR6.lt (inA2.not (clA.ne fR6.cla f20.cl (hC.ao 1 4 rfl rfl)) (clA.ne fR6.cla f22.cl (hC.aa 4 1 rfl rfl (by dsimp only; decide))) fR6.lt))
  have el6 := el6.keep2 hk (fun q9 h9 => clA.ne h9 f20.cl (hC.ceo (Or.inl rfl) 1 rfl (by decide))) (fun q9 h9 => clA.ne h9 f22.cl (hC.cea (Or.inl rfl) 1 rfl))
  have h0s := h0s.kept (hk _ h0s.lt (inA2.not (clA.ne h0s.cl f20.cl (hC.oo 0 1 rfl rfl (by decide))) (clA.ne h0s.cl f22.cl (hC.oa 0 1 rfl rfl)) h0s.lt))
  have h1s := h1s.kept (hk _ h1s.lt (inA2.not (clA.ne h1s.cl f20.cl (hC.oo 0 1 rfl rfl (by decide))) (clA.ne h1s.cl f22.cl (hC.oa 0 1 rfl rfl)) h1s.lt))
  have h2s := h2s.kept (hk _ h2s.lt (inA2.not (h2s.neo hC f20.cl (ci := 1) rfl) (Nat.ne_of_lt l_h2s_f22) h2s.lt))
  obtain ⟨er9, hR⟩ := hR
  rw [er9]
  obtain ⟨v_63, hv_63, f20, f22⟩ := hR
  have g_f22 := hv_63.elim (fun e9 => e9 ▸ g_f22) (fun z9 => hn _ (Nat.le_trans hZ0_ z9))
  have l_fl6_f22 : r_5 < v_63 := hv_63.elim (fun e9 => e9 ▸ l_fl6_f22) (fun z9 => Nat.lt_of_lt_of_le t_fl6 z9)
  have l_fR6_f22 : bb6 < v_63 := hv_63.elim (fun e9 => e9 ▸ l_fR6_f22) (fun z9 => Nat.lt_of_lt_of_le t_fR6 z9)
  have l_h0s_f22 : q9 < v_63 := hv_63.elim (fun e9 => e9 ▸ l_h0s_f22) (fun z9 => Nat.lt_of_lt_of_le t_h0s z9)
  have l_h1s_f22 : q9 < v_63 := hv_63.elim (fun e9 => e9 ▸ l_h1s_f22) (fun z9 => Nat.lt_of_lt_of_le t_h1s z9)
  have l_h2s_f22 : b0_ < v_63 := hv_63.elim (fun e9 => e9 ▸ l_h2s_f22) (fun z9 => Nat.lt_of_lt_of_le t_h2s z9)
  have l_f20_f22 : qf20 < v_63 := hv_63.elim (fun e9 => e9 ▸ l_f20_f22) (fun z9 => Nat.lt_of_lt_of_le t_f20 z9)
  have hv_63 := hv_63.imp_right (fun z9 => Nat.le_trans hZ0_ z9)
  have hv_63 := hv_63.elim (fun e9 => e9 ▸ hv_61) Or.inr
  have hZ0_ := hS.1
  have t_fl6 := fl6.lt
  have t_fR6 := fR6.lt
  have t_h0s := h0s.lt
  have t_h1s := h1s.lt
  have t_h2s := h2s.lt
  have t_f20 := f20.lt
  have t_f22 := f22.lt
  refine k_r (pc := 135) (k_V E hC hS hA hl.1 (c1.recv hC f20 rfl) rfl (c_J4_toString_0e30d l D tk N0 sa H.size qf20 v_63 (sbC (sbC (sbC (sbC 16 (0 + l9)) ((0 + l9) + 0)) (((0 + l9) + 0) + 1)) ((((0 + l9) + 0) + 1) + dgJ x_17)) ((((0 + l9) + 0) + 1) + dgJ x_17) 0 (sbC_ge _ _).1 hcD) kw_1381 kw_316 kw_317 kw_19 kw_318 (n := 0) (by decide +kernel) rfl ⟨⟨rfl, rfl⟩, ⟨Nat.le_of_ble_eq_true rfl, Nat.le_of_ble_eq_true rfl⟩, hTc2, hTs2⟩ rfl (Nat.le_of_ble_eq_true rfl) ⟨f20, f22⟩ dX5_wayNow_135) hS (fun q z w => absurd w (Nat.not_le.mpr z)) hn (fun r_64 H locs hR hz hk hS => ?_)
  have fl6 := fl6.kept (hk _ fl6.lt (Nat.not_le.mpr fl6.lt))
  have fR6 := fR6.kept (hk _ fR6.lt (Nat.not_le.mpr fR6.lt))
  have el6 := el6.new hk
  have h0s := h0s.kept (hk _ h0s.lt (Nat.not_le.mpr h0s.lt))
  have h1s := h1s.kept (hk _ h1s.lt (Nat.not_le.mpr h1s.lt))
  have h2s := h2s.kept (hk _ h2s.lt (Nat.not_le.mpr h2s.lt))
  have f20 := f20.kept (hk _ f20.lt (Nat.not_le.mpr f20.lt))
  have f22 := f22.kept (hk _ f22.lt (Nat.not_le.mpr f22.lt))
  obtain ⟨q_f65, z9_, y9_, f65⟩ := hR
  have f65 := SM.sx f65
  have zr_f65 : s.heap.size ≤ r_64 := Nat.le_trans hZ0_ z9_
  refine lv_astore_n (pc := 138) (lv' := [(3, .ref r_64), (5, .long x_17), (0, .ref mo), (1, .int x), (2, .ref r_5), (4, .int y9)]) hx hb dX5_wayNow_138 rfl hl (by decide) rfl (fun ls hl => ?_)
  obtain ⟨x_66, ex_66⟩ : ∃ z9 : Int32, z9 = y9 + 1 := ⟨_, rfl⟩
  refine lv_iinc (pc := 139) (v := x_66) (lv' := [(4, .int x_66), (3, .ref r_64), (5, .long x_17), (0, .ref mo), (1, .int x), (2, .ref r_5)]) hx hb dX5_wayNow_139 hl (k := 5) rfl (by rw [ex_66]; rfl) (by decide) rfl (fun ls hl => ?_)
  refine lv_goto (pc := 142) (tgt := 32) hx hb dX5_wayNow_142 (by decide) ?_
  refine W.widen (k := 49 + 8 * (k + 1)) (n := 175 + m_wS (k + 1)) hWc2 hWs2 ?_
  exact ih_32  (k + 1) _ (E9 + (dgJ x_17 - 1))  r_64 x_66 (by omega) (by omega) (i_up hx9 ex_66) hEn (fun z9 => absurd z9 (by omega)) (by omega) _ _ _ hS fl6 fR6 el6 f65 (lv_sub hl [3, 4, 5, 1, 0] rfl)
set_option maxHeartbeats 20000000 in
set_option maxRecDepth 100000 in
theorem g5_X5_wayNow {p : Program} {l : Launch} {e : Env} {s : State} {m : MethodId} {args : Array Value} {below : List Frame} {meth : Method} {c : Code} {Q : State → Prop} {D : va_G} {tk : Nat → ClassId} {N0 : Nat} {sa : Nat → Nat} (E : CallFix p m c cX5_wayNow 7 s args (wsy yX5_wayNow cX5_wayNow 7 (some (.object "java/lang/String"))) RX5) (hC : Ctx D tk N0 sa s) (hA : ∀ q, (nwA s.heap.size) q → N0 ≤ q) (hn : ∀ q, s.heap.size ≤ q → (nwA s.heap.size) q) (hr : meth.sig.returnType = (some (.object "java/lang/String"))) (hlk : meth.locks = false) (P : Nat → Prop) (hPN : ∀ q, P q → N0 ≤ q) (mo : Nat) (n9 : Nat) (kn : Int32) (th : Int32) (tt : Nat → Int64) (bb : Nat → Int64) (eT : Int64) (eB : Int64) (oT : Int64) (oB : Int64) (pk : Nat) (ca : Int32) (rf : Int32) (vs : Nat → Value) (x : Int32) (k_x : Nat) (hx_x : x = nI k_x) (hk_x : k_x < 6) (nl6 : Nat) (bb6 : Nat) (cap6 : Nat) (ff6 : Nat → Option Nat) (ww6 : Nat → Value) (md6 : Int32) (T : Nat → Int) (u2 : T (nl6 + 1) = 0) (u3 : ∀ i, i < nl6 → ∃ x : Int64, ww6 i = .long x ∧ x.toInt * T (i + 1) + T (i + 2) = T i) (u4 : ∀ i, 1 ≤ i → i ≤ nl6 → 1 ≤ T i ∧ T i ≤ 1000000000) (hlm6 : nl6 ≤ 43) (r_5 : Nat) (v_24 : Nat) (qf20 : Nat) (x_17 : Int64) (n : Nat) (k : Nat) (l9 : Nat) (E9 : Nat) (q9 : Nat) (y9 : Int32) (hf9 : 44 - k < n + 1) (hk9 : k ≤ nl6) (hx9 : y9 = nI k) (hE9 : ((10 ^ E9 : Nat) : Int) * T k ≤ 1000000000) (hZ9 : (k = 0 → E9 = 0)) (hL8 : l9 ≤ 3 * k + E9) (ih_32 : ∀ (k : Nat) (l9 : Nat) (E9 : Nat)(q9 : Nat) (y9 : Int32), 44 - k < n → k ≤ nl6 → y9 = nI k → ((10 ^ E9 : Nat) : Int) * T k ≤ 1000000000 → (k = 0 → E9 = 0) → l9 ≤ 3 * k + E9 → ∀ (H : Heap) (locs : List Loc) (ls : Array Slot), va_S (nwA s.heap.size) s.heap H locs → c1 D r_5 (.inr (7, [.int md6, .ref bb6, .int (nI nl6)])) H → c1 D bb6 (.inl (tk 4, cap6, .inr (.inr (.inr (.inr (ff6)))))) H → EL D 3 nl6 ff6 ww6 H → SX D tk q9 l9 H → lv_has ls 7 [(0, .ref mo), (1, .int x), (2, .ref r_5), (3, .ref q9), (4, .int y9)] → W p l e ({ frames := 8, cells := 393, slots := 14193, locals := 186 } : Room) s m args below meth c H locs (49 + 8 * k) (175 + m_wS k) Q (F0 m 32 ls [])) (hd11 : dgJ x_17 ≤ 11) (hdl : 1 ≤ dgJ x_17) (hEn : ((10 ^ (E9 + (dgJ x_17 - 1)) : Nat) : Int) * T (k + 1) ≤ 1000000000) (hkn : k < nl6) (b0_ : Nat) (hcA : sbC 16 (0 + l9) ≤ 500000) (hcB : sbC (sbC 16 (0 + l9)) (0 + l9 + 0) ≤ 500000) (hcC : sbC (sbC (sbC 16 (0 + l9)) (0 + l9 + 0)) (0 + l9 + 0 + 1) ≤ 500000) (hcD : sbC (sbC (sbC (sbC 16 (0 + l9)) (0 + l9 + 0)) (0 + l9 + 0 + 1)) (0 + l9 + 0 + 1 + dgJ x_17) ≤ 100000000) (hTc1 : 49 + 8 * k + 0 + 0 + 0 + 0 + 0 + 1 + 1 + (sbK 16 (0 + l9)) + 0 + (sbK (sbC 16 (0 + l9)) ((0 + l9) + 1)) + (sbK (sbC (sbC 16 (0 + l9)) ((0 + l9) + 1)) (((0 + l9) + 1) + 1)) + (sbK (sbC (sbC (sbC 16 (0 + l9)) ((0 + l9) + 1)) (((0 + l9) + 1) + 1)) ((((0 + l9) + 1) + 1) + dgJ x_17)) + 2 ≤ 393) (hTs1 : 175 + m_wS k + 0 + 0 + 0 + 0 + 0 + 4 + 16 + (sbS 16 (0 + l9)) + 0 + (sbS (sbC 16 (0 + l9)) ((0 + l9) + 1)) + (sbS (sbC (sbC 16 (0 + l9)) ((0 + l9) + 1)) (((0 + l9) + 1) + 1)) + (sbS (sbC (sbC (sbC 16 (0 + l9)) ((0 + l9) + 1)) (((0 + l9) + 1) + 1)) ((((0 + l9) + 1) + 1) + dgJ x_17)) + (4 + ((((0 + l9) + 1) + 1) + dgJ x_17)) ≤ 14193) (hWc1 : 49 + 8 * k + 0 + 0 + 0 + 0 + 0 + 1 + 1 + (sbK 16 (0 + l9)) + 0 + (sbK (sbC 16 (0 + l9)) ((0 + l9) + 1)) + (sbK (sbC (sbC 16 (0 + l9)) ((0 + l9) + 1)) (((0 + l9) + 1) + 1)) + (sbK (sbC (sbC (sbC 16 (0 + l9)) ((0 + l9) + 1)) (((0 + l9) + 1) + 1)) ((((0 + l9) + 1) + 1) + dgJ x_17)) + 2 ≤ 49 + 8 * (k + 1)) (hWs1 : 175 + m_wS k + 0 + 0 + 0 + 0 + 0 + 4 + 16 + (sbS 16 (0 + l9)) + 0 + (sbS (sbC 16 (0 + l9)) ((0 + l9) + 1)) + (sbS (sbC (sbC 16 (0 + l9)) ((0 + l9) + 1)) (((0 + l9) + 1) + 1)) + (sbS (sbC (sbC (sbC 16 (0 + l9)) ((0 + l9) + 1)) (((0 + l9) + 1) + 1)) ((((0 + l9) + 1) + 1) + dgJ x_17)) + (4 + ((((0 + l9) + 1) + 1) + dgJ x_17)) ≤ 175 + m_wS (k + 1)) (hTc2 : 49 + 8 * k + 0 + 0 + 0 + 0 + 0 + 1 + 1 + (sbK 16 (0 + l9)) + 0 + (sbK (sbC 16 (0 + l9)) ((0 + l9) + 0)) + (sbK (sbC (sbC 16 (0 + l9)) ((0 + l9) + 0)) (((0 + l9) + 0) + 1)) + (sbK (sbC (sbC (sbC 16 (0 + l9)) ((0 + l9) + 0)) (((0 + l9) + 0) + 1)) ((((0 + l9) + 0) + 1) + dgJ x_17)) + 2 ≤ 393) (hTs2 : 175 + m_wS k + 0 + 0 + 0 + 0 + 0 + 4 + 16 + (sbS 16 (0 + l9)) + 0 + (sbS (sbC 16 (0 + l9)) ((0 + l9) + 0)) + (sbS (sbC (sbC 16 (0 + l9)) ((0 + l9) + 0)) (((0 + l9) + 0) + 1)) + (sbS (sbC (sbC (sbC 16 (0 + l9)) ((0 + l9) + 0)) (((0 + l9) + 0) + 1)) ((((0 + l9) + 0) + 1) + dgJ x_17)) + (4 + ((((0 + l9) + 0) + 1) + dgJ x_17)) ≤ 14193) (hWc2 : 49 + 8 * k + 0 + 0 + 0 + 0 + 0 + 1 + 1 + (sbK 16 (0 + l9)) + 0 + (sbK (sbC 16 (0 + l9)) ((0 + l9) + 0)) + (sbK (sbC (sbC 16 (0 + l9)) ((0 + l9) + 0)) (((0 + l9) + 0) + 1)) + (sbK (sbC (sbC (sbC 16 (0 + l9)) ((0 + l9) + 0)) (((0 + l9) + 0) + 1)) ((((0 + l9) + 0) + 1) + dgJ x_17)) + 2 ≤ 49 + 8 * (k + 1)) (hWs2 : 175 + m_wS k + 0 + 0 + 0 + 0 + 0 + 4 + 16 + (sbS 16 (0 + l9)) + 0 + (sbS (sbC 16 (0 + l9)) ((0 + l9) + 0)) + (sbS (sbC (sbC 16 (0 + l9)) ((0 + l9) + 0)) (((0 + l9) + 0) + 1)) + (sbS (sbC (sbC (sbC 16 (0 + l9)) ((0 + l9) + 0)) (((0 + l9) + 0) + 1)) ((((0 + l9) + 0) + 1) + dgJ x_17)) + (4 + ((((0 + l9) + 0) + 1) + dgJ x_17)) ≤ 175 + m_wS (k + 1)) (H : Heap) (locs : List Loc) (ls : Array Slot) (hS : va_S (nwA s.heap.size) s.heap H locs) (fl6 : c1 D r_5 (.inr (7, [.int md6, .ref bb6, .int (nI nl6)])) H) (fR6 : c1 D bb6 (.inl (tk 4, cap6, .inr (.inr (.inr (.inr (ff6)))))) H) (el6 : EL D 3 nl6 ff6 ww6 H) (h0s : xf D 0 q9 0 (.ref b0_) H) (h1s : xf D 0 q9 1 (.int 0) H) (h2s : BX tk b0_ l9 H) (f20 : c1 D qf20 (.inr (1, [.ref v_24, .int 0, .int 0, .int (nI (0 + l9))])) H) (f22 : BA D tk v_24 (sbC 16 (0 + l9)) H) (k47 : SX D tk (sa (10 + 6)) 0 H) (s_f20 : s.heap.size ≤ qf20) (g_f20 : (nwA s.heap.size) qf20) (g_f22 : (nwA s.heap.size) v_24) (l_f20_f22 : qf20 < v_24) (l_fR6_f20 : bb6 < qf20) (l_fR6_f22 : bb6 < v_24) (l_fl6_f20 : r_5 < qf20) (l_fl6_f22 : r_5 < v_24) (l_h0s_f20 : q9 < qf20) (l_h0s_f22 : q9 < v_24) (l_h1s_f20 : q9 < qf20) (l_h1s_f22 : q9 < v_24) (l_h2s_f20 : b0_ < qf20) (l_h2s_f22 : b0_ < v_24) (hl : lv_has ls 7 [(5, .long x_17), (0, .ref mo), (1, .int x), (2, .ref r_5), (3, .ref q9), (4, .int y9)]) : W p l e ({ frames := 8, cells := 393, slots := 14193, locals := 186 } : Room) s m args below meth c H locs (49 + 8 * k + 0 + 0 + 0 + 0 + 0 + 1 + 1 + (sbK 16 (0 + l9)) + 0) (175 + m_wS k + 0 + 0 + 0 + 0 + 0 + 4 + 16 + (sbS 16 (0 + l9)) + 0) Q (F0 m 108 ls [.ref (sa (10 + 6)), .ref qf20]) := by
  obtain ⟨hx, hb, -⟩ := id E
  have hZ0_ := hS.1
  have t_fl6 := fl6.lt
  have t_fR6 := fR6.lt
  have t_h0s := h0s.lt
  have t_h1s := h1s.lt
  have t_h2s := h2s.lt
  have t_f20 := f20.lt
  have t_f22 := f22.lt
  have t_k47 := k47.lt
  refine k_r (pc := 108) (k_V E hC hS hA hl.1 (c1.recv hC f20 rfl) rfl (c_J4_append_15ec4 l D tk N0 sa H.size qf20 v_24 (sbC 16 (0 + l9)) (0 + l9) (sa (10 + 6)) 0 0 (hA _ g_f20) (hA _ g_f22) (sbC_ge _ _).1 hcA (by decide)) kw_1353 kw_399 kw_400 kw_19 kw_401 (n := 1) (by decide +kernel) rfl ⟨⟨rfl, rfl⟩, ⟨Nat.le_of_ble_eq_true rfl, Nat.le_of_ble_eq_true rfl⟩, (pre1 (pre1 (pre1 hTc2))), (pre1 (pre1 (pre1 hTs2)))⟩ rfl (Nat.le_of_ble_eq_true rfl) ⟨f20, f22, k47⟩ dX5_wayNow_108) hS (inA2.to g_f20 g_f22) hn (fun r_48 H locs hR hz hk hS => ?_)
  have fl6 := fl6.kept (hk _ fl6.lt (inA2.not (clA.ne fl6.cl f20.cl (hC.oo 7 1 rfl rfl (by decide))) (clA.ne fl6.cl f22.cl (hC.oa 7 1 rfl rfl)) fl6.lt))
  have fR6 := fR6.kept (hk _ fR6.lt (inA2.not (clA.ne fR6.cla f20.cl (hC.ao 1 4 rfl rfl)) (clA.ne fR6.cla f22.cl (hC.aa 4 1 rfl rfl (by dsimp only; decide))) fR6.lt))
  have el6 := el6.keep2 hk (fun q9 h9 => clA.ne h9 f20.cl (hC.ceo (Or.inl rfl) 1 rfl (by decide))) (fun q9 h9 => clA.ne h9 f22.cl (hC.cea (Or.inl rfl) 1 rfl))
  have h0s := h0s.kept (hk _ h0s.lt (inA2.not (clA.ne h0s.cl f20.cl (hC.oo 0 1 rfl rfl (by decide))) (clA.ne h0s.cl f22.cl (hC.oa 0 1 rfl rfl)) h0s.lt))
  have h1s := h1s.kept (hk _ h1s.lt (inA2.not (clA.ne h1s.cl f20.cl (hC.oo 0 1 rfl rfl (by decide))) (clA.ne h1s.cl f22.cl (hC.oa 0 1 rfl rfl)) h1s.lt))
  have h2s := h2s.kept (hk _ h2s.lt (inA2.not (h2s.neo hC f20.cl (ci := 1) rfl) (Nat.ne_of_lt l_h2s_f22) h2s.lt))
  obtain ⟨er9, hR⟩ := hR
  rw [er9]
  obtain ⟨v_49, hv_49, f20, f22⟩ := hR
  have g_f22 := hv_49.elim (fun e9 => e9 ▸ g_f22) (fun z9 => hn _ (Nat.le_trans hZ0_ z9))
  have l_fl6_f22 : r_5 < v_49 := hv_49.elim (fun e9 => e9 ▸ l_fl6_f22) (fun z9 => Nat.lt_of_lt_of_le t_fl6 z9)
  have l_fR6_f22 : bb6 < v_49 := hv_49.elim (fun e9 => e9 ▸ l_fR6_f22) (fun z9 => Nat.lt_of_lt_of_le t_fR6 z9)
  have l_h0s_f22 : q9 < v_49 := hv_49.elim (fun e9 => e9 ▸ l_h0s_f22) (fun z9 => Nat.lt_of_lt_of_le t_h0s z9)
  have l_h1s_f22 : q9 < v_49 := hv_49.elim (fun e9 => e9 ▸ l_h1s_f22) (fun z9 => Nat.lt_of_lt_of_le t_h1s z9)
  have l_h2s_f22 : b0_ < v_49 := hv_49.elim (fun e9 => e9 ▸ l_h2s_f22) (fun z9 => Nat.lt_of_lt_of_le t_h2s z9)
  have l_f20_f22 : qf20 < v_49 := hv_49.elim (fun e9 => e9 ▸ l_f20_f22) (fun z9 => Nat.lt_of_lt_of_le t_f20 z9)
  have hv_49 := hv_49.imp_right (fun z9 => Nat.le_trans hZ0_ z9)
  refine lv_iload (pc := 111) hx hb dX5_wayNow_111 (lv_at hl 5 rfl) ?_
  refine lv_iconst (pc := 113) (v := 2) hx hb dX5_wayNow_113 (by decide) ?_
  refine lv_irem (pc := 114) hx hb dX5_wayNow_114 (by decide) ?_
  refine lv_if_ne (pc := 115) (tgt := 124) hx hb dX5_wayNow_115 (by decide) (fun c_50 => ?_) (fun c_50 => ?_)
  · refine r_ldcwS (pc := 124) E hC 11 _ rfl rfl rfl dX5_wayNow_124 ?_
    have k51 : SX D tk (sa (10 + 11)) 1 H := hC.str hS hA 11 _ rfl (by decide)
    exact g6_X5_wayNow E hC hA hn hr hlk P hPN mo n9 kn th tt bb eT eB oT oB pk ca rf vs x k_x hx_x hk_x nl6 bb6 cap6 ff6 ww6 md6 T u2 u3 u4 hlm6 r_5 v_49 qf20 x_17 n k l9 E9 q9 y9 hf9 hk9 hx9 hE9 hZ9 hL8 ih_32 hd11 hdl hEn hkn b0_ hcA hcB hcC hcD hTc2 hTs2 hWc2 hWs2 _ _ _ hS fl6 fR6 el6 h0s h1s h2s f20 f22 k51 s_f20 g_f20 g_f22 l_f20_f22 l_fR6_f20 l_fR6_f22 l_fl6_f20 l_fl6_f22 l_h0s_f20 l_h0s_f22 l_h1s_f20 l_h1s_f22 l_h2s_f20 l_h2s_f22 hl
  · refine r_ldcwS (pc := 118) E hC 10 _ rfl rfl rfl dX5_wayNow_118 ?_
    have k59 : SX D tk (sa (10 + 10)) 1 H := hC.str hS hA 10 _ rfl (by decide)
    refine lv_goto (pc := 121) (tgt := 127) hx hb dX5_wayNow_121 (by decide) ?_
    exact g7_X5_wayNow E hC hA hn hr hlk P hPN mo n9 kn th tt bb eT eB oT oB pk ca rf vs x k_x hx_x hk_x nl6 bb6 cap6 ff6 ww6 md6 T u2 u3 u4 hlm6 r_5 v_49 qf20 x_17 n k l9 E9 q9 y9 hf9 hk9 hx9 hE9 hZ9 hL8 ih_32 hd11 hdl hEn hkn b0_ hcA hcB hcC hcD hTc2 hTs2 hWc2 hWs2 _ _ _ hS fl6 fR6 el6 h0s h1s h2s f20 f22 k59 s_f20 g_f20 g_f22 l_f20_f22 l_fR6_f20 l_fR6_f22 l_fl6_f20 l_fl6_f22 l_h0s_f20 l_h0s_f22 l_h1s_f20 l_h1s_f22 l_h2s_f20 l_h2s_f22 hl
set_option maxHeartbeats 20000000 in
set_option maxRecDepth 100000 in
theorem g1_X5_wayNow {p : Program} {l : Launch} {e : Env} {s : State} {m : MethodId} {args : Array Value} {below : List Frame} {meth : Method} {c : Code} {Q : State → Prop} {D : va_G} {tk : Nat → ClassId} {N0 : Nat} {sa : Nat → Nat} (E : CallFix p m c cX5_wayNow 7 s args (wsy yX5_wayNow cX5_wayNow 7 (some (.object "java/lang/String"))) RX5) (hC : Ctx D tk N0 sa s) (hA : ∀ q, (nwA s.heap.size) q → N0 ≤ q) (hn : ∀ q, s.heap.size ≤ q → (nwA s.heap.size) q) (hr : meth.sig.returnType = (some (.object "java/lang/String"))) (hlk : meth.locks = false) (P : Nat → Prop) (hPN : ∀ q, P q → N0 ≤ q) (mo : Nat) (n9 : Nat) (kn : Int32) (th : Int32) (tt : Nat → Int64) (bb : Nat → Int64) (eT : Int64) (eB : Int64) (oT : Int64) (oB : Int64) (pk : Nat) (ca : Int32) (rf : Int32) (vs : Nat → Value) (x : Int32) (k_x : Nat) (hx_x : x = nI k_x) (hk_x : k_x < 6) (nl6 : Nat) (bb6 : Nat) (cap6 : Nat) (ff6 : Nat → Option Nat) (ww6 : Nat → Value) (md6 : Int32) (T : Nat → Int) (u2 : T (nl6 + 1) = 0) (u3 : ∀ i, i < nl6 → ∃ x : Int64, ww6 i = .long x ∧ x.toInt * T (i + 1) + T (i + 2) = T i) (u4 : ∀ i, 1 ≤ i → i ≤ nl6 → 1 ≤ T i ∧ T i ≤ 1000000000) (hlm6 : nl6 ≤ 43) (r_5 : Nat) (x_17 : Int64) (n : Nat) (k : Nat) (l9 : Nat) (E9 : Nat) (q9 : Nat) (y9 : Int32) (hf9 : 44 - k < n + 1) (hk9 : k ≤ nl6) (hx9 : y9 = nI k) (hE9 : ((10 ^ E9 : Nat) : Int) * T k ≤ 1000000000) (hZ9 : (k = 0 → E9 = 0)) (hL8 : l9 ≤ 3 * k + E9) (ih_32 : ∀ (k : Nat) (l9 : Nat) (E9 : Nat)(q9 : Nat) (y9 : Int32), 44 - k < n → k ≤ nl6 → y9 = nI k → ((10 ^ E9 : Nat) : Int) * T k ≤ 1000000000 → (k = 0 → E9 = 0) → l9 ≤ 3 * k + E9 → ∀ (H : Heap) (locs : List Loc) (ls : Array Slot), va_S (nwA s.heap.size) s.heap H locs → c1 D r_5 (.inr (7, [.int md6, .ref bb6, .int (nI nl6)])) H → c1 D bb6 (.inl (tk 4, cap6, .inr (.inr (.inr (.inr (ff6)))))) H → EL D 3 nl6 ff6 ww6 H → SX D tk q9 l9 H → lv_has ls 7 [(0, .ref mo), (1, .int x), (2, .ref r_5), (3, .ref q9), (4, .int y9)] → W p l e ({ frames := 8, cells := 393, slots := 14193, locals := 186 } : Room) s m args below meth c H locs (49 + 8 * k) (175 + m_wS k) Q (F0 m 32 ls [])) (b0_ : Nat) (xe10 : Int64) (hkn : k < nl6) (hmn : x_17.toInt ≤ xe10.toInt ∧ xe10.toInt ≤ x_17.toInt + 1 ∧ x_17.toInt.natAbs < 10000000000) (hST : xe10.toInt * T (k + 1) + T (k + 2) = T k ∧ 1 ≤ T (k + 1) ∧ T (k + 1) ≤ 1000000000 ∧ 0 ≤ T (k + 2)) (c_18 : ¬ (x_17 ≤ 0)) (H : Heap) (locs : List Loc) (ls : Array Slot) (hS : va_S (nwA s.heap.size) s.heap H locs) (fl6 : c1 D r_5 (.inr (7, [.int md6, .ref bb6, .int (nI nl6)])) H) (fR6 : c1 D bb6 (.inl (tk 4, cap6, .inr (.inr (.inr (.inr (ff6)))))) H) (el6 : EL D 3 nl6 ff6 ww6 H) (h0s : xf D 0 q9 0 (.ref b0_) H) (h1s : xf D 0 q9 1 (.int 0) H) (h2s : BX tk b0_ l9 H) (hl : lv_has ls 7 [(5, .long x_17), (0, .ref mo), (1, .int x), (2, .ref r_5), (3, .ref q9), (4, .int y9)]) : W p l e ({ frames := 8, cells := 393, slots := 14193, locals := 186 } : Room) s m args below meth c H locs (49 + 8 * k + 0 + 0 + 0 + 0 + 0) (175 + m_wS k + 0 + 0 + 0 + 0 + 0) Q (F0 m 83 ls []) := by
  obtain ⟨hx, hb, -⟩ := id E
  have hy1 : 1 ≤ x_17.toInt := by
    have h9 := Int64.lt_iff_toInt_lt.mp (Int64.not_le.mp c_18)
    have e0 : (0 : Int64).toInt = 0 := rfl
    omega
  have hdl := m_dgL hy1
  have hEn := m_stE hE9 hST.1 hST.2.1 hST.2.2.2 hdl.2 hmn.1
  have hE8 := m_E9 hEn hST.2.1
  have hd11 : dgJ x_17 ≤ 11 := m_dg hmn.2.2
  have hws : m_wS (k + 1) = m_wS k + (12 * k + 74) := rfl
  have hwb := m_wSB (k := k + 1) (by omega)
  have hl2 : l9 ≤ 2000 := by omega
  have hl4 : l9 ≤ 400000 := by omega
  have hct0 := m_cat4 0 1 hl2 (d1 := dgJ x_17) (by omega)
  have hct1 := m_cat4 1 1 hl2 (d1 := dgJ x_17) (by omega)
  have hNc : 49 + 8 * (k + 1) ≤ 393 := by omega
  have hNs : 175 + m_wS (k + 1) ≤ 14193 := by omega
  have hWc1 : 49 + 8 * k + 0 + 0 + 0 + 0 + 0 + 1 + 1 + (sbK 16 (0 + l9)) + 0 + (sbK (sbC 16 (0 + l9)) ((0 + l9) + 1)) + (sbK (sbC (sbC 16 (0 + l9)) ((0 + l9) + 1)) (((0 + l9) + 1) + 1)) + (sbK (sbC (sbC (sbC 16 (0 + l9)) ((0 + l9) + 1)) (((0 + l9) + 1) + 1)) ((((0 + l9) + 1) + 1) + dgJ x_17)) + 2 ≤ 49 + 8 * (k + 1) := by have k0_ := tx_k1 16 (0 + l9); have k1_ := tx_k1 (sbC 16 (0 + l9)) ((0 + l9) + 1); have k2_ := tx_k1 (sbC (sbC 16 (0 + l9)) ((0 + l9) + 1)) (((0 + l9) + 1) + 1); have k3_ := tx_k1 (sbC (sbC (sbC 16 (0 + l9)) ((0 + l9) + 1)) (((0 + l9) + 1) + 1)) ((((0 + l9) + 1) + 1) + dgJ x_17); omega
  have hWs1 : 175 + m_wS k + 0 + 0 + 0 + 0 + 0 + 4 + 16 + (sbS 16 (0 + l9)) + 0 + (sbS (sbC 16 (0 + l9)) ((0 + l9) + 1)) + (sbS (sbC (sbC 16 (0 + l9)) ((0 + l9) + 1)) (((0 + l9) + 1) + 1)) + (sbS (sbC (sbC (sbC 16 (0 + l9)) ((0 + l9) + 1)) (((0 + l9) + 1) + 1)) ((((0 + l9) + 1) + 1) + dgJ x_17)) + (4 + ((((0 + l9) + 1) + 1) + dgJ x_17)) ≤ 175 + m_wS (k + 1) := by have h7 := hct1.2.1; omega
  have hTc1 : 49 + 8 * k + 0 + 0 + 0 + 0 + 0 + 1 + 1 + (sbK 16 (0 + l9)) + 0 + (sbK (sbC 16 (0 + l9)) ((0 + l9) + 1)) + (sbK (sbC (sbC 16 (0 + l9)) ((0 + l9) + 1)) (((0 + l9) + 1) + 1)) + (sbK (sbC (sbC (sbC 16 (0 + l9)) ((0 + l9) + 1)) (((0 + l9) + 1) + 1)) ((((0 + l9) + 1) + 1) + dgJ x_17)) + 2 ≤ 393 := Nat.le_trans hWc1 hNc
  have hTs1 : 175 + m_wS k + 0 + 0 + 0 + 0 + 0 + 4 + 16 + (sbS 16 (0 + l9)) + 0 + (sbS (sbC 16 (0 + l9)) ((0 + l9) + 1)) + (sbS (sbC (sbC 16 (0 + l9)) ((0 + l9) + 1)) (((0 + l9) + 1) + 1)) + (sbS (sbC (sbC (sbC 16 (0 + l9)) ((0 + l9) + 1)) (((0 + l9) + 1) + 1)) ((((0 + l9) + 1) + 1) + dgJ x_17)) + (4 + ((((0 + l9) + 1) + 1) + dgJ x_17)) ≤ 14193 := Nat.le_trans hWs1 hNs
  have hWc2 : 49 + 8 * k + 0 + 0 + 0 + 0 + 0 + 1 + 1 + (sbK 16 (0 + l9)) + 0 + (sbK (sbC 16 (0 + l9)) ((0 + l9) + 0)) + (sbK (sbC (sbC 16 (0 + l9)) ((0 + l9) + 0)) (((0 + l9) + 0) + 1)) + (sbK (sbC (sbC (sbC 16 (0 + l9)) ((0 + l9) + 0)) (((0 + l9) + 0) + 1)) ((((0 + l9) + 0) + 1) + dgJ x_17)) + 2 ≤ 49 + 8 * (k + 1) := by have k0_ := tx_k1 16 (0 + l9); have k1_ := tx_k1 (sbC 16 (0 + l9)) ((0 + l9) + 0); have k2_ := tx_k1 (sbC (sbC 16 (0 + l9)) ((0 + l9) + 0)) (((0 + l9) + 0) + 1); have k3_ := tx_k1 (sbC (sbC (sbC 16 (0 + l9)) ((0 + l9) + 0)) (((0 + l9) + 0) + 1)) ((((0 + l9) + 0) + 1) + dgJ x_17); omega
  have hWs2 : 175 + m_wS k + 0 + 0 + 0 + 0 + 0 + 4 + 16 + (sbS 16 (0 + l9)) + 0 + (sbS (sbC 16 (0 + l9)) ((0 + l9) + 0)) + (sbS (sbC (sbC 16 (0 + l9)) ((0 + l9) + 0)) (((0 + l9) + 0) + 1)) + (sbS (sbC (sbC (sbC 16 (0 + l9)) ((0 + l9) + 0)) (((0 + l9) + 0) + 1)) ((((0 + l9) + 0) + 1) + dgJ x_17)) + (4 + ((((0 + l9) + 0) + 1) + dgJ x_17)) ≤ 175 + m_wS (k + 1) := by have h7 := hct0.2.1; omega
  have hTc2 : 49 + 8 * k + 0 + 0 + 0 + 0 + 0 + 1 + 1 + (sbK 16 (0 + l9)) + 0 + (sbK (sbC 16 (0 + l9)) ((0 + l9) + 0)) + (sbK (sbC (sbC 16 (0 + l9)) ((0 + l9) + 0)) (((0 + l9) + 0) + 1)) + (sbK (sbC (sbC (sbC 16 (0 + l9)) ((0 + l9) + 0)) (((0 + l9) + 0) + 1)) ((((0 + l9) + 0) + 1) + dgJ x_17)) + 2 ≤ 393 := Nat.le_trans hWc2 hNc
  have hTs2 : 175 + m_wS k + 0 + 0 + 0 + 0 + 0 + 4 + 16 + (sbS 16 (0 + l9)) + 0 + (sbS (sbC 16 (0 + l9)) ((0 + l9) + 0)) + (sbS (sbC (sbC 16 (0 + l9)) ((0 + l9) + 0)) (((0 + l9) + 0) + 1)) + (sbS (sbC (sbC (sbC 16 (0 + l9)) ((0 + l9) + 0)) (((0 + l9) + 0) + 1)) ((((0 + l9) + 0) + 1) + dgJ x_17)) + (4 + ((((0 + l9) + 0) + 1) + dgJ x_17)) ≤ 14193 := Nat.le_trans hWs2 hNs
  have hS0_ := hS
  refine r_new (pc := 83) E hC hS tyJ4_ok uJ4 (List.mem_cons_of_mem _ kw_1351) (List.mem_cons_of_mem _ kw_150) (List.mem_cons_of_mem _ kw_19) (ci := 1) rfl (fs := [.null, .int 0, .int 0, .int 0]) (by decide) (pre1 (pre1 (pre1 (pre1 (pre1 (pre1 (pre1 hTc1))))))) (pre1 (pre1 (pre1 (pre1 (pre1 (pre1 (pre1 hTs1))))))) dX5_wayNow_83 (fun qf20 H zq_ n_ ho_ hS => ?_)
  have l_fl6_f20 : r_5 < qf20 := zq_ ▸ fl6.lt
  have fl6 := fl6.kept (ho_ _ fl6.lt)
  have l_fR6_f20 : bb6 < qf20 := zq_ ▸ fR6.lt
  have fR6 := fR6.kept (ho_ _ fR6.lt)
  have el6 := el6.old ho_
  have l_h0s_f20 : q9 < qf20 := zq_ ▸ h0s.lt
  have h0s := h0s.kept (ho_ _ h0s.lt)
  have l_h1s_f20 : q9 < qf20 := zq_ ▸ h1s.lt
  have h1s := h1s.kept (ho_ _ h1s.lt)
  have l_h2s_f20 : b0_ < qf20 := zq_ ▸ h2s.lt
  have h2s := h2s.kept (ho_ _ h2s.lt)
  have f20 := n_
  have s_f20 : s.heap.size ≤ qf20 := zq_ ▸ hS0_.1
  have g_f20 := hn _ s_f20
  refine lv_dup (pc := 86) hx hb dX5_wayNow_86 rfl ?_
  have hZ0_ := hS.1
  have t_fl6 := fl6.lt
  have t_fR6 := fR6.lt
  have t_h0s := h0s.lt
  have t_h1s := h1s.lt
  have t_h2s := h2s.lt
  have t_f20 := f20.lt
  refine k_v (pc := 87) (k_I E hC hS hA hl.1 (c_J4_init_da8c8 l D tk N0 sa H.size qf20 (hA _ g_f20)) kw_1352 kw_152 kw_19 kw_153 rfl (n := 0) (by decide +kernel) rfl ⟨⟨rfl, rfl⟩, ⟨Nat.le_of_ble_eq_true rfl, Nat.le_of_ble_eq_true rfl⟩, (pre1 (pre1 (pre1 (pre1 (pre1 (pre1 hTc1)))))), (pre1 (pre1 (pre1 (pre1 (pre1 (pre1 hTs1))))))⟩ rfl (Nat.le_of_ble_eq_true rfl) f20 dX5_wayNow_87) hS (inA1.to g_f20) hn (fun H locs hR hz hk hS => ?_)
  have fl6 := fl6.kept (hk _ fl6.lt (inA1.not (clA.ne fl6.cl f20.cl (hC.oo 7 1 rfl rfl (by decide))) fl6.lt))
  have fR6 := fR6.kept (hk _ fR6.lt (inA1.not (clA.ne fR6.cla f20.cl (hC.ao 1 4 rfl rfl)) fR6.lt))
  have el6 := el6.keep1 hk (fun q9 h9 => clA.ne h9 f20.cl (hC.ceo (Or.inl rfl) 1 rfl (by decide)))
  have h0s := h0s.kept (hk _ h0s.lt (inA1.not (clA.ne h0s.cl f20.cl (hC.oo 0 1 rfl rfl (by decide))) h0s.lt))
  have h1s := h1s.kept (hk _ h1s.lt (inA1.not (clA.ne h1s.cl f20.cl (hC.oo 0 1 rfl rfl (by decide))) h1s.lt))
  have h2s := h2s.kept (hk _ h2s.lt (inA1.not (h2s.neo hC f20.cl (ci := 1) rfl) h2s.lt))
  obtain ⟨q_f22, z9_, f20, f22⟩ := hR
  have s_f22 : s.heap.size ≤ q_f22 := Nat.le_trans hZ0_ z9_
  have g_f22 := hn _ s_f22
  have l_fl6_f22 : r_5 < q_f22 := Nat.lt_of_lt_of_le t_fl6 z9_
  have l_fR6_f22 : bb6 < q_f22 := Nat.lt_of_lt_of_le t_fR6 z9_
  have l_h0s_f22 : q9 < q_f22 := Nat.lt_of_lt_of_le t_h0s z9_
  have l_h1s_f22 : q9 < q_f22 := Nat.lt_of_lt_of_le t_h1s z9_
  have l_h2s_f22 : b0_ < q_f22 := Nat.lt_of_lt_of_le t_h2s z9_
  have l_f20_f22 : qf20 < q_f22 := Nat.lt_of_lt_of_le t_f20 z9_
  refine lv_aload_n (pc := 90) hx hb dX5_wayNow_90 rfl (lv_at hl 4 rfl) ?_
  have hZ0_ := hS.1
  have t_fl6 := fl6.lt
  have t_fR6 := fR6.lt
  have t_h0s := h0s.lt
  have t_h1s := h1s.lt
  have t_h2s := h2s.lt
  have t_f20 := f20.lt
  have t_f22 := f22.lt
  refine k_r (pc := 91) (k_V E hC hS hA hl.1 (c1.recv hC f20 rfl) rfl (c_J4_append_15ec4 l D tk N0 sa H.size qf20 q_f22 16 0 q9 l9 0 (hA _ g_f20) (hA _ g_f22) (Nat.zero_le _) (by decide) hl4) kw_1353 kw_399 kw_400 kw_19 kw_401 (n := 1) (by decide +kernel) rfl ⟨⟨rfl, rfl⟩, ⟨Nat.le_of_ble_eq_true rfl, Nat.le_of_ble_eq_true rfl⟩, (pre1 (pre1 (pre1 (pre1 (pre1 hTc1))))), (pre1 (pre1 (pre1 (pre1 (pre1 hTs1)))))⟩ rfl (Nat.le_of_ble_eq_true rfl) ⟨f20, f22, ⟨_, h0s, h1s, h2s⟩⟩ dX5_wayNow_91) hS (inA2.to g_f20 g_f22) hn (fun r_23 H locs hR hz hk hS => ?_)
  have fl6 := fl6.kept (hk _ fl6.lt (inA2.not (clA.ne fl6.cl f20.cl (hC.oo 7 1 rfl rfl (by decide))) (clA.ne fl6.cl f22.cl (hC.oa 7 1 rfl rfl)) fl6.lt))
  have fR6 := fR6.kept (hk _ fR6.lt (inA2.not (clA.ne fR6.cla f20.cl (hC.ao 1 4 rfl rfl)) (clA.ne fR6.cla f22.cl (hC.aa 4 1 rfl rfl (by dsimp only; decide))) fR6.lt))
  have el6 := el6.keep2 hk (fun q9 h9 => clA.ne h9 f20.cl (hC.ceo (Or.inl rfl) 1 rfl (by decide))) (fun q9 h9 => clA.ne h9 f22.cl (hC.cea (Or.inl rfl) 1 rfl))
  have h0s := h0s.kept (hk _ h0s.lt (inA2.not (clA.ne h0s.cl f20.cl (hC.oo 0 1 rfl rfl (by decide))) (clA.ne h0s.cl f22.cl (hC.oa 0 1 rfl rfl)) h0s.lt))
  have h1s := h1s.kept (hk _ h1s.lt (inA2.not (clA.ne h1s.cl f20.cl (hC.oo 0 1 rfl rfl (by decide))) (clA.ne h1s.cl f22.cl (hC.oa 0 1 rfl rfl)) h1s.lt))
  have h2s := h2s.kept (hk _ h2s.lt (inA2.not (h2s.neo hC f20.cl (ci := 1) rfl) (Nat.ne_of_lt l_h2s_f22) h2s.lt))
  obtain ⟨er9, hR⟩ := hR
  rw [er9]
  obtain ⟨v_24, hv_24, f20, f22⟩ := hR
  have g_f22 := hv_24.elim (fun e9 => e9 ▸ g_f22) (fun z9 => hn _ (Nat.le_trans hZ0_ z9))
  have l_fl6_f22 : r_5 < v_24 := hv_24.elim (fun e9 => e9 ▸ l_fl6_f22) (fun z9 => Nat.lt_of_lt_of_le t_fl6 z9)
  have l_fR6_f22 : bb6 < v_24 := hv_24.elim (fun e9 => e9 ▸ l_fR6_f22) (fun z9 => Nat.lt_of_lt_of_le t_fR6 z9)
  have l_h0s_f22 : q9 < v_24 := hv_24.elim (fun e9 => e9 ▸ l_h0s_f22) (fun z9 => Nat.lt_of_lt_of_le t_h0s z9)
  have l_h1s_f22 : q9 < v_24 := hv_24.elim (fun e9 => e9 ▸ l_h1s_f22) (fun z9 => Nat.lt_of_lt_of_le t_h1s z9)
  have l_h2s_f22 : b0_ < v_24 := hv_24.elim (fun e9 => e9 ▸ l_h2s_f22) (fun z9 => Nat.lt_of_lt_of_le t_h2s z9)
  have l_f20_f22 : qf20 < v_24 := hv_24.elim (fun e9 => e9 ▸ l_f20_f22) (fun z9 => Nat.lt_of_lt_of_le t_f20 z9)
  have hv_24 := hv_24.imp_right (fun z9 => Nat.le_trans hZ0_ z9)
  refine lv_aload_n (pc := 94) hx hb dX5_wayNow_94 rfl (lv_at hl 4 rfl) ?_
  refine k_i (pc := 95) (k_V E hC hS hA hl.1 (xf.recv hC h0s rfl) rfl (c_J0_isEmpty_aae02 l D tk N0 sa H.size q9 l9 (by omega)) kw_1537 kw_1538 kw_1539 kw_20 kw_1540 (n := 0) (by decide +kernel) rfl ⟨⟨rfl, rfl⟩, ⟨Nat.le_of_ble_eq_true rfl, Nat.le_of_ble_eq_true rfl⟩, (pre1 (pre1 (pre1 (pre1 hTc1)))), (pre1 (pre1 (pre1 (pre1 hTs1))))⟩ rfl (Nat.le_of_ble_eq_true rfl) ⟨_, h0s, h1s, h2s⟩ dX5_wayNow_95) hS (fun q z w => absurd w (Nat.not_le.mpr z)) hn (fun r_25 H locs hR hz hk hS => ?_)
  have fl6 := fl6.kept (hk _ fl6.lt (Nat.not_le.mpr fl6.lt))
  have fR6 := fR6.kept (hk _ fR6.lt (Nat.not_le.mpr fR6.lt))
  have el6 := el6.new hk
  have h0s := h0s.kept (hk _ h0s.lt (Nat.not_le.mpr h0s.lt))
  have h1s := h1s.kept (hk _ h1s.lt (Nat.not_le.mpr h1s.lt))
  have h2s := h2s.kept (hk _ h2s.lt (Nat.not_le.mpr h2s.lt))
  have f20 := f20.kept (hk _ f20.lt (Nat.not_le.mpr f20.lt))
  have f22 := f22.kept (hk _ f22.lt (Nat.not_le.mpr f22.lt))
  have em_r_25 := hR
  refine lv_if_eq (pc := 98) (tgt := 106) hx hb dX5_wayNow_98 (by decide) (fun c_26 => ?_) (fun c_26 => ?_)
  · have hcA := hct1.2.2.1
    have hcB := hct1.2.2.2.1
    have hcC := hct1.2.2.2.2.1
    have hcD := hct1.2.2.2.2.2
    refine va_ldcS (pc := 106) hx hb E.2.2.2.1 (hC.2.2.2.2.1 8 _ rfl).1 dX5_wayNow_106 ?_
    have k27 : SX D tk (sa (10 + 8)) 1 H := hC.str hS hA 8 _ rfl (by decide)
    exact g2_X5_wayNow E hC hA hn hr hlk P hPN mo n9 kn th tt bb eT eB oT oB pk ca rf vs x k_x hx_x hk_x nl6 bb6 cap6 ff6 ww6 md6 T u2 u3 u4 hlm6 r_5 v_24 qf20 x_17 n k l9 E9 q9 y9 hf9 hk9 hx9 hE9 hZ9 hL8 ih_32 hd11 hdl.1 hEn hkn b0_ hcA hcB hcC hcD hTc1 hTs1 hWc1 hWs1 hTc2 hTs2 hWc2 hWs2 _ _ _ hS fl6 fR6 el6 h0s h1s h2s f20 f22 k27 s_f20 g_f20 g_f22 l_f20_f22 l_fR6_f20 l_fR6_f22 l_fl6_f20 l_fl6_f22 l_h0s_f20 l_h0s_f22 l_h1s_f20 l_h1s_f22 l_h2s_f20 l_h2s_f22 hl
  · have hcA := hct0.2.2.1
    have hcB := hct0.2.2.2.1
    have hcC := hct0.2.2.2.2.1
    have hcD := hct0.2.2.2.2.2
    refine va_ldcS (pc := 101) hx hb E.2.2.2.1 (hC.2.2.2.2.1 6 _ rfl).1 dX5_wayNow_101 ?_
    have k47 : SX D tk (sa (10 + 6)) 0 H := hC.str hS hA 6 _ rfl (by decide)
    refine lv_goto (pc := 103) (tgt := 108) hx hb dX5_wayNow_103 (by decide) ?_
    exact g5_X5_wayNow E hC hA hn hr hlk P hPN mo n9 kn th tt bb eT eB oT oB pk ca rf vs x k_x hx_x hk_x nl6 bb6 cap6 ff6 ww6 md6 T u2 u3 u4 hlm6 r_5 v_24 qf20 x_17 n k l9 E9 q9 y9 hf9 hk9 hx9 hE9 hZ9 hL8 ih_32 hd11 hdl.1 hEn hkn b0_ hcA hcB hcC hcD hTc1 hTs1 hWc1 hWs1 hTc2 hTs2 hWc2 hWs2 _ _ _ hS fl6 fR6 el6 h0s h1s h2s f20 f22 k47 s_f20 g_f20 g_f22 l_f20_f22 l_fR6_f20 l_fR6_f22 l_fl6_f20 l_fl6_f22 l_h0s_f20 l_h0s_f22 l_h1s_f20 l_h1s_f22 l_h2s_f20 l_h2s_f22 hl
set_option maxHeartbeats 20000000 in
set_option maxRecDepth 100000 in
theorem g10_X5_wayNow {p : Program} {l : Launch} {e : Env} {s : State} {m : MethodId} {args : Array Value} {below : List Frame} {meth : Method} {c : Code} {Q : State → Prop} {D : va_G} {tk : Nat → ClassId} {N0 : Nat} {sa : Nat → Nat} (E : CallFix p m c cX5_wayNow 7 s args (wsy yX5_wayNow cX5_wayNow 7 (some (.object "java/lang/String"))) RX5) (hC : Ctx D tk N0 sa s) (hA : ∀ q, (nwA s.heap.size) q → N0 ≤ q) (hn : ∀ q, s.heap.size ≤ q → (nwA s.heap.size) q) (hr : meth.sig.returnType = (some (.object "java/lang/String"))) (hlk : meth.locks = false) (P : Nat → Prop) (hPN : ∀ q, P q → N0 ≤ q) (mo : Nat) (n9 : Nat) (kn : Int32) (th : Int32) (tt : Nat → Int64) (bb : Nat → Int64) (eT : Int64) (eB : Int64) (oT : Int64) (oB : Int64) (pk : Nat) (ca : Int32) (rf : Int32) (vs : Nat → Value) (x : Int32) (k_x : Nat) (hx_x : x = nI k_x) (hk_x : k_x < 6) (nl6 : Nat) (bb6 : Nat) (cap6 : Nat) (ff6 : Nat → Option Nat) (ww6 : Nat → Value) (md6 : Int32) (T : Nat → Int) (u2 : T (nl6 + 1) = 0) (u3 : ∀ i, i < nl6 → ∃ x : Int64, ww6 i = .long x ∧ x.toInt * T (i + 1) + T (i + 2) = T i) (u4 : ∀ i, 1 ≤ i → i ≤ nl6 → 1 ≤ T i ∧ T i ≤ 1000000000) (hlm6 : nl6 ≤ 43) (r_5 : Nat) (v_81 : Nat) (qf72 : Nat) (x_69 : Int64) (n : Nat) (k : Nat) (l9 : Nat) (E9 : Nat) (q9 : Nat) (y9 : Int32) (hf9 : 44 - k < n + 1) (hk9 : k ≤ nl6) (hx9 : y9 = nI k) (hE9 : ((10 ^ E9 : Nat) : Int) * T k ≤ 1000000000) (hZ9 : (k = 0 → E9 = 0)) (hL8 : l9 ≤ 3 * k + E9) (ih_32 : ∀ (k : Nat) (l9 : Nat) (E9 : Nat)(q9 : Nat) (y9 : Int32), 44 - k < n → k ≤ nl6 → y9 = nI k → ((10 ^ E9 : Nat) : Int) * T k ≤ 1000000000 → (k = 0 → E9 = 0) → l9 ≤ 3 * k + E9 → ∀ (H : Heap) (locs : List Loc) (ls : Array Slot), va_S (nwA s.heap.size) s.heap H locs → c1 D r_5 (.inr (7, [.int md6, .ref bb6, .int (nI nl6)])) H → c1 D bb6 (.inl (tk 4, cap6, .inr (.inr (.inr (.inr (ff6)))))) H → EL D 3 nl6 ff6 ww6 H → SX D tk q9 l9 H → lv_has ls 7 [(0, .ref mo), (1, .int x), (2, .ref r_5), (3, .ref q9), (4, .int y9)] → W p l e ({ frames := 8, cells := 393, slots := 14193, locals := 186 } : Room) s m args below meth c H locs (49 + 8 * k) (175 + m_wS k) Q (F0 m 32 ls [])) (hd11 : dgJ x_69 ≤ 11) (hdl : 1 ≤ dgJ x_69) (hEn : ((10 ^ (E9 + (dgJ x_69 - 1)) : Nat) : Int) * T (k + 1) ≤ 1000000000) (hkn : k < nl6) (b0_ : Nat) (hcA : sbC 16 (0 + l9) ≤ 500000) (hcB : sbC (sbC 16 (0 + l9)) (0 + l9 + 1) ≤ 500000) (hcC : sbC (sbC (sbC 16 (0 + l9)) (0 + l9 + 1)) (0 + l9 + 1 + 1) ≤ 500000) (hcD : sbC (sbC (sbC (sbC 16 (0 + l9)) (0 + l9 + 1)) (0 + l9 + 1 + 1)) (0 + l9 + 1 + 1 + dgJ x_69) ≤ 100000000) (hTc1 : 49 + 8 * k + 0 + 0 + 0 + 0 + 0 + 1 + 1 + (sbK 16 (0 + l9)) + 0 + (sbK (sbC 16 (0 + l9)) ((0 + l9) + 1)) + (sbK (sbC (sbC 16 (0 + l9)) ((0 + l9) + 1)) (((0 + l9) + 1) + 1)) + (sbK (sbC (sbC (sbC 16 (0 + l9)) ((0 + l9) + 1)) (((0 + l9) + 1) + 1)) ((((0 + l9) + 1) + 1) + dgJ x_69)) + 2 ≤ 393) (hTs1 : 175 + m_wS k + 0 + 0 + 0 + 0 + 0 + 4 + 16 + (sbS 16 (0 + l9)) + 0 + (sbS (sbC 16 (0 + l9)) ((0 + l9) + 1)) + (sbS (sbC (sbC 16 (0 + l9)) ((0 + l9) + 1)) (((0 + l9) + 1) + 1)) + (sbS (sbC (sbC (sbC 16 (0 + l9)) ((0 + l9) + 1)) (((0 + l9) + 1) + 1)) ((((0 + l9) + 1) + 1) + dgJ x_69)) + (4 + ((((0 + l9) + 1) + 1) + dgJ x_69)) ≤ 14193) (hWc1 : 49 + 8 * k + 0 + 0 + 0 + 0 + 0 + 1 + 1 + (sbK 16 (0 + l9)) + 0 + (sbK (sbC 16 (0 + l9)) ((0 + l9) + 1)) + (sbK (sbC (sbC 16 (0 + l9)) ((0 + l9) + 1)) (((0 + l9) + 1) + 1)) + (sbK (sbC (sbC (sbC 16 (0 + l9)) ((0 + l9) + 1)) (((0 + l9) + 1) + 1)) ((((0 + l9) + 1) + 1) + dgJ x_69)) + 2 ≤ 49 + 8 * (k + 1)) (hWs1 : 175 + m_wS k + 0 + 0 + 0 + 0 + 0 + 4 + 16 + (sbS 16 (0 + l9)) + 0 + (sbS (sbC 16 (0 + l9)) ((0 + l9) + 1)) + (sbS (sbC (sbC 16 (0 + l9)) ((0 + l9) + 1)) (((0 + l9) + 1) + 1)) + (sbS (sbC (sbC (sbC 16 (0 + l9)) ((0 + l9) + 1)) (((0 + l9) + 1) + 1)) ((((0 + l9) + 1) + 1) + dgJ x_69)) + (4 + ((((0 + l9) + 1) + 1) + dgJ x_69)) ≤ 175 + m_wS (k + 1)) (H : Heap) (locs : List Loc) (ls : Array Slot) (hS : va_S (nwA s.heap.size) s.heap H locs) (fl6 : c1 D r_5 (.inr (7, [.int md6, .ref bb6, .int (nI nl6)])) H) (fR6 : c1 D bb6 (.inl (tk 4, cap6, .inr (.inr (.inr (.inr (ff6)))))) H) (el6 : EL D 3 nl6 ff6 ww6 H) (h0s : xf D 0 q9 0 (.ref b0_) H) (h1s : xf D 0 q9 1 (.int 0) H) (h2s : BX tk b0_ l9 H) (f72 : c1 D qf72 (.inr (1, [.ref v_81, .int 0, .int 0, .int (nI ((0 + l9) + 1))])) H) (f74 : BA D tk v_81 (sbC (sbC 16 (0 + l9)) ((0 + l9) + 1)) H) (k83 : SX D tk (sa (10 + 11)) 1 H) (s_f72 : s.heap.size ≤ qf72) (g_f72 : (nwA s.heap.size) qf72) (g_f74 : (nwA s.heap.size) v_81) (l_f72_f74 : qf72 < v_81) (l_fR6_f72 : bb6 < qf72) (l_fR6_f74 : bb6 < v_81) (l_fl6_f72 : r_5 < qf72) (l_fl6_f74 : r_5 < v_81) (l_h0s_f72 : q9 < qf72) (l_h0s_f74 : q9 < v_81) (l_h1s_f72 : q9 < qf72) (l_h1s_f74 : q9 < v_81) (l_h2s_f72 : b0_ < qf72) (l_h2s_f74 : b0_ < v_81) (hl : lv_has ls 7 [(5, .long x_69), (0, .ref mo), (1, .int x), (2, .ref r_5), (3, .ref q9), (4, .int y9)]) : W p l e ({ frames := 8, cells := 393, slots := 14193, locals := 186 } : Room) s m args below meth c H locs (49 + 8 * k + 0 + 0 + 0 + 0 + 0 + 1 + 1 + (sbK 16 (0 + l9)) + 0 + (sbK (sbC 16 (0 + l9)) ((0 + l9) + 1))) (175 + m_wS k + 0 + 0 + 0 + 0 + 0 + 4 + 16 + (sbS 16 (0 + l9)) + 0 + (sbS (sbC 16 (0 + l9)) ((0 + l9) + 1))) Q (F0 m 127 ls [.ref (sa (10 + 11)), .ref qf72]) := by
  obtain ⟨hx, hb, -⟩ := id E
  have hZ0_ := hS.1
  have t_fl6 := fl6.lt
  have t_fR6 := fR6.lt
  have t_h0s := h0s.lt
  have t_h1s := h1s.lt
  have t_h2s := h2s.lt
  have t_f72 := f72.lt
  have t_f74 := f74.lt
  have t_k83 := k83.lt
  refine k_r (pc := 127) (k_V E hC hS hA hl.1 (c1.recv hC f72 rfl) rfl (c_J4_append_15ec4 l D tk N0 sa H.size qf72 v_81 (sbC (sbC 16 (0 + l9)) ((0 + l9) + 1)) ((0 + l9) + 1) (sa (10 + 11)) 1 0 (hA _ g_f72) (hA _ g_f74) (sbC_ge _ _).1 hcB (by decide)) kw_1353 kw_399 kw_400 kw_19 kw_401 (n := 1) (by decide +kernel) rfl ⟨⟨rfl, rfl⟩, ⟨Nat.le_of_ble_eq_true rfl, Nat.le_of_ble_eq_true rfl⟩, (pre1 (pre1 hTc1)), (pre1 (pre1 hTs1))⟩ rfl (Nat.le_of_ble_eq_true rfl) ⟨f72, f74, k83⟩ dX5_wayNow_127) hS (inA2.to g_f72 g_f74) hn (fun r_84 H locs hR hz hk hS => ?_)
  have fl6 := fl6.kept (hk _ fl6.lt (inA2.not (clA.ne fl6.cl f72.cl (hC.oo 7 1 rfl rfl (by decide))) (clA.ne fl6.cl f74.cl (hC.oa 7 1 rfl rfl)) fl6.lt))
  have fR6 := fR6.kept (hk _ fR6.lt (inA2.not (clA.ne fR6.cla f72.cl (hC.ao 1 4 rfl rfl)) (clA.ne fR6.cla f74.cl (hC.aa 4 1 rfl rfl (by dsimp only; decide))) fR6.lt))
  have el6 := el6.keep2 hk (fun q9 h9 => clA.ne h9 f72.cl (hC.ceo (Or.inl rfl) 1 rfl (by decide))) (fun q9 h9 => clA.ne h9 f74.cl (hC.cea (Or.inl rfl) 1 rfl))
  have h0s := h0s.kept (hk _ h0s.lt (inA2.not (clA.ne h0s.cl f72.cl (hC.oo 0 1 rfl rfl (by decide))) (clA.ne h0s.cl f74.cl (hC.oa 0 1 rfl rfl)) h0s.lt))
  have h1s := h1s.kept (hk _ h1s.lt (inA2.not (clA.ne h1s.cl f72.cl (hC.oo 0 1 rfl rfl (by decide))) (clA.ne h1s.cl f74.cl (hC.oa 0 1 rfl rfl)) h1s.lt))
  have h2s := h2s.kept (hk _ h2s.lt (inA2.not (h2s.neo hC f72.cl (ci := 1) rfl) (Nat.ne_of_lt l_h2s_f74) h2s.lt))
  obtain ⟨er9, hR⟩ := hR
  rw [er9]
  obtain ⟨v_85, hv_85, f72, f74⟩ := hR
  have g_f74 := hv_85.elim (fun e9 => e9 ▸ g_f74) (fun z9 => hn _ (Nat.le_trans hZ0_ z9))
  have l_fl6_f74 : r_5 < v_85 := hv_85.elim (fun e9 => e9 ▸ l_fl6_f74) (fun z9 => Nat.lt_of_lt_of_le t_fl6 z9)
  have l_fR6_f74 : bb6 < v_85 := hv_85.elim (fun e9 => e9 ▸ l_fR6_f74) (fun z9 => Nat.lt_of_lt_of_le t_fR6 z9)
  have l_h0s_f74 : q9 < v_85 := hv_85.elim (fun e9 => e9 ▸ l_h0s_f74) (fun z9 => Nat.lt_of_lt_of_le t_h0s z9)
  have l_h1s_f74 : q9 < v_85 := hv_85.elim (fun e9 => e9 ▸ l_h1s_f74) (fun z9 => Nat.lt_of_lt_of_le t_h1s z9)
  have l_h2s_f74 : b0_ < v_85 := hv_85.elim (fun e9 => e9 ▸ l_h2s_f74) (fun z9 => Nat.lt_of_lt_of_le t_h2s z9)
  have l_f72_f74 : qf72 < v_85 := hv_85.elim (fun e9 => e9 ▸ l_f72_f74) (fun z9 => Nat.lt_of_lt_of_le t_f72 z9)
  have hv_85 := hv_85.imp_right (fun z9 => Nat.le_trans hZ0_ z9)
  refine lv_lload (pc := 130) hx hb dX5_wayNow_130 (lv_at hl 0 rfl) ?_
  have hZ0_ := hS.1
  have t_fl6 := fl6.lt
  have t_fR6 := fR6.lt
  have t_h0s := h0s.lt
  have t_h1s := h1s.lt
  have t_h2s := h2s.lt
  have t_f72 := f72.lt
  have t_f74 := f74.lt
  refine k_r (pc := 132) (k_V E hC hS hA hl.1 (c1.recv hC f72 rfl) rfl (c_J4_append_f7089 l D tk N0 sa H.size qf72 v_85 (sbC (sbC (sbC 16 (0 + l9)) ((0 + l9) + 1)) (((0 + l9) + 1) + 1)) (((0 + l9) + 1) + 1) 0 x_69 (hA _ g_f72) (hA _ g_f74) (sbC_ge _ _).1 hcC) kw_1354 kw_1355 kw_1356 kw_19 kw_1357 (n := 1) (by decide +kernel) rfl ⟨⟨rfl, rfl⟩, ⟨Nat.le_of_ble_eq_true rfl, Nat.le_of_ble_eq_true rfl⟩, (pre1 hTc1), (pre1 hTs1)⟩ rfl (Nat.le_of_ble_eq_true rfl) ⟨f72, f74⟩ dX5_wayNow_132) hS (inA2.to g_f72 g_f74) hn (fun r_86 H locs hR hz hk hS => ?_)
  have fl6 := fl6.kept (hk _ fl6.lt (inA2.not (clA.ne fl6.cl f72.cl (hC.oo 7 1 rfl rfl (by decide))) (clA.ne fl6.cl f74.cl (hC.oa 7 1 rfl rfl)) fl6.lt))
  have fR6 := fR6.kept (hk _ fR6.lt (inA2.not (clA.ne fR6.cla f72.cl (hC.ao 1 4 rfl rfl)) (clA.ne fR6.cla f74.cl (hC.aa 4 1 rfl rfl (by dsimp only; decide))) fR6.lt))
  have el6 := el6.keep2 hk (fun q9 h9 => clA.ne h9 f72.cl (hC.ceo (Or.inl rfl) 1 rfl (by decide))) (fun q9 h9 => clA.ne h9 f74.cl (hC.cea (Or.inl rfl) 1 rfl))
  have h0s := h0s.kept (hk _ h0s.lt (inA2.not (clA.ne h0s.cl f72.cl (hC.oo 0 1 rfl rfl (by decide))) (clA.ne h0s.cl f74.cl (hC.oa 0 1 rfl rfl)) h0s.lt))
  have h1s := h1s.kept (hk _ h1s.lt (inA2.not (clA.ne h1s.cl f72.cl (hC.oo 0 1 rfl rfl (by decide))) (clA.ne h1s.cl f74.cl (hC.oa 0 1 rfl rfl)) h1s.lt))
  have h2s := h2s.kept (hk _ h2s.lt (inA2.not (h2s.neo hC f72.cl (ci := 1) rfl) (Nat.ne_of_lt l_h2s_f74) h2s.lt))
  obtain ⟨er9, hR⟩ := hR
  rw [er9]
  obtain ⟨v_87, hv_87, f72, f74⟩ := hR
  have g_f74 := hv_87.elim (fun e9 => e9 ▸ g_f74) (fun z9 => hn _ (Nat.le_trans hZ0_ z9))
  have l_fl6_f74 : r_5 < v_87 := hv_87.elim (fun e9 => e9 ▸ l_fl6_f74) (fun z9 => Nat.lt_of_lt_of_le t_fl6 z9)
  have l_fR6_f74 : bb6 < v_87 := hv_87.elim (fun e9 => e9 ▸ l_fR6_f74) (fun z9 => Nat.lt_of_lt_of_le t_fR6 z9)
  have l_h0s_f74 : q9 < v_87 := hv_87.elim (fun e9 => e9 ▸ l_h0s_f74) (fun z9 => Nat.lt_of_lt_of_le t_h0s z9)
  have l_h1s_f74 : q9 < v_87 := hv_87.elim (fun e9 => e9 ▸ l_h1s_f74) (fun z9 => Nat.lt_of_lt_of_le t_h1s z9)
  have l_h2s_f74 : b0_ < v_87 := hv_87.elim (fun e9 => e9 ▸ l_h2s_f74) (fun z9 => Nat.lt_of_lt_of_le t_h2s z9)
  have l_f72_f74 : qf72 < v_87 := hv_87.elim (fun e9 => e9 ▸ l_f72_f74) (fun z9 => Nat.lt_of_lt_of_le t_f72 z9)
  have hv_87 := hv_87.imp_right (fun z9 => Nat.le_trans hZ0_ z9)
  have hv_87 := hv_87.elim (fun e9 => e9 ▸ hv_85) Or.inr
  have hZ0_ := hS.1
  have t_fl6 := fl6.lt
  have t_fR6 := fR6.lt
  have t_h0s := h0s.lt
  have t_h1s := h1s.lt
  have t_h2s := h2s.lt
  have t_f72 := f72.lt
  have t_f74 := f74.lt
  refine k_r (pc := 135) (k_V E hC hS hA hl.1 (c1.recv hC f72 rfl) rfl (c_J4_toString_0e30d l D tk N0 sa H.size qf72 v_87 (sbC (sbC (sbC (sbC 16 (0 + l9)) ((0 + l9) + 1)) (((0 + l9) + 1) + 1)) ((((0 + l9) + 1) + 1) + dgJ x_69)) ((((0 + l9) + 1) + 1) + dgJ x_69) 0 (sbC_ge _ _).1 hcD) kw_1381 kw_316 kw_317 kw_19 kw_318 (n := 0) (by decide +kernel) rfl ⟨⟨rfl, rfl⟩, ⟨Nat.le_of_ble_eq_true rfl, Nat.le_of_ble_eq_true rfl⟩, hTc1, hTs1⟩ rfl (Nat.le_of_ble_eq_true rfl) ⟨f72, f74⟩ dX5_wayNow_135) hS (fun q z w => absurd w (Nat.not_le.mpr z)) hn (fun r_88 H locs hR hz hk hS => ?_)
  have fl6 := fl6.kept (hk _ fl6.lt (Nat.not_le.mpr fl6.lt))
  have fR6 := fR6.kept (hk _ fR6.lt (Nat.not_le.mpr fR6.lt))
  have el6 := el6.new hk
  have h0s := h0s.kept (hk _ h0s.lt (Nat.not_le.mpr h0s.lt))
  have h1s := h1s.kept (hk _ h1s.lt (Nat.not_le.mpr h1s.lt))
  have h2s := h2s.kept (hk _ h2s.lt (Nat.not_le.mpr h2s.lt))
  have f72 := f72.kept (hk _ f72.lt (Nat.not_le.mpr f72.lt))
  have f74 := f74.kept (hk _ f74.lt (Nat.not_le.mpr f74.lt))
  obtain ⟨q_f89, z9_, y9_, f89⟩ := hR
  have f89 := SM.sx f89
  have zr_f89 : s.heap.size ≤ r_88 := Nat.le_trans hZ0_ z9_
  refine lv_astore_n (pc := 138) (lv' := [(3, .ref r_88), (5, .long x_69), (0, .ref mo), (1, .int x), (2, .ref r_5), (4, .int y9)]) hx hb dX5_wayNow_138 rfl hl (by decide) rfl (fun ls hl => ?_)
  obtain ⟨x_90, ex_90⟩ : ∃ z9 : Int32, z9 = y9 + 1 := ⟨_, rfl⟩
  refine lv_iinc (pc := 139) (v := x_90) (lv' := [(4, .int x_90), (3, .ref r_88), (5, .long x_69), (0, .ref mo), (1, .int x), (2, .ref r_5)]) hx hb dX5_wayNow_139 hl (k := 5) rfl (by rw [ex_90]; rfl) (by decide) rfl (fun ls hl => ?_)
  refine lv_goto (pc := 142) (tgt := 32) hx hb dX5_wayNow_142 (by decide) ?_
  refine W.widen (k := 49 + 8 * (k + 1)) (n := 175 + m_wS (k + 1)) hWc1 hWs1 ?_
  exact ih_32  (k + 1) _ (E9 + (dgJ x_69 - 1))  r_88 x_90 (by omega) (by omega) (i_up hx9 ex_90) hEn (fun z9 => absurd z9 (by omega)) (by omega) _ _ _ hS fl6 fR6 el6 f89 (lv_sub hl [3, 4, 5, 1, 0] rfl)
set_option maxHeartbeats 20000000 in
set_option maxRecDepth 100000 in
theorem g11_X5_wayNow {p : Program} {l : Launch} {e : Env} {s : State} {m : MethodId} {args : Array Value} {below : List Frame} {meth : Method} {c : Code} {Q : State → Prop} {D : va_G} {tk : Nat → ClassId} {N0 : Nat} {sa : Nat → Nat} (E : CallFix p m c cX5_wayNow 7 s args (wsy yX5_wayNow cX5_wayNow 7 (some (.object "java/lang/String"))) RX5) (hC : Ctx D tk N0 sa s) (hA : ∀ q, (nwA s.heap.size) q → N0 ≤ q) (hn : ∀ q, s.heap.size ≤ q → (nwA s.heap.size) q) (hr : meth.sig.returnType = (some (.object "java/lang/String"))) (hlk : meth.locks = false) (P : Nat → Prop) (hPN : ∀ q, P q → N0 ≤ q) (mo : Nat) (n9 : Nat) (kn : Int32) (th : Int32) (tt : Nat → Int64) (bb : Nat → Int64) (eT : Int64) (eB : Int64) (oT : Int64) (oB : Int64) (pk : Nat) (ca : Int32) (rf : Int32) (vs : Nat → Value) (x : Int32) (k_x : Nat) (hx_x : x = nI k_x) (hk_x : k_x < 6) (nl6 : Nat) (bb6 : Nat) (cap6 : Nat) (ff6 : Nat → Option Nat) (ww6 : Nat → Value) (md6 : Int32) (T : Nat → Int) (u2 : T (nl6 + 1) = 0) (u3 : ∀ i, i < nl6 → ∃ x : Int64, ww6 i = .long x ∧ x.toInt * T (i + 1) + T (i + 2) = T i) (u4 : ∀ i, 1 ≤ i → i ≤ nl6 → 1 ≤ T i ∧ T i ≤ 1000000000) (hlm6 : nl6 ≤ 43) (r_5 : Nat) (v_81 : Nat) (qf72 : Nat) (x_69 : Int64) (n : Nat) (k : Nat) (l9 : Nat) (E9 : Nat) (q9 : Nat) (y9 : Int32) (hf9 : 44 - k < n + 1) (hk9 : k ≤ nl6) (hx9 : y9 = nI k) (hE9 : ((10 ^ E9 : Nat) : Int) * T k ≤ 1000000000) (hZ9 : (k = 0 → E9 = 0)) (hL8 : l9 ≤ 3 * k + E9) (ih_32 : ∀ (k : Nat) (l9 : Nat) (E9 : Nat)(q9 : Nat) (y9 : Int32), 44 - k < n → k ≤ nl6 → y9 = nI k → ((10 ^ E9 : Nat) : Int) * T k ≤ 1000000000 → (k = 0 → E9 = 0) → l9 ≤ 3 * k + E9 → ∀ (H : Heap) (locs : List Loc) (ls : Array Slot), va_S (nwA s.heap.size) s.heap H locs → c1 D r_5 (.inr (7, [.int md6, .ref bb6, .int (nI nl6)])) H → c1 D bb6 (.inl (tk 4, cap6, .inr (.inr (.inr (.inr (ff6)))))) H → EL D 3 nl6 ff6 ww6 H → SX D tk q9 l9 H → lv_has ls 7 [(0, .ref mo), (1, .int x), (2, .ref r_5), (3, .ref q9), (4, .int y9)] → W p l e ({ frames := 8, cells := 393, slots := 14193, locals := 186 } : Room) s m args below meth c H locs (49 + 8 * k) (175 + m_wS k) Q (F0 m 32 ls [])) (hd11 : dgJ x_69 ≤ 11) (hdl : 1 ≤ dgJ x_69) (hEn : ((10 ^ (E9 + (dgJ x_69 - 1)) : Nat) : Int) * T (k + 1) ≤ 1000000000) (hkn : k < nl6) (b0_ : Nat) (hcA : sbC 16 (0 + l9) ≤ 500000) (hcB : sbC (sbC 16 (0 + l9)) (0 + l9 + 1) ≤ 500000) (hcC : sbC (sbC (sbC 16 (0 + l9)) (0 + l9 + 1)) (0 + l9 + 1 + 1) ≤ 500000) (hcD : sbC (sbC (sbC (sbC 16 (0 + l9)) (0 + l9 + 1)) (0 + l9 + 1 + 1)) (0 + l9 + 1 + 1 + dgJ x_69) ≤ 100000000) (hTc1 : 49 + 8 * k + 0 + 0 + 0 + 0 + 0 + 1 + 1 + (sbK 16 (0 + l9)) + 0 + (sbK (sbC 16 (0 + l9)) ((0 + l9) + 1)) + (sbK (sbC (sbC 16 (0 + l9)) ((0 + l9) + 1)) (((0 + l9) + 1) + 1)) + (sbK (sbC (sbC (sbC 16 (0 + l9)) ((0 + l9) + 1)) (((0 + l9) + 1) + 1)) ((((0 + l9) + 1) + 1) + dgJ x_69)) + 2 ≤ 393) (hTs1 : 175 + m_wS k + 0 + 0 + 0 + 0 + 0 + 4 + 16 + (sbS 16 (0 + l9)) + 0 + (sbS (sbC 16 (0 + l9)) ((0 + l9) + 1)) + (sbS (sbC (sbC 16 (0 + l9)) ((0 + l9) + 1)) (((0 + l9) + 1) + 1)) + (sbS (sbC (sbC (sbC 16 (0 + l9)) ((0 + l9) + 1)) (((0 + l9) + 1) + 1)) ((((0 + l9) + 1) + 1) + dgJ x_69)) + (4 + ((((0 + l9) + 1) + 1) + dgJ x_69)) ≤ 14193) (hWc1 : 49 + 8 * k + 0 + 0 + 0 + 0 + 0 + 1 + 1 + (sbK 16 (0 + l9)) + 0 + (sbK (sbC 16 (0 + l9)) ((0 + l9) + 1)) + (sbK (sbC (sbC 16 (0 + l9)) ((0 + l9) + 1)) (((0 + l9) + 1) + 1)) + (sbK (sbC (sbC (sbC 16 (0 + l9)) ((0 + l9) + 1)) (((0 + l9) + 1) + 1)) ((((0 + l9) + 1) + 1) + dgJ x_69)) + 2 ≤ 49 + 8 * (k + 1)) (hWs1 : 175 + m_wS k + 0 + 0 + 0 + 0 + 0 + 4 + 16 + (sbS 16 (0 + l9)) + 0 + (sbS (sbC 16 (0 + l9)) ((0 + l9) + 1)) + (sbS (sbC (sbC 16 (0 + l9)) ((0 + l9) + 1)) (((0 + l9) + 1) + 1)) + (sbS (sbC (sbC (sbC 16 (0 + l9)) ((0 + l9) + 1)) (((0 + l9) + 1) + 1)) ((((0 + l9) + 1) + 1) + dgJ x_69)) + (4 + ((((0 + l9) + 1) + 1) + dgJ x_69)) ≤ 175 + m_wS (k + 1)) (H : Heap) (locs : List Loc) (ls : Array Slot) (hS : va_S (nwA s.heap.size) s.heap H locs) (fl6 : c1 D r_5 (.inr (7, [.int md6, .ref bb6, .int (nI nl6)])) H) (fR6 : c1 D bb6 (.inl (tk 4, cap6, .inr (.inr (.inr (.inr (ff6)))))) H) (el6 : EL D 3 nl6 ff6 ww6 H) (h0s : xf D 0 q9 0 (.ref b0_) H) (h1s : xf D 0 q9 1 (.int 0) H) (h2s : BX tk b0_ l9 H) (f72 : c1 D qf72 (.inr (1, [.ref v_81, .int 0, .int 0, .int (nI ((0 + l9) + 1))])) H) (f74 : BA D tk v_81 (sbC (sbC 16 (0 + l9)) ((0 + l9) + 1)) H) (k91 : SX D tk (sa (10 + 10)) 1 H) (s_f72 : s.heap.size ≤ qf72) (g_f72 : (nwA s.heap.size) qf72) (g_f74 : (nwA s.heap.size) v_81) (l_f72_f74 : qf72 < v_81) (l_fR6_f72 : bb6 < qf72) (l_fR6_f74 : bb6 < v_81) (l_fl6_f72 : r_5 < qf72) (l_fl6_f74 : r_5 < v_81) (l_h0s_f72 : q9 < qf72) (l_h0s_f74 : q9 < v_81) (l_h1s_f72 : q9 < qf72) (l_h1s_f74 : q9 < v_81) (l_h2s_f72 : b0_ < qf72) (l_h2s_f74 : b0_ < v_81) (hl : lv_has ls 7 [(5, .long x_69), (0, .ref mo), (1, .int x), (2, .ref r_5), (3, .ref q9), (4, .int y9)]) : W p l e ({ frames := 8, cells := 393, slots := 14193, locals := 186 } : Room) s m args below meth c H locs (49 + 8 * k + 0 + 0 + 0 + 0 + 0 + 1 + 1 + (sbK 16 (0 + l9)) + 0 + (sbK (sbC 16 (0 + l9)) ((0 + l9) + 1))) (175 + m_wS k + 0 + 0 + 0 + 0 + 0 + 4 + 16 + (sbS 16 (0 + l9)) + 0 + (sbS (sbC 16 (0 + l9)) ((0 + l9) + 1))) Q (F0 m 127 ls [.ref (sa (10 + 10)), .ref qf72]) := by
  obtain ⟨hx, hb, -⟩ := id E
  have hZ0_ := hS.1
  have t_fl6 := fl6.lt
  have t_fR6 := fR6.lt
  have t_h0s := h0s.lt
  have t_h1s := h1s.lt
  have t_h2s := h2s.lt
  have t_f72 := f72.lt
  have t_f74 := f74.lt
  have t_k91 := k91.lt
  refine k_r (pc := 127) (k_V E hC hS hA hl.1 (c1.recv hC f72 rfl) rfl (c_J4_append_15ec4 l D tk N0 sa H.size qf72 v_81 (sbC (sbC 16 (0 + l9)) ((0 + l9) + 1)) ((0 + l9) + 1) (sa (10 + 10)) 1 0 (hA _ g_f72) (hA _ g_f74) (sbC_ge _ _).1 hcB (by decide)) kw_1353 kw_399 kw_400 kw_19 kw_401 (n := 1) (by decide +kernel) rfl ⟨⟨rfl, rfl⟩, ⟨Nat.le_of_ble_eq_true rfl, Nat.le_of_ble_eq_true rfl⟩, (pre1 (pre1 hTc1)), (pre1 (pre1 hTs1))⟩ rfl (Nat.le_of_ble_eq_true rfl) ⟨f72, f74, k91⟩ dX5_wayNow_127) hS (inA2.to g_f72 g_f74) hn (fun r_92 H locs hR hz hk hS => ?_)
  have fl6 := fl6.kept (hk _ fl6.lt (inA2.not (clA.ne fl6.cl f72.cl (hC.oo 7 1 rfl rfl (by decide))) (clA.ne fl6.cl f74.cl (hC.oa 7 1 rfl rfl)) fl6.lt))
  have fR6 := fR6.kept (hk _ fR6.lt (inA2.not (clA.ne fR6.cla f72.cl (hC.ao 1 4 rfl rfl)) (clA.ne fR6.cla f74.cl (hC.aa 4 1 rfl rfl (by dsimp only; decide))) fR6.lt))
  have el6 := el6.keep2 hk (fun q9 h9 => clA.ne h9 f72.cl (hC.ceo (Or.inl rfl) 1 rfl (by decide))) (fun q9 h9 => clA.ne h9 f74.cl (hC.cea (Or.inl rfl) 1 rfl))
  have h0s := h0s.kept (hk _ h0s.lt (inA2.not (clA.ne h0s.cl f72.cl (hC.oo 0 1 rfl rfl (by decide))) (clA.ne h0s.cl f74.cl (hC.oa 0 1 rfl rfl)) h0s.lt))
  have h1s := h1s.kept (hk _ h1s.lt (inA2.not (clA.ne h1s.cl f72.cl (hC.oo 0 1 rfl rfl (by decide))) (clA.ne h1s.cl f74.cl (hC.oa 0 1 rfl rfl)) h1s.lt))
  have h2s := h2s.kept (hk _ h2s.lt (inA2.not (h2s.neo hC f72.cl (ci := 1) rfl) (Nat.ne_of_lt l_h2s_f74) h2s.lt))
  obtain ⟨er9, hR⟩ := hR
  rw [er9]
  obtain ⟨v_93, hv_93, f72, f74⟩ := hR
  have g_f74 := hv_93.elim (fun e9 => e9 ▸ g_f74) (fun z9 => hn _ (Nat.le_trans hZ0_ z9))
  have l_fl6_f74 : r_5 < v_93 := hv_93.elim (fun e9 => e9 ▸ l_fl6_f74) (fun z9 => Nat.lt_of_lt_of_le t_fl6 z9)
  have l_fR6_f74 : bb6 < v_93 := hv_93.elim (fun e9 => e9 ▸ l_fR6_f74) (fun z9 => Nat.lt_of_lt_of_le t_fR6 z9)
  have l_h0s_f74 : q9 < v_93 := hv_93.elim (fun e9 => e9 ▸ l_h0s_f74) (fun z9 => Nat.lt_of_lt_of_le t_h0s z9)
  have l_h1s_f74 : q9 < v_93 := hv_93.elim (fun e9 => e9 ▸ l_h1s_f74) (fun z9 => Nat.lt_of_lt_of_le t_h1s z9)
  have l_h2s_f74 : b0_ < v_93 := hv_93.elim (fun e9 => e9 ▸ l_h2s_f74) (fun z9 => Nat.lt_of_lt_of_le t_h2s z9)
  have l_f72_f74 : qf72 < v_93 := hv_93.elim (fun e9 => e9 ▸ l_f72_f74) (fun z9 => Nat.lt_of_lt_of_le t_f72 z9)
  have hv_93 := hv_93.imp_right (fun z9 => Nat.le_trans hZ0_ z9)
  refine lv_lload (pc := 130) hx hb dX5_wayNow_130 (lv_at hl 0 rfl) ?_
  have hZ0_ := hS.1
  have t_fl6 := fl6.lt
  have t_fR6 := fR6.lt
  have t_h0s := h0s.lt
  have t_h1s := h1s.lt
  have t_h2s := h2s.lt
  have t_f72 := f72.lt
  have t_f74 := f74.lt
  refine k_r (pc := 132) (k_V E hC hS hA hl.1 (c1.recv hC f72 rfl) rfl (c_J4_append_f7089 l D tk N0 sa H.size qf72 v_93 (sbC (sbC (sbC 16 (0 + l9)) ((0 + l9) + 1)) (((0 + l9) + 1) + 1)) (((0 + l9) + 1) + 1) 0 x_69 (hA _ g_f72) (hA _ g_f74) (sbC_ge _ _).1 hcC) kw_1354 kw_1355 kw_1356 kw_19 kw_1357 (n := 1) (by decide +kernel) rfl ⟨⟨rfl, rfl⟩, ⟨Nat.le_of_ble_eq_true rfl, Nat.le_of_ble_eq_true rfl⟩, (pre1 hTc1), (pre1 hTs1)⟩ rfl (Nat.le_of_ble_eq_true rfl) ⟨f72, f74⟩ dX5_wayNow_132) hS (inA2.to g_f72 g_f74) hn (fun r_94 H locs hR hz hk hS => ?_)
  have fl6 := fl6.kept (hk _ fl6.lt (inA2.not (clA.ne fl6.cl f72.cl (hC.oo 7 1 rfl rfl (by decide))) (clA.ne fl6.cl f74.cl (hC.oa 7 1 rfl rfl)) fl6.lt))
  have fR6 := fR6.kept (hk _ fR6.lt (inA2.not (clA.ne fR6.cla f72.cl (hC.ao 1 4 rfl rfl)) (clA.ne fR6.cla f74.cl (hC.aa 4 1 rfl rfl (by dsimp only; decide))) fR6.lt))
  have el6 := el6.keep2 hk (fun q9 h9 => clA.ne h9 f72.cl (hC.ceo (Or.inl rfl) 1 rfl (by decide))) (fun q9 h9 => clA.ne h9 f74.cl (hC.cea (Or.inl rfl) 1 rfl))
  have h0s := h0s.kept (hk _ h0s.lt (inA2.not (clA.ne h0s.cl f72.cl (hC.oo 0 1 rfl rfl (by decide))) (clA.ne h0s.cl f74.cl (hC.oa 0 1 rfl rfl)) h0s.lt))
  have h1s := h1s.kept (hk _ h1s.lt (inA2.not (clA.ne h1s.cl f72.cl (hC.oo 0 1 rfl rfl (by decide))) (clA.ne h1s.cl f74.cl (hC.oa 0 1 rfl rfl)) h1s.lt))
  have h2s := h2s.kept (hk _ h2s.lt (inA2.not (h2s.neo hC f72.cl (ci := 1) rfl) (Nat.ne_of_lt l_h2s_f74) h2s.lt))
  obtain ⟨er9, hR⟩ := hR
  rw [er9]
  obtain ⟨v_95, hv_95, f72, f74⟩ := hR
  have g_f74 := hv_95.elim (fun e9 => e9 ▸ g_f74) (fun z9 => hn _ (Nat.le_trans hZ0_ z9))
  have l_fl6_f74 : r_5 < v_95 := hv_95.elim (fun e9 => e9 ▸ l_fl6_f74) (fun z9 => Nat.lt_of_lt_of_le t_fl6 z9)
  have l_fR6_f74 : bb6 < v_95 := hv_95.elim (fun e9 => e9 ▸ l_fR6_f74) (fun z9 => Nat.lt_of_lt_of_le t_fR6 z9)
  have l_h0s_f74 : q9 < v_95 := hv_95.elim (fun e9 => e9 ▸ l_h0s_f74) (fun z9 => Nat.lt_of_lt_of_le t_h0s z9)
  have l_h1s_f74 : q9 < v_95 := hv_95.elim (fun e9 => e9 ▸ l_h1s_f74) (fun z9 => Nat.lt_of_lt_of_le t_h1s z9)
  have l_h2s_f74 : b0_ < v_95 := hv_95.elim (fun e9 => e9 ▸ l_h2s_f74) (fun z9 => Nat.lt_of_lt_of_le t_h2s z9)
  have l_f72_f74 : qf72 < v_95 := hv_95.elim (fun e9 => e9 ▸ l_f72_f74) (fun z9 => Nat.lt_of_lt_of_le t_f72 z9)
  have hv_95 := hv_95.imp_right (fun z9 => Nat.le_trans hZ0_ z9)
  have hv_95 := hv_95.elim (fun e9 => e9 ▸ hv_93) Or.inr
  have hZ0_ := hS.1
  have t_fl6 := fl6.lt
  have t_fR6 := fR6.lt
  have t_h0s := h0s.lt
  have t_h1s := h1s.lt
  have t_h2s := h2s.lt
  have t_f72 := f72.lt
  have t_f74 := f74.lt
  refine k_r (pc := 135) (k_V E hC hS hA hl.1 (c1.recv hC f72 rfl) rfl (c_J4_toString_0e30d l D tk N0 sa H.size qf72 v_95 (sbC (sbC (sbC (sbC 16 (0 + l9)) ((0 + l9) + 1)) (((0 + l9) + 1) + 1)) ((((0 + l9) + 1) + 1) + dgJ x_69)) ((((0 + l9) + 1) + 1) + dgJ x_69) 0 (sbC_ge _ _).1 hcD) kw_1381 kw_316 kw_317 kw_19 kw_318 (n := 0) (by decide +kernel) rfl ⟨⟨rfl, rfl⟩, ⟨Nat.le_of_ble_eq_true rfl, Nat.le_of_ble_eq_true rfl⟩, hTc1, hTs1⟩ rfl (Nat.le_of_ble_eq_true rfl) ⟨f72, f74⟩ dX5_wayNow_135) hS (fun q z w => absurd w (Nat.not_le.mpr z)) hn (fun r_96 H locs hR hz hk hS => ?_)
  have fl6 := fl6.kept (hk _ fl6.lt (Nat.not_le.mpr fl6.lt))
  have fR6 := fR6.kept (hk _ fR6.lt (Nat.not_le.mpr fR6.lt))
  have el6 := el6.new hk
  have h0s := h0s.kept (hk _ h0s.lt (Nat.not_le.mpr h0s.lt))
  have h1s := h1s.kept (hk _ h1s.lt (Nat.not_le.mpr h1s.lt))
  have h2s := h2s.kept (hk _ h2s.lt (Nat.not_le.mpr h2s.lt))
  have f72 := f72.kept (hk _ f72.lt (Nat.not_le.mpr f72.lt))
  have f74 := f74.kept (hk _ f74.lt (Nat.not_le.mpr f74.lt))
  obtain ⟨q_f97, z9_, y9_, f97⟩ := hR
  have f97 := SM.sx f97
  have zr_f97 : s.heap.size ≤ r_96 := Nat.le_trans hZ0_ z9_
  refine lv_astore_n (pc := 138) (lv' := [(3, .ref r_96), (5, .long x_69), (0, .ref mo), (1, .int x), (2, .ref r_5), (4, .int y9)]) hx hb dX5_wayNow_138 rfl hl (by decide) rfl (fun ls hl => ?_)
  obtain ⟨x_98, ex_98⟩ : ∃ z9 : Int32, z9 = y9 + 1 := ⟨_, rfl⟩
  refine lv_iinc (pc := 139) (v := x_98) (lv' := [(4, .int x_98), (3, .ref r_96), (5, .long x_69), (0, .ref mo), (1, .int x), (2, .ref r_5)]) hx hb dX5_wayNow_139 hl (k := 5) rfl (by rw [ex_98]; rfl) (by decide) rfl (fun ls hl => ?_)
  refine lv_goto (pc := 142) (tgt := 32) hx hb dX5_wayNow_142 (by decide) ?_
  refine W.widen (k := 49 + 8 * (k + 1)) (n := 175 + m_wS (k + 1)) hWc1 hWs1 ?_
  exact ih_32  (k + 1) _ (E9 + (dgJ x_69 - 1))  r_96 x_98 (by omega) (by omega) (i_up hx9 ex_98) hEn (fun z9 => absurd z9 (by omega)) (by omega) _ _ _ hS fl6 fR6 el6 f97 (lv_sub hl [3, 4, 5, 1, 0] rfl)
set_option maxHeartbeats 20000000 in
set_option maxRecDepth 100000 in
theorem g9_X5_wayNow {p : Program} {l : Launch} {e : Env} {s : State} {m : MethodId} {args : Array Value} {below : List Frame} {meth : Method} {c : Code} {Q : State → Prop} {D : va_G} {tk : Nat → ClassId} {N0 : Nat} {sa : Nat → Nat} (E : CallFix p m c cX5_wayNow 7 s args (wsy yX5_wayNow cX5_wayNow 7 (some (.object "java/lang/String"))) RX5) (hC : Ctx D tk N0 sa s) (hA : ∀ q, (nwA s.heap.size) q → N0 ≤ q) (hn : ∀ q, s.heap.size ≤ q → (nwA s.heap.size) q) (hr : meth.sig.returnType = (some (.object "java/lang/String"))) (hlk : meth.locks = false) (P : Nat → Prop) (hPN : ∀ q, P q → N0 ≤ q) (mo : Nat) (n9 : Nat) (kn : Int32) (th : Int32) (tt : Nat → Int64) (bb : Nat → Int64) (eT : Int64) (eB : Int64) (oT : Int64) (oB : Int64) (pk : Nat) (ca : Int32) (rf : Int32) (vs : Nat → Value) (x : Int32) (k_x : Nat) (hx_x : x = nI k_x) (hk_x : k_x < 6) (nl6 : Nat) (bb6 : Nat) (cap6 : Nat) (ff6 : Nat → Option Nat) (ww6 : Nat → Value) (md6 : Int32) (T : Nat → Int) (u2 : T (nl6 + 1) = 0) (u3 : ∀ i, i < nl6 → ∃ x : Int64, ww6 i = .long x ∧ x.toInt * T (i + 1) + T (i + 2) = T i) (u4 : ∀ i, 1 ≤ i → i ≤ nl6 → 1 ≤ T i ∧ T i ≤ 1000000000) (hlm6 : nl6 ≤ 43) (r_5 : Nat) (v_76 : Nat) (qf72 : Nat) (x_69 : Int64) (n : Nat) (k : Nat) (l9 : Nat) (E9 : Nat) (q9 : Nat) (y9 : Int32) (hf9 : 44 - k < n + 1) (hk9 : k ≤ nl6) (hx9 : y9 = nI k) (hE9 : ((10 ^ E9 : Nat) : Int) * T k ≤ 1000000000) (hZ9 : (k = 0 → E9 = 0)) (hL8 : l9 ≤ 3 * k + E9) (ih_32 : ∀ (k : Nat) (l9 : Nat) (E9 : Nat)(q9 : Nat) (y9 : Int32), 44 - k < n → k ≤ nl6 → y9 = nI k → ((10 ^ E9 : Nat) : Int) * T k ≤ 1000000000 → (k = 0 → E9 = 0) → l9 ≤ 3 * k + E9 → ∀ (H : Heap) (locs : List Loc) (ls : Array Slot), va_S (nwA s.heap.size) s.heap H locs → c1 D r_5 (.inr (7, [.int md6, .ref bb6, .int (nI nl6)])) H → c1 D bb6 (.inl (tk 4, cap6, .inr (.inr (.inr (.inr (ff6)))))) H → EL D 3 nl6 ff6 ww6 H → SX D tk q9 l9 H → lv_has ls 7 [(0, .ref mo), (1, .int x), (2, .ref r_5), (3, .ref q9), (4, .int y9)] → W p l e ({ frames := 8, cells := 393, slots := 14193, locals := 186 } : Room) s m args below meth c H locs (49 + 8 * k) (175 + m_wS k) Q (F0 m 32 ls [])) (hd11 : dgJ x_69 ≤ 11) (hdl : 1 ≤ dgJ x_69) (hEn : ((10 ^ (E9 + (dgJ x_69 - 1)) : Nat) : Int) * T (k + 1) ≤ 1000000000) (hkn : k < nl6) (b0_ : Nat) (hcA : sbC 16 (0 + l9) ≤ 500000) (hcB : sbC (sbC 16 (0 + l9)) (0 + l9 + 1) ≤ 500000) (hcC : sbC (sbC (sbC 16 (0 + l9)) (0 + l9 + 1)) (0 + l9 + 1 + 1) ≤ 500000) (hcD : sbC (sbC (sbC (sbC 16 (0 + l9)) (0 + l9 + 1)) (0 + l9 + 1 + 1)) (0 + l9 + 1 + 1 + dgJ x_69) ≤ 100000000) (hTc1 : 49 + 8 * k + 0 + 0 + 0 + 0 + 0 + 1 + 1 + (sbK 16 (0 + l9)) + 0 + (sbK (sbC 16 (0 + l9)) ((0 + l9) + 1)) + (sbK (sbC (sbC 16 (0 + l9)) ((0 + l9) + 1)) (((0 + l9) + 1) + 1)) + (sbK (sbC (sbC (sbC 16 (0 + l9)) ((0 + l9) + 1)) (((0 + l9) + 1) + 1)) ((((0 + l9) + 1) + 1) + dgJ x_69)) + 2 ≤ 393) (hTs1 : 175 + m_wS k + 0 + 0 + 0 + 0 + 0 + 4 + 16 + (sbS 16 (0 + l9)) + 0 + (sbS (sbC 16 (0 + l9)) ((0 + l9) + 1)) + (sbS (sbC (sbC 16 (0 + l9)) ((0 + l9) + 1)) (((0 + l9) + 1) + 1)) + (sbS (sbC (sbC (sbC 16 (0 + l9)) ((0 + l9) + 1)) (((0 + l9) + 1) + 1)) ((((0 + l9) + 1) + 1) + dgJ x_69)) + (4 + ((((0 + l9) + 1) + 1) + dgJ x_69)) ≤ 14193) (hWc1 : 49 + 8 * k + 0 + 0 + 0 + 0 + 0 + 1 + 1 + (sbK 16 (0 + l9)) + 0 + (sbK (sbC 16 (0 + l9)) ((0 + l9) + 1)) + (sbK (sbC (sbC 16 (0 + l9)) ((0 + l9) + 1)) (((0 + l9) + 1) + 1)) + (sbK (sbC (sbC (sbC 16 (0 + l9)) ((0 + l9) + 1)) (((0 + l9) + 1) + 1)) ((((0 + l9) + 1) + 1) + dgJ x_69)) + 2 ≤ 49 + 8 * (k + 1)) (hWs1 : 175 + m_wS k + 0 + 0 + 0 + 0 + 0 + 4 + 16 + (sbS 16 (0 + l9)) + 0 + (sbS (sbC 16 (0 + l9)) ((0 + l9) + 1)) + (sbS (sbC (sbC 16 (0 + l9)) ((0 + l9) + 1)) (((0 + l9) + 1) + 1)) + (sbS (sbC (sbC (sbC 16 (0 + l9)) ((0 + l9) + 1)) (((0 + l9) + 1) + 1)) ((((0 + l9) + 1) + 1) + dgJ x_69)) + (4 + ((((0 + l9) + 1) + 1) + dgJ x_69)) ≤ 175 + m_wS (k + 1)) (hTc2 : 49 + 8 * k + 0 + 0 + 0 + 0 + 0 + 1 + 1 + (sbK 16 (0 + l9)) + 0 + (sbK (sbC 16 (0 + l9)) ((0 + l9) + 0)) + (sbK (sbC (sbC 16 (0 + l9)) ((0 + l9) + 0)) (((0 + l9) + 0) + 1)) + (sbK (sbC (sbC (sbC 16 (0 + l9)) ((0 + l9) + 0)) (((0 + l9) + 0) + 1)) ((((0 + l9) + 0) + 1) + dgJ x_69)) + 2 ≤ 393) (hTs2 : 175 + m_wS k + 0 + 0 + 0 + 0 + 0 + 4 + 16 + (sbS 16 (0 + l9)) + 0 + (sbS (sbC 16 (0 + l9)) ((0 + l9) + 0)) + (sbS (sbC (sbC 16 (0 + l9)) ((0 + l9) + 0)) (((0 + l9) + 0) + 1)) + (sbS (sbC (sbC (sbC 16 (0 + l9)) ((0 + l9) + 0)) (((0 + l9) + 0) + 1)) ((((0 + l9) + 0) + 1) + dgJ x_69)) + (4 + ((((0 + l9) + 0) + 1) + dgJ x_69)) ≤ 14193) (hWc2 : 49 + 8 * k + 0 + 0 + 0 + 0 + 0 + 1 + 1 + (sbK 16 (0 + l9)) + 0 + (sbK (sbC 16 (0 + l9)) ((0 + l9) + 0)) + (sbK (sbC (sbC 16 (0 + l9)) ((0 + l9) + 0)) (((0 + l9) + 0) + 1)) + (sbK (sbC (sbC (sbC 16 (0 + l9)) ((0 + l9) + 0)) (((0 + l9) + 0) + 1)) ((((0 + l9) + 0) + 1) + dgJ x_69)) + 2 ≤ 49 + 8 * (k + 1)) (hWs2 : 175 + m_wS k + 0 + 0 + 0 + 0 + 0 + 4 + 16 + (sbS 16 (0 + l9)) + 0 + (sbS (sbC 16 (0 + l9)) ((0 + l9) + 0)) + (sbS (sbC (sbC 16 (0 + l9)) ((0 + l9) + 0)) (((0 + l9) + 0) + 1)) + (sbS (sbC (sbC (sbC 16 (0 + l9)) ((0 + l9) + 0)) (((0 + l9) + 0) + 1)) ((((0 + l9) + 0) + 1) + dgJ x_69)) + (4 + ((((0 + l9) + 0) + 1) + dgJ x_69)) ≤ 175 + m_wS (k + 1)) (H : Heap) (locs : List Loc) (ls : Array Slot) (hS : va_S (nwA s.heap.size) s.heap H locs) (fl6 : c1 D r_5 (.inr (7, [.int md6, .ref bb6, .int (nI nl6)])) H) (fR6 : c1 D bb6 (.inl (tk 4, cap6, .inr (.inr (.inr (.inr (ff6)))))) H) (el6 : EL D 3 nl6 ff6 ww6 H) (h0s : xf D 0 q9 0 (.ref b0_) H) (h1s : xf D 0 q9 1 (.int 0) H) (h2s : BX tk b0_ l9 H) (f72 : c1 D qf72 (.inr (1, [.ref v_76, .int 0, .int 0, .int (nI (0 + l9))])) H) (f74 : BA D tk v_76 (sbC 16 (0 + l9)) H) (k79 : SX D tk (sa (10 + 8)) 1 H) (s_f72 : s.heap.size ≤ qf72) (g_f72 : (nwA s.heap.size) qf72) (g_f74 : (nwA s.heap.size) v_76) (l_f72_f74 : qf72 < v_76) (l_fR6_f72 : bb6 < qf72) (l_fR6_f74 : bb6 < v_76) (l_fl6_f72 : r_5 < qf72) (l_fl6_f74 : r_5 < v_76) (l_h0s_f72 : q9 < qf72) (l_h0s_f74 : q9 < v_76) (l_h1s_f72 : q9 < qf72) (l_h1s_f74 : q9 < v_76) (l_h2s_f72 : b0_ < qf72) (l_h2s_f74 : b0_ < v_76) (hl : lv_has ls 7 [(5, .long x_69), (0, .ref mo), (1, .int x), (2, .ref r_5), (3, .ref q9), (4, .int y9)]) : W p l e ({ frames := 8, cells := 393, slots := 14193, locals := 186 } : Room) s m args below meth c H locs (49 + 8 * k + 0 + 0 + 0 + 0 + 0 + 1 + 1 + (sbK 16 (0 + l9)) + 0) (175 + m_wS k + 0 + 0 + 0 + 0 + 0 + 4 + 16 + (sbS 16 (0 + l9)) + 0) Q (F0 m 108 ls [.ref (sa (10 + 8)), .ref qf72]) := by
  obtain ⟨hx, hb, -⟩ := id E
  have hZ0_ := hS.1
  have t_fl6 := fl6.lt
  have t_fR6 := fR6.lt
  have t_h0s := h0s.lt
  have t_h1s := h1s.lt
  have t_h2s := h2s.lt
  have t_f72 := f72.lt
  have t_f74 := f74.lt
  have t_k79 := k79.lt
  refine k_r (pc := 108) (k_V E hC hS hA hl.1 (c1.recv hC f72 rfl) rfl (c_J4_append_15ec4 l D tk N0 sa H.size qf72 v_76 (sbC 16 (0 + l9)) (0 + l9) (sa (10 + 8)) 1 0 (hA _ g_f72) (hA _ g_f74) (sbC_ge _ _).1 hcA (by decide)) kw_1353 kw_399 kw_400 kw_19 kw_401 (n := 1) (by decide +kernel) rfl ⟨⟨rfl, rfl⟩, ⟨Nat.le_of_ble_eq_true rfl, Nat.le_of_ble_eq_true rfl⟩, (pre1 (pre1 (pre1 hTc1))), (pre1 (pre1 (pre1 hTs1)))⟩ rfl (Nat.le_of_ble_eq_true rfl) ⟨f72, f74, k79⟩ dX5_wayNow_108) hS (inA2.to g_f72 g_f74) hn (fun r_80 H locs hR hz hk hS => ?_)
  have fl6 := fl6.kept (hk _ fl6.lt (inA2.not (clA.ne fl6.cl f72.cl (hC.oo 7 1 rfl rfl (by decide))) (clA.ne fl6.cl f74.cl (hC.oa 7 1 rfl rfl)) fl6.lt))
  have fR6 := fR6.kept (hk _ fR6.lt (inA2.not (clA.ne fR6.cla f72.cl (hC.ao 1 4 rfl rfl)) (clA.ne fR6.cla f74.cl (hC.aa 4 1 rfl rfl (by dsimp only; decide))) fR6.lt))
  have el6 := el6.keep2 hk (fun q9 h9 => clA.ne h9 f72.cl (hC.ceo (Or.inl rfl) 1 rfl (by decide))) (fun q9 h9 => clA.ne h9 f74.cl (hC.cea (Or.inl rfl) 1 rfl))
  have h0s := h0s.kept (hk _ h0s.lt (inA2.not (clA.ne h0s.cl f72.cl (hC.oo 0 1 rfl rfl (by decide))) (clA.ne h0s.cl f74.cl (hC.oa 0 1 rfl rfl)) h0s.lt))
  have h1s := h1s.kept (hk _ h1s.lt (inA2.not (clA.ne h1s.cl f72.cl (hC.oo 0 1 rfl rfl (by decide))) (clA.ne h1s.cl f74.cl (hC.oa 0 1 rfl rfl)) h1s.lt))
  have h2s := h2s.kept (hk _ h2s.lt (inA2.not (h2s.neo hC f72.cl (ci := 1) rfl) (Nat.ne_of_lt l_h2s_f74) h2s.lt))
  obtain ⟨er9, hR⟩ := hR
  rw [er9]
  obtain ⟨v_81, hv_81, f72, f74⟩ := hR
  have g_f74 := hv_81.elim (fun e9 => e9 ▸ g_f74) (fun z9 => hn _ (Nat.le_trans hZ0_ z9))
  have l_fl6_f74 : r_5 < v_81 := hv_81.elim (fun e9 => e9 ▸ l_fl6_f74) (fun z9 => Nat.lt_of_lt_of_le t_fl6 z9)
  have l_fR6_f74 : bb6 < v_81 := hv_81.elim (fun e9 => e9 ▸ l_fR6_f74) (fun z9 => Nat.lt_of_lt_of_le t_fR6 z9)
  have l_h0s_f74 : q9 < v_81 := hv_81.elim (fun e9 => e9 ▸ l_h0s_f74) (fun z9 => Nat.lt_of_lt_of_le t_h0s z9)
  have l_h1s_f74 : q9 < v_81 := hv_81.elim (fun e9 => e9 ▸ l_h1s_f74) (fun z9 => Nat.lt_of_lt_of_le t_h1s z9)
  have l_h2s_f74 : b0_ < v_81 := hv_81.elim (fun e9 => e9 ▸ l_h2s_f74) (fun z9 => Nat.lt_of_lt_of_le t_h2s z9)
  have l_f72_f74 : qf72 < v_81 := hv_81.elim (fun e9 => e9 ▸ l_f72_f74) (fun z9 => Nat.lt_of_lt_of_le t_f72 z9)
  have hv_81 := hv_81.imp_right (fun z9 => Nat.le_trans hZ0_ z9)
  refine lv_iload (pc := 111) hx hb dX5_wayNow_111 (lv_at hl 5 rfl) ?_
  refine lv_iconst (pc := 113) (v := 2) hx hb dX5_wayNow_113 (by decide) ?_
  refine lv_irem (pc := 114) hx hb dX5_wayNow_114 (by decide) ?_
  refine lv_if_ne (pc := 115) (tgt := 124) hx hb dX5_wayNow_115 (by decide) (fun c_82 => ?_) (fun c_82 => ?_)
  · refine r_ldcwS (pc := 124) E hC 11 _ rfl rfl rfl dX5_wayNow_124 ?_
    have k83 : SX D tk (sa (10 + 11)) 1 H := hC.str hS hA 11 _ rfl (by decide)
    exact g10_X5_wayNow E hC hA hn hr hlk P hPN mo n9 kn th tt bb eT eB oT oB pk ca rf vs x k_x hx_x hk_x nl6 bb6 cap6 ff6 ww6 md6 T u2 u3 u4 hlm6 r_5 v_81 qf72 x_69 n k l9 E9 q9 y9 hf9 hk9 hx9 hE9 hZ9 hL8 ih_32 hd11 hdl hEn hkn b0_ hcA hcB hcC hcD hTc1 hTs1 hWc1 hWs1 _ _ _ hS fl6 fR6 el6 h0s h1s h2s f72 f74 k83 s_f72 g_f72 g_f74 l_f72_f74 l_fR6_f72 l_fR6_f74 l_fl6_f72 l_fl6_f74 l_h0s_f72 l_h0s_f74 l_h1s_f72 l_h1s_f74 l_h2s_f72 l_h2s_f74 hl
  · refine r_ldcwS (pc := 118) E hC 10 _ rfl rfl rfl dX5_wayNow_118 ?_
    have k91 : SX D tk (sa (10 + 10)) 1 H := hC.str hS hA 10 _ rfl (by decide)
    refine lv_goto (pc := 121) (tgt := 127) hx hb dX5_wayNow_121 (by decide) ?_
    exact g11_X5_wayNow E hC hA hn hr hlk P hPN mo n9 kn th tt bb eT eB oT oB pk ca rf vs x k_x hx_x hk_x nl6 bb6 cap6 ff6 ww6 md6 T u2 u3 u4 hlm6 r_5 v_81 qf72 x_69 n k l9 E9 q9 y9 hf9 hk9 hx9 hE9 hZ9 hL8 ih_32 hd11 hdl hEn hkn b0_ hcA hcB hcC hcD hTc1 hTs1 hWc1 hWs1 _ _ _ hS fl6 fR6 el6 h0s h1s h2s f72 f74 k91 s_f72 g_f72 g_f74 l_f72_f74 l_fR6_f72 l_fR6_f74 l_fl6_f72 l_fl6_f74 l_h0s_f72 l_h0s_f74 l_h1s_f72 l_h1s_f74 l_h2s_f72 l_h2s_f74 hl
set_option maxHeartbeats 20000000 in
set_option maxRecDepth 100000 in
theorem g13_X5_wayNow {p : Program} {l : Launch} {e : Env} {s : State} {m : MethodId} {args : Array Value} {below : List Frame} {meth : Method} {c : Code} {Q : State → Prop} {D : va_G} {tk : Nat → ClassId} {N0 : Nat} {sa : Nat → Nat} (E : CallFix p m c cX5_wayNow 7 s args (wsy yX5_wayNow cX5_wayNow 7 (some (.object "java/lang/String"))) RX5) (hC : Ctx D tk N0 sa s) (hA : ∀ q, (nwA s.heap.size) q → N0 ≤ q) (hn : ∀ q, s.heap.size ≤ q → (nwA s.heap.size) q) (hr : meth.sig.returnType = (some (.object "java/lang/String"))) (hlk : meth.locks = false) (P : Nat → Prop) (hPN : ∀ q, P q → N0 ≤ q) (mo : Nat) (n9 : Nat) (kn : Int32) (th : Int32) (tt : Nat → Int64) (bb : Nat → Int64) (eT : Int64) (eB : Int64) (oT : Int64) (oB : Int64) (pk : Nat) (ca : Int32) (rf : Int32) (vs : Nat → Value) (x : Int32) (k_x : Nat) (hx_x : x = nI k_x) (hk_x : k_x < 6) (nl6 : Nat) (bb6 : Nat) (cap6 : Nat) (ff6 : Nat → Option Nat) (ww6 : Nat → Value) (md6 : Int32) (T : Nat → Int) (u2 : T (nl6 + 1) = 0) (u3 : ∀ i, i < nl6 → ∃ x : Int64, ww6 i = .long x ∧ x.toInt * T (i + 1) + T (i + 2) = T i) (u4 : ∀ i, 1 ≤ i → i ≤ nl6 → 1 ≤ T i ∧ T i ≤ 1000000000) (hlm6 : nl6 ≤ 43) (r_5 : Nat) (v_101 : Nat) (qf72 : Nat) (x_69 : Int64) (n : Nat) (k : Nat) (l9 : Nat) (E9 : Nat) (q9 : Nat) (y9 : Int32) (hf9 : 44 - k < n + 1) (hk9 : k ≤ nl6) (hx9 : y9 = nI k) (hE9 : ((10 ^ E9 : Nat) : Int) * T k ≤ 1000000000) (hZ9 : (k = 0 → E9 = 0)) (hL8 : l9 ≤ 3 * k + E9) (ih_32 : ∀ (k : Nat) (l9 : Nat) (E9 : Nat)(q9 : Nat) (y9 : Int32), 44 - k < n → k ≤ nl6 → y9 = nI k → ((10 ^ E9 : Nat) : Int) * T k ≤ 1000000000 → (k = 0 → E9 = 0) → l9 ≤ 3 * k + E9 → ∀ (H : Heap) (locs : List Loc) (ls : Array Slot), va_S (nwA s.heap.size) s.heap H locs → c1 D r_5 (.inr (7, [.int md6, .ref bb6, .int (nI nl6)])) H → c1 D bb6 (.inl (tk 4, cap6, .inr (.inr (.inr (.inr (ff6)))))) H → EL D 3 nl6 ff6 ww6 H → SX D tk q9 l9 H → lv_has ls 7 [(0, .ref mo), (1, .int x), (2, .ref r_5), (3, .ref q9), (4, .int y9)] → W p l e ({ frames := 8, cells := 393, slots := 14193, locals := 186 } : Room) s m args below meth c H locs (49 + 8 * k) (175 + m_wS k) Q (F0 m 32 ls [])) (hd11 : dgJ x_69 ≤ 11) (hdl : 1 ≤ dgJ x_69) (hEn : ((10 ^ (E9 + (dgJ x_69 - 1)) : Nat) : Int) * T (k + 1) ≤ 1000000000) (hkn : k < nl6) (b0_ : Nat) (hcA : sbC 16 (0 + l9) ≤ 500000) (hcB : sbC (sbC 16 (0 + l9)) (0 + l9 + 0) ≤ 500000) (hcC : sbC (sbC (sbC 16 (0 + l9)) (0 + l9 + 0)) (0 + l9 + 0 + 1) ≤ 500000) (hcD : sbC (sbC (sbC (sbC 16 (0 + l9)) (0 + l9 + 0)) (0 + l9 + 0 + 1)) (0 + l9 + 0 + 1 + dgJ x_69) ≤ 100000000) (hTc2 : 49 + 8 * k + 0 + 0 + 0 + 0 + 0 + 1 + 1 + (sbK 16 (0 + l9)) + 0 + (sbK (sbC 16 (0 + l9)) ((0 + l9) + 0)) + (sbK (sbC (sbC 16 (0 + l9)) ((0 + l9) + 0)) (((0 + l9) + 0) + 1)) + (sbK (sbC (sbC (sbC 16 (0 + l9)) ((0 + l9) + 0)) (((0 + l9) + 0) + 1)) ((((0 + l9) + 0) + 1) + dgJ x_69)) + 2 ≤ 393) (hTs2 : 175 + m_wS k + 0 + 0 + 0 + 0 + 0 + 4 + 16 + (sbS 16 (0 + l9)) + 0 + (sbS (sbC 16 (0 + l9)) ((0 + l9) + 0)) + (sbS (sbC (sbC 16 (0 + l9)) ((0 + l9) + 0)) (((0 + l9) + 0) + 1)) + (sbS (sbC (sbC (sbC 16 (0 + l9)) ((0 + l9) + 0)) (((0 + l9) + 0) + 1)) ((((0 + l9) + 0) + 1) + dgJ x_69)) + (4 + ((((0 + l9) + 0) + 1) + dgJ x_69)) ≤ 14193) (hWc2 : 49 + 8 * k + 0 + 0 + 0 + 0 + 0 + 1 + 1 + (sbK 16 (0 + l9)) + 0 + (sbK (sbC 16 (0 + l9)) ((0 + l9) + 0)) + (sbK (sbC (sbC 16 (0 + l9)) ((0 + l9) + 0)) (((0 + l9) + 0) + 1)) + (sbK (sbC (sbC (sbC 16 (0 + l9)) ((0 + l9) + 0)) (((0 + l9) + 0) + 1)) ((((0 + l9) + 0) + 1) + dgJ x_69)) + 2 ≤ 49 + 8 * (k + 1)) (hWs2 : 175 + m_wS k + 0 + 0 + 0 + 0 + 0 + 4 + 16 + (sbS 16 (0 + l9)) + 0 + (sbS (sbC 16 (0 + l9)) ((0 + l9) + 0)) + (sbS (sbC (sbC 16 (0 + l9)) ((0 + l9) + 0)) (((0 + l9) + 0) + 1)) + (sbS (sbC (sbC (sbC 16 (0 + l9)) ((0 + l9) + 0)) (((0 + l9) + 0) + 1)) ((((0 + l9) + 0) + 1) + dgJ x_69)) + (4 + ((((0 + l9) + 0) + 1) + dgJ x_69)) ≤ 175 + m_wS (k + 1)) (H : Heap) (locs : List Loc) (ls : Array Slot) (hS : va_S (nwA s.heap.size) s.heap H locs) (fl6 : c1 D r_5 (.inr (7, [.int md6, .ref bb6, .int (nI nl6)])) H) (fR6 : c1 D bb6 (.inl (tk 4, cap6, .inr (.inr (.inr (.inr (ff6)))))) H) (el6 : EL D 3 nl6 ff6 ww6 H) (h0s : xf D 0 q9 0 (.ref b0_) H) (h1s : xf D 0 q9 1 (.int 0) H) (h2s : BX tk b0_ l9 H) (f72 : c1 D qf72 (.inr (1, [.ref v_101, .int 0, .int 0, .int (nI ((0 + l9) + 0))])) H) (f74 : BA D tk v_101 (sbC (sbC 16 (0 + l9)) ((0 + l9) + 0)) H) (k103 : SX D tk (sa (10 + 11)) 1 H) (s_f72 : s.heap.size ≤ qf72) (g_f72 : (nwA s.heap.size) qf72) (g_f74 : (nwA s.heap.size) v_101) (l_f72_f74 : qf72 < v_101) (l_fR6_f72 : bb6 < qf72) (l_fR6_f74 : bb6 < v_101) (l_fl6_f72 : r_5 < qf72) (l_fl6_f74 : r_5 < v_101) (l_h0s_f72 : q9 < qf72) (l_h0s_f74 : q9 < v_101) (l_h1s_f72 : q9 < qf72) (l_h1s_f74 : q9 < v_101) (l_h2s_f72 : b0_ < qf72) (l_h2s_f74 : b0_ < v_101) (hl : lv_has ls 7 [(5, .long x_69), (0, .ref mo), (1, .int x), (2, .ref r_5), (3, .ref q9), (4, .int y9)]) : W p l e ({ frames := 8, cells := 393, slots := 14193, locals := 186 } : Room) s m args below meth c H locs (49 + 8 * k + 0 + 0 + 0 + 0 + 0 + 1 + 1 + (sbK 16 (0 + l9)) + 0 + (sbK (sbC 16 (0 + l9)) ((0 + l9) + 0))) (175 + m_wS k + 0 + 0 + 0 + 0 + 0 + 4 + 16 + (sbS 16 (0 + l9)) + 0 + (sbS (sbC 16 (0 + l9)) ((0 + l9) + 0))) Q (F0 m 127 ls [.ref (sa (10 + 11)), .ref qf72]) := by
  obtain ⟨hx, hb, -⟩ := id E
  have hZ0_ := hS.1
  have t_fl6 := fl6.lt
  have t_fR6 := fR6.lt
  have t_h0s := h0s.lt
  have t_h1s := h1s.lt
  have t_h2s := h2s.lt
  have t_f72 := f72.lt
  have t_f74 := f74.lt
  have t_k103 := k103.lt
  refine k_r (pc := 127) (k_V E hC hS hA hl.1 (c1.recv hC f72 rfl) rfl (c_J4_append_15ec4 l D tk N0 sa H.size qf72 v_101 (sbC (sbC 16 (0 + l9)) ((0 + l9) + 0)) ((0 + l9) + 0) (sa (10 + 11)) 1 0 (hA _ g_f72) (hA _ g_f74) (sbC_ge _ _).1 hcB (by decide)) kw_1353 kw_399 kw_400 kw_19 kw_401 (n := 1) (by decide +kernel) rfl ⟨⟨rfl, rfl⟩, ⟨Nat.le_of_ble_eq_true rfl, Nat.le_of_ble_eq_true rfl⟩, (pre1 (pre1 hTc2)), (pre1 (pre1 hTs2))⟩ rfl (Nat.le_of_ble_eq_true rfl) ⟨f72, f74, k103⟩ dX5_wayNow_127) hS (inA2.to g_f72 g_f74) hn (fun r_104 H locs hR hz hk hS => ?_)
  have fl6 := fl6.kept (hk _ fl6.lt (inA2.not (clA.ne fl6.cl f72.cl (hC.oo 7 1 rfl rfl (by decide))) (clA.ne fl6.cl f74.cl (hC.oa 7 1 rfl rfl)) fl6.lt))
  have fR6 := fR6.kept (hk _ fR6.lt (inA2.not (clA.ne fR6.cla f72.cl (hC.ao 1 4 rfl rfl)) (clA.ne fR6.cla f74.cl (hC.aa 4 1 rfl rfl (by dsimp only; decide))) fR6.lt))
  have el6 := el6.keep2 hk (fun q9 h9 => clA.ne h9 f72.cl (hC.ceo (Or.inl rfl) 1 rfl (by decide))) (fun q9 h9 => clA.ne h9 f74.cl (hC.cea (Or.inl rfl) 1 rfl))
  have h0s := h0s.kept (hk _ h0s.lt (inA2.not (clA.ne h0s.cl f72.cl (hC.oo 0 1 rfl rfl (by decide))) (clA.ne h0s.cl f74.cl (hC.oa 0 1 rfl rfl)) h0s.lt))
  have h1s := h1s.kept (hk _ h1s.lt (inA2.not (clA.ne h1s.cl f72.cl (hC.oo 0 1 rfl rfl (by decide))) (clA.ne h1s.cl f74.cl (hC.oa 0 1 rfl rfl)) h1s.lt))
  have h2s := h2s.kept (hk _ h2s.lt (inA2.not (h2s.neo hC f72.cl (ci := 1) rfl) (Nat.ne_of_lt l_h2s_f74) h2s.lt))
  obtain ⟨er9, hR⟩ := hR
  rw [er9]
  obtain ⟨v_105, hv_105, f72, f74⟩ := hR
  have g_f74 := hv_105.elim (fun e9 => e9 ▸ g_f74) (fun z9 => hn _ (Nat.le_trans hZ0_ z9))
  have l_fl6_f74 : r_5 < v_105 := hv_105.elim (fun e9 => e9 ▸ l_fl6_f74) (fun z9 => Nat.lt_of_lt_of_le t_fl6 z9)
  have l_fR6_f74 : bb6 < v_105 := hv_105.elim (fun e9 => e9 ▸ l_fR6_f74) (fun z9 => Nat.lt_of_lt_of_le t_fR6 z9)
  have l_h0s_f74 : q9 < v_105 := hv_105.elim (fun e9 => e9 ▸ l_h0s_f74) (fun z9 => Nat.lt_of_lt_of_le t_h0s z9)
  have l_h1s_f74 : q9 < v_105 := hv_105.elim (fun e9 => e9 ▸ l_h1s_f74) (fun z9 => Nat.lt_of_lt_of_le t_h1s z9)
  have l_h2s_f74 : b0_ < v_105 := hv_105.elim (fun e9 => e9 ▸ l_h2s_f74) (fun z9 => Nat.lt_of_lt_of_le t_h2s z9)
  have l_f72_f74 : qf72 < v_105 := hv_105.elim (fun e9 => e9 ▸ l_f72_f74) (fun z9 => Nat.lt_of_lt_of_le t_f72 z9)
  have hv_105 := hv_105.imp_right (fun z9 => Nat.le_trans hZ0_ z9)
  refine lv_lload (pc := 130) hx hb dX5_wayNow_130 (lv_at hl 0 rfl) ?_
  have hZ0_ := hS.1
  have t_fl6 := fl6.lt
  have t_fR6 := fR6.lt
  have t_h0s := h0s.lt
  have t_h1s := h1s.lt
  have t_h2s := h2s.lt
  have t_f72 := f72.lt
  have t_f74 := f74.lt
  refine k_r (pc := 132) (k_V E hC hS hA hl.1 (c1.recv hC f72 rfl) rfl (c_J4_append_f7089 l D tk N0 sa H.size qf72 v_105 (sbC (sbC (sbC 16 (0 + l9)) ((0 + l9) + 0)) (((0 + l9) + 0) + 1)) (((0 + l9) + 0) + 1) 0 x_69 (hA _ g_f72) (hA _ g_f74) (sbC_ge _ _).1 hcC) kw_1354 kw_1355 kw_1356 kw_19 kw_1357 (n := 1) (by decide +kernel) rfl ⟨⟨rfl, rfl⟩, ⟨Nat.le_of_ble_eq_true rfl, Nat.le_of_ble_eq_true rfl⟩, (pre1 hTc2), (pre1 hTs2)⟩ rfl (Nat.le_of_ble_eq_true rfl) ⟨f72, f74⟩ dX5_wayNow_132) hS (inA2.to g_f72 g_f74) hn (fun r_106 H locs hR hz hk hS => ?_)
  have fl6 := fl6.kept (hk _ fl6.lt (inA2.not (clA.ne fl6.cl f72.cl (hC.oo 7 1 rfl rfl (by decide))) (clA.ne fl6.cl f74.cl (hC.oa 7 1 rfl rfl)) fl6.lt))
  have fR6 := fR6.kept (hk _ fR6.lt (inA2.not (clA.ne fR6.cla f72.cl (hC.ao 1 4 rfl rfl)) (clA.ne fR6.cla f74.cl (hC.aa 4 1 rfl rfl (by dsimp only; decide))) fR6.lt))
  have el6 := el6.keep2 hk (fun q9 h9 => clA.ne h9 f72.cl (hC.ceo (Or.inl rfl) 1 rfl (by decide))) (fun q9 h9 => clA.ne h9 f74.cl (hC.cea (Or.inl rfl) 1 rfl))
  have h0s := h0s.kept (hk _ h0s.lt (inA2.not (clA.ne h0s.cl f72.cl (hC.oo 0 1 rfl rfl (by decide))) (clA.ne h0s.cl f74.cl (hC.oa 0 1 rfl rfl)) h0s.lt))
  have h1s := h1s.kept (hk _ h1s.lt (inA2.not (clA.ne h1s.cl f72.cl (hC.oo 0 1 rfl rfl (by decide))) (clA.ne h1s.cl f74.cl (hC.oa 0 1 rfl rfl)) h1s.lt))
  have h2s := h2s.kept (hk _ h2s.lt (inA2.not (h2s.neo hC f72.cl (ci := 1) rfl) (Nat.ne_of_lt l_h2s_f74) h2s.lt))
  obtain ⟨er9, hR⟩ := hR
  rw [er9]
  obtain ⟨v_107, hv_107, f72, f74⟩ := hR
  have g_f74 := hv_107.elim (fun e9 => e9 ▸ g_f74) (fun z9 => hn _ (Nat.le_trans hZ0_ z9))
  have l_fl6_f74 : r_5 < v_107 := hv_107.elim (fun e9 => e9 ▸ l_fl6_f74) (fun z9 => Nat.lt_of_lt_of_le t_fl6 z9)
  have l_fR6_f74 : bb6 < v_107 := hv_107.elim (fun e9 => e9 ▸ l_fR6_f74) (fun z9 => Nat.lt_of_lt_of_le t_fR6 z9)
  have l_h0s_f74 : q9 < v_107 := hv_107.elim (fun e9 => e9 ▸ l_h0s_f74) (fun z9 => Nat.lt_of_lt_of_le t_h0s z9)
  have l_h1s_f74 : q9 < v_107 := hv_107.elim (fun e9 => e9 ▸ l_h1s_f74) (fun z9 => Nat.lt_of_lt_of_le t_h1s z9)
  have l_h2s_f74 : b0_ < v_107 := hv_107.elim (fun e9 => e9 ▸ l_h2s_f74) (fun z9 => Nat.lt_of_lt_of_le t_h2s z9)
  have l_f72_f74 : qf72 < v_107 := hv_107.elim (fun e9 => e9 ▸ l_f72_f74) (fun z9 => Nat.lt_of_lt_of_le t_f72 z9)
  have hv_107 := hv_107.imp_right (fun z9 => Nat.le_trans hZ0_ z9)
  have hv_107 := hv_107.elim (fun e9 => e9 ▸ hv_105) Or.inr
  have hZ0_ := hS.1
  have t_fl6 := fl6.lt
  have t_fR6 := fR6.lt
  have t_h0s := h0s.lt
  have t_h1s := h1s.lt
  have t_h2s := h2s.lt
  have t_f72 := f72.lt
  have t_f74 := f74.lt
  refine k_r (pc := 135) (k_V E hC hS hA hl.1 (c1.recv hC f72 rfl) rfl (c_J4_toString_0e30d l D tk N0 sa H.size qf72 v_107 (sbC (sbC (sbC (sbC 16 (0 + l9)) ((0 + l9) + 0)) (((0 + l9) + 0) + 1)) ((((0 + l9) + 0) + 1) + dgJ x_69)) ((((0 + l9) + 0) + 1) + dgJ x_69) 0 (sbC_ge _ _).1 hcD) kw_1381 kw_316 kw_317 kw_19 kw_318 (n := 0) (by decide +kernel) rfl ⟨⟨rfl, rfl⟩, ⟨Nat.le_of_ble_eq_true rfl, Nat.le_of_ble_eq_true rfl⟩, hTc2, hTs2⟩ rfl (Nat.le_of_ble_eq_true rfl) ⟨f72, f74⟩ dX5_wayNow_135) hS (fun q z w => absurd w (Nat.not_le.mpr z)) hn (fun r_108 H locs hR hz hk hS => ?_)
  have fl6 := fl6.kept (hk _ fl6.lt (Nat.not_le.mpr fl6.lt))
  have fR6 := fR6.kept (hk _ fR6.lt (Nat.not_le.mpr fR6.lt))
  have el6 := el6.new hk
  have h0s := h0s.kept (hk _ h0s.lt (Nat.not_le.mpr h0s.lt))
  have h1s := h1s.kept (hk _ h1s.lt (Nat.not_le.mpr h1s.lt))
  have h2s := h2s.kept (hk _ h2s.lt (Nat.not_le.mpr h2s.lt))
  have f72 := f72.kept (hk _ f72.lt (Nat.not_le.mpr f72.lt))
  have f74 := f74.kept (hk _ f74.lt (Nat.not_le.mpr f74.lt))
  obtain ⟨q_f109, z9_, y9_, f109⟩ := hR
  have f109 := SM.sx f109
  have zr_f109 : s.heap.size ≤ r_108 := Nat.le_trans hZ0_ z9_
  refine lv_astore_n (pc := 138) (lv' := [(3, .ref r_108), (5, .long x_69), (0, .ref mo), (1, .int x), (2, .ref r_5), (4, .int y9)]) hx hb dX5_wayNow_138 rfl hl (by decide) rfl (fun ls hl => ?_)
  obtain ⟨x_110, ex_110⟩ : ∃ z9 : Int32, z9 = y9 + 1 := ⟨_, rfl⟩
  refine lv_iinc (pc := 139) (v := x_110) (lv' := [(4, .int x_110), (3, .ref r_108), (5, .long x_69), (0, .ref mo), (1, .int x), (2, .ref r_5)]) hx hb dX5_wayNow_139 hl (k := 5) rfl (by rw [ex_110]; rfl) (by decide) rfl (fun ls hl => ?_)
  refine lv_goto (pc := 142) (tgt := 32) hx hb dX5_wayNow_142 (by decide) ?_
  refine W.widen (k := 49 + 8 * (k + 1)) (n := 175 + m_wS (k + 1)) hWc2 hWs2 ?_
  exact ih_32  (k + 1) _ (E9 + (dgJ x_69 - 1))  r_108 x_110 (by omega) (by omega) (i_up hx9 ex_110) hEn (fun z9 => absurd z9 (by omega)) (by omega) _ _ _ hS fl6 fR6 el6 f109 (lv_sub hl [3, 4, 5, 1, 0] rfl)
set_option maxHeartbeats 20000000 in
set_option maxRecDepth 100000 in
theorem g14_X5_wayNow {p : Program} {l : Launch} {e : Env} {s : State} {m : MethodId} {args : Array Value} {below : List Frame} {meth : Method} {c : Code} {Q : State → Prop} {D : va_G} {tk : Nat → ClassId} {N0 : Nat} {sa : Nat → Nat} (E : CallFix p m c cX5_wayNow 7 s args (wsy yX5_wayNow cX5_wayNow 7 (some (.object "java/lang/String"))) RX5) (hC : Ctx D tk N0 sa s) (hA : ∀ q, (nwA s.heap.size) q → N0 ≤ q) (hn : ∀ q, s.heap.size ≤ q → (nwA s.heap.size) q) (hr : meth.sig.returnType = (some (.object "java/lang/String"))) (hlk : meth.locks = false) (P : Nat → Prop) (hPN : ∀ q, P q → N0 ≤ q) (mo : Nat) (n9 : Nat) (kn : Int32) (th : Int32) (tt : Nat → Int64) (bb : Nat → Int64) (eT : Int64) (eB : Int64) (oT : Int64) (oB : Int64) (pk : Nat) (ca : Int32) (rf : Int32) (vs : Nat → Value) (x : Int32) (k_x : Nat) (hx_x : x = nI k_x) (hk_x : k_x < 6) (nl6 : Nat) (bb6 : Nat) (cap6 : Nat) (ff6 : Nat → Option Nat) (ww6 : Nat → Value) (md6 : Int32) (T : Nat → Int) (u2 : T (nl6 + 1) = 0) (u3 : ∀ i, i < nl6 → ∃ x : Int64, ww6 i = .long x ∧ x.toInt * T (i + 1) + T (i + 2) = T i) (u4 : ∀ i, 1 ≤ i → i ≤ nl6 → 1 ≤ T i ∧ T i ≤ 1000000000) (hlm6 : nl6 ≤ 43) (r_5 : Nat) (v_101 : Nat) (qf72 : Nat) (x_69 : Int64) (n : Nat) (k : Nat) (l9 : Nat) (E9 : Nat) (q9 : Nat) (y9 : Int32) (hf9 : 44 - k < n + 1) (hk9 : k ≤ nl6) (hx9 : y9 = nI k) (hE9 : ((10 ^ E9 : Nat) : Int) * T k ≤ 1000000000) (hZ9 : (k = 0 → E9 = 0)) (hL8 : l9 ≤ 3 * k + E9) (ih_32 : ∀ (k : Nat) (l9 : Nat) (E9 : Nat)(q9 : Nat) (y9 : Int32), 44 - k < n → k ≤ nl6 → y9 = nI k → ((10 ^ E9 : Nat) : Int) * T k ≤ 1000000000 → (k = 0 → E9 = 0) → l9 ≤ 3 * k + E9 → ∀ (H : Heap) (locs : List Loc) (ls : Array Slot), va_S (nwA s.heap.size) s.heap H locs → c1 D r_5 (.inr (7, [.int md6, .ref bb6, .int (nI nl6)])) H → c1 D bb6 (.inl (tk 4, cap6, .inr (.inr (.inr (.inr (ff6)))))) H → EL D 3 nl6 ff6 ww6 H → SX D tk q9 l9 H → lv_has ls 7 [(0, .ref mo), (1, .int x), (2, .ref r_5), (3, .ref q9), (4, .int y9)] → W p l e ({ frames := 8, cells := 393, slots := 14193, locals := 186 } : Room) s m args below meth c H locs (49 + 8 * k) (175 + m_wS k) Q (F0 m 32 ls [])) (hd11 : dgJ x_69 ≤ 11) (hdl : 1 ≤ dgJ x_69) (hEn : ((10 ^ (E9 + (dgJ x_69 - 1)) : Nat) : Int) * T (k + 1) ≤ 1000000000) (hkn : k < nl6) (b0_ : Nat) (hcA : sbC 16 (0 + l9) ≤ 500000) (hcB : sbC (sbC 16 (0 + l9)) (0 + l9 + 0) ≤ 500000) (hcC : sbC (sbC (sbC 16 (0 + l9)) (0 + l9 + 0)) (0 + l9 + 0 + 1) ≤ 500000) (hcD : sbC (sbC (sbC (sbC 16 (0 + l9)) (0 + l9 + 0)) (0 + l9 + 0 + 1)) (0 + l9 + 0 + 1 + dgJ x_69) ≤ 100000000) (hTc2 : 49 + 8 * k + 0 + 0 + 0 + 0 + 0 + 1 + 1 + (sbK 16 (0 + l9)) + 0 + (sbK (sbC 16 (0 + l9)) ((0 + l9) + 0)) + (sbK (sbC (sbC 16 (0 + l9)) ((0 + l9) + 0)) (((0 + l9) + 0) + 1)) + (sbK (sbC (sbC (sbC 16 (0 + l9)) ((0 + l9) + 0)) (((0 + l9) + 0) + 1)) ((((0 + l9) + 0) + 1) + dgJ x_69)) + 2 ≤ 393) (hTs2 : 175 + m_wS k + 0 + 0 + 0 + 0 + 0 + 4 + 16 + (sbS 16 (0 + l9)) + 0 + (sbS (sbC 16 (0 + l9)) ((0 + l9) + 0)) + (sbS (sbC (sbC 16 (0 + l9)) ((0 + l9) + 0)) (((0 + l9) + 0) + 1)) + (sbS (sbC (sbC (sbC 16 (0 + l9)) ((0 + l9) + 0)) (((0 + l9) + 0) + 1)) ((((0 + l9) + 0) + 1) + dgJ x_69)) + (4 + ((((0 + l9) + 0) + 1) + dgJ x_69)) ≤ 14193) (hWc2 : 49 + 8 * k + 0 + 0 + 0 + 0 + 0 + 1 + 1 + (sbK 16 (0 + l9)) + 0 + (sbK (sbC 16 (0 + l9)) ((0 + l9) + 0)) + (sbK (sbC (sbC 16 (0 + l9)) ((0 + l9) + 0)) (((0 + l9) + 0) + 1)) + (sbK (sbC (sbC (sbC 16 (0 + l9)) ((0 + l9) + 0)) (((0 + l9) + 0) + 1)) ((((0 + l9) + 0) + 1) + dgJ x_69)) + 2 ≤ 49 + 8 * (k + 1)) (hWs2 : 175 + m_wS k + 0 + 0 + 0 + 0 + 0 + 4 + 16 + (sbS 16 (0 + l9)) + 0 + (sbS (sbC 16 (0 + l9)) ((0 + l9) + 0)) + (sbS (sbC (sbC 16 (0 + l9)) ((0 + l9) + 0)) (((0 + l9) + 0) + 1)) + (sbS (sbC (sbC (sbC 16 (0 + l9)) ((0 + l9) + 0)) (((0 + l9) + 0) + 1)) ((((0 + l9) + 0) + 1) + dgJ x_69)) + (4 + ((((0 + l9) + 0) + 1) + dgJ x_69)) ≤ 175 + m_wS (k + 1)) (H : Heap) (locs : List Loc) (ls : Array Slot) (hS : va_S (nwA s.heap.size) s.heap H locs) (fl6 : c1 D r_5 (.inr (7, [.int md6, .ref bb6, .int (nI nl6)])) H) (fR6 : c1 D bb6 (.inl (tk 4, cap6, .inr (.inr (.inr (.inr (ff6)))))) H) (el6 : EL D 3 nl6 ff6 ww6 H) (h0s : xf D 0 q9 0 (.ref b0_) H) (h1s : xf D 0 q9 1 (.int 0) H) (h2s : BX tk b0_ l9 H) (f72 : c1 D qf72 (.inr (1, [.ref v_101, .int 0, .int 0, .int (nI ((0 + l9) + 0))])) H) (f74 : BA D tk v_101 (sbC (sbC 16 (0 + l9)) ((0 + l9) + 0)) H) (k111 : SX D tk (sa (10 + 10)) 1 H) (s_f72 : s.heap.size ≤ qf72) (g_f72 : (nwA s.heap.size) qf72) (g_f74 : (nwA s.heap.size) v_101) (l_f72_f74 : qf72 < v_101) (l_fR6_f72 : bb6 < qf72) (l_fR6_f74 : bb6 < v_101) (l_fl6_f72 : r_5 < qf72) (l_fl6_f74 : r_5 < v_101) (l_h0s_f72 : q9 < qf72) (l_h0s_f74 : q9 < v_101) (l_h1s_f72 : q9 < qf72) (l_h1s_f74 : q9 < v_101) (l_h2s_f72 : b0_ < qf72) (l_h2s_f74 : b0_ < v_101) (hl : lv_has ls 7 [(5, .long x_69), (0, .ref mo), (1, .int x), (2, .ref r_5), (3, .ref q9), (4, .int y9)]) : W p l e ({ frames := 8, cells := 393, slots := 14193, locals := 186 } : Room) s m args below meth c H locs (49 + 8 * k + 0 + 0 + 0 + 0 + 0 + 1 + 1 + (sbK 16 (0 + l9)) + 0 + (sbK (sbC 16 (0 + l9)) ((0 + l9) + 0))) (175 + m_wS k + 0 + 0 + 0 + 0 + 0 + 4 + 16 + (sbS 16 (0 + l9)) + 0 + (sbS (sbC 16 (0 + l9)) ((0 + l9) + 0))) Q (F0 m 127 ls [.ref (sa (10 + 10)), .ref qf72]) := by
  obtain ⟨hx, hb, -⟩ := id E
  have hZ0_ := hS.1
  have t_fl6 := fl6.lt
  have t_fR6 := fR6.lt
  have t_h0s := h0s.lt
  have t_h1s := h1s.lt
  have t_h2s := h2s.lt
  have t_f72 := f72.lt
  have t_f74 := f74.lt
  have t_k111 := k111.lt
  refine k_r (pc := 127) (k_V E hC hS hA hl.1 (c1.recv hC f72 rfl) rfl (c_J4_append_15ec4 l D tk N0 sa H.size qf72 v_101 (sbC (sbC 16 (0 + l9)) ((0 + l9) + 0)) ((0 + l9) + 0) (sa (10 + 10)) 1 0 (hA _ g_f72) (hA _ g_f74) (sbC_ge _ _).1 hcB (by decide)) kw_1353 kw_399 kw_400 kw_19 kw_401 (n := 1) (by decide +kernel) rfl ⟨⟨rfl, rfl⟩, ⟨Nat.le_of_ble_eq_true rfl, Nat.le_of_ble_eq_true rfl⟩, (pre1 (pre1 hTc2)), (pre1 (pre1 hTs2))⟩ rfl (Nat.le_of_ble_eq_true rfl) ⟨f72, f74, k111⟩ dX5_wayNow_127) hS (inA2.to g_f72 g_f74) hn (fun r_112 H locs hR hz hk hS => ?_)
  have fl6 := fl6.kept (hk _ fl6.lt (inA2.not (clA.ne fl6.cl f72.cl (hC.oo 7 1 rfl rfl (by decide))) (clA.ne fl6.cl f74.cl (hC.oa 7 1 rfl rfl)) fl6.lt))
  have fR6 := fR6.kept (hk _ fR6.lt (inA2.not (clA.ne fR6.cla f72.cl (hC.ao 1 4 rfl rfl)) (clA.ne fR6.cla f74.cl (hC.aa 4 1 rfl rfl (by dsimp only; decide))) fR6.lt))
  have el6 := el6.keep2 hk (fun q9 h9 => clA.ne h9 f72.cl (hC.ceo (Or.inl rfl) 1 rfl (by decide))) (fun q9 h9 => clA.ne h9 f74.cl (hC.cea (Or.inl rfl) 1 rfl))
  have h0s := h0s.kept (hk _ h0s.lt (inA2.not (clA.ne h0s.cl f72.cl (hC.oo 0 1 rfl rfl (by decide))) (clA.ne h0s.cl f74.cl (hC.oa 0 1 rfl rfl)) h0s.lt))
  have h1s := h1s.kept (hk _ h1s.lt (inA2.not (clA.ne h1s.cl f72.cl (hC.oo 0 1 rfl rfl (by decide))) (clA.ne h1s.cl f74.cl (hC.oa 0 1 rfl rfl)) h1s.lt))
  have h2s := h2s.kept (hk _ h2s.lt (inA2.not (h2s.neo hC f72.cl (ci := 1) rfl) (Nat.ne_of_lt l_h2s_f74) h2s.lt))
  obtain ⟨er9, hR⟩ := hR
  rw [er9]
  obtain ⟨v_113, hv_113, f72, f74⟩ := hR
  have g_f74 := hv_113.elim (fun e9 => e9 ▸ g_f74) (fun z9 => hn _ (Nat.le_trans hZ0_ z9))
  have l_fl6_f74 : r_5 < v_113 := hv_113.elim (fun e9 => e9 ▸ l_fl6_f74) (fun z9 => Nat.lt_of_lt_of_le t_fl6 z9)
  have l_fR6_f74 : bb6 < v_113 := hv_113.elim (fun e9 => e9 ▸ l_fR6_f74) (fun z9 => Nat.lt_of_lt_of_le t_fR6 z9)
  have l_h0s_f74 : q9 < v_113 := hv_113.elim (fun e9 => e9 ▸ l_h0s_f74) (fun z9 => Nat.lt_of_lt_of_le t_h0s z9)
  have l_h1s_f74 : q9 < v_113 := hv_113.elim (fun e9 => e9 ▸ l_h1s_f74) (fun z9 => Nat.lt_of_lt_of_le t_h1s z9)
  have l_h2s_f74 : b0_ < v_113 := hv_113.elim (fun e9 => e9 ▸ l_h2s_f74) (fun z9 => Nat.lt_of_lt_of_le t_h2s z9)
  have l_f72_f74 : qf72 < v_113 := hv_113.elim (fun e9 => e9 ▸ l_f72_f74) (fun z9 => Nat.lt_of_lt_of_le t_f72 z9)
  have hv_113 := hv_113.imp_right (fun z9 => Nat.le_trans hZ0_ z9)
  refine lv_lload (pc := 130) hx hb dX5_wayNow_130 (lv_at hl 0 rfl) ?_
  have hZ0_ := hS.1
  have t_fl6 := fl6.lt
  have t_fR6 := fR6.lt
  have t_h0s := h0s.lt
  have t_h1s := h1s.lt
  have t_h2s := h2s.lt
  have t_f72 := f72.lt
  have t_f74 := f74.lt
  refine k_r (pc := 132) (k_V E hC hS hA hl.1 (c1.recv hC f72 rfl) rfl (c_J4_append_f7089 l D tk N0 sa H.size qf72 v_113 (sbC (sbC (sbC 16 (0 + l9)) ((0 + l9) + 0)) (((0 + l9) + 0) + 1)) (((0 + l9) + 0) + 1) 0 x_69 (hA _ g_f72) (hA _ g_f74) (sbC_ge _ _).1 hcC) kw_1354 kw_1355 kw_1356 kw_19 kw_1357 (n := 1) (by decide +kernel) rfl ⟨⟨rfl, rfl⟩, ⟨Nat.le_of_ble_eq_true rfl, Nat.le_of_ble_eq_true rfl⟩, (pre1 hTc2), (pre1 hTs2)⟩ rfl (Nat.le_of_ble_eq_true rfl) ⟨f72, f74⟩ dX5_wayNow_132) hS (inA2.to g_f72 g_f74) hn (fun r_114 H locs hR hz hk hS => ?_)
  have fl6 := fl6.kept (hk _ fl6.lt (inA2.not (clA.ne fl6.cl f72.cl (hC.oo 7 1 rfl rfl (by decide))) (clA.ne fl6.cl f74.cl (hC.oa 7 1 rfl rfl)) fl6.lt))
  have fR6 := fR6.kept (hk _ fR6.lt (inA2.not (clA.ne fR6.cla f72.cl (hC.ao 1 4 rfl rfl)) (clA.ne fR6.cla f74.cl (hC.aa 4 1 rfl rfl (by dsimp only; decide))) fR6.lt))
  have el6 := el6.keep2 hk (fun q9 h9 => clA.ne h9 f72.cl (hC.ceo (Or.inl rfl) 1 rfl (by decide))) (fun q9 h9 => clA.ne h9 f74.cl (hC.cea (Or.inl rfl) 1 rfl))
  have h0s := h0s.kept (hk _ h0s.lt (inA2.not (clA.ne h0s.cl f72.cl (hC.oo 0 1 rfl rfl (by decide))) (clA.ne h0s.cl f74.cl (hC.oa 0 1 rfl rfl)) h0s.lt))
  have h1s := h1s.kept (hk _ h1s.lt (inA2.not (clA.ne h1s.cl f72.cl (hC.oo 0 1 rfl rfl (by decide))) (clA.ne h1s.cl f74.cl (hC.oa 0 1 rfl rfl)) h1s.lt))
  have h2s := h2s.kept (hk _ h2s.lt (inA2.not (h2s.neo hC f72.cl (ci := 1) rfl) (Nat.ne_of_lt l_h2s_f74) h2s.lt))
  obtain ⟨er9, hR⟩ := hR
  rw [er9]
  obtain ⟨v_115, hv_115, f72, f74⟩ := hR
  have g_f74 := hv_115.elim (fun e9 => e9 ▸ g_f74) (fun z9 => hn _ (Nat.le_trans hZ0_ z9))
  have l_fl6_f74 : r_5 < v_115 := hv_115.elim (fun e9 => e9 ▸ l_fl6_f74) (fun z9 => Nat.lt_of_lt_of_le t_fl6 z9)
  have l_fR6_f74 : bb6 < v_115 := hv_115.elim (fun e9 => e9 ▸ l_fR6_f74) (fun z9 => Nat.lt_of_lt_of_le t_fR6 z9)
  have l_h0s_f74 : q9 < v_115 := hv_115.elim (fun e9 => e9 ▸ l_h0s_f74) (fun z9 => Nat.lt_of_lt_of_le t_h0s z9)
  have l_h1s_f74 : q9 < v_115 := hv_115.elim (fun e9 => e9 ▸ l_h1s_f74) (fun z9 => Nat.lt_of_lt_of_le t_h1s z9)
  have l_h2s_f74 : b0_ < v_115 := hv_115.elim (fun e9 => e9 ▸ l_h2s_f74) (fun z9 => Nat.lt_of_lt_of_le t_h2s z9)
  have l_f72_f74 : qf72 < v_115 := hv_115.elim (fun e9 => e9 ▸ l_f72_f74) (fun z9 => Nat.lt_of_lt_of_le t_f72 z9)
  have hv_115 := hv_115.imp_right (fun z9 => Nat.le_trans hZ0_ z9)
  have hv_115 := hv_115.elim (fun e9 => e9 ▸ hv_113) Or.inr
  have hZ0_ := hS.1
  have t_fl6 := fl6.lt
  have t_fR6 := fR6.lt
  have t_h0s := h0s.lt
  have t_h1s := h1s.lt
  have t_h2s := h2s.lt
  have t_f72 := f72.lt
  have t_f74 := f74.lt
  refine k_r (pc := 135) (k_V E hC hS hA hl.1 (c1.recv hC f72 rfl) rfl (c_J4_toString_0e30d l D tk N0 sa H.size qf72 v_115 (sbC (sbC (sbC (sbC 16 (0 + l9)) ((0 + l9) + 0)) (((0 + l9) + 0) + 1)) ((((0 + l9) + 0) + 1) + dgJ x_69)) ((((0 + l9) + 0) + 1) + dgJ x_69) 0 (sbC_ge _ _).1 hcD) kw_1381 kw_316 kw_317 kw_19 kw_318 (n := 0) (by decide +kernel) rfl ⟨⟨rfl, rfl⟩, ⟨Nat.le_of_ble_eq_true rfl, Nat.le_of_ble_eq_true rfl⟩, hTc2, hTs2⟩ rfl (Nat.le_of_ble_eq_true rfl) ⟨f72, f74⟩ dX5_wayNow_135) hS (fun q z w => absurd w (Nat.not_le.mpr z)) hn (fun r_116 H locs hR hz hk hS => ?_)
  have fl6 := fl6.kept (hk _ fl6.lt (Nat.not_le.mpr fl6.lt))
  have fR6 := fR6.kept (hk _ fR6.lt (Nat.not_le.mpr fR6.lt))
  have el6 := el6.new hk
  have h0s := h0s.kept (hk _ h0s.lt (Nat.not_le.mpr h0s.lt))
  have h1s := h1s.kept (hk _ h1s.lt (Nat.not_le.mpr h1s.lt))
  have h2s := h2s.kept (hk _ h2s.lt (Nat.not_le.mpr h2s.lt))
  have f72 := f72.kept (hk _ f72.lt (Nat.not_le.mpr f72.lt))
  have f74 := f74.kept (hk _ f74.lt (Nat.not_le.mpr f74.lt))
  obtain ⟨q_f117, z9_, y9_, f117⟩ := hR
  have f117 := SM.sx f117
  have zr_f117 : s.heap.size ≤ r_116 := Nat.le_trans hZ0_ z9_
  refine lv_astore_n (pc := 138) (lv' := [(3, .ref r_116), (5, .long x_69), (0, .ref mo), (1, .int x), (2, .ref r_5), (4, .int y9)]) hx hb dX5_wayNow_138 rfl hl (by decide) rfl (fun ls hl => ?_)
  obtain ⟨x_118, ex_118⟩ : ∃ z9 : Int32, z9 = y9 + 1 := ⟨_, rfl⟩
  refine lv_iinc (pc := 139) (v := x_118) (lv' := [(4, .int x_118), (3, .ref r_116), (5, .long x_69), (0, .ref mo), (1, .int x), (2, .ref r_5)]) hx hb dX5_wayNow_139 hl (k := 5) rfl (by rw [ex_118]; rfl) (by decide) rfl (fun ls hl => ?_)
  refine lv_goto (pc := 142) (tgt := 32) hx hb dX5_wayNow_142 (by decide) ?_
  refine W.widen (k := 49 + 8 * (k + 1)) (n := 175 + m_wS (k + 1)) hWc2 hWs2 ?_
  exact ih_32  (k + 1) _ (E9 + (dgJ x_69 - 1))  r_116 x_118 (by omega) (by omega) (i_up hx9 ex_118) hEn (fun z9 => absurd z9 (by omega)) (by omega) _ _ _ hS fl6 fR6 el6 f117 (lv_sub hl [3, 4, 5, 1, 0] rfl)
set_option maxHeartbeats 20000000 in
set_option maxRecDepth 100000 in
theorem g12_X5_wayNow {p : Program} {l : Launch} {e : Env} {s : State} {m : MethodId} {args : Array Value} {below : List Frame} {meth : Method} {c : Code} {Q : State → Prop} {D : va_G} {tk : Nat → ClassId} {N0 : Nat} {sa : Nat → Nat} (E : CallFix p m c cX5_wayNow 7 s args (wsy yX5_wayNow cX5_wayNow 7 (some (.object "java/lang/String"))) RX5) (hC : Ctx D tk N0 sa s) (hA : ∀ q, (nwA s.heap.size) q → N0 ≤ q) (hn : ∀ q, s.heap.size ≤ q → (nwA s.heap.size) q) (hr : meth.sig.returnType = (some (.object "java/lang/String"))) (hlk : meth.locks = false) (P : Nat → Prop) (hPN : ∀ q, P q → N0 ≤ q) (mo : Nat) (n9 : Nat) (kn : Int32) (th : Int32) (tt : Nat → Int64) (bb : Nat → Int64) (eT : Int64) (eB : Int64) (oT : Int64) (oB : Int64) (pk : Nat) (ca : Int32) (rf : Int32) (vs : Nat → Value) (x : Int32) (k_x : Nat) (hx_x : x = nI k_x) (hk_x : k_x < 6) (nl6 : Nat) (bb6 : Nat) (cap6 : Nat) (ff6 : Nat → Option Nat) (ww6 : Nat → Value) (md6 : Int32) (T : Nat → Int) (u2 : T (nl6 + 1) = 0) (u3 : ∀ i, i < nl6 → ∃ x : Int64, ww6 i = .long x ∧ x.toInt * T (i + 1) + T (i + 2) = T i) (u4 : ∀ i, 1 ≤ i → i ≤ nl6 → 1 ≤ T i ∧ T i ≤ 1000000000) (hlm6 : nl6 ≤ 43) (r_5 : Nat) (v_76 : Nat) (qf72 : Nat) (x_69 : Int64) (n : Nat) (k : Nat) (l9 : Nat) (E9 : Nat) (q9 : Nat) (y9 : Int32) (hf9 : 44 - k < n + 1) (hk9 : k ≤ nl6) (hx9 : y9 = nI k) (hE9 : ((10 ^ E9 : Nat) : Int) * T k ≤ 1000000000) (hZ9 : (k = 0 → E9 = 0)) (hL8 : l9 ≤ 3 * k + E9) (ih_32 : ∀ (k : Nat) (l9 : Nat) (E9 : Nat)(q9 : Nat) (y9 : Int32), 44 - k < n → k ≤ nl6 → y9 = nI k → ((10 ^ E9 : Nat) : Int) * T k ≤ 1000000000 → (k = 0 → E9 = 0) → l9 ≤ 3 * k + E9 → ∀ (H : Heap) (locs : List Loc) (ls : Array Slot), va_S (nwA s.heap.size) s.heap H locs → c1 D r_5 (.inr (7, [.int md6, .ref bb6, .int (nI nl6)])) H → c1 D bb6 (.inl (tk 4, cap6, .inr (.inr (.inr (.inr (ff6)))))) H → EL D 3 nl6 ff6 ww6 H → SX D tk q9 l9 H → lv_has ls 7 [(0, .ref mo), (1, .int x), (2, .ref r_5), (3, .ref q9), (4, .int y9)] → W p l e ({ frames := 8, cells := 393, slots := 14193, locals := 186 } : Room) s m args below meth c H locs (49 + 8 * k) (175 + m_wS k) Q (F0 m 32 ls [])) (hd11 : dgJ x_69 ≤ 11) (hdl : 1 ≤ dgJ x_69) (hEn : ((10 ^ (E9 + (dgJ x_69 - 1)) : Nat) : Int) * T (k + 1) ≤ 1000000000) (hkn : k < nl6) (b0_ : Nat) (hcA : sbC 16 (0 + l9) ≤ 500000) (hcB : sbC (sbC 16 (0 + l9)) (0 + l9 + 0) ≤ 500000) (hcC : sbC (sbC (sbC 16 (0 + l9)) (0 + l9 + 0)) (0 + l9 + 0 + 1) ≤ 500000) (hcD : sbC (sbC (sbC (sbC 16 (0 + l9)) (0 + l9 + 0)) (0 + l9 + 0 + 1)) (0 + l9 + 0 + 1 + dgJ x_69) ≤ 100000000) (hTc1 : 49 + 8 * k + 0 + 0 + 0 + 0 + 0 + 1 + 1 + (sbK 16 (0 + l9)) + 0 + (sbK (sbC 16 (0 + l9)) ((0 + l9) + 1)) + (sbK (sbC (sbC 16 (0 + l9)) ((0 + l9) + 1)) (((0 + l9) + 1) + 1)) + (sbK (sbC (sbC (sbC 16 (0 + l9)) ((0 + l9) + 1)) (((0 + l9) + 1) + 1)) ((((0 + l9) + 1) + 1) + dgJ x_69)) + 2 ≤ 393) (hTs1 : 175 + m_wS k + 0 + 0 + 0 + 0 + 0 + 4 + 16 + (sbS 16 (0 + l9)) + 0 + (sbS (sbC 16 (0 + l9)) ((0 + l9) + 1)) + (sbS (sbC (sbC 16 (0 + l9)) ((0 + l9) + 1)) (((0 + l9) + 1) + 1)) + (sbS (sbC (sbC (sbC 16 (0 + l9)) ((0 + l9) + 1)) (((0 + l9) + 1) + 1)) ((((0 + l9) + 1) + 1) + dgJ x_69)) + (4 + ((((0 + l9) + 1) + 1) + dgJ x_69)) ≤ 14193) (hWc1 : 49 + 8 * k + 0 + 0 + 0 + 0 + 0 + 1 + 1 + (sbK 16 (0 + l9)) + 0 + (sbK (sbC 16 (0 + l9)) ((0 + l9) + 1)) + (sbK (sbC (sbC 16 (0 + l9)) ((0 + l9) + 1)) (((0 + l9) + 1) + 1)) + (sbK (sbC (sbC (sbC 16 (0 + l9)) ((0 + l9) + 1)) (((0 + l9) + 1) + 1)) ((((0 + l9) + 1) + 1) + dgJ x_69)) + 2 ≤ 49 + 8 * (k + 1)) (hWs1 : 175 + m_wS k + 0 + 0 + 0 + 0 + 0 + 4 + 16 + (sbS 16 (0 + l9)) + 0 + (sbS (sbC 16 (0 + l9)) ((0 + l9) + 1)) + (sbS (sbC (sbC 16 (0 + l9)) ((0 + l9) + 1)) (((0 + l9) + 1) + 1)) + (sbS (sbC (sbC (sbC 16 (0 + l9)) ((0 + l9) + 1)) (((0 + l9) + 1) + 1)) ((((0 + l9) + 1) + 1) + dgJ x_69)) + (4 + ((((0 + l9) + 1) + 1) + dgJ x_69)) ≤ 175 + m_wS (k + 1)) (hTc2 : 49 + 8 * k + 0 + 0 + 0 + 0 + 0 + 1 + 1 + (sbK 16 (0 + l9)) + 0 + (sbK (sbC 16 (0 + l9)) ((0 + l9) + 0)) + (sbK (sbC (sbC 16 (0 + l9)) ((0 + l9) + 0)) (((0 + l9) + 0) + 1)) + (sbK (sbC (sbC (sbC 16 (0 + l9)) ((0 + l9) + 0)) (((0 + l9) + 0) + 1)) ((((0 + l9) + 0) + 1) + dgJ x_69)) + 2 ≤ 393) (hTs2 : 175 + m_wS k + 0 + 0 + 0 + 0 + 0 + 4 + 16 + (sbS 16 (0 + l9)) + 0 + (sbS (sbC 16 (0 + l9)) ((0 + l9) + 0)) + (sbS (sbC (sbC 16 (0 + l9)) ((0 + l9) + 0)) (((0 + l9) + 0) + 1)) + (sbS (sbC (sbC (sbC 16 (0 + l9)) ((0 + l9) + 0)) (((0 + l9) + 0) + 1)) ((((0 + l9) + 0) + 1) + dgJ x_69)) + (4 + ((((0 + l9) + 0) + 1) + dgJ x_69)) ≤ 14193) (hWc2 : 49 + 8 * k + 0 + 0 + 0 + 0 + 0 + 1 + 1 + (sbK 16 (0 + l9)) + 0 + (sbK (sbC 16 (0 + l9)) ((0 + l9) + 0)) + (sbK (sbC (sbC 16 (0 + l9)) ((0 + l9) + 0)) (((0 + l9) + 0) + 1)) + (sbK (sbC (sbC (sbC 16 (0 + l9)) ((0 + l9) + 0)) (((0 + l9) + 0) + 1)) ((((0 + l9) + 0) + 1) + dgJ x_69)) + 2 ≤ 49 + 8 * (k + 1)) (hWs2 : 175 + m_wS k + 0 + 0 + 0 + 0 + 0 + 4 + 16 + (sbS 16 (0 + l9)) + 0 + (sbS (sbC 16 (0 + l9)) ((0 + l9) + 0)) + (sbS (sbC (sbC 16 (0 + l9)) ((0 + l9) + 0)) (((0 + l9) + 0) + 1)) + (sbS (sbC (sbC (sbC 16 (0 + l9)) ((0 + l9) + 0)) (((0 + l9) + 0) + 1)) ((((0 + l9) + 0) + 1) + dgJ x_69)) + (4 + ((((0 + l9) + 0) + 1) + dgJ x_69)) ≤ 175 + m_wS (k + 1)) (H : Heap) (locs : List Loc) (ls : Array Slot) (hS : va_S (nwA s.heap.size) s.heap H locs) (fl6 : c1 D r_5 (.inr (7, [.int md6, .ref bb6, .int (nI nl6)])) H) (fR6 : c1 D bb6 (.inl (tk 4, cap6, .inr (.inr (.inr (.inr (ff6)))))) H) (el6 : EL D 3 nl6 ff6 ww6 H) (h0s : xf D 0 q9 0 (.ref b0_) H) (h1s : xf D 0 q9 1 (.int 0) H) (h2s : BX tk b0_ l9 H) (f72 : c1 D qf72 (.inr (1, [.ref v_76, .int 0, .int 0, .int (nI (0 + l9))])) H) (f74 : BA D tk v_76 (sbC 16 (0 + l9)) H) (k99 : SX D tk (sa (10 + 6)) 0 H) (s_f72 : s.heap.size ≤ qf72) (g_f72 : (nwA s.heap.size) qf72) (g_f74 : (nwA s.heap.size) v_76) (l_f72_f74 : qf72 < v_76) (l_fR6_f72 : bb6 < qf72) (l_fR6_f74 : bb6 < v_76) (l_fl6_f72 : r_5 < qf72) (l_fl6_f74 : r_5 < v_76) (l_h0s_f72 : q9 < qf72) (l_h0s_f74 : q9 < v_76) (l_h1s_f72 : q9 < qf72) (l_h1s_f74 : q9 < v_76) (l_h2s_f72 : b0_ < qf72) (l_h2s_f74 : b0_ < v_76) (hl : lv_has ls 7 [(5, .long x_69), (0, .ref mo), (1, .int x), (2, .ref r_5), (3, .ref q9), (4, .int y9)]) : W p l e ({ frames := 8, cells := 393, slots := 14193, locals := 186 } : Room) s m args below meth c H locs (49 + 8 * k + 0 + 0 + 0 + 0 + 0 + 1 + 1 + (sbK 16 (0 + l9)) + 0) (175 + m_wS k + 0 + 0 + 0 + 0 + 0 + 4 + 16 + (sbS 16 (0 + l9)) + 0) Q (F0 m 108 ls [.ref (sa (10 + 6)), .ref qf72]) := by
  obtain ⟨hx, hb, -⟩ := id E
  have hZ0_ := hS.1
  have t_fl6 := fl6.lt
  have t_fR6 := fR6.lt
  have t_h0s := h0s.lt
  have t_h1s := h1s.lt
  have t_h2s := h2s.lt
  have t_f72 := f72.lt
  have t_f74 := f74.lt
  have t_k99 := k99.lt
  refine k_r (pc := 108) (k_V E hC hS hA hl.1 (c1.recv hC f72 rfl) rfl (c_J4_append_15ec4 l D tk N0 sa H.size qf72 v_76 (sbC 16 (0 + l9)) (0 + l9) (sa (10 + 6)) 0 0 (hA _ g_f72) (hA _ g_f74) (sbC_ge _ _).1 hcA (by decide)) kw_1353 kw_399 kw_400 kw_19 kw_401 (n := 1) (by decide +kernel) rfl ⟨⟨rfl, rfl⟩, ⟨Nat.le_of_ble_eq_true rfl, Nat.le_of_ble_eq_true rfl⟩, (pre1 (pre1 (pre1 hTc2))), (pre1 (pre1 (pre1 hTs2)))⟩ rfl (Nat.le_of_ble_eq_true rfl) ⟨f72, f74, k99⟩ dX5_wayNow_108) hS (inA2.to g_f72 g_f74) hn (fun r_100 H locs hR hz hk hS => ?_)
  have fl6 := fl6.kept (hk _ fl6.lt (inA2.not (clA.ne fl6.cl f72.cl (hC.oo 7 1 rfl rfl (by decide))) (clA.ne fl6.cl f74.cl (hC.oa 7 1 rfl rfl)) fl6.lt))
  have fR6 := fR6.kept (hk _ fR6.lt (inA2.not (clA.ne fR6.cla f72.cl (hC.ao 1 4 rfl rfl)) (clA.ne fR6.cla f74.cl (hC.aa 4 1 rfl rfl (by dsimp only; decide))) fR6.lt))
  have el6 := el6.keep2 hk (fun q9 h9 => clA.ne h9 f72.cl (hC.ceo (Or.inl rfl) 1 rfl (by decide))) (fun q9 h9 => clA.ne h9 f74.cl (hC.cea (Or.inl rfl) 1 rfl))
  have h0s := h0s.kept (hk _ h0s.lt (inA2.not (clA.ne h0s.cl f72.cl (hC.oo 0 1 rfl rfl (by decide))) (clA.ne h0s.cl f74.cl (hC.oa 0 1 rfl rfl)) h0s.lt))
  have h1s := h1s.kept (hk _ h1s.lt (inA2.not (clA.ne h1s.cl f72.cl (hC.oo 0 1 rfl rfl (by decide))) (clA.ne h1s.cl f74.cl (hC.oa 0 1 rfl rfl)) h1s.lt))
  have h2s := h2s.kept (hk _ h2s.lt (inA2.not (h2s.neo hC f72.cl (ci := 1) rfl) (Nat.ne_of_lt l_h2s_f74) h2s.lt))
  obtain ⟨er9, hR⟩ := hR
  rw [er9]
  obtain ⟨v_101, hv_101, f72, f74⟩ := hR
  have g_f74 := hv_101.elim (fun e9 => e9 ▸ g_f74) (fun z9 => hn _ (Nat.le_trans hZ0_ z9))
  have l_fl6_f74 : r_5 < v_101 := hv_101.elim (fun e9 => e9 ▸ l_fl6_f74) (fun z9 => Nat.lt_of_lt_of_le t_fl6 z9)
  have l_fR6_f74 : bb6 < v_101 := hv_101.elim (fun e9 => e9 ▸ l_fR6_f74) (fun z9 => Nat.lt_of_lt_of_le t_fR6 z9)
  have l_h0s_f74 : q9 < v_101 := hv_101.elim (fun e9 => e9 ▸ l_h0s_f74) (fun z9 => Nat.lt_of_lt_of_le t_h0s z9)
  have l_h1s_f74 : q9 < v_101 := hv_101.elim (fun e9 => e9 ▸ l_h1s_f74) (fun z9 => Nat.lt_of_lt_of_le t_h1s z9)
  have l_h2s_f74 : b0_ < v_101 := hv_101.elim (fun e9 => e9 ▸ l_h2s_f74) (fun z9 => Nat.lt_of_lt_of_le t_h2s z9)
  have l_f72_f74 : qf72 < v_101 := hv_101.elim (fun e9 => e9 ▸ l_f72_f74) (fun z9 => Nat.lt_of_lt_of_le t_f72 z9)
  have hv_101 := hv_101.imp_right (fun z9 => Nat.le_trans hZ0_ z9)
  refine lv_iload (pc := 111) hx hb dX5_wayNow_111 (lv_at hl 5 rfl) ?_
  refine lv_iconst (pc := 113) (v := 2) hx hb dX5_wayNow_113 (by decide) ?_
  refine lv_irem (pc := 114) hx hb dX5_wayNow_114 (by decide) ?_
  refine lv_if_ne (pc := 115) (tgt := 124) hx hb dX5_wayNow_115 (by decide) (fun c_102 => ?_) (fun c_102 => ?_)
  · refine r_ldcwS (pc := 124) E hC 11 _ rfl rfl rfl dX5_wayNow_124 ?_
    have k103 : SX D tk (sa (10 + 11)) 1 H := hC.str hS hA 11 _ rfl (by decide)
    exact g13_X5_wayNow E hC hA hn hr hlk P hPN mo n9 kn th tt bb eT eB oT oB pk ca rf vs x k_x hx_x hk_x nl6 bb6 cap6 ff6 ww6 md6 T u2 u3 u4 hlm6 r_5 v_101 qf72 x_69 n k l9 E9 q9 y9 hf9 hk9 hx9 hE9 hZ9 hL8 ih_32 hd11 hdl hEn hkn b0_ hcA hcB hcC hcD hTc2 hTs2 hWc2 hWs2 _ _ _ hS fl6 fR6 el6 h0s h1s h2s f72 f74 k103 s_f72 g_f72 g_f74 l_f72_f74 l_fR6_f72 l_fR6_f74 l_fl6_f72 l_fl6_f74 l_h0s_f72 l_h0s_f74 l_h1s_f72 l_h1s_f74 l_h2s_f72 l_h2s_f74 hl
  · refine r_ldcwS (pc := 118) E hC 10 _ rfl rfl rfl dX5_wayNow_118 ?_
    have k111 : SX D tk (sa (10 + 10)) 1 H := hC.str hS hA 10 _ rfl (by decide)
    refine lv_goto (pc := 121) (tgt := 127) hx hb dX5_wayNow_121 (by decide) ?_
    exact g14_X5_wayNow E hC hA hn hr hlk P hPN mo n9 kn th tt bb eT eB oT oB pk ca rf vs x k_x hx_x hk_x nl6 bb6 cap6 ff6 ww6 md6 T u2 u3 u4 hlm6 r_5 v_101 qf72 x_69 n k l9 E9 q9 y9 hf9 hk9 hx9 hE9 hZ9 hL8 ih_32 hd11 hdl hEn hkn b0_ hcA hcB hcC hcD hTc2 hTs2 hWc2 hWs2 _ _ _ hS fl6 fR6 el6 h0s h1s h2s f72 f74 k111 s_f72 g_f72 g_f74 l_f72_f74 l_fR6_f72 l_fR6_f74 l_fl6_f72 l_fl6_f74 l_h0s_f72 l_h0s_f74 l_h1s_f72 l_h1s_f74 l_h2s_f72 l_h2s_f74 hl
set_option maxHeartbeats 20000000 in
set_option maxRecDepth 100000 in
theorem g8_X5_wayNow {p : Program} {l : Launch} {e : Env} {s : State} {m : MethodId} {args : Array Value} {below : List Frame} {meth : Method} {c : Code} {Q : State → Prop} {D : va_G} {tk : Nat → ClassId} {N0 : Nat} {sa : Nat → Nat} (E : CallFix p m c cX5_wayNow 7 s args (wsy yX5_wayNow cX5_wayNow 7 (some (.object "java/lang/String"))) RX5) (hC : Ctx D tk N0 sa s) (hA : ∀ q, (nwA s.heap.size) q → N0 ≤ q) (hn : ∀ q, s.heap.size ≤ q → (nwA s.heap.size) q) (hr : meth.sig.returnType = (some (.object "java/lang/String"))) (hlk : meth.locks = false) (P : Nat → Prop) (hPN : ∀ q, P q → N0 ≤ q) (mo : Nat) (n9 : Nat) (kn : Int32) (th : Int32) (tt : Nat → Int64) (bb : Nat → Int64) (eT : Int64) (eB : Int64) (oT : Int64) (oB : Int64) (pk : Nat) (ca : Int32) (rf : Int32) (vs : Nat → Value) (x : Int32) (k_x : Nat) (hx_x : x = nI k_x) (hk_x : k_x < 6) (nl6 : Nat) (bb6 : Nat) (cap6 : Nat) (ff6 : Nat → Option Nat) (ww6 : Nat → Value) (md6 : Int32) (T : Nat → Int) (u2 : T (nl6 + 1) = 0) (u3 : ∀ i, i < nl6 → ∃ x : Int64, ww6 i = .long x ∧ x.toInt * T (i + 1) + T (i + 2) = T i) (u4 : ∀ i, 1 ≤ i → i ≤ nl6 → 1 ≤ T i ∧ T i ≤ 1000000000) (hlm6 : nl6 ≤ 43) (r_5 : Nat) (x_69 : Int64) (n : Nat) (k : Nat) (l9 : Nat) (E9 : Nat) (q9 : Nat) (y9 : Int32) (hf9 : 44 - k < n + 1) (hk9 : k ≤ nl6) (hx9 : y9 = nI k) (hE9 : ((10 ^ E9 : Nat) : Int) * T k ≤ 1000000000) (hZ9 : (k = 0 → E9 = 0)) (hL8 : l9 ≤ 3 * k + E9) (ih_32 : ∀ (k : Nat) (l9 : Nat) (E9 : Nat)(q9 : Nat) (y9 : Int32), 44 - k < n → k ≤ nl6 → y9 = nI k → ((10 ^ E9 : Nat) : Int) * T k ≤ 1000000000 → (k = 0 → E9 = 0) → l9 ≤ 3 * k + E9 → ∀ (H : Heap) (locs : List Loc) (ls : Array Slot), va_S (nwA s.heap.size) s.heap H locs → c1 D r_5 (.inr (7, [.int md6, .ref bb6, .int (nI nl6)])) H → c1 D bb6 (.inl (tk 4, cap6, .inr (.inr (.inr (.inr (ff6)))))) H → EL D 3 nl6 ff6 ww6 H → SX D tk q9 l9 H → lv_has ls 7 [(0, .ref mo), (1, .int x), (2, .ref r_5), (3, .ref q9), (4, .int y9)] → W p l e ({ frames := 8, cells := 393, slots := 14193, locals := 186 } : Room) s m args below meth c H locs (49 + 8 * k) (175 + m_wS k) Q (F0 m 32 ls [])) (b0_ : Nat) (xe10 : Int64) (hkn : k < nl6) (hmn : x_69.toInt ≤ xe10.toInt ∧ xe10.toInt ≤ x_69.toInt + 1 ∧ x_69.toInt.natAbs < 10000000000) (hST : xe10.toInt * T (k + 1) + T (k + 2) = T k ∧ 1 ≤ T (k + 1) ∧ T (k + 1) ≤ 1000000000 ∧ 0 ≤ T (k + 2)) (c_70 : ¬ (x_69 ≤ 0)) (H : Heap) (locs : List Loc) (ls : Array Slot) (hS : va_S (nwA s.heap.size) s.heap H locs) (fl6 : c1 D r_5 (.inr (7, [.int md6, .ref bb6, .int (nI nl6)])) H) (fR6 : c1 D bb6 (.inl (tk 4, cap6, .inr (.inr (.inr (.inr (ff6)))))) H) (el6 : EL D 3 nl6 ff6 ww6 H) (h0s : xf D 0 q9 0 (.ref b0_) H) (h1s : xf D 0 q9 1 (.int 0) H) (h2s : BX tk b0_ l9 H) (hl : lv_has ls 7 [(5, .long x_69), (0, .ref mo), (1, .int x), (2, .ref r_5), (3, .ref q9), (4, .int y9)]) : W p l e ({ frames := 8, cells := 393, slots := 14193, locals := 186 } : Room) s m args below meth c H locs (49 + 8 * k + 0 + 0 + 0 + 0 + 0) (175 + m_wS k + 0 + 0 + 0 + 0 + 0) Q (F0 m 83 ls []) := by
  obtain ⟨hx, hb, -⟩ := id E
  have hy1 : 1 ≤ x_69.toInt := by
    have h9 := Int64.lt_iff_toInt_lt.mp (Int64.not_le.mp c_70)
    have e0 : (0 : Int64).toInt = 0 := rfl
    omega
  have hdl := m_dgL hy1
  have hEn := m_stE hE9 hST.1 hST.2.1 hST.2.2.2 hdl.2 hmn.1
  have hE8 := m_E9 hEn hST.2.1
  have hd11 : dgJ x_69 ≤ 11 := m_dg hmn.2.2
  have hws : m_wS (k + 1) = m_wS k + (12 * k + 74) := rfl
  have hwb := m_wSB (k := k + 1) (by omega)
  have hl2 : l9 ≤ 2000 := by omega
  have hl4 : l9 ≤ 400000 := by omega
  have hct0 := m_cat4 0 1 hl2 (d1 := dgJ x_69) (by omega)
  have hct1 := m_cat4 1 1 hl2 (d1 := dgJ x_69) (by omega)
  have hNc : 49 + 8 * (k + 1) ≤ 393 := by omega
  have hNs : 175 + m_wS (k + 1) ≤ 14193 := by omega
  have hWc1 : 49 + 8 * k + 0 + 0 + 0 + 0 + 0 + 1 + 1 + (sbK 16 (0 + l9)) + 0 + (sbK (sbC 16 (0 + l9)) ((0 + l9) + 1)) + (sbK (sbC (sbC 16 (0 + l9)) ((0 + l9) + 1)) (((0 + l9) + 1) + 1)) + (sbK (sbC (sbC (sbC 16 (0 + l9)) ((0 + l9) + 1)) (((0 + l9) + 1) + 1)) ((((0 + l9) + 1) + 1) + dgJ x_69)) + 2 ≤ 49 + 8 * (k + 1) := by have k0_ := tx_k1 16 (0 + l9); have k1_ := tx_k1 (sbC 16 (0 + l9)) ((0 + l9) + 1); have k2_ := tx_k1 (sbC (sbC 16 (0 + l9)) ((0 + l9) + 1)) (((0 + l9) + 1) + 1); have k3_ := tx_k1 (sbC (sbC (sbC 16 (0 + l9)) ((0 + l9) + 1)) (((0 + l9) + 1) + 1)) ((((0 + l9) + 1) + 1) + dgJ x_69); omega
  have hWs1 : 175 + m_wS k + 0 + 0 + 0 + 0 + 0 + 4 + 16 + (sbS 16 (0 + l9)) + 0 + (sbS (sbC 16 (0 + l9)) ((0 + l9) + 1)) + (sbS (sbC (sbC 16 (0 + l9)) ((0 + l9) + 1)) (((0 + l9) + 1) + 1)) + (sbS (sbC (sbC (sbC 16 (0 + l9)) ((0 + l9) + 1)) (((0 + l9) + 1) + 1)) ((((0 + l9) + 1) + 1) + dgJ x_69)) + (4 + ((((0 + l9) + 1) + 1) + dgJ x_69)) ≤ 175 + m_wS (k + 1) := by have h7 := hct1.2.1; omega
  have hTc1 : 49 + 8 * k + 0 + 0 + 0 + 0 + 0 + 1 + 1 + (sbK 16 (0 + l9)) + 0 + (sbK (sbC 16 (0 + l9)) ((0 + l9) + 1)) + (sbK (sbC (sbC 16 (0 + l9)) ((0 + l9) + 1)) (((0 + l9) + 1) + 1)) + (sbK (sbC (sbC (sbC 16 (0 + l9)) ((0 + l9) + 1)) (((0 + l9) + 1) + 1)) ((((0 + l9) + 1) + 1) + dgJ x_69)) + 2 ≤ 393 := Nat.le_trans hWc1 hNc
  have hTs1 : 175 + m_wS k + 0 + 0 + 0 + 0 + 0 + 4 + 16 + (sbS 16 (0 + l9)) + 0 + (sbS (sbC 16 (0 + l9)) ((0 + l9) + 1)) + (sbS (sbC (sbC 16 (0 + l9)) ((0 + l9) + 1)) (((0 + l9) + 1) + 1)) + (sbS (sbC (sbC (sbC 16 (0 + l9)) ((0 + l9) + 1)) (((0 + l9) + 1) + 1)) ((((0 + l9) + 1) + 1) + dgJ x_69)) + (4 + ((((0 + l9) + 1) + 1) + dgJ x_69)) ≤ 14193 := Nat.le_trans hWs1 hNs
  have hWc2 : 49 + 8 * k + 0 + 0 + 0 + 0 + 0 + 1 + 1 + (sbK 16 (0 + l9)) + 0 + (sbK (sbC 16 (0 + l9)) ((0 + l9) + 0)) + (sbK (sbC (sbC 16 (0 + l9)) ((0 + l9) + 0)) (((0 + l9) + 0) + 1)) + (sbK (sbC (sbC (sbC 16 (0 + l9)) ((0 + l9) + 0)) (((0 + l9) + 0) + 1)) ((((0 + l9) + 0) + 1) + dgJ x_69)) + 2 ≤ 49 + 8 * (k + 1) := by have k0_ := tx_k1 16 (0 + l9); have k1_ := tx_k1 (sbC 16 (0 + l9)) ((0 + l9) + 0); have k2_ := tx_k1 (sbC (sbC 16 (0 + l9)) ((0 + l9) + 0)) (((0 + l9) + 0) + 1); have k3_ := tx_k1 (sbC (sbC (sbC 16 (0 + l9)) ((0 + l9) + 0)) (((0 + l9) + 0) + 1)) ((((0 + l9) + 0) + 1) + dgJ x_69); omega
  have hWs2 : 175 + m_wS k + 0 + 0 + 0 + 0 + 0 + 4 + 16 + (sbS 16 (0 + l9)) + 0 + (sbS (sbC 16 (0 + l9)) ((0 + l9) + 0)) + (sbS (sbC (sbC 16 (0 + l9)) ((0 + l9) + 0)) (((0 + l9) + 0) + 1)) + (sbS (sbC (sbC (sbC 16 (0 + l9)) ((0 + l9) + 0)) (((0 + l9) + 0) + 1)) ((((0 + l9) + 0) + 1) + dgJ x_69)) + (4 + ((((0 + l9) + 0) + 1) + dgJ x_69)) ≤ 175 + m_wS (k + 1) := by have h7 := hct0.2.1; omega
  have hTc2 : 49 + 8 * k + 0 + 0 + 0 + 0 + 0 + 1 + 1 + (sbK 16 (0 + l9)) + 0 + (sbK (sbC 16 (0 + l9)) ((0 + l9) + 0)) + (sbK (sbC (sbC 16 (0 + l9)) ((0 + l9) + 0)) (((0 + l9) + 0) + 1)) + (sbK (sbC (sbC (sbC 16 (0 + l9)) ((0 + l9) + 0)) (((0 + l9) + 0) + 1)) ((((0 + l9) + 0) + 1) + dgJ x_69)) + 2 ≤ 393 := Nat.le_trans hWc2 hNc
  have hTs2 : 175 + m_wS k + 0 + 0 + 0 + 0 + 0 + 4 + 16 + (sbS 16 (0 + l9)) + 0 + (sbS (sbC 16 (0 + l9)) ((0 + l9) + 0)) + (sbS (sbC (sbC 16 (0 + l9)) ((0 + l9) + 0)) (((0 + l9) + 0) + 1)) + (sbS (sbC (sbC (sbC 16 (0 + l9)) ((0 + l9) + 0)) (((0 + l9) + 0) + 1)) ((((0 + l9) + 0) + 1) + dgJ x_69)) + (4 + ((((0 + l9) + 0) + 1) + dgJ x_69)) ≤ 14193 := Nat.le_trans hWs2 hNs
  have hS0_ := hS
  refine r_new (pc := 83) E hC hS tyJ4_ok uJ4 (List.mem_cons_of_mem _ kw_1351) (List.mem_cons_of_mem _ kw_150) (List.mem_cons_of_mem _ kw_19) (ci := 1) rfl (fs := [.null, .int 0, .int 0, .int 0]) (by decide) (pre1 (pre1 (pre1 (pre1 (pre1 (pre1 (pre1 hTc1))))))) (pre1 (pre1 (pre1 (pre1 (pre1 (pre1 (pre1 hTs1))))))) dX5_wayNow_83 (fun qf72 H zq_ n_ ho_ hS => ?_)
  have l_fl6_f72 : r_5 < qf72 := zq_ ▸ fl6.lt
  have fl6 := fl6.kept (ho_ _ fl6.lt)
  have l_fR6_f72 : bb6 < qf72 := zq_ ▸ fR6.lt
  have fR6 := fR6.kept (ho_ _ fR6.lt)
  have el6 := el6.old ho_
  have l_h0s_f72 : q9 < qf72 := zq_ ▸ h0s.lt
  have h0s := h0s.kept (ho_ _ h0s.lt)
  have l_h1s_f72 : q9 < qf72 := zq_ ▸ h1s.lt
  have h1s := h1s.kept (ho_ _ h1s.lt)
  have l_h2s_f72 : b0_ < qf72 := zq_ ▸ h2s.lt
  have h2s := h2s.kept (ho_ _ h2s.lt)
  have f72 := n_
  have s_f72 : s.heap.size ≤ qf72 := zq_ ▸ hS0_.1
  have g_f72 := hn _ s_f72
  refine lv_dup (pc := 86) hx hb dX5_wayNow_86 rfl ?_
  have hZ0_ := hS.1
  have t_fl6 := fl6.lt
  have t_fR6 := fR6.lt
  have t_h0s := h0s.lt
  have t_h1s := h1s.lt
  have t_h2s := h2s.lt
  have t_f72 := f72.lt
  refine k_v (pc := 87) (k_I E hC hS hA hl.1 (c_J4_init_da8c8 l D tk N0 sa H.size qf72 (hA _ g_f72)) kw_1352 kw_152 kw_19 kw_153 rfl (n := 0) (by decide +kernel) rfl ⟨⟨rfl, rfl⟩, ⟨Nat.le_of_ble_eq_true rfl, Nat.le_of_ble_eq_true rfl⟩, (pre1 (pre1 (pre1 (pre1 (pre1 (pre1 hTc1)))))), (pre1 (pre1 (pre1 (pre1 (pre1 (pre1 hTs1))))))⟩ rfl (Nat.le_of_ble_eq_true rfl) f72 dX5_wayNow_87) hS (inA1.to g_f72) hn (fun H locs hR hz hk hS => ?_)
  have fl6 := fl6.kept (hk _ fl6.lt (inA1.not (clA.ne fl6.cl f72.cl (hC.oo 7 1 rfl rfl (by decide))) fl6.lt))
  have fR6 := fR6.kept (hk _ fR6.lt (inA1.not (clA.ne fR6.cla f72.cl (hC.ao 1 4 rfl rfl)) fR6.lt))
  have el6 := el6.keep1 hk (fun q9 h9 => clA.ne h9 f72.cl (hC.ceo (Or.inl rfl) 1 rfl (by decide)))
  have h0s := h0s.kept (hk _ h0s.lt (inA1.not (clA.ne h0s.cl f72.cl (hC.oo 0 1 rfl rfl (by decide))) h0s.lt))
  have h1s := h1s.kept (hk _ h1s.lt (inA1.not (clA.ne h1s.cl f72.cl (hC.oo 0 1 rfl rfl (by decide))) h1s.lt))
  have h2s := h2s.kept (hk _ h2s.lt (inA1.not (h2s.neo hC f72.cl (ci := 1) rfl) h2s.lt))
  obtain ⟨q_f74, z9_, f72, f74⟩ := hR
  have s_f74 : s.heap.size ≤ q_f74 := Nat.le_trans hZ0_ z9_
  have g_f74 := hn _ s_f74
  have l_fl6_f74 : r_5 < q_f74 := Nat.lt_of_lt_of_le t_fl6 z9_
  have l_fR6_f74 : bb6 < q_f74 := Nat.lt_of_lt_of_le t_fR6 z9_
  have l_h0s_f74 : q9 < q_f74 := Nat.lt_of_lt_of_le t_h0s z9_
  have l_h1s_f74 : q9 < q_f74 := Nat.lt_of_lt_of_le t_h1s z9_
  have l_h2s_f74 : b0_ < q_f74 := Nat.lt_of_lt_of_le t_h2s z9_
  have l_f72_f74 : qf72 < q_f74 := Nat.lt_of_lt_of_le t_f72 z9_
  refine lv_aload_n (pc := 90) hx hb dX5_wayNow_90 rfl (lv_at hl 4 rfl) ?_
  have hZ0_ := hS.1
  have t_fl6 := fl6.lt
  have t_fR6 := fR6.lt
  have t_h0s := h0s.lt
  have t_h1s := h1s.lt
  have t_h2s := h2s.lt
  have t_f72 := f72.lt
  have t_f74 := f74.lt
  refine k_r (pc := 91) (k_V E hC hS hA hl.1 (c1.recv hC f72 rfl) rfl (c_J4_append_15ec4 l D tk N0 sa H.size qf72 q_f74 16 0 q9 l9 0 (hA _ g_f72) (hA _ g_f74) (Nat.zero_le _) (by decide) hl4) kw_1353 kw_399 kw_400 kw_19 kw_401 (n := 1) (by decide +kernel) rfl ⟨⟨rfl, rfl⟩, ⟨Nat.le_of_ble_eq_true rfl, Nat.le_of_ble_eq_true rfl⟩, (pre1 (pre1 (pre1 (pre1 (pre1 hTc1))))), (pre1 (pre1 (pre1 (pre1 (pre1 hTs1)))))⟩ rfl (Nat.le_of_ble_eq_true rfl) ⟨f72, f74, ⟨_, h0s, h1s, h2s⟩⟩ dX5_wayNow_91) hS (inA2.to g_f72 g_f74) hn (fun r_75 H locs hR hz hk hS => ?_)
  have fl6 := fl6.kept (hk _ fl6.lt (inA2.not (clA.ne fl6.cl f72.cl (hC.oo 7 1 rfl rfl (by decide))) (clA.ne fl6.cl f74.cl (hC.oa 7 1 rfl rfl)) fl6.lt))
  have fR6 := fR6.kept (hk _ fR6.lt (inA2.not (clA.ne fR6.cla f72.cl (hC.ao 1 4 rfl rfl)) (clA.ne fR6.cla f74.cl (hC.aa 4 1 rfl rfl (by dsimp only; decide))) fR6.lt))
  have el6 := el6.keep2 hk (fun q9 h9 => clA.ne h9 f72.cl (hC.ceo (Or.inl rfl) 1 rfl (by decide))) (fun q9 h9 => clA.ne h9 f74.cl (hC.cea (Or.inl rfl) 1 rfl))
  have h0s := h0s.kept (hk _ h0s.lt (inA2.not (clA.ne h0s.cl f72.cl (hC.oo 0 1 rfl rfl (by decide))) (clA.ne h0s.cl f74.cl (hC.oa 0 1 rfl rfl)) h0s.lt))
  have h1s := h1s.kept (hk _ h1s.lt (inA2.not (clA.ne h1s.cl f72.cl (hC.oo 0 1 rfl rfl (by decide))) (clA.ne h1s.cl f74.cl (hC.oa 0 1 rfl rfl)) h1s.lt))
  have h2s := h2s.kept (hk _ h2s.lt (inA2.not (h2s.neo hC f72.cl (ci := 1) rfl) (Nat.ne_of_lt l_h2s_f74) h2s.lt))
  obtain ⟨er9, hR⟩ := hR
  rw [er9]
  obtain ⟨v_76, hv_76, f72, f74⟩ := hR
  have g_f74 := hv_76.elim (fun e9 => e9 ▸ g_f74) (fun z9 => hn _ (Nat.le_trans hZ0_ z9))
  have l_fl6_f74 : r_5 < v_76 := hv_76.elim (fun e9 => e9 ▸ l_fl6_f74) (fun z9 => Nat.lt_of_lt_of_le t_fl6 z9)
  have l_fR6_f74 : bb6 < v_76 := hv_76.elim (fun e9 => e9 ▸ l_fR6_f74) (fun z9 => Nat.lt_of_lt_of_le t_fR6 z9)
  have l_h0s_f74 : q9 < v_76 := hv_76.elim (fun e9 => e9 ▸ l_h0s_f74) (fun z9 => Nat.lt_of_lt_of_le t_h0s z9)
  have l_h1s_f74 : q9 < v_76 := hv_76.elim (fun e9 => e9 ▸ l_h1s_f74) (fun z9 => Nat.lt_of_lt_of_le t_h1s z9)
  have l_h2s_f74 : b0_ < v_76 := hv_76.elim (fun e9 => e9 ▸ l_h2s_f74) (fun z9 => Nat.lt_of_lt_of_le t_h2s z9)
  have l_f72_f74 : qf72 < v_76 := hv_76.elim (fun e9 => e9 ▸ l_f72_f74) (fun z9 => Nat.lt_of_lt_of_le t_f72 z9)
  have hv_76 := hv_76.imp_right (fun z9 => Nat.le_trans hZ0_ z9)
  refine lv_aload_n (pc := 94) hx hb dX5_wayNow_94 rfl (lv_at hl 4 rfl) ?_
  refine k_i (pc := 95) (k_V E hC hS hA hl.1 (xf.recv hC h0s rfl) rfl (c_J0_isEmpty_aae02 l D tk N0 sa H.size q9 l9 (by omega)) kw_1537 kw_1538 kw_1539 kw_20 kw_1540 (n := 0) (by decide +kernel) rfl ⟨⟨rfl, rfl⟩, ⟨Nat.le_of_ble_eq_true rfl, Nat.le_of_ble_eq_true rfl⟩, (pre1 (pre1 (pre1 (pre1 hTc1)))), (pre1 (pre1 (pre1 (pre1 hTs1))))⟩ rfl (Nat.le_of_ble_eq_true rfl) ⟨_, h0s, h1s, h2s⟩ dX5_wayNow_95) hS (fun q z w => absurd w (Nat.not_le.mpr z)) hn (fun r_77 H locs hR hz hk hS => ?_)
  have fl6 := fl6.kept (hk _ fl6.lt (Nat.not_le.mpr fl6.lt))
  have fR6 := fR6.kept (hk _ fR6.lt (Nat.not_le.mpr fR6.lt))
  have el6 := el6.new hk
  have h0s := h0s.kept (hk _ h0s.lt (Nat.not_le.mpr h0s.lt))
  have h1s := h1s.kept (hk _ h1s.lt (Nat.not_le.mpr h1s.lt))
  have h2s := h2s.kept (hk _ h2s.lt (Nat.not_le.mpr h2s.lt))
  have f72 := f72.kept (hk _ f72.lt (Nat.not_le.mpr f72.lt))
  have f74 := f74.kept (hk _ f74.lt (Nat.not_le.mpr f74.lt))
  have em_r_77 := hR
  refine lv_if_eq (pc := 98) (tgt := 106) hx hb dX5_wayNow_98 (by decide) (fun c_78 => ?_) (fun c_78 => ?_)
  · have hcA := hct1.2.2.1
    have hcB := hct1.2.2.2.1
    have hcC := hct1.2.2.2.2.1
    have hcD := hct1.2.2.2.2.2
    refine va_ldcS (pc := 106) hx hb E.2.2.2.1 (hC.2.2.2.2.1 8 _ rfl).1 dX5_wayNow_106 ?_
    have k79 : SX D tk (sa (10 + 8)) 1 H := hC.str hS hA 8 _ rfl (by decide)
    exact g9_X5_wayNow E hC hA hn hr hlk P hPN mo n9 kn th tt bb eT eB oT oB pk ca rf vs x k_x hx_x hk_x nl6 bb6 cap6 ff6 ww6 md6 T u2 u3 u4 hlm6 r_5 v_76 qf72 x_69 n k l9 E9 q9 y9 hf9 hk9 hx9 hE9 hZ9 hL8 ih_32 hd11 hdl.1 hEn hkn b0_ hcA hcB hcC hcD hTc1 hTs1 hWc1 hWs1 hTc2 hTs2 hWc2 hWs2 _ _ _ hS fl6 fR6 el6 h0s h1s h2s f72 f74 k79 s_f72 g_f72 g_f74 l_f72_f74 l_fR6_f72 l_fR6_f74 l_fl6_f72 l_fl6_f74 l_h0s_f72 l_h0s_f74 l_h1s_f72 l_h1s_f74 l_h2s_f72 l_h2s_f74 hl
  · have hcA := hct0.2.2.1
    have hcB := hct0.2.2.2.1
    have hcC := hct0.2.2.2.2.1
    have hcD := hct0.2.2.2.2.2
    refine va_ldcS (pc := 101) hx hb E.2.2.2.1 (hC.2.2.2.2.1 6 _ rfl).1 dX5_wayNow_101 ?_
    have k99 : SX D tk (sa (10 + 6)) 0 H := hC.str hS hA 6 _ rfl (by decide)
    refine lv_goto (pc := 103) (tgt := 108) hx hb dX5_wayNow_103 (by decide) ?_
    exact g12_X5_wayNow E hC hA hn hr hlk P hPN mo n9 kn th tt bb eT eB oT oB pk ca rf vs x k_x hx_x hk_x nl6 bb6 cap6 ff6 ww6 md6 T u2 u3 u4 hlm6 r_5 v_76 qf72 x_69 n k l9 E9 q9 y9 hf9 hk9 hx9 hE9 hZ9 hL8 ih_32 hd11 hdl.1 hEn hkn b0_ hcA hcB hcC hcD hTc1 hTs1 hWc1 hWs1 hTc2 hTs2 hWc2 hWs2 _ _ _ hS fl6 fR6 el6 h0s h1s h2s f72 f74 k99 s_f72 g_f72 g_f74 l_f72_f74 l_fR6_f72 l_fR6_f74 l_fl6_f72 l_fl6_f74 l_h0s_f72 l_h0s_f74 l_h1s_f72 l_h1s_f74 l_h2s_f72 l_h2s_f74 hl
set_option maxHeartbeats 20000000 in
set_option maxRecDepth 100000 in
/-- BestratiosModel.wayNow(I)Ljava/lang/String; -/
theorem c_X5_wayNow (l : Launch) (D : va_G) (tk : Nat → ClassId) (N0 : Nat) (sa : Nat → Nat)  (sz : Nat) (P : Nat → Prop) (hPN : ∀ q, P q → N0 ≤ q) (mo n9 : Nat) (kn th : Int32) (tt bb : Nat → Int64) (eT eB oT oB : Int64) (pk : Nat) (ca rf : Int32) (vs : Nat → Value) (x : Int32) (k_x : Nat) (hx_x : x = nI k_x) (hk_x : k_x < 6) : Met l yX5_wayNow (wsy yX5_wayNow cX5_wayNow 7 (some (.object "java/lang/String"))) ({ frames := 8, cells := 393, slots := 14193, locals := 186 } : Room) (cP D tk N0 sa [.ref mo, .int x] sz (fun H => MI D tk sa P mo tt bb eT eB oT oB pk ca rf vs kn n9 th H)) (kQr (fun r H => ∃ n1, n1 ≤ 200 ∧ SX D tk r n1 H) (nwA sz)) (393) (14193) (nwA sz) := by
  refine mStart RX5 rfl (by decide +kernel) (Nat.le_of_ble_eq_true rfl) ?_
  intro p e s m args below meth c E hr hlk hnm hsz hC hF ls hl
  subst hsz
  obtain ⟨hx, hb, -⟩ := id E
  have hA : ∀ q, (nwA s.heap.size) q → N0 ≤ q := fun q h => Nat.le_trans hC.2.1 h
  have hn : ∀ q, s.heap.size ≤ q → (nwA s.heap.size) q := fun q h => h
  have hS : va_S (nwA s.heap.size) s.heap s.heap [] := va_S.rf
  have hl : lv_has ls 7 [(0, .ref mo), (1, .int x)] := hl
  obtain ⟨Q, hQ⟩ : ∃ Q, Q = MQ below (kQr (fun r H => ∃ n1, n1 ≤ 200 ∧ SX D tk r n1 H) (nwA s.heap.size)) args s (393) (14193) (nwA s.heap.size) := ⟨_, rfl⟩
  rw [← hQ]
  have hM : MI D tk sa P mo tt bb eT eB oT oB pk ca rf vs kn n9 th s.heap := hF
  obtain ⟨ra, rl, ex, ro, rt, fo, fj, fk, fe, fr, fw, ⟨hPm, hPa, hPl, hPe, hPr, hPk⟩, hFk, hFe, hFr, hpk, hn9⟩ := hM
  refine lv_aload_n (pc := 0) hx hb dX5_wayNow_0 rfl (lv_at hl 0 rfl) ?_
  refine r_get (pc := 1) E hC fo 0 (v := .ref ra) rfl rfl (by decide) uX5 (List.mem_cons_of_mem _ kw_1209) (fun _ h => h) dX5_wayNow_1 ?_
  refine lv_iload_n (pc := 4) hx hb dX5_wayNow_4 rfl (lv_at hl 1 rfl) ?_
  refine r_aaldJ (pc := 5) E hC fj k_x hx_x hk_x (by decide) rfl dX5_wayNow_5 ?_
  have fL1 := fk k_x hk_x
  have mF_fL1 := hFk k_x hk_x
  have Pq_fL1 := hPk k_x hk_x
  have hZ0_ := hS.1
  have t_fo := fo.lt
  have t_fj := fj.lt
  have t_fk := fun k (hk9 : k < 6) => (fk k hk9).lt
  have t_fe := fe.lt
  have t_fr := fr.lt
  have t_fL1 := fL1.lt
  refine k_i (pc := 6) (k_S E hC hS hA hl.1 (c_X5_isAbove l D tk N0 sa s.heap.size (rt k_x) (tt k_x) (bb k_x) ) kw_1645 kw_1646 kw_5 kw_1647 (n := 1) (by decide +kernel) rfl ⟨⟨rfl, rfl⟩, ⟨Nat.le_of_ble_eq_true rfl, Nat.le_of_ble_eq_true rfl⟩, (by dsimp only; omega), (by dsimp only; omega)⟩ rfl (Nat.le_of_ble_eq_true rfl) fL1 dX5_wayNow_6) hS (fun q z w => absurd w (Nat.not_le.mpr z)) hn (fun r_2 H locs hR hz hk hS => ?_)
  have fw := fw.new hk
  have fo := fo.kept (hk _ fo.lt (Nat.not_le.mpr fo.lt))
  have fj := fj.kept (hk _ fj.lt (Nat.not_le.mpr fj.lt))
  have fk := fk.new hk
  have fe := fe.kept (hk _ fe.lt (Nat.not_le.mpr fe.lt))
  have fr := fr.kept (hk _ fr.lt (Nat.not_le.mpr fr.lt))
  have fL1 := fL1.kept (hk _ fL1.lt (Nat.not_le.mpr fL1.lt))
  have er_2 := hR
  refine lv_if_ne (pc := 9) (tgt := 16) hx hb dX5_wayNow_9 (by decide) (fun c_3 => ?_) (fun c_3 => ?_)
  · refine lv_aload_n (pc := 16) hx hb dX5_wayNow_16 rfl (lv_at hl 0 rfl) ?_
    refine r_get (pc := 17) E hC fo 0 (v := .ref ra) rfl rfl (by decide) uX5 (List.mem_cons_of_mem _ kw_1209) (fun _ h => h) dX5_wayNow_17 ?_
    refine lv_iload_n (pc := 20) hx hb dX5_wayNow_20 rfl (lv_at hl 1 rfl) ?_
    refine r_aaldJ (pc := 21) E hC fj k_x hx_x hk_x (by decide) rfl dX5_wayNow_21 ?_
    have fL4 := fk k_x hk_x
    have mF_fL4 := hFk k_x hk_x
    have Pq_fL4 := hPk k_x hk_x
    have hZ0_ := hS.1
    have t_fo := fo.lt
    have t_fj := fj.lt
    have t_fk := fun k (hk9 : k < 6) => (fk k hk9).lt
    have t_fe := fe.lt
    have t_fr := fr.lt
    have t_fL1 := fL1.lt
    have t_fL4 := fL4.lt
    refine k_r (pc := 22) (k_S E hC hS hA hl.1 (c_X5_termsOf l D tk N0 sa H.size (rt k_x) (tt k_x) (bb k_x) mF_fL4) kw_1411 kw_1412 kw_5 kw_1413 (n := 1) (by decide +kernel) rfl ⟨⟨rfl, rfl⟩, ⟨Nat.le_of_ble_eq_true rfl, Nat.le_of_ble_eq_true rfl⟩, (by dsimp only; omega), (by dsimp only; omega)⟩ rfl (Nat.le_of_ble_eq_true rfl) fL4 dX5_wayNow_22) hS (fun q z w => absurd w (Nat.not_le.mpr z)) hn (fun r_5 H locs hR hz hk hS => ?_)
    have fw := fw.new hk
    have fo := fo.kept (hk _ fo.lt (Nat.not_le.mpr fo.lt))
    have fj := fj.kept (hk _ fj.lt (Nat.not_le.mpr fj.lt))
    have fk := fk.new hk
    have fe := fe.kept (hk _ fe.lt (Nat.not_le.mpr fe.lt))
    have fr := fr.kept (hk _ fr.lt (Nat.not_le.mpr fr.lt))
    have fL1 := fL1.kept (hk _ fL1.lt (Nat.not_le.mpr fL1.lt))
    have fL4 := fL4.kept (hk _ fL4.lt (Nat.not_le.mpr fL4.lt))
    obtain ⟨nl6, bb6, cap6, ff6, ww6, md6, zr9_, zb9_, fl6, fR6, el6, hPT6, hln6, hlm6, hlc6, hlp6, ⟨hTL6, hTA6⟩, gg6, hEU6⟩ := hR
    have hcb6 := m_acB hlp6
    have s_fl6 : s.heap.size ≤ r_5 := Nat.le_trans hZ0_ zr9_
    have g_fl6 := hn _ s_fl6
    have l_fo_fl6 : mo < r_5 := Nat.lt_of_lt_of_le t_fo zr9_
    have l_fj_fl6 : ra < r_5 := Nat.lt_of_lt_of_le t_fj zr9_
    have nW_fl6 : ∀ k, k < 6 → rt k ≠ r_5 := fun k hk9 => Nat.ne_of_lt (Nat.lt_of_lt_of_le (t_fk k hk9) zr9_)
    have l_fe_fl6 : ex < r_5 := Nat.lt_of_lt_of_le t_fe zr9_
    have l_fr_fl6 : ro < r_5 := Nat.lt_of_lt_of_le t_fr zr9_
    have l_fL1_fl6 : rt k_x < r_5 := Nat.lt_of_lt_of_le t_fL1 zr9_
    have l_fL4_fl6 : rt k_x < r_5 := Nat.lt_of_lt_of_le t_fL4 zr9_
    have s_fR6 : s.heap.size ≤ bb6 := Nat.le_trans hZ0_ zb9_
    have g_fR6 := hn _ s_fR6
    have l_fo_fR6 : mo < bb6 := Nat.lt_of_lt_of_le t_fo zb9_
    have l_fj_fR6 : ra < bb6 := Nat.lt_of_lt_of_le t_fj zb9_
    have nW_fR6 : ∀ k, k < 6 → rt k ≠ bb6 := fun k hk9 => Nat.ne_of_lt (Nat.lt_of_lt_of_le (t_fk k hk9) zb9_)
    have l_fe_fR6 : ex < bb6 := Nat.lt_of_lt_of_le t_fe zb9_
    have l_fr_fR6 : ro < bb6 := Nat.lt_of_lt_of_le t_fr zb9_
    have l_fL1_fR6 : rt k_x < bb6 := Nat.lt_of_lt_of_le t_fL1 zb9_
    have l_fL4_fR6 : rt k_x < bb6 := Nat.lt_of_lt_of_le t_fL4 zb9_
    have hab := m_abv1 (t := tt k_x) (by rw [← er_2]; exact c_3)
    obtain ⟨T, u0, u1, u2, u3, u4⟩ := hEU6
    have hmt := mF_fL4.1
    refine lv_astore_n (pc := 25) (lv' := [(2, .ref r_5), (0, .ref mo), (1, .int x)]) hx hb dX5_wayNow_25 rfl hl (by decide) rfl (fun ls hl => ?_)
    refine va_ldcS (pc := 26) hx hb E.2.2.2.1 (hC.2.2.2.2.1 6 _ rfl).1 dX5_wayNow_26 ?_
    have k7 : SX D tk (sa (10 + 6)) 0 H := hC.str hS hA 6 _ rfl (by decide)
    refine lv_astore_n (pc := 28) (lv' := [(3, .ref (sa (10 + 6))), (2, .ref r_5), (0, .ref mo), (1, .int x)]) hx hb dX5_wayNow_28 rfl hl (by decide) rfl (fun ls hl => ?_)
    refine lv_iconst (pc := 29) (v := 0) hx hb dX5_wayNow_29 (by decide) ?_
    refine lv_istore (pc := 30) (lv' := [(4, .int 0), (3, .ref (sa (10 + 6))), (2, .ref r_5), (0, .ref mo), (1, .int x)]) hx hb dX5_wayNow_30 hl (by decide) rfl (fun ls hl => ?_)
    have loop_32 : ∀ (n : Nat) (k : Nat) (l9 : Nat) (E9 : Nat)(q9 : Nat) (y9 : Int32), 44 - k < n → k ≤ nl6 → y9 = nI k → ((10 ^ E9 : Nat) : Int) * T k ≤ 1000000000 → (k = 0 → E9 = 0) → l9 ≤ 3 * k + E9 → ∀ (H : Heap) (locs : List Loc) (ls : Array Slot), va_S (nwA s.heap.size) s.heap H locs → c1 D r_5 (.inr (7, [.int md6, .ref bb6, .int (nI nl6)])) H → c1 D bb6 (.inl (tk 4, cap6, .inr (.inr (.inr (.inr (ff6)))))) H → EL D 3 nl6 ff6 ww6 H → SX D tk q9 l9 H → lv_has ls 7 [(0, .ref mo), (1, .int x), (2, .ref r_5), (3, .ref q9), (4, .int y9)] → W p l e ({ frames := 8, cells := 393, slots := 14193, locals := 186 } : Room) s m args below meth c H locs (49 + 8 * k) (175 + m_wS k) Q (F0 m 32 ls []) := by
      intro n
      induction n with
      | zero =>
        intro k l9 E9 q9 y9 hf9 hk9 hx9 hE9 hZ9 hL8 H locs ls hS fl6 fR6 el6 fs hl
        omega
      | succ n ih_32 =>
        intro k l9 E9 q9 y9 hf9 hk9 hx9 hE9 hZ9 hL8 H locs ls hS fl6 fR6 el6 fs hl
        have hwa := m_wSB (k := k) (by omega)
        obtain ⟨b0_, h0s, h1s, h2s⟩ := fs
        refine lv_iload (pc := 32) hx hb dX5_wayNow_32 (lv_at hl 4 rfl) ?_
        refine lv_aload_n (pc := 34) hx hb dX5_wayNow_34 rfl (lv_at hl 2 rfl) ?_
        refine k_i (pc := 35) (k_V E hC hS hA hl.1 (c1.recv hC fl6 rfl) rfl (c_Jx4a65c_size_8abf5 l D tk N0 sa H.size r_5 bb6 nl6 md6) kw_1546 kw_1547 kw_1548 kw_8 kw_1549 (n := 0) (by decide +kernel) rfl ⟨⟨rfl, rfl⟩, ⟨Nat.le_of_ble_eq_true rfl, Nat.le_of_ble_eq_true rfl⟩, (by dsimp only; omega), (by dsimp only; omega)⟩ rfl (Nat.le_of_ble_eq_true rfl) fl6 dX5_wayNow_35) hS (fun q z w => absurd w (Nat.not_le.mpr z)) hn (fun r_8 H locs hR hz hk hS => ?_)
        have fl6 := fl6.kept (hk _ fl6.lt (Nat.not_le.mpr fl6.lt))
        have fR6 := fR6.kept (hk _ fR6.lt (Nat.not_le.mpr fR6.lt))
        have el6 := el6.new hk
        have h0s := h0s.kept (hk _ h0s.lt (Nat.not_le.mpr h0s.lt))
        have h1s := h1s.kept (hk _ h1s.lt (Nat.not_le.mpr h1s.lt))
        have h2s := h2s.kept (hk _ h2s.lt (Nat.not_le.mpr h2s.lt))
        rw [show r_8 = nI nl6 from hR]
        refine lv_icmp_ge (pc := 38) (tgt := 145) hx hb dX5_wayNow_38 (by decide) (fun c_9 => ?_) (fun c_9 => ?_)
        · have hkz : k = nl6 := by have h8 : nl6 ≤ k := Nat.not_lt.mp (fun z9 => absurd (nI_lt z9 (by omega)) (Int32.not_lt.mpr (by have h9 := c_9; rw [hx9] at h9; exact h9))); omega
          have hTk : 1 ≤ T k := by rw [hkz]; exact (u4 _ hln6 (Nat.le_refl _)).1
          have hE8 := m_E9 hE9 hTk
          refine lv_aload_n (pc := 145) hx hb dX5_wayNow_145 rfl (lv_at hl 3 rfl) ?_
          try rw [hQ]
          refine r_aret (pc := 146) E hr (Or.inl ⟨_, rfl⟩) hlk hS (by omega) (by omega) ?_ dX5_wayNow_146
          exact ⟨l9, by omega, ⟨_, h0s, h1s, h2s⟩⟩
        · have hkn : k < nl6 := Nat.not_le.mp (fun z9 => c_9 (by rw [hx9]; exact nI_le z9 (by omega)))
          obtain ⟨qe10, hq10, he10⟩ := el6 k hkn
          obtain ⟨xe10, ev10, pv10⟩ := hPT6 k hkn
          rw [ev10] at he10
          refine lv_aload_n (pc := 41) hx hb dX5_wayNow_41 rfl (lv_at hl 2 rfl) ?_
          refine lv_iload (pc := 42) hx hb dX5_wayNow_42 (lv_at hl 4 rfl) ?_
          refine k_r (pc := 44) (k_V E hC hS hA hl.1 (c1.recv hC fl6 rfl) rfl (c_Jx4a65c_get_915e3 l D tk N0 sa H.size r_5 bb6 nl6 cap6 k qe10 md6 y9 ff6 hx9 hkn (by omega) (by omega) hq10) kw_1550 kw_1551 kw_1552 kw_8 kw_1553 (n := 1) (by decide +kernel) rfl ⟨⟨rfl, rfl⟩, ⟨Nat.le_of_ble_eq_true rfl, Nat.le_of_ble_eq_true rfl⟩, (by dsimp only; omega), (by dsimp only; omega)⟩ rfl (Nat.le_of_ble_eq_true rfl) ⟨fl6, fR6⟩ dX5_wayNow_44) hS (fun q z w => absurd w (Nat.not_le.mpr z)) hn (fun r_11 H locs hR hz hk hS => ?_)
          have fl6 := fl6.kept (hk _ fl6.lt (Nat.not_le.mpr fl6.lt))
          have fR6 := fR6.kept (hk _ fR6.lt (Nat.not_le.mpr fR6.lt))
          have el6 := el6.new hk
          have h0s := h0s.kept (hk _ h0s.lt (Nat.not_le.mpr h0s.lt))
          have h1s := h1s.kept (hk _ h1s.lt (Nat.not_le.mpr h1s.lt))
          have h2s := h2s.kept (hk _ h2s.lt (Nat.not_le.mpr h2s.lt))
          have he10 := he10.kept (hk _ he10.lt (Nat.not_le.mpr he10.lt))
          rw [show r_11 = qe10 from hR]
          refine r_castO (pc := 47) E hC he10 rfl kw_1532 dX5_wayNow_47 ?_
          refine k_l (pc := 50) (k_V E hC hS hA hl.1 (xf.recv hC he10 rfl) rfl (c_J13_longValue_f9912 l D tk N0 sa H.size qe10 xe10) kw_1533 kw_1534 kw_1535 kw_17 kw_1536 (n := 0) (by decide +kernel) rfl ⟨⟨rfl, rfl⟩, ⟨Nat.le_of_ble_eq_true rfl, Nat.le_of_ble_eq_true rfl⟩, (by dsimp only; omega), (by dsimp only; omega)⟩ rfl (Nat.le_of_ble_eq_true rfl) he10 dX5_wayNow_50) hS (fun q z w => absurd w (Nat.not_le.mpr z)) hn (fun r_12 H locs hR hz hk hS => ?_)
          have fl6 := fl6.kept (hk _ fl6.lt (Nat.not_le.mpr fl6.lt))
          have fR6 := fR6.kept (hk _ fR6.lt (Nat.not_le.mpr fR6.lt))
          have el6 := el6.new hk
          have h0s := h0s.kept (hk _ h0s.lt (Nat.not_le.mpr h0s.lt))
          have h1s := h1s.kept (hk _ h1s.lt (Nat.not_le.mpr h1s.lt))
          have h2s := h2s.kept (hk _ h2s.lt (Nat.not_le.mpr h2s.lt))
          have he10 := he10.kept (hk _ he10.lt (Nat.not_le.mpr he10.lt))
          have er_12 : r_12 = xe10 := hR
          refine lv_iload (pc := 53) hx hb dX5_wayNow_53 (lv_at hl 4 rfl) ?_
          refine lv_aload_n (pc := 55) hx hb dX5_wayNow_55 rfl (lv_at hl 2 rfl) ?_
          refine k_i (pc := 56) (k_V E hC hS hA hl.1 (c1.recv hC fl6 rfl) rfl (c_Jx4a65c_size_8abf5 l D tk N0 sa H.size r_5 bb6 nl6 md6) kw_1546 kw_1547 kw_1548 kw_8 kw_1549 (n := 0) (by decide +kernel) rfl ⟨⟨rfl, rfl⟩, ⟨Nat.le_of_ble_eq_true rfl, Nat.le_of_ble_eq_true rfl⟩, (by dsimp only; omega), (by dsimp only; omega)⟩ rfl (Nat.le_of_ble_eq_true rfl) fl6 dX5_wayNow_56) hS (fun q z w => absurd w (Nat.not_le.mpr z)) hn (fun r_13 H locs hR hz hk hS => ?_)
          have fl6 := fl6.kept (hk _ fl6.lt (Nat.not_le.mpr fl6.lt))
          have fR6 := fR6.kept (hk _ fR6.lt (Nat.not_le.mpr fR6.lt))
          have el6 := el6.new hk
          have h0s := h0s.kept (hk _ h0s.lt (Nat.not_le.mpr h0s.lt))
          have h1s := h1s.kept (hk _ h1s.lt (Nat.not_le.mpr h1s.lt))
          have h2s := h2s.kept (hk _ h2s.lt (Nat.not_le.mpr h2s.lt))
          have he10 := he10.kept (hk _ he10.lt (Nat.not_le.mpr he10.lt))
          rw [show r_13 = nI nl6 from hR]
          refine lv_iconst (pc := 59) (v := 1) hx hb dX5_wayNow_59 (by decide) ?_
          refine lv_isub (pc := 60) hx hb dX5_wayNow_60 ?_
          refine lv_icmp_ne (pc := 61) (tgt := 68) hx hb dX5_wayNow_61 (by decide) (fun c_14 => ?_) (fun c_14 => ?_)
          · refine lv_iconst (pc := 68) (v := 0) hx hb dX5_wayNow_68 (by decide) ?_
            refine k_i (pc := 69) (k_S E hC hS hA hl.1 (c_X5_bit l D tk N0 sa H.size 0 ) kw_1271 kw_1272 kw_5 kw_1273 (n := 1) (by decide +kernel) rfl ⟨⟨rfl, rfl⟩, ⟨Nat.le_of_ble_eq_true rfl, Nat.le_of_ble_eq_true rfl⟩, (by dsimp only; omega), (by dsimp only; omega)⟩ rfl (Nat.le_of_ble_eq_true rfl) trivial dX5_wayNow_69) hS (fun q z w => absurd w (Nat.not_le.mpr z)) hn (fun r_15 H locs hR hz hk hS => ?_)
            have er_15 := hR
            have fl6 := fl6.kept (hk _ fl6.lt (Nat.not_le.mpr fl6.lt))
            have fR6 := fR6.kept (hk _ fR6.lt (Nat.not_le.mpr fR6.lt))
            have el6 := el6.new hk
            have h0s := h0s.kept (hk _ h0s.lt (Nat.not_le.mpr h0s.lt))
            have h1s := h1s.kept (hk _ h1s.lt (Nat.not_le.mpr h1s.lt))
            have h2s := h2s.kept (hk _ h2s.lt (Nat.not_le.mpr h2s.lt))
            have he10 := he10.kept (hk _ he10.lt (Nat.not_le.mpr he10.lt))
            refine lv_i2l (pc := 72) (v := r_15.toInt64) hx hb dX5_wayNow_72 rfl ?_
            refine lv_lsub (pc := 73) hx hb dX5_wayNow_73 ?_
            obtain ⟨x_17, ex_17⟩ : ∃ z9 : Int64, z9 = r_12 - r_15.toInt64 := ⟨_, rfl⟩
            rw [← ex_17]
            refine lv_lstore (pc := 74) (lv' := [(5, .long x_17), (0, .ref mo), (1, .int x), (2, .ref r_5), (3, .ref q9), (4, .int y9)]) hx hb dX5_wayNow_74 hl (by decide) rfl (fun ls hl => ?_)
            have hmn := m_many er_12 ex_17 (by rw [er_15]; decide) (by have := pv10; omega)
            have hST := EU.step u2 u3 u4 hkn ev10
            refine lv_lload (pc := 76) hx hb dX5_wayNow_76 (lv_at hl 0 rfl) ?_
            refine lv_lconst (pc := 78) (v := 0) hx hb dX5_wayNow_78 (by decide) ?_
            refine r_lcle (pc := 79) (tgt := 139) E dX5_wayNow_79 dX5_wayNow_80 (by decide) (fun c_18 => ?_) (fun c_18 => ?_)
            · have hEs : ((10 ^ E9 : Nat) : Int) * T (k + 1) ≤ 1000000000 := by
                rcases Nat.eq_zero_or_pos k with z9 | z9
                · rw [hZ9 z9, Nat.pow_zero]
                  have := hST.2.2.1
                  omega
                · have := pv10.2.1 z9
                  exact m_stE (d := 0) hE9 hST.1 hST.2.1 hST.2.2.2 (by decide) (show (1 : Int) ≤ xe10.toInt by omega)
              obtain ⟨x_19, ex_19⟩ : ∃ z9 : Int32, z9 = y9 + 1 := ⟨_, rfl⟩
              refine lv_iinc (pc := 139) (v := x_19) (lv' := [(4, .int x_19), (5, .long x_17), (0, .ref mo), (1, .int x), (2, .ref r_5), (3, .ref q9)]) hx hb dX5_wayNow_139 hl (k := 5) rfl (by rw [ex_19]; rfl) (by decide) rfl (fun ls hl => ?_)
              refine lv_goto (pc := 142) (tgt := 32) hx hb dX5_wayNow_142 (by decide) ?_
              have hws : m_wS (k + 1) = m_wS k + (12 * k + 74) := rfl
              refine W.widen (k := 49 + 8 * (k + 1)) (n := 175 + m_wS (k + 1)) (by omega) (by omega) ?_
              exact ih_32  (k + 1) _ E9  q9 x_19 (by omega) (by omega) (i_up hx9 ex_19) hEs (fun z9 => absurd z9 (by omega)) (by omega) _ _ _ hS fl6 fR6 el6 ⟨_, h0s, h1s, h2s⟩ (lv_sub hl [2, 3, 4, 5, 0] rfl)
            · exact g1_X5_wayNow E hC hA hn hr hlk P hPN mo n9 kn th tt bb eT eB oT oB pk ca rf vs x k_x hx_x hk_x nl6 bb6 cap6 ff6 ww6 md6 T u2 u3 u4 hlm6 r_5 x_17 n k l9 E9 q9 y9 hf9 hk9 hx9 hE9 hZ9 hL8 ih_32 b0_ xe10 hkn hmn hST c_18 _ _ _ hS fl6 fR6 el6 h0s h1s h2s hl
          · refine lv_iconst (pc := 64) (v := 1) hx hb dX5_wayNow_64 (by decide) ?_
            refine lv_goto (pc := 65) (tgt := 69) hx hb dX5_wayNow_65 (by decide) ?_
            refine k_i (pc := 69) (k_S E hC hS hA hl.1 (c_X5_bit l D tk N0 sa H.size 1 ) kw_1271 kw_1272 kw_5 kw_1273 (n := 1) (by decide +kernel) rfl ⟨⟨rfl, rfl⟩, ⟨Nat.le_of_ble_eq_true rfl, Nat.le_of_ble_eq_true rfl⟩, (by dsimp only; omega), (by dsimp only; omega)⟩ rfl (Nat.le_of_ble_eq_true rfl) trivial dX5_wayNow_69) hS (fun q z w => absurd w (Nat.not_le.mpr z)) hn (fun r_67 H locs hR hz hk hS => ?_)
            have er_67 := hR
            have fl6 := fl6.kept (hk _ fl6.lt (Nat.not_le.mpr fl6.lt))
            have fR6 := fR6.kept (hk _ fR6.lt (Nat.not_le.mpr fR6.lt))
            have el6 := el6.new hk
            have h0s := h0s.kept (hk _ h0s.lt (Nat.not_le.mpr h0s.lt))
            have h1s := h1s.kept (hk _ h1s.lt (Nat.not_le.mpr h1s.lt))
            have h2s := h2s.kept (hk _ h2s.lt (Nat.not_le.mpr h2s.lt))
            have he10 := he10.kept (hk _ he10.lt (Nat.not_le.mpr he10.lt))
            refine lv_i2l (pc := 72) (v := r_67.toInt64) hx hb dX5_wayNow_72 rfl ?_
            refine lv_lsub (pc := 73) hx hb dX5_wayNow_73 ?_
            obtain ⟨x_69, ex_69⟩ : ∃ z9 : Int64, z9 = r_12 - r_67.toInt64 := ⟨_, rfl⟩
            rw [← ex_69]
            refine lv_lstore (pc := 74) (lv' := [(5, .long x_69), (0, .ref mo), (1, .int x), (2, .ref r_5), (3, .ref q9), (4, .int y9)]) hx hb dX5_wayNow_74 hl (by decide) rfl (fun ls hl => ?_)
            have hmn := m_many er_12 ex_69 (by rw [er_67]; decide) (by have := pv10; omega)
            have hST := EU.step u2 u3 u4 hkn ev10
            refine lv_lload (pc := 76) hx hb dX5_wayNow_76 (lv_at hl 0 rfl) ?_
            refine lv_lconst (pc := 78) (v := 0) hx hb dX5_wayNow_78 (by decide) ?_
            refine r_lcle (pc := 79) (tgt := 139) E dX5_wayNow_79 dX5_wayNow_80 (by decide) (fun c_70 => ?_) (fun c_70 => ?_)
            · have hEs : ((10 ^ E9 : Nat) : Int) * T (k + 1) ≤ 1000000000 := by
                rcases Nat.eq_zero_or_pos k with z9 | z9
                · rw [hZ9 z9, Nat.pow_zero]
                  have := hST.2.2.1
                  omega
                · have := pv10.2.1 z9
                  exact m_stE (d := 0) hE9 hST.1 hST.2.1 hST.2.2.2 (by decide) (show (1 : Int) ≤ xe10.toInt by omega)
              obtain ⟨x_71, ex_71⟩ : ∃ z9 : Int32, z9 = y9 + 1 := ⟨_, rfl⟩
              refine lv_iinc (pc := 139) (v := x_71) (lv' := [(4, .int x_71), (5, .long x_69), (0, .ref mo), (1, .int x), (2, .ref r_5), (3, .ref q9)]) hx hb dX5_wayNow_139 hl (k := 5) rfl (by rw [ex_71]; rfl) (by decide) rfl (fun ls hl => ?_)
              refine lv_goto (pc := 142) (tgt := 32) hx hb dX5_wayNow_142 (by decide) ?_
              have hws : m_wS (k + 1) = m_wS k + (12 * k + 74) := rfl
              refine W.widen (k := 49 + 8 * (k + 1)) (n := 175 + m_wS (k + 1)) (by omega) (by omega) ?_
              exact ih_32  (k + 1) _ E9  q9 x_71 (by omega) (by omega) (i_up hx9 ex_71) hEs (fun z9 => absurd z9 (by omega)) (by omega) _ _ _ hS fl6 fR6 el6 ⟨_, h0s, h1s, h2s⟩ (lv_sub hl [2, 3, 4, 5, 0] rfl)
            · exact g8_X5_wayNow E hC hA hn hr hlk P hPN mo n9 kn th tt bb eT eB oT oB pk ca rf vs x k_x hx_x hk_x nl6 bb6 cap6 ff6 ww6 md6 T u2 u3 u4 hlm6 r_5 x_69 n k l9 E9 q9 y9 hf9 hk9 hx9 hE9 hZ9 hL8 ih_32 b0_ xe10 hkn hmn hST c_70 _ _ _ hS fl6 fR6 el6 h0s h1s h2s hl
    refine W.widen (k := 49 + 8 * 0) (n := 175 + m_wS 0) (by omega) (by show _ ≤ 175 + 0; omega) ?_
    exact loop_32 45 0 _ 0  (sa (10 + 6)) 0 (by omega) (by omega) nI_0.symm (m_E0 (by rw [u0]; omega)) (fun _ => rfl) (by omega) _ _ _ hS fl6 fR6 el6 k7 (lv_sub hl [3, 4, 2, 1, 0] rfl)
  · refine r_ldcwS (pc := 12) E hC 9 _ rfl rfl rfl dX5_wayNow_12 ?_
    have k119 : SX D tk (sa (10 + 9)) 1 H := hC.str hS hA 9 _ rfl (by decide)
    try rw [hQ]
    refine r_aret (pc := 15) E hr (Or.inl ⟨_, rfl⟩) hlk hS (by omega) (by omega) ?_ dX5_wayNow_15
    exact ⟨1, by omega, k119⟩
