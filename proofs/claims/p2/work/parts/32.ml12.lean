set_option maxHeartbeats 4000000 in
set_option maxRecDepth 100000 in
/-- BestratiosModel.text([J)Ljava/lang/String; -/
theorem c_X5_text (l : Launch) (D : va_G) (tk : Nat → ClassId) (N0 : Nat) (sa : Nat → Nat)  (sz : Nat) (pa : Nat) (ta : Int64) (ba : Int64) : Met l yX5_text (wsy yX5_text cX5_text 1 (some (.object "java/lang/String"))) ({ frames := 6, cells := 7, slots := 210, locals := 137 } : Room) (cP D tk N0 sa [.ref pa] sz (fun H => L2 D tk pa ta ba H)) (kQr (fun r H => ∃ n9, n9 ≤ 43 ∧ sz ≤ r ∧ SX D tk r n9 H) (nwA sz)) (7) (210) (nwA sz) := by
  refine mStart RX5 rfl (by decide +kernel) (Nat.le_of_ble_eq_true rfl) ?_
  intro p e s m args below meth c E hr hlk hnm hsz hC hF ls hl
  subst hsz
  obtain ⟨hx, hb, -⟩ := id E
  have hA : ∀ q, (nwA s.heap.size) q → N0 ≤ q := fun q h => Nat.le_trans hC.2.1 h
  have hn : ∀ q, s.heap.size ≤ q → (nwA s.heap.size) q := fun q h => h
  have hS : va_S (nwA s.heap.size) s.heap s.heap [] := va_S.rf
  have hl : lv_has ls 1 [(0, .ref pa)] := hl
  have fa : L2 D tk pa ta ba s.heap := hF
  refine lv_aload_n (pc := 0) hx hb dX5_text_0 rfl (lv_at hl 0 rfl) ?_
  refine lv_iconst (pc := 1) (v := 1) hx hb dX5_text_1 (by decide) ?_
  refine r_l1 (pc := 2) E hC fa dX5_text_2 ?_
  refine lv_lconst (pc := 3) (v := 1) hx hb dX5_text_3 (by decide) ?_
  refine r_lcne (pc := 4) (tgt := 32) E dX5_text_4 dX5_text_5 (by decide) (fun c_1 => ?_) (fun c_1 => ?_)
  · have hS0_ := hS
    refine r_new (pc := 32) E hC hS tyJ4_ok uJ4 (List.mem_cons_of_mem _ kw_1351) (List.mem_cons_of_mem _ kw_150) (List.mem_cons_of_mem _ kw_19) (ci := 1) rfl (fs := [.null, .int 0, .int 0, .int 0]) (by decide) (by dsimp only; omega) (by dsimp only; omega) dX5_text_32 (fun qf2 H zq_ n_ ho_ hS => ?_)
    have l_fa_f2 : pa < qf2 := zq_ ▸ fa.lt
    have fa := fa.kept (ho_ _ fa.lt)
    have f2 := n_
    have s_f2 : s.heap.size ≤ qf2 := zq_ ▸ hS0_.1
    have g_f2 := hn _ s_f2
    refine lv_dup (pc := 35) hx hb dX5_text_35 rfl ?_
    have hZ0_ := hS.1
    have t_fa := fa.lt
    have t_f2 := f2.lt
    refine k_v (pc := 36) (k_I E hC hS hA hl.1 (c_J4_init_da8c8 l D tk N0 sa H.size qf2 (hA _ g_f2)) kw_1352 kw_152 kw_19 kw_153 rfl (n := 0) (by decide +kernel) rfl ⟨⟨rfl, rfl⟩, ⟨Nat.le_of_ble_eq_true rfl, Nat.le_of_ble_eq_true rfl⟩, (by dsimp only; omega), (by dsimp only; omega)⟩ rfl (Nat.le_of_ble_eq_true rfl) f2 dX5_text_36) hS (inA1.to g_f2) hn (fun H locs hR hz hk hS => ?_)
    have fa := fa.kept (hk _ fa.lt (inA1.not (clA.ne fa.cla f2.cl (hC.ao 1 0 rfl rfl)) fa.lt))
    obtain ⟨q_f4, z9_, f2, f4⟩ := hR
    have s_f4 : s.heap.size ≤ q_f4 := Nat.le_trans hZ0_ z9_
    have g_f4 := hn _ s_f4
    have l_fa_f4 : pa < q_f4 := Nat.lt_of_lt_of_le t_fa z9_
    have l_f2_f4 : qf2 < q_f4 := Nat.lt_of_lt_of_le t_f2 z9_
    refine lv_aload_n (pc := 39) hx hb dX5_text_39 rfl (lv_at hl 0 rfl) ?_
    refine lv_iconst (pc := 40) (v := 0) hx hb dX5_text_40 (by decide) ?_
    refine r_l0 (pc := 41) E hC fa dX5_text_41 ?_
    have hZ0_ := hS.1
    have t_fa := fa.lt
    have t_f2 := f2.lt
    have t_f4 := f4.lt
    have hz_5 := tx_gb 16 (0 + dgJ ta)
    have hq_5 := tx_k1 16 (0 + dgJ ta)
    have hd_5 := dgJ_le ta
    refine k_r (pc := 42) (k_V E hC hS hA hl.1 (c1.recv hC f2 rfl) rfl (c_J4_append_f7089 l D tk N0 sa H.size qf2 q_f4 16 0 0 ta (hA _ g_f2) (hA _ g_f4) (by omega) (by omega)) kw_1354 kw_1355 kw_1356 kw_19 kw_1357 (n := 1) (by decide +kernel) rfl ⟨⟨rfl, rfl⟩, ⟨Nat.le_of_ble_eq_true rfl, Nat.le_of_ble_eq_true rfl⟩, (by dsimp only; omega), (by dsimp only; omega)⟩ rfl (Nat.le_of_ble_eq_true rfl) ⟨f2, f4⟩ dX5_text_42) hS (inA2.to g_f2 g_f4) hn (fun r_6 H locs hR hz hk hS => ?_)
    have fa := fa.kept (hk _ fa.lt (inA2.not (clA.ne fa.cla f2.cl (hC.ao 1 0 rfl rfl)) (clA.ne fa.cla f4.cl (hC.aa 0 1 rfl rfl (by dsimp only; decide))) fa.lt))
    obtain ⟨er9, hR⟩ := hR
    rw [er9]
    obtain ⟨v_7, hv_7, f2, f4⟩ := hR
    have g_f4 := hv_7.elim (fun e9 => e9 ▸ g_f4) (fun z9 => hn _ (Nat.le_trans hZ0_ z9))
    have l_fa_f4 : pa < v_7 := hv_7.elim (fun e9 => e9 ▸ l_fa_f4) (fun z9 => Nat.lt_of_lt_of_le t_fa z9)
    have l_f2_f4 : qf2 < v_7 := hv_7.elim (fun e9 => e9 ▸ l_f2_f4) (fun z9 => Nat.lt_of_lt_of_le t_f2 z9)
    have hv_7 := hv_7.imp_right (fun z9 => Nat.le_trans hZ0_ z9)
    refine va_ldcS (pc := 45) hx hb E.2.2.2.1 (hC.2.2.2.2.1 7 _ rfl).1 dX5_text_45 ?_
    have k8 : SX D tk (sa (10 + 7)) 1 H := hC.str hS hA 7 _ rfl (by decide)
    have hZ0_ := hS.1
    have t_fa := fa.lt
    have t_f2 := f2.lt
    have t_f4 := f4.lt
    have t_k8 := k8.lt
    have hz_9 := tx_gb (sbC 16 (0 + dgJ ta)) ((0 + dgJ ta) + 1)
    have hq_9 := tx_k1 (sbC 16 (0 + dgJ ta)) ((0 + dgJ ta) + 1)
    refine k_r (pc := 47) (k_V E hC hS hA hl.1 (c1.recv hC f2 rfl) rfl (c_J4_append_15ec4 l D tk N0 sa H.size qf2 v_7 (sbC 16 (0 + dgJ ta)) (0 + dgJ ta) (sa (10 + 7)) 1 0 (hA _ g_f2) (hA _ g_f4) (by omega) (by omega) (by omega)) kw_1353 kw_399 kw_400 kw_19 kw_401 (n := 1) (by decide +kernel) rfl ⟨⟨rfl, rfl⟩, ⟨Nat.le_of_ble_eq_true rfl, Nat.le_of_ble_eq_true rfl⟩, (by dsimp only; omega), (by dsimp only; omega)⟩ rfl (Nat.le_of_ble_eq_true rfl) ⟨f2, f4, k8⟩ dX5_text_47) hS (inA2.to g_f2 g_f4) hn (fun r_10 H locs hR hz hk hS => ?_)
    have fa := fa.kept (hk _ fa.lt (inA2.not (clA.ne fa.cla f2.cl (hC.ao 1 0 rfl rfl)) (clA.ne fa.cla f4.cl (hC.aa 0 1 rfl rfl (by dsimp only; decide))) fa.lt))
    obtain ⟨er9, hR⟩ := hR
    rw [er9]
    obtain ⟨v_11, hv_11, f2, f4⟩ := hR
    have g_f4 := hv_11.elim (fun e9 => e9 ▸ g_f4) (fun z9 => hn _ (Nat.le_trans hZ0_ z9))
    have l_fa_f4 : pa < v_11 := hv_11.elim (fun e9 => e9 ▸ l_fa_f4) (fun z9 => Nat.lt_of_lt_of_le t_fa z9)
    have l_f2_f4 : qf2 < v_11 := hv_11.elim (fun e9 => e9 ▸ l_f2_f4) (fun z9 => Nat.lt_of_lt_of_le t_f2 z9)
    have hv_11 := hv_11.imp_right (fun z9 => Nat.le_trans hZ0_ z9)
    have hv_11 := hv_11.elim (fun e9 => e9 ▸ hv_7) Or.inr
    refine lv_aload_n (pc := 50) hx hb dX5_text_50 rfl (lv_at hl 0 rfl) ?_
    refine lv_iconst (pc := 51) (v := 1) hx hb dX5_text_51 (by decide) ?_
    refine r_l1 (pc := 52) E hC fa dX5_text_52 ?_
    have hZ0_ := hS.1
    have t_fa := fa.lt
    have t_f2 := f2.lt
    have t_f4 := f4.lt
    have hz_12 := tx_gb (sbC (sbC 16 (0 + dgJ ta)) ((0 + dgJ ta) + 1)) (((0 + dgJ ta) + 1) + dgJ ba)
    have hq_12 := tx_k1 (sbC (sbC 16 (0 + dgJ ta)) ((0 + dgJ ta) + 1)) (((0 + dgJ ta) + 1) + dgJ ba)
    have hd_12 := dgJ_le ba
    refine k_r (pc := 53) (k_V E hC hS hA hl.1 (c1.recv hC f2 rfl) rfl (c_J4_append_f7089 l D tk N0 sa H.size qf2 v_11 (sbC (sbC 16 (0 + dgJ ta)) ((0 + dgJ ta) + 1)) ((0 + dgJ ta) + 1) 0 ba (hA _ g_f2) (hA _ g_f4) (by omega) (by omega)) kw_1354 kw_1355 kw_1356 kw_19 kw_1357 (n := 1) (by decide +kernel) rfl ⟨⟨rfl, rfl⟩, ⟨Nat.le_of_ble_eq_true rfl, Nat.le_of_ble_eq_true rfl⟩, (by dsimp only; omega), (by dsimp only; omega)⟩ rfl (Nat.le_of_ble_eq_true rfl) ⟨f2, f4⟩ dX5_text_53) hS (inA2.to g_f2 g_f4) hn (fun r_13 H locs hR hz hk hS => ?_)
    have fa := fa.kept (hk _ fa.lt (inA2.not (clA.ne fa.cla f2.cl (hC.ao 1 0 rfl rfl)) (clA.ne fa.cla f4.cl (hC.aa 0 1 rfl rfl (by dsimp only; decide))) fa.lt))
    obtain ⟨er9, hR⟩ := hR
    rw [er9]
    obtain ⟨v_14, hv_14, f2, f4⟩ := hR
    have g_f4 := hv_14.elim (fun e9 => e9 ▸ g_f4) (fun z9 => hn _ (Nat.le_trans hZ0_ z9))
    have l_fa_f4 : pa < v_14 := hv_14.elim (fun e9 => e9 ▸ l_fa_f4) (fun z9 => Nat.lt_of_lt_of_le t_fa z9)
    have l_f2_f4 : qf2 < v_14 := hv_14.elim (fun e9 => e9 ▸ l_f2_f4) (fun z9 => Nat.lt_of_lt_of_le t_f2 z9)
    have hv_14 := hv_14.imp_right (fun z9 => Nat.le_trans hZ0_ z9)
    have hv_14 := hv_14.elim (fun e9 => e9 ▸ hv_11) Or.inr
    have hZ0_ := hS.1
    have t_fa := fa.lt
    have t_f2 := f2.lt
    have t_f4 := f4.lt
    refine k_r (pc := 56) (k_V E hC hS hA hl.1 (c1.recv hC f2 rfl) rfl (c_J4_toString_0e30d l D tk N0 sa H.size qf2 v_14 (sbC (sbC (sbC 16 (0 + dgJ ta)) ((0 + dgJ ta) + 1)) (((0 + dgJ ta) + 1) + dgJ ba)) (((0 + dgJ ta) + 1) + dgJ ba) 0 (by omega) (by omega)) kw_1381 kw_316 kw_317 kw_19 kw_318 (n := 0) (by decide +kernel) rfl ⟨⟨rfl, rfl⟩, ⟨Nat.le_of_ble_eq_true rfl, Nat.le_of_ble_eq_true rfl⟩, (by dsimp only; omega), (by dsimp only; omega)⟩ rfl (Nat.le_of_ble_eq_true rfl) ⟨f2, f4⟩ dX5_text_56) hS (fun q z w => absurd w (Nat.not_le.mpr z)) hn (fun r_15 H locs hR hz hk hS => ?_)
    have fa := fa.kept (hk _ fa.lt (Nat.not_le.mpr fa.lt))
    have f2 := f2.kept (hk _ f2.lt (Nat.not_le.mpr f2.lt))
    have f4 := f4.kept (hk _ f4.lt (Nat.not_le.mpr f4.lt))
    obtain ⟨q_f16, z9_, y9_, f16⟩ := hR
    have f16 := SM.sx f16
    have zr_f16 : s.heap.size ≤ r_15 := Nat.le_trans hZ0_ z9_
    refine r_aret (pc := 59) E hr (Or.inl ⟨_, rfl⟩) hlk hS (by omega) (by omega) ?_ dX5_text_59
    exact ⟨_, (by omega), zr_f16, f16⟩
  · have hS0_ := hS
    refine r_new (pc := 8) E hC hS tyJ4_ok uJ4 (List.mem_cons_of_mem _ kw_1351) (List.mem_cons_of_mem _ kw_150) (List.mem_cons_of_mem _ kw_19) (ci := 1) rfl (fs := [.null, .int 0, .int 0, .int 0]) (by decide) (by dsimp only; omega) (by dsimp only; omega) dX5_text_8 (fun qf17 H zq_ n_ ho_ hS => ?_)
    have l_fa_f17 : pa < qf17 := zq_ ▸ fa.lt
    have fa := fa.kept (ho_ _ fa.lt)
    have f17 := n_
    have s_f17 : s.heap.size ≤ qf17 := zq_ ▸ hS0_.1
    have g_f17 := hn _ s_f17
    refine lv_dup (pc := 11) hx hb dX5_text_11 rfl ?_
    have hZ0_ := hS.1
    have t_fa := fa.lt
    have t_f17 := f17.lt
    refine k_v (pc := 12) (k_I E hC hS hA hl.1 (c_J4_init_da8c8 l D tk N0 sa H.size qf17 (hA _ g_f17)) kw_1352 kw_152 kw_19 kw_153 rfl (n := 0) (by decide +kernel) rfl ⟨⟨rfl, rfl⟩, ⟨Nat.le_of_ble_eq_true rfl, Nat.le_of_ble_eq_true rfl⟩, (by dsimp only; omega), (by dsimp only; omega)⟩ rfl (Nat.le_of_ble_eq_true rfl) f17 dX5_text_12) hS (inA1.to g_f17) hn (fun H locs hR hz hk hS => ?_)
    have fa := fa.kept (hk _ fa.lt (inA1.not (clA.ne fa.cla f17.cl (hC.ao 1 0 rfl rfl)) fa.lt))
    obtain ⟨q_f19, z9_, f17, f19⟩ := hR
    have s_f19 : s.heap.size ≤ q_f19 := Nat.le_trans hZ0_ z9_
    have g_f19 := hn _ s_f19
    have l_fa_f19 : pa < q_f19 := Nat.lt_of_lt_of_le t_fa z9_
    have l_f17_f19 : qf17 < q_f19 := Nat.lt_of_lt_of_le t_f17 z9_
    refine va_ldcS (pc := 15) hx hb E.2.2.2.1 (hC.2.2.2.2.1 6 _ rfl).1 dX5_text_15 ?_
    have k20 : SX D tk (sa (10 + 6)) 0 H := hC.str hS hA 6 _ rfl (by decide)
    have hZ0_ := hS.1
    have t_fa := fa.lt
    have t_f17 := f17.lt
    have t_f19 := f19.lt
    have t_k20 := k20.lt
    have hz_21 := tx_gb 16 (0 + 0)
    have hq_21 := tx_k1 16 (0 + 0)
    refine k_r (pc := 17) (k_V E hC hS hA hl.1 (c1.recv hC f17 rfl) rfl (c_J4_append_15ec4 l D tk N0 sa H.size qf17 q_f19 16 0 (sa (10 + 6)) 0 0 (hA _ g_f17) (hA _ g_f19) (by omega) (by omega) (by omega)) kw_1353 kw_399 kw_400 kw_19 kw_401 (n := 1) (by decide +kernel) rfl ⟨⟨rfl, rfl⟩, ⟨Nat.le_of_ble_eq_true rfl, Nat.le_of_ble_eq_true rfl⟩, (by dsimp only; omega), (by dsimp only; omega)⟩ rfl (Nat.le_of_ble_eq_true rfl) ⟨f17, f19, k20⟩ dX5_text_17) hS (inA2.to g_f17 g_f19) hn (fun r_22 H locs hR hz hk hS => ?_)
    have fa := fa.kept (hk _ fa.lt (inA2.not (clA.ne fa.cla f17.cl (hC.ao 1 0 rfl rfl)) (clA.ne fa.cla f19.cl (hC.aa 0 1 rfl rfl (by dsimp only; decide))) fa.lt))
    obtain ⟨er9, hR⟩ := hR
    rw [er9]
    obtain ⟨v_23, hv_23, f17, f19⟩ := hR
    have g_f19 := hv_23.elim (fun e9 => e9 ▸ g_f19) (fun z9 => hn _ (Nat.le_trans hZ0_ z9))
    have l_fa_f19 : pa < v_23 := hv_23.elim (fun e9 => e9 ▸ l_fa_f19) (fun z9 => Nat.lt_of_lt_of_le t_fa z9)
    have l_f17_f19 : qf17 < v_23 := hv_23.elim (fun e9 => e9 ▸ l_f17_f19) (fun z9 => Nat.lt_of_lt_of_le t_f17 z9)
    have hv_23 := hv_23.imp_right (fun z9 => Nat.le_trans hZ0_ z9)
    refine lv_aload_n (pc := 20) hx hb dX5_text_20 rfl (lv_at hl 0 rfl) ?_
    refine lv_iconst (pc := 21) (v := 0) hx hb dX5_text_21 (by decide) ?_
    refine r_l0 (pc := 22) E hC fa dX5_text_22 ?_
    have hZ0_ := hS.1
    have t_fa := fa.lt
    have t_f17 := f17.lt
    have t_f19 := f19.lt
    have hz_24 := tx_gb (sbC 16 (0 + 0)) ((0 + 0) + dgJ ta)
    have hq_24 := tx_k1 (sbC 16 (0 + 0)) ((0 + 0) + dgJ ta)
    have hd_24 := dgJ_le ta
    refine k_r (pc := 23) (k_V E hC hS hA hl.1 (c1.recv hC f17 rfl) rfl (c_J4_append_f7089 l D tk N0 sa H.size qf17 v_23 (sbC 16 (0 + 0)) (0 + 0) 0 ta (hA _ g_f17) (hA _ g_f19) (by omega) (by omega)) kw_1354 kw_1355 kw_1356 kw_19 kw_1357 (n := 1) (by decide +kernel) rfl ⟨⟨rfl, rfl⟩, ⟨Nat.le_of_ble_eq_true rfl, Nat.le_of_ble_eq_true rfl⟩, (by dsimp only; omega), (by dsimp only; omega)⟩ rfl (Nat.le_of_ble_eq_true rfl) ⟨f17, f19⟩ dX5_text_23) hS (inA2.to g_f17 g_f19) hn (fun r_25 H locs hR hz hk hS => ?_)
    have fa := fa.kept (hk _ fa.lt (inA2.not (clA.ne fa.cla f17.cl (hC.ao 1 0 rfl rfl)) (clA.ne fa.cla f19.cl (hC.aa 0 1 rfl rfl (by dsimp only; decide))) fa.lt))
    obtain ⟨er9, hR⟩ := hR
    rw [er9]
    obtain ⟨v_26, hv_26, f17, f19⟩ := hR
    have g_f19 := hv_26.elim (fun e9 => e9 ▸ g_f19) (fun z9 => hn _ (Nat.le_trans hZ0_ z9))
    have l_fa_f19 : pa < v_26 := hv_26.elim (fun e9 => e9 ▸ l_fa_f19) (fun z9 => Nat.lt_of_lt_of_le t_fa z9)
    have l_f17_f19 : qf17 < v_26 := hv_26.elim (fun e9 => e9 ▸ l_f17_f19) (fun z9 => Nat.lt_of_lt_of_le t_f17 z9)
    have hv_26 := hv_26.imp_right (fun z9 => Nat.le_trans hZ0_ z9)
    have hv_26 := hv_26.elim (fun e9 => e9 ▸ hv_23) Or.inr
    have hZ0_ := hS.1
    have t_fa := fa.lt
    have t_f17 := f17.lt
    have t_f19 := f19.lt
    refine k_r (pc := 26) (k_V E hC hS hA hl.1 (c1.recv hC f17 rfl) rfl (c_J4_toString_0e30d l D tk N0 sa H.size qf17 v_26 (sbC (sbC 16 (0 + 0)) ((0 + 0) + dgJ ta)) ((0 + 0) + dgJ ta) 0 (by omega) (by omega)) kw_1381 kw_316 kw_317 kw_19 kw_318 (n := 0) (by decide +kernel) rfl ⟨⟨rfl, rfl⟩, ⟨Nat.le_of_ble_eq_true rfl, Nat.le_of_ble_eq_true rfl⟩, (by dsimp only; omega), (by dsimp only; omega)⟩ rfl (Nat.le_of_ble_eq_true rfl) ⟨f17, f19⟩ dX5_text_26) hS (fun q z w => absurd w (Nat.not_le.mpr z)) hn (fun r_27 H locs hR hz hk hS => ?_)
    have fa := fa.kept (hk _ fa.lt (Nat.not_le.mpr fa.lt))
    have f17 := f17.kept (hk _ f17.lt (Nat.not_le.mpr f17.lt))
    have f19 := f19.kept (hk _ f19.lt (Nat.not_le.mpr f19.lt))
    obtain ⟨q_f28, z9_, y9_, f28⟩ := hR
    have f28 := SM.sx f28
    have zr_f28 : s.heap.size ≤ r_27 := Nat.le_trans hZ0_ z9_
    refine lv_goto (pc := 29) (tgt := 59) hx hb dX5_text_29 (by decide) ?_
    refine r_aret (pc := 59) E hr (Or.inl ⟨_, rfl⟩) hlk hS (by omega) (by omega) ?_ dX5_text_59
    exact ⟨_, (by omega), zr_f28, f28⟩
