set_option maxHeartbeats 4000000 in
set_option maxRecDepth 100000 in
/-- Bestratios.rowText(LBestratios$Terms;)Ljava/lang/String; -/
theorem c_X3_rowText (l : Launch) (D : va_G) (tk : Nat → ClassId) (N0 : Nat) (sa : Nat → Nat) {ad : Nat → Nat} (hAD : ADok N0 ad) (sz : Nat) (g : CS) (j : Nat) (hj : j < 2) (htc : (tC g j).toNatClampNeg ≤ 64) : Met l yX3_rowText (wsy yX3_rowText cX3_rowText 3 (some (.object "java/lang/String"))) ({ frames := 6, cells := 4 + ((tx_rt g j).2 - 16), slots := 20 + 2 * ((tx_rt g j).2 - 16) + (4 + (tx_rt g j).1), locals := 137 } : Room) (cP D tk N0 sa [.ref (ad (17 + 2 * j))] sz (fun H => CW D tk ad g H)) (kQr (fun r H => sz ≤ r ∧ SX D tk r ((tx_rt g j).1) H) (nwA sz)) (4 + ((tx_rt g j).2 - 16)) (20 + 2 * ((tx_rt g j).2 - 16) + (4 + (tx_rt g j).1)) (nwA sz) := by
  refine mStart RX3 rfl (by decide +kernel) (Nat.le_of_ble_eq_true rfl) ?_
  intro p e s m args below meth c E hr hlk hnm hsz hC hF ls hl
  subst hsz
  obtain ⟨hx, hb, -⟩ := id E
  have hA : ∀ q, (nwA s.heap.size) q → N0 ≤ q := fun q h => Nat.le_trans hC.2.1 h
  have hn : ∀ q, s.heap.size ≤ q → (nwA s.heap.size) q := fun q h => h
  have hS : va_S (nwA s.heap.size) s.heap s.heap [] := va_S.rf
  have hl : lv_has ls 3 [(0, .ref (ad (17 + 2 * j)))] := hl
  obtain ⟨Q, hQ⟩ : ∃ Q, Q = MQ below (kQr (fun r H => s.heap.size ≤ r ∧ SX D tk r ((tx_rt g j).1) H) (nwA s.heap.size)) args s (4 + ((tx_rt g j).2 - 16)) (20 + 2 * ((tx_rt g j).2 - 16) + (4 + (tx_rt g j).1)) (nwA s.heap.size) := ⟨_, rfl⟩
  rw [← hQ]
  have hW : CW D tk ad g s.heap := hF
  have hS0_ := hS
  refine r_new (pc := 0) E hC hS tyJ4_ok uJ4 (List.mem_cons_of_mem _ kw_149) (List.mem_cons_of_mem _ kw_150) (List.mem_cons_of_mem _ kw_19) (ci := 1) rfl (fs := [.null, .int 0, .int 0, .int 0]) (by decide) (by dsimp only; omega) (by dsimp only; omega) dX3_rowText_0 (fun qf1 H zq_ n_ ho_ hS => ?_)
  have nW_f1 : ∀ k, k < 22 → ad k ≠ qf1 := fun k hk9 => Nat.ne_of_lt (zq_ ▸ (hW k hk9).lt)
  have hW := hW.kept (fun k hk9 => ho_ _ (hW k hk9).lt)
  have f1 := n_
  have s_f1 : s.heap.size ≤ qf1 := zq_ ▸ hS0_.1
  have g_f1 := hn _ s_f1
  refine lv_dup (pc := 3) hx hb dX3_rowText_3 rfl ?_
  have hZ0_ := hS.1
  have t_hW := fun k (hk9 : k < 22) => (hW k hk9).lt
  have t_f1 := f1.lt
  refine k_v (pc := 4) (k_I E hC hS hA hl.1 (c_J4_init_da8c8 l D tk N0 sa H.size qf1 (hA _ g_f1)) kw_151 kw_152 kw_19 kw_153 rfl (n := 0) (by decide +kernel) rfl ⟨⟨rfl, rfl⟩, ⟨Nat.le_of_ble_eq_true rfl, Nat.le_of_ble_eq_true rfl⟩, (by dsimp only; omega), (by dsimp only; omega)⟩ rfl (Nat.le_of_ble_eq_true rfl) f1 dX3_rowText_4) hS (inA1.to g_f1) hn (fun H locs hR hz hk hS => ?_)
  have hW := hW.kept (fun k hk9 => hk _ (hW k hk9).lt (inA1.not (nW_f1 k hk9) (hW k hk9).lt))
  obtain ⟨q_hB, z9_, f1, hB⟩ := hR
  have s_hB : s.heap.size ≤ q_hB := Nat.le_trans hZ0_ z9_
  have g_hB := hn _ s_hB
  have nW_hB : ∀ k, k < 22 → ad k ≠ q_hB := fun k hk9 => Nat.ne_of_lt (Nat.lt_of_lt_of_le (t_hW k hk9) z9_)
  have l_f1_hB : qf1 < q_hB := Nat.lt_of_lt_of_le t_f1 z9_
  have nW_f1 := cwO hC hW f1.cl
  refine lv_astore_n (pc := 7) (lv' := [(1, .ref qf1), (0, .ref (ad (17 + 2 * j)))]) hx hb dX3_rowText_7 rfl hl (by decide) rfl (fun ls hl => ?_)
  refine lv_iconst (pc := 8) (v := 0) hx hb dX3_rowText_8 (by decide) ?_
  refine lv_istore_n (pc := 9) (lv' := [(2, .int 0), (1, .ref qf1), (0, .ref (ad (17 + 2 * j)))]) hx hb dX3_rowText_9 rfl hl (by decide) rfl (fun ls hl => ?_)
  have loop_10 : ∀ (n : Nat) (k : Nat) (v9 : Nat) (n9 : Nat) (c9 : Nat)(y9 : Int32), (tC g j).toNatClampNeg - k < n → k ≤ (tC g j).toNatClampNeg → y9 = nI k → s.heap.size ≤ v9 → n9 ≤ c9 ∧ 16 ≤ c9 ∧ n9 ≤ 22 * k ∧ c9 ≤ max 16 (2 * n9) → tx_rtL g j ((tC g j).toNatClampNeg - k) k (n9, c9) = tx_rt g j → ∀ (H : Heap) (locs : List Loc) (ls : Array Slot), va_S (nwA s.heap.size) s.heap H locs → CW D tk ad g H → SBo D qf1 v9 0 (nI n9) H → BA D tk v9 c9 H → lv_has ls 3 [(0, .ref (ad (17 + 2 * j))), (1, .ref qf1), (2, .int y9)] → W p l e ({ frames := 6, cells := 4 + ((tx_rt g j).2 - 16), slots := 20 + 2 * ((tx_rt g j).2 - 16) + (4 + (tx_rt g j).1), locals := 137 } : Room) s m args below meth c H locs (2 + (c9 - 16)) (20 + 2 * (c9 - 16)) Q (F0 m 10 ls []) := by
    intro n
    induction n with
    | zero =>
      intro k v9 n9 c9 y9 hf9 hk9 hx9 hv9 hb9 hg9 H locs ls hS hW f1 hB hl
      omega
    | succ n ih_10 =>
      intro k v9 n9 c9 y9 hf9 hk9 hx9 hv9 hb9 hg9 H locs ls hS hW f1 hB hl
      have g_hB := hn _ hv9
      have nW_hB := cwB hC hW hB.cl
      refine lv_iload_n (pc := 10) hx hb dX3_rowText_10 rfl (lv_at hl 2 rfl) ?_
      refine lv_aload_n (pc := 11) hx hb dX3_rowText_11 rfl (lv_at hl 0 rfl) ?_
      refine r_getN (pc := 12) "Bestratios" E hC (hW.tm (j := j) hj) 1 (v := .int (tC g j)) rfl rfl (by decide) uX2 kn_69 (fun _ h => h) dX3_rowText_12 ?_
      refine lv_icmp_ge (pc := 15) (tgt := 46) hx hb dX3_rowText_15 (by decide) (fun c_3 => ?_) (fun c_3 => ?_)
      · have e0 := (i_mle hx9 hk9).mp c_3
        have hR9 : tx_rt g j = (n9, c9) := by rw [← hg9, e0]; rfl
        have hR2 : (tx_rt g j).2 = c9 := by rw [hR9]
        have hR1 : (tx_rt g j).1 = n9 := by rw [hR9]
        refine lv_aload_n (pc := 46) hx hb dX3_rowText_46 rfl (lv_at hl 1 rfl) ?_
        have hZ0_ := hS.1
        have t_hW := fun k (hk9 : k < 22) => (hW k hk9).lt
        have t_f1 := f1.lt
        have t_hB := hB.lt
        refine k_r (pc := 47) (k_V E hC hS hA hl.1 (c1.recv hC f1 rfl) rfl (c_J4_toString_0e30d l D tk N0 sa H.size qf1 v9 c9 n9 0 (by omega) (by omega)) kw_315 kw_316 kw_317 kw_19 kw_318 (n := 0) (by decide +kernel) rfl ⟨⟨rfl, rfl⟩, ⟨Nat.le_of_ble_eq_true rfl, Nat.le_of_ble_eq_true rfl⟩, (by dsimp only; omega), (by dsimp only; omega)⟩ rfl (Nat.le_of_ble_eq_true rfl) ⟨f1, hB⟩ dX3_rowText_47) hS (fun q z w => absurd w (Nat.not_le.mpr z)) hn (fun r_4 H locs hR hz hk hS => ?_)
        have hW := hW.new hk
        have f1 := f1.kept (hk _ f1.lt (Nat.not_le.mpr f1.lt))
        have hB := hB.kept (hk _ hB.lt (Nat.not_le.mpr hB.lt))
        obtain ⟨q_f5, z9_, y9_, f5⟩ := hR
        have f5 := SM.sx f5
        have zr_f5 : s.heap.size ≤ r_4 := Nat.le_trans hZ0_ z9_
        try rw [hQ]
        refine r_aret (pc := 50) E hr (Or.inl ⟨_, rfl⟩) hlk hS (by omega) (by omega) ?_ dX3_rowText_50
        rw [hR1]
        exact ⟨zr_f5, f5⟩
      · have hlt := (i_mlt hx9 hk9).mp c_3
        have e200 : (tC g j).toNatClampNeg - k = ((tC g j).toNatClampNeg - (k + 1)) + 1 := by omega
        rw [e200] at hg9
        have hg8 : tx_rtL g j ((tC g j).toNatClampNeg - (k + 1)) (k + 1) (tx_rtS g j k (n9, c9)) = tx_rt g j := hg9
        have hd9 := dgI_le (f_at g j (nI k)).toInt32
        refine lv_iload_n (pc := 18) hx hb dX3_rowText_18 rfl (lv_at hl 2 rfl) ?_
        refine lv_if_le (pc := 19) (tgt := 29) hx hb dX3_rowText_19 (by decide) (fun c_6 => ?_) (fun c_6 => ?_)
        · have hk0 : k = 0 := by have := (i_le (n := k) nI_0.symm hx9 (by decide) (by omega)).mp c_6; omega
          have hT9 : tx_rtS g j k (n9, c9) = (n9 + dgI (f_at g j (nI k)).toInt32, sbC c9 (n9 + dgI (f_at g j (nI k)).toInt32)) := by rw [tx_rtS, if_pos hk0]; rfl
          have hz2 := tx_gb c9 (n9 + dgI (f_at g j (nI k)).toInt32)
          have hm9 := tx_rtL_m g j ((tC g j).toNatClampNeg - (k + 1)) (k + 1) (tx_rtS g j k (n9, c9))
          rw [hg8, hT9] at hm9
          dsimp only at hm9
          refine lv_aload_n (pc := 29) hx hb dX3_rowText_29 rfl (lv_at hl 1 rfl) ?_
          refine lv_aload_n (pc := 30) hx hb dX3_rowText_30 rfl (lv_at hl 0 rfl) ?_
          refine lv_iload_n (pc := 31) hx hb dX3_rowText_31 rfl (lv_at hl 2 rfl) ?_
          refine k_l (pc := 32) (k_V E hC hS hA hl.1 (c1.recv hC (hW.tm (j := j) hj) rfl) rfl (c_X2_at l D tk N0 sa hAD H.size g j hj y9 ) kw_277 kw_278 kw_279 kw_3 kw_280 (n := 1) (by decide +kernel) rfl ⟨⟨rfl, rfl⟩, ⟨Nat.le_of_ble_eq_true rfl, Nat.le_of_ble_eq_true rfl⟩, (by dsimp only; omega), (by dsimp only; omega)⟩ rfl (Nat.le_of_ble_eq_true rfl) hW dX3_rowText_32) hS (fun q z w => absurd w (Nat.not_le.mpr z)) hn (fun r_7 H locs hR hz hk hS => ?_)
          have er_7 := hR
          have hW := hW.new hk
          have f1 := f1.kept (hk _ f1.lt (Nat.not_le.mpr f1.lt))
          have hB := hB.kept (hk _ hB.lt (Nat.not_le.mpr hB.lt))
          have hr9 : f_at g j (nI k) = r_7 := by rw [er_7, hx9]
          rw [hr9] at hT9 hz2 hm9 hd9
          refine lv_l2i (pc := 35) (v := r_7.toInt32) hx hb dX3_rowText_35 rfl ?_
          have hZ0_ := hS.1
          have t_hW := fun k (hk9 : k < 22) => (hW k hk9).lt
          have t_f1 := f1.lt
          have t_hB := hB.lt
          refine k_r (pc := 36) (k_V E hC hS hA hl.1 (c1.recv hC f1 rfl) rfl (c_J4_append_bf812 l D tk N0 sa H.size qf1 v9 c9 n9 0 r_7.toInt32 (hA _ g_f1) (hA _ g_hB) (by omega) (by omega)) kw_281 kw_282 kw_283 kw_19 kw_284 (n := 1) (by decide +kernel) rfl ⟨⟨rfl, rfl⟩, ⟨Nat.le_of_ble_eq_true rfl, Nat.le_of_ble_eq_true rfl⟩, (by dsimp only; omega), (by dsimp only; omega)⟩ rfl (Nat.le_of_ble_eq_true rfl) ⟨f1, hB⟩ dX3_rowText_36) hS (inA2.to g_f1 g_hB) hn (fun r_9 H locs hR hz hk hS => ?_)
          have hW := hW.kept (fun k hk9 => hk _ (hW k hk9).lt (inA2.not (nW_f1 k hk9) (nW_hB k hk9) (hW k hk9).lt))
          obtain ⟨er9, hR⟩ := hR
          rw [er9]
          obtain ⟨v_10, hv_10, f1, hB⟩ := hR
          have g_hB := hv_10.elim (fun e9 => e9 ▸ g_hB) (fun z9 => hn _ (Nat.le_trans hZ0_ z9))
          have nW_hB : ∀ k, k < 22 → ad k ≠ v_10 := fun k hk9 => hv_10.elim (fun e9 => e9 ▸ nW_hB k hk9) (fun z9 => Nat.ne_of_lt (Nat.lt_of_lt_of_le (t_hW k hk9) z9))
          have hv_10 := hv_10.imp_right (fun z9 => Nat.le_trans hZ0_ z9)
          refine lv_pop (pc := 39) hx hb dX3_rowText_39 rfl ?_
          obtain ⟨x_11, ex_11⟩ : ∃ z9 : Int32, z9 = y9 + 1 := ⟨_, rfl⟩
          refine lv_iinc (pc := 40) (v := x_11) (lv' := [(2, .int x_11), (0, .ref (ad (17 + 2 * j))), (1, .ref qf1)]) hx hb dX3_rowText_40 hl (k := 2) rfl (by rw [ex_11]; rfl) (by decide) rfl (fun ls hl => ?_)
          refine lv_goto (pc := 43) (tgt := 10) hx hb dX3_rowText_43 (by decide) ?_
          refine W.widen (k := 2 + ((sbC c9 (n9 + dgI r_7.toInt32)) - 16)) (n := 20 + 2 * ((sbC c9 (n9 + dgI r_7.toInt32)) - 16)) (by omega) (by omega) ?_
          exact ih_10  (k + 1) v_10 ((n9 + dgI r_7.toInt32)) (sbC c9 (n9 + dgI r_7.toInt32))  x_11 (by omega) (by omega) (i_up hx9 ex_11) (hv_10.elim (fun e9 => e9 ▸ hv9) id) (by omega) (by rw [← hg8, hT9]) _ _ _ hS hW f1 hB (lv_sub hl [1, 2, 0] rfl)
        · have hk0 : ¬ k = 0 := fun z => c_6 (by rw [hx9, z]; decide)
          have hT9 : tx_rtS g j k (n9, c9) = (n9 + 1 + dgI (f_at g j (nI k)).toInt32, sbC (sbC c9 (n9 + 1)) (n9 + 1 + dgI (f_at g j (nI k)).toInt32)) := by rw [tx_rtS, if_neg hk0]; rfl
          have hz1 := tx_gb c9 (n9 + 1)
          have hz2 := tx_gb (sbC c9 (n9 + 1)) (n9 + 1 + dgI (f_at g j (nI k)).toInt32)
          have hm9 := tx_rtL_m g j ((tC g j).toNatClampNeg - (k + 1)) (k + 1) (tx_rtS g j k (n9, c9))
          rw [hg8, hT9] at hm9
          dsimp only at hm9
          refine lv_aload_n (pc := 22) hx hb dX3_rowText_22 rfl (lv_at hl 1 rfl) ?_
          refine lv_bipush (pc := 23) (v := 32) hx hb dX3_rowText_23 (by decide) ?_
          have hZ0_ := hS.1
          have t_hW := fun k (hk9 : k < 22) => (hW k hk9).lt
          have t_f1 := f1.lt
          have t_hB := hB.lt
          refine k_r (pc := 25) (k_V E hC hS hA hl.1 (c1.recv hC f1 rfl) rfl (c_J4_append_cf468 l D tk N0 sa H.size qf1 v9 c9 n9 0 32 32 (hA _ g_f1) (hA _ g_hB) (by omega) (by omega) rfl (by decide)) kw_182 kw_183 kw_184 kw_19 kw_185 (n := 1) (by decide +kernel) rfl ⟨⟨rfl, rfl⟩, ⟨Nat.le_of_ble_eq_true rfl, Nat.le_of_ble_eq_true rfl⟩, (by dsimp only; omega), (by dsimp only; omega)⟩ rfl (Nat.le_of_ble_eq_true rfl) ⟨f1, hB⟩ dX3_rowText_25) hS (inA2.to g_f1 g_hB) hn (fun r_12 H locs hR hz hk hS => ?_)
          have hW := hW.kept (fun k hk9 => hk _ (hW k hk9).lt (inA2.not (nW_f1 k hk9) (nW_hB k hk9) (hW k hk9).lt))
          obtain ⟨er9, hR⟩ := hR
          rw [er9]
          obtain ⟨v_13, hv_13, f1, hB⟩ := hR
          have g_hB := hv_13.elim (fun e9 => e9 ▸ g_hB) (fun z9 => hn _ (Nat.le_trans hZ0_ z9))
          have nW_hB : ∀ k, k < 22 → ad k ≠ v_13 := fun k hk9 => hv_13.elim (fun e9 => e9 ▸ nW_hB k hk9) (fun z9 => Nat.ne_of_lt (Nat.lt_of_lt_of_le (t_hW k hk9) z9))
          have hv_13 := hv_13.imp_right (fun z9 => Nat.le_trans hZ0_ z9)
          refine lv_pop (pc := 28) hx hb dX3_rowText_28 rfl ?_
          refine lv_aload_n (pc := 29) hx hb dX3_rowText_29 rfl (lv_at hl 1 rfl) ?_
          refine lv_aload_n (pc := 30) hx hb dX3_rowText_30 rfl (lv_at hl 0 rfl) ?_
          refine lv_iload_n (pc := 31) hx hb dX3_rowText_31 rfl (lv_at hl 2 rfl) ?_
          refine k_l (pc := 32) (k_V E hC hS hA hl.1 (c1.recv hC (hW.tm (j := j) hj) rfl) rfl (c_X2_at l D tk N0 sa hAD H.size g j hj y9 ) kw_277 kw_278 kw_279 kw_3 kw_280 (n := 1) (by decide +kernel) rfl ⟨⟨rfl, rfl⟩, ⟨Nat.le_of_ble_eq_true rfl, Nat.le_of_ble_eq_true rfl⟩, (by dsimp only; omega), (by dsimp only; omega)⟩ rfl (Nat.le_of_ble_eq_true rfl) hW dX3_rowText_32) hS (fun q z w => absurd w (Nat.not_le.mpr z)) hn (fun r_14 H locs hR hz hk hS => ?_)
          have er_14 := hR
          have hW := hW.new hk
          have f1 := f1.kept (hk _ f1.lt (Nat.not_le.mpr f1.lt))
          have hB := hB.kept (hk _ hB.lt (Nat.not_le.mpr hB.lt))
          have hr9 : f_at g j (nI k) = r_14 := by rw [er_14, hx9]
          rw [hr9] at hT9 hz2 hm9 hd9
          refine lv_l2i (pc := 35) (v := r_14.toInt32) hx hb dX3_rowText_35 rfl ?_
          have hZ0_ := hS.1
          have t_hW := fun k (hk9 : k < 22) => (hW k hk9).lt
          have t_f1 := f1.lt
          have t_hB := hB.lt
          refine k_r (pc := 36) (k_V E hC hS hA hl.1 (c1.recv hC f1 rfl) rfl (c_J4_append_bf812 l D tk N0 sa H.size qf1 v_13 (sbC c9 (n9 + 1)) (n9 + 1) 0 r_14.toInt32 (hA _ g_f1) (hA _ g_hB) (by omega) (by omega)) kw_281 kw_282 kw_283 kw_19 kw_284 (n := 1) (by decide +kernel) rfl ⟨⟨rfl, rfl⟩, ⟨Nat.le_of_ble_eq_true rfl, Nat.le_of_ble_eq_true rfl⟩, (by dsimp only; omega), (by dsimp only; omega)⟩ rfl (Nat.le_of_ble_eq_true rfl) ⟨f1, hB⟩ dX3_rowText_36) hS (inA2.to g_f1 g_hB) hn (fun r_16 H locs hR hz hk hS => ?_)
          have hW := hW.kept (fun k hk9 => hk _ (hW k hk9).lt (inA2.not (nW_f1 k hk9) (nW_hB k hk9) (hW k hk9).lt))
          obtain ⟨er9, hR⟩ := hR
          rw [er9]
          obtain ⟨v_17, hv_17, f1, hB⟩ := hR
          have g_hB := hv_17.elim (fun e9 => e9 ▸ g_hB) (fun z9 => hn _ (Nat.le_trans hZ0_ z9))
          have nW_hB : ∀ k, k < 22 → ad k ≠ v_17 := fun k hk9 => hv_17.elim (fun e9 => e9 ▸ nW_hB k hk9) (fun z9 => Nat.ne_of_lt (Nat.lt_of_lt_of_le (t_hW k hk9) z9))
          have hv_17 := hv_17.imp_right (fun z9 => Nat.le_trans hZ0_ z9)
          have hv_17 := hv_17.elim (fun e9 => e9 ▸ hv_13) Or.inr
          refine lv_pop (pc := 39) hx hb dX3_rowText_39 rfl ?_
          obtain ⟨x_18, ex_18⟩ : ∃ z9 : Int32, z9 = y9 + 1 := ⟨_, rfl⟩
          refine lv_iinc (pc := 40) (v := x_18) (lv' := [(2, .int x_18), (0, .ref (ad (17 + 2 * j))), (1, .ref qf1)]) hx hb dX3_rowText_40 hl (k := 2) rfl (by rw [ex_18]; rfl) (by decide) rfl (fun ls hl => ?_)
          refine lv_goto (pc := 43) (tgt := 10) hx hb dX3_rowText_43 (by decide) ?_
          refine W.widen (k := 2 + ((sbC (sbC c9 (n9 + 1)) ((n9 + 1) + dgI r_14.toInt32)) - 16)) (n := 20 + 2 * ((sbC (sbC c9 (n9 + 1)) ((n9 + 1) + dgI r_14.toInt32)) - 16)) (by omega) (by omega) ?_
          exact ih_10  (k + 1) v_17 (((n9 + 1) + dgI r_14.toInt32)) (sbC (sbC c9 (n9 + 1)) ((n9 + 1) + dgI r_14.toInt32))  x_18 (by omega) (by omega) (i_up hx9 ex_18) (hv_17.elim (fun e9 => e9 ▸ hv9) id) (by omega) (by rw [← hg8, hT9]) _ _ _ hS hW f1 hB (lv_sub hl [1, 2, 0] rfl)
  refine W.widen (k := 2 + (16 - 16)) (n := 20 + 2 * (16 - 16)) (by omega) (by omega) ?_
  exact loop_10 ((tC g j).toNatClampNeg + 1) 0 q_hB 0 16  0 (by omega) (Nat.zero_le _) nI_0.symm s_hB (by omega) (by rw [Nat.sub_zero]; rfl) _ _ _ hS hW f1 hB (lv_sub hl [2, 1, 0] rfl)
