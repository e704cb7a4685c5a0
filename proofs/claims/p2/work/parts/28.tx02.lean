set_option maxHeartbeats 4000000 in
set_option maxRecDepth 100000 in
/-- Bestratios.writeDecimal(Ljava/lang/StringBuilder;JI)V -/
theorem c_X3_writeDecimal (l : Launch) (D : va_G) (tk : Nat → ClassId) (N0 : Nat) (sa : Nat → Nat)  (sz : Nat) (x9 : Int64) (pl : Int32) (a9 v0 n0 c0 : Nat) (ml : Int32) (ha9 : N0 ≤ a9) (hv0 : N0 ≤ v0) (hn9 : n0 ≤ c0) (hcap : c0 ≤ 100000) (kp : Nat) (hpl : pl = nI kp) (hkp : kp ≤ 9) (hdg : txD x9 kp) : Met l yX3_writeDecimal (wsy yX3_writeDecimal cX3_writeDecimal 9 none) ({ frames := 6, cells := (tx_wd x9 kp (n0, c0)).2 - c0, slots := 2 * ((tx_wd x9 kp (n0, c0)).2 - c0), locals := 135 } : Room) (cP D tk N0 sa [.ref a9, .long x9, .int pl] sz (fun H => SBo D a9 v0 ml (nI n0) H ∧ BA D tk v0 c0 H)) (kQv (fun H => (∃ v1 ml1, (v1 = v0 ∨ sz ≤ v1) ∧ SBo D a9 v1 ml1 (nI (tx_wd x9 kp (n0, c0)).1) H ∧ BA D tk v1 (tx_wd x9 kp (n0, c0)).2 H)) (inA2 a9 v0 sz)) ((tx_wd x9 kp (n0, c0)).2 - c0) (2 * ((tx_wd x9 kp (n0, c0)).2 - c0)) (inA2 a9 v0 sz) := by
  refine mStart RX3 rfl (by decide +kernel) (Nat.le_of_ble_eq_true rfl) ?_
  intro p e s m args below meth c E hr hlk hnm hsz hC hF ls hl
  subst hsz
  obtain ⟨hx, hb, -⟩ := id E
  have hA : ∀ q, (inA2 a9 v0 s.heap.size) q → N0 ≤ q := fun q h => h.elim (fun z => z ▸ ha9) (fun z => z.elim (fun w => w ▸ hv0) (fun w => Nat.le_trans hC.2.1 w))
  have hn : ∀ q, s.heap.size ≤ q → (inA2 a9 v0 s.heap.size) q := fun q h => Or.inr (Or.inr h)
  have hS : va_S (inA2 a9 v0 s.heap.size) s.heap s.heap [] := va_S.rf
  have hl : lv_has ls 9 [(0, .ref a9), (1, .long x9), (3, .int pl)] := hl
  obtain ⟨Q, hQ⟩ : ∃ Q, Q = MQ below (kQv (fun H => (∃ v1 ml1, (v1 = v0 ∨ s.heap.size ≤ v1) ∧ SBo D a9 v1 ml1 (nI (tx_wd x9 kp (n0, c0)).1) H ∧ BA D tk v1 (tx_wd x9 kp (n0, c0)).2 H)) (inA2 a9 v0 s.heap.size)) args s ((tx_wd x9 kp (n0, c0)).2 - c0) (2 * ((tx_wd x9 kp (n0, c0)).2 - c0)) (inA2 a9 v0 s.heap.size) := ⟨_, rfl⟩
  rw [← hQ]
  obtain ⟨f0, hB⟩ : SBo D a9 v0 ml (nI n0) s.heap ∧ BA D tk v0 c0 s.heap := hF
  have g_f0 : (inA2 a9 v0 s.heap.size) a9 := Or.inl rfl
  have g_hB : (inA2 a9 v0 s.heap.size) v0 := Or.inr (Or.inl rfl)
  have loop_58 : ∀ (n : Nat) (k : Nat) (v9 : Nat) (n9 : Nat) (c9 : Nat)(u9 : Int64) (y9 : Int32), k < n → k ≤ kp → y9 + 1 = nI k → u9 = absL x9 → v9 = v0 ∨ s.heap.size ≤ v9 → n9 ≤ c9 ∧ c0 ≤ c9 ∧ n9 + k ≤ n0 + 32 ∧ c9 ≤ max c0 (2 * n9) → tx_wdL k (n9, c9) = tx_wd x9 kp (n0, c0) → ∀ (H : Heap) (locs : List Loc) (ls : Array Slot), va_S (inA2 a9 v0 s.heap.size) s.heap H locs → SBo D a9 v9 ml (nI n9) H → BA D tk v9 c9 H → lv_has ls 9 [(0, .ref a9), (1, .long x9), (3, .int pl), (4, .long u9), (6, .int y9)] → W p l e ({ frames := 6, cells := (tx_wd x9 kp (n0, c0)).2 - c0, slots := 2 * ((tx_wd x9 kp (n0, c0)).2 - c0), locals := 135 } : Room) s m args below meth c H locs (c9 - c0) (2 * (c9 - c0)) Q (F0 m 58 ls []) := by
    intro n
    induction n with
    | zero =>
      intro k v9 n9 c9 u9 y9 hf9 hk9 hx9 hu9 hv9 hb9 hg9 H locs ls hS f0 hB hl
      omega
    | succ n ih_58 =>
      intro k v9 n9 c9 u9 y9 hf9 hk9 hx9 hu9 hv9 hb9 hg9 H locs ls hS f0 hB hl
      have g_hB := hv9.elim (fun e9 => e9 ▸ g_hB) (fun z9 => hn _ z9)
      refine lv_iload (pc := 58) hx hb dX3_writeDecimal_58 (lv_at hl 4 rfl) ?_
      refine lv_if_lt (pc := 60) (tgt := 98) hx hb dX3_writeDecimal_60 (by decide) (fun c_1 => ?_) (fun c_1 => ?_)
      · have hk0 := f_zero hx9 (by omega) c_1
        have hR9 : tx_wd x9 kp (n0, c0) = (n9, c9) := by rw [← hg9, hk0]; rfl
        have hR2 : (tx_wd x9 kp (n0, c0)).2 = c9 := by rw [hR9]
        try rw [hQ]
        refine r_vret (pc := 98) E hr hlk hS (by omega) (by omega) ?_ dX3_writeDecimal_98
        rw [hR9]
        exact ⟨_, _, hv9, f0, hB⟩
      · obtain ⟨k1, rfl⟩ : ∃ k1, k = k1 + 1 := ⟨k - 1, by have := f_pos hx9 (by omega) c_1; omega⟩
        have hx8 : y9 = nI k1 := f_prev hx9
        have hz9 := tx_gb c9 (n9 + 1)
        have hm9 := tx_wdL_m k1 (tx_ap (n9, c9) 1)
        have hg8 : tx_wdL k1 (tx_ap (n9, c9) 1) = tx_wd x9 kp (n0, c0) := hg9
        rw [hg8] at hm9
        dsimp only [tx_ap] at hm9
        refine lv_lload (pc := 63) hx hb dX3_writeDecimal_63 (lv_at hl 3 rfl) ?_
        refine lv_iload (pc := 65) hx hb dX3_writeDecimal_65 (lv_at hl 4 rfl) ?_
        refine k_l (pc := 67) (k_S E hC hS hA hl.1 (c_X3_powerOfTen l D tk N0 sa H.size y9 ) kw_532 kw_533 kw_1 kw_534 (n := 1) (by decide +kernel) rfl ⟨⟨rfl, rfl⟩, ⟨Nat.le_of_ble_eq_true rfl, Nat.le_of_ble_eq_true rfl⟩, (by dsimp only; omega), (by dsimp only; omega)⟩ rfl (Nat.le_of_ble_eq_true rfl) trivial dX3_writeDecimal_67) hS (fun q z w => absurd w (Nat.not_le.mpr z)) hn (fun r_2 H locs hR hz hk hS => ?_)
        have er_2 := hR
        have f0 := f0.kept (hk _ f0.lt (Nat.not_le.mpr f0.lt))
        have hB := hB.kept (hk _ hB.lt (Nat.not_le.mpr hB.lt))
        refine k_l (pc := 70) (k_S E hC hS hA hl.1 (c_X3_floorOf l D tk N0 sa H.size u9 r_2 ) kw_537 kw_502 kw_1 kw_503 (n := 2) (by decide +kernel) rfl ⟨⟨rfl, rfl⟩, ⟨Nat.le_of_ble_eq_true rfl, Nat.le_of_ble_eq_true rfl⟩, (by dsimp only; omega), (by dsimp only; omega)⟩ rfl (Nat.le_of_ble_eq_true rfl) trivial dX3_writeDecimal_70) hS (fun q z w => absurd w (Nat.not_le.mpr z)) hn (fun r_4 H locs hR hz hk hS => ?_)
        have er_4 := hR
        have f0 := f0.kept (hk _ f0.lt (Nat.not_le.mpr f0.lt))
        have hB := hB.kept (hk _ hB.lt (Nat.not_le.mpr hB.lt))
        refine lv_ldc2 (pc := 73) (v := 10) hx hb E.2.2.2.1 (E.2.2.2.2 _ (List.mem_cons_of_mem _ kw_545)) dX3_writeDecimal_73 ?_
        refine lv_lrem (pc := 76) hx hb dX3_writeDecimal_76 (by decide) ?_
        obtain ⟨x_6, ex_6⟩ : ∃ z9 : Int64, z9 = r_4 - r_4 / 10 * 10 := ⟨_, rfl⟩
        rw [← ex_6]
        refine lv_lstore (pc := 77) (lv' := [(7, .long x_6), (0, .ref a9), (1, .long x9), (3, .int pl), (4, .long u9), (6, .int y9)]) hx hb dX3_writeDecimal_77 hl (by decide) rfl (fun ls hl => ?_)
        refine lv_aload_n (pc := 79) hx hb dX3_writeDecimal_79 rfl (lv_at hl 1 rfl) ?_
        refine lv_ldc2 (pc := 80) (v := 48) hx hb E.2.2.2.1 (E.2.2.2.2 _ (List.mem_cons_of_mem _ kw_546)) dX3_writeDecimal_80 ?_
        refine lv_lload (pc := 83) hx hb dX3_writeDecimal_83 (lv_at hl 0 rfl) ?_
        refine lv_ladd (pc := 85) hx hb dX3_writeDecimal_85 ?_
        refine lv_l2i (pc := 86) (v := (48 + x_6).toInt32) hx hb dX3_writeDecimal_86 rfl ?_
        refine lv_i2c (pc := 87) (v := (((48 + x_6).toInt32).toUInt32 % 65536).toInt32) hx hb dX3_writeDecimal_87 rfl ?_
        have hd9 : 0 ≤ r_4 := by rw [er_4, er_2, hu9, hx8]; exact hdg k1 (by omega)
        obtain ⟨kc, hc1, hc2⟩ := tx_dig hd9
        have hZ0_ := hS.1
        have t_f0 := f0.lt
        have t_hB := hB.lt
        refine k_r (pc := 88) (k_V E hC hS hA hl.1 (c1.recv hC f0 rfl) rfl (c_J4_append_cf468 l D tk N0 sa H.size a9 v9 c9 n9 ml ((((48 + x_6).toInt32).toUInt32 % 65536).toInt32) kc (hA _ g_f0) (hA _ g_hB) (by omega) (by omega) (by rw [ex_6]; exact hc2) hc1) kw_182 kw_183 kw_184 kw_19 kw_185 (n := 1) (by decide +kernel) rfl ⟨⟨rfl, rfl⟩, ⟨Nat.le_of_ble_eq_true rfl, Nat.le_of_ble_eq_true rfl⟩, (by dsimp only; omega), (by dsimp only; omega)⟩ rfl (Nat.le_of_ble_eq_true rfl) ⟨f0, hB⟩ dX3_writeDecimal_88) hS (inA2.to g_f0 g_hB) hn (fun r_7 H locs hR hz hk hS => ?_)
        obtain ⟨er9, hR⟩ := hR
        rw [er9]
        obtain ⟨v_8, hv_8, f0, hB⟩ := hR
        have g_hB := hv_8.elim (fun e9 => e9 ▸ g_hB) (fun z9 => hn _ (Nat.le_trans hZ0_ z9))
        have hv_8 := hv_8.imp_right (fun z9 => Nat.le_trans hZ0_ z9)
        have hv_8 := hv_8.elim (fun e9 => e9 ▸ hv9) Or.inr
        refine lv_pop (pc := 91) hx hb dX3_writeDecimal_91 rfl ?_
        obtain ⟨x_9, ex_9⟩ : ∃ z9 : Int32, z9 = y9 + (-1) := ⟨_, rfl⟩
        refine lv_iinc (pc := 92) (v := x_9) (lv' := [(6, .int x_9), (7, .long x_6), (0, .ref a9), (1, .long x9), (3, .int pl), (4, .long u9)]) hx hb dX3_writeDecimal_92 hl (k := 5) rfl (by rw [ex_9]; rfl) (by decide) rfl (fun ls hl => ?_)
        refine lv_goto (pc := 95) (tgt := 58) hx hb dX3_writeDecimal_95 (by decide) ?_
        refine W.widen (k := (sbC c9 (n9 + 1)) - c0) (n := 2 * ((sbC c9 (n9 + 1)) - c0)) (by omega) (by omega) ?_
        exact ih_58  k1 v_8 ((n9 + 1)) (sbC c9 (n9 + 1))  u9 x_9 (by omega) (by omega) (by rw [ex_9]; exact f_dn hx8) hu9 hv_8 (by omega) hg8 _ _ _ hS f0 hB (lv_sub hl [2, 3, 4, 5, 0] rfl)
  refine lv_lload_n (pc := 0) hx hb dX3_writeDecimal_0 rfl (lv_at hl 1 rfl) ?_
  refine lv_lconst (pc := 1) (v := 0) hx hb dX3_writeDecimal_1 (by decide) ?_
  refine r_lcge (pc := 2) (tgt := 11) E dX3_writeDecimal_2 dX3_writeDecimal_3 (by decide) (fun c_10 => ?_) (fun c_10 => ?_)
  · refine lv_lload_n (pc := 11) hx hb dX3_writeDecimal_11 rfl (lv_at hl 1 rfl) ?_
    refine lv_lstore (pc := 12) (lv' := [(4, .long x9), (0, .ref a9), (1, .long x9), (3, .int pl)]) hx hb dX3_writeDecimal_12 hl (by decide) rfl (fun ls hl => ?_)
    refine lv_lload_n (pc := 14) hx hb dX3_writeDecimal_14 rfl (lv_at hl 2 rfl) ?_
    refine lv_lconst (pc := 15) (v := 0) hx hb dX3_writeDecimal_15 (by decide) ?_
    refine r_lcge (pc := 16) (tgt := 27) E dX3_writeDecimal_16 dX3_writeDecimal_17 (by decide) (fun c_11 => ?_) (fun c_11 => ?_)
    rotate_left
    · exact absurd c_10 c_11
    refine lv_aload_n (pc := 27) hx hb dX3_writeDecimal_27 rfl (lv_at hl 1 rfl) ?_
    refine lv_lload (pc := 28) hx hb dX3_writeDecimal_28 (lv_at hl 0 rfl) ?_
    refine lv_iload_n (pc := 30) hx hb dX3_writeDecimal_30 rfl (lv_at hl 3 rfl) ?_
    refine k_l (pc := 31) (k_S E hC hS hA hl.1 (c_X3_powerOfTen l D tk N0 sa s.heap.size pl ) kw_532 kw_533 kw_1 kw_534 (n := 1) (by decide +kernel) rfl ⟨⟨rfl, rfl⟩, ⟨Nat.le_of_ble_eq_true rfl, Nat.le_of_ble_eq_true rfl⟩, (by dsimp only; omega), (by dsimp only; omega)⟩ rfl (Nat.le_of_ble_eq_true rfl) trivial dX3_writeDecimal_31) hS (fun q z w => absurd w (Nat.not_le.mpr z)) hn (fun r_12 H locs hR hz hk hS => ?_)
    have er_12 := hR
    have f0 := f0.kept (hk _ f0.lt (Nat.not_le.mpr f0.lt))
    have hB := hB.kept (hk _ hB.lt (Nat.not_le.mpr hB.lt))
    refine k_l (pc := 34) (k_S E hC hS hA hl.1 (c_X3_floorOf l D tk N0 sa H.size x9 r_12 ) kw_537 kw_502 kw_1 kw_503 (n := 2) (by decide +kernel) rfl ⟨⟨rfl, rfl⟩, ⟨Nat.le_of_ble_eq_true rfl, Nat.le_of_ble_eq_true rfl⟩, (by dsimp only; omega), (by dsimp only; omega)⟩ rfl (Nat.le_of_ble_eq_true rfl) trivial dX3_writeDecimal_34) hS (fun q z w => absurd w (Nat.not_le.mpr z)) hn (fun r_14 H locs hR hz hk hS => ?_)
    have er_14 := hR
    have f0 := f0.kept (hk _ f0.lt (Nat.not_le.mpr f0.lt))
    have hB := hB.kept (hk _ hB.lt (Nat.not_le.mpr hB.lt))
    refine lv_l2i (pc := 37) (v := r_14.toInt32) hx hb dX3_writeDecimal_37 rfl ?_
    have h1 : tx_wd1 x9 (n0, c0) = (n0, c0) := by rw [tx_wd1, if_pos c_10]
    have hab : x9 = absL x9 := (if_pos c_10).symm
    have hfl9 : r_14 = f_floorOf (absL x9) (f_p10 (nI kp)) := by rw [er_14, er_12, hpl, ← hab]
    have hd2 := dgI_le r_14.toInt32
    have hz2 := tx_gb (c0) (n0 + dgI r_14.toInt32)
    have h2 : tx_wd2 x9 kp (n0, c0) = (n0 + dgI r_14.toInt32, sbC (c0) (n0 + dgI r_14.toInt32)) := by rw [tx_wd2, h1, ← hfl9]; rfl
    have hm2 := tx_wd_m2 x9 kp (n0, c0)
    rw [h2] at hm2
    dsimp only at hm2
    have hZ0_ := hS.1
    have t_f0 := f0.lt
    have t_hB := hB.lt
    refine k_r (pc := 38) (k_V E hC hS hA hl.1 (c1.recv hC f0 rfl) rfl (c_J4_append_bf812 l D tk N0 sa H.size a9 v0 c0 n0 ml r_14.toInt32 (hA _ g_f0) (hA _ g_hB) (by omega) (by omega)) kw_281 kw_282 kw_283 kw_19 kw_284 (n := 1) (by decide +kernel) rfl ⟨⟨rfl, rfl⟩, ⟨Nat.le_of_ble_eq_true rfl, Nat.le_of_ble_eq_true rfl⟩, (by dsimp only; omega), (by dsimp only; omega)⟩ rfl (Nat.le_of_ble_eq_true rfl) ⟨f0, hB⟩ dX3_writeDecimal_38) hS (inA2.to g_f0 g_hB) hn (fun r_16 H locs hR hz hk hS => ?_)
    obtain ⟨er9, hR⟩ := hR
    rw [er9]
    obtain ⟨v_17, hv_17, f0, hB⟩ := hR
    have g_hB := hv_17.elim (fun e9 => e9 ▸ g_hB) (fun z9 => hn _ (Nat.le_trans hZ0_ z9))
    have hv_17 := hv_17.imp_right (fun z9 => Nat.le_trans hZ0_ z9)
    refine lv_pop (pc := 41) hx hb dX3_writeDecimal_41 rfl ?_
    refine lv_iload_n (pc := 42) hx hb dX3_writeDecimal_42 rfl (lv_at hl 3 rfl) ?_
    refine lv_if_le (pc := 43) (tgt := 53) hx hb dX3_writeDecimal_43 (by decide) (fun c_18 => ?_) (fun c_18 => ?_)
    · have hk0 : kp = 0 := by have := (i_le (n := kp) nI_0.symm hpl (by decide) (by omega)).mp c_18; omega
      have h3 : tx_wd3 x9 kp (n0, c0) = ((n0 + dgI r_14.toInt32), sbC c0 (n0 + dgI r_14.toInt32)) := by rw [tx_wd3, if_pos hk0, h2]
      have hm3 := tx_wd_m3 x9 kp (n0, c0)
      rw [h3] at hm3
      dsimp only at hm3
      refine lv_iload_n (pc := 53) hx hb dX3_writeDecimal_53 rfl (lv_at hl 3 rfl) ?_
      refine lv_iconst (pc := 54) (v := 1) hx hb dX3_writeDecimal_54 (by decide) ?_
      refine lv_isub (pc := 55) hx hb dX3_writeDecimal_55 ?_
      obtain ⟨x_19, ex_19⟩ : ∃ z9 : Int32, z9 = pl - 1 := ⟨_, rfl⟩
      rw [← ex_19]
      refine lv_istore (pc := 56) (lv' := [(6, .int x_19), (4, .long x9), (0, .ref a9), (1, .long x9), (3, .int pl)]) hx hb dX3_writeDecimal_56 hl (by decide) rfl (fun ls hl => ?_)
      refine W.widen (k := (sbC c0 (n0 + dgI r_14.toInt32)) - c0) (n := 2 * ((sbC c0 (n0 + dgI r_14.toInt32)) - c0)) (by omega) (by omega) ?_
      exact loop_58 (kp + 1) kp v_17 ((n0 + dgI r_14.toInt32)) (sbC c0 (n0 + dgI r_14.toInt32))  x9 x_19 (by omega) (Nat.le_refl _) (by rw [ex_19]; exact (Int32.sub_add_cancel _ _).trans hpl) hab hv_17 (by omega) (by rw [tx_wd, h3]) _ _ _ hS f0 hB (lv_sub hl [2, 3, 4, 1, 0] rfl)
    · have hk0 : ¬ kp = 0 := fun z => c_18 ((i_le (n := kp) nI_0.symm hpl (by decide) (by omega)).mpr (by omega))
      have hz3 := tx_gb (sbC c0 (n0 + dgI r_14.toInt32)) ((n0 + dgI r_14.toInt32) + 1)
      have h3 : tx_wd3 x9 kp (n0, c0) = ((n0 + dgI r_14.toInt32) + 1, sbC (sbC c0 (n0 + dgI r_14.toInt32)) ((n0 + dgI r_14.toInt32) + 1)) := by rw [tx_wd3, if_neg hk0, h2]; rfl
      have hm3 := tx_wd_m3 x9 kp (n0, c0)
      rw [h3] at hm3
      dsimp only at hm3
      refine lv_aload_n (pc := 46) hx hb dX3_writeDecimal_46 rfl (lv_at hl 1 rfl) ?_
      refine lv_bipush (pc := 47) (v := 46) hx hb dX3_writeDecimal_47 (by decide) ?_
      have hZ0_ := hS.1
      have t_f0 := f0.lt
      have t_hB := hB.lt
      refine k_r (pc := 49) (k_V E hC hS hA hl.1 (c1.recv hC f0 rfl) rfl (c_J4_append_cf468 l D tk N0 sa H.size a9 v_17 (sbC c0 (n0 + dgI r_14.toInt32)) (n0 + dgI r_14.toInt32) ml 46 46 (hA _ g_f0) (hA _ g_hB) (by omega) (by omega) rfl (by decide)) kw_182 kw_183 kw_184 kw_19 kw_185 (n := 1) (by decide +kernel) rfl ⟨⟨rfl, rfl⟩, ⟨Nat.le_of_ble_eq_true rfl, Nat.le_of_ble_eq_true rfl⟩, (by dsimp only; omega), (by dsimp only; omega)⟩ rfl (Nat.le_of_ble_eq_true rfl) ⟨f0, hB⟩ dX3_writeDecimal_49) hS (inA2.to g_f0 g_hB) hn (fun r_20 H locs hR hz hk hS => ?_)
      obtain ⟨er9, hR⟩ := hR
      rw [er9]
      obtain ⟨v_21, hv_21, f0, hB⟩ := hR
      have g_hB := hv_21.elim (fun e9 => e9 ▸ g_hB) (fun z9 => hn _ (Nat.le_trans hZ0_ z9))
      have hv_21 := hv_21.imp_right (fun z9 => Nat.le_trans hZ0_ z9)
      have hv_21 := hv_21.elim (fun e9 => e9 ▸ hv_17) Or.inr
      refine lv_pop (pc := 52) hx hb dX3_writeDecimal_52 rfl ?_
      refine lv_iload_n (pc := 53) hx hb dX3_writeDecimal_53 rfl (lv_at hl 3 rfl) ?_
      refine lv_iconst (pc := 54) (v := 1) hx hb dX3_writeDecimal_54 (by decide) ?_
      refine lv_isub (pc := 55) hx hb dX3_writeDecimal_55 ?_
      obtain ⟨x_22, ex_22⟩ : ∃ z9 : Int32, z9 = pl - 1 := ⟨_, rfl⟩
      rw [← ex_22]
      refine lv_istore (pc := 56) (lv' := [(6, .int x_22), (4, .long x9), (0, .ref a9), (1, .long x9), (3, .int pl)]) hx hb dX3_writeDecimal_56 hl (by decide) rfl (fun ls hl => ?_)
      refine W.widen (k := (sbC (sbC c0 (n0 + dgI r_14.toInt32)) ((n0 + dgI r_14.toInt32) + 1)) - c0) (n := 2 * ((sbC (sbC c0 (n0 + dgI r_14.toInt32)) ((n0 + dgI r_14.toInt32) + 1)) - c0)) (by omega) (by omega) ?_
      exact loop_58 (kp + 1) kp v_21 (((n0 + dgI r_14.toInt32) + 1)) (sbC (sbC c0 (n0 + dgI r_14.toInt32)) ((n0 + dgI r_14.toInt32) + 1))  x9 x_22 (by omega) (Nat.le_refl _) (by rw [ex_22]; exact (Int32.sub_add_cancel _ _).trans hpl) hab hv_21 (by omega) (by rw [tx_wd, h3]) _ _ _ hS f0 hB (lv_sub hl [2, 3, 4, 1, 0] rfl)
  · refine lv_lload_n (pc := 6) hx hb dX3_writeDecimal_6 rfl (lv_at hl 1 rfl) ?_
    refine lv_lneg (pc := 7) hx hb dX3_writeDecimal_7 ?_
    refine lv_goto (pc := 8) (tgt := 12) hx hb dX3_writeDecimal_8 (by decide) ?_
    obtain ⟨x_23, ex_23⟩ : ∃ z9 : Int64, z9 = -x9 := ⟨_, rfl⟩
    rw [← ex_23]
    refine lv_lstore (pc := 12) (lv' := [(4, .long x_23), (0, .ref a9), (1, .long x9), (3, .int pl)]) hx hb dX3_writeDecimal_12 hl (by decide) rfl (fun ls hl => ?_)
    refine lv_lload_n (pc := 14) hx hb dX3_writeDecimal_14 rfl (lv_at hl 2 rfl) ?_
    refine lv_lconst (pc := 15) (v := 0) hx hb dX3_writeDecimal_15 (by decide) ?_
    refine r_lcge (pc := 16) (tgt := 27) E dX3_writeDecimal_16 dX3_writeDecimal_17 (by decide) (fun c_24 => ?_) (fun c_24 => ?_)
    · exact absurd c_24 c_10
    have hz1 := tx_gb c0 (n0 + 1)
    have h1 : tx_wd1 x9 (n0, c0) = (n0 + 1, sbC c0 (n0 + 1)) := by rw [tx_wd1, if_neg c_10]; rfl
    have hm1 := tx_wd_m1 x9 kp (n0, c0)
    rw [h1] at hm1
    dsimp only at hm1
    refine lv_aload_n (pc := 20) hx hb dX3_writeDecimal_20 rfl (lv_at hl 1 rfl) ?_
    refine lv_bipush (pc := 21) (v := 45) hx hb dX3_writeDecimal_21 (by decide) ?_
    have hZ0_ := hS.1
    have t_f0 := f0.lt
    have t_hB := hB.lt
    refine k_r (pc := 23) (k_V E hC hS hA hl.1 (c1.recv hC f0 rfl) rfl (c_J4_append_cf468 l D tk N0 sa s.heap.size a9 v0 c0 n0 ml 45 45 (hA _ g_f0) (hA _ g_hB) (by omega) (by omega) rfl (by decide)) kw_182 kw_183 kw_184 kw_19 kw_185 (n := 1) (by decide +kernel) rfl ⟨⟨rfl, rfl⟩, ⟨Nat.le_of_ble_eq_true rfl, Nat.le_of_ble_eq_true rfl⟩, (by dsimp only; omega), (by dsimp only; omega)⟩ rfl (Nat.le_of_ble_eq_true rfl) ⟨f0, hB⟩ dX3_writeDecimal_23) hS (inA2.to g_f0 g_hB) hn (fun r_25 H locs hR hz hk hS => ?_)
    obtain ⟨er9, hR⟩ := hR
    rw [er9]
    obtain ⟨v_26, hv_26, f0, hB⟩ := hR
    have g_hB := hv_26.elim (fun e9 => e9 ▸ g_hB) (fun z9 => hn _ (Nat.le_trans hZ0_ z9))
    have hv_26 := hv_26.imp_right (fun z9 => Nat.le_trans hZ0_ z9)
    refine lv_pop (pc := 26) hx hb dX3_writeDecimal_26 rfl ?_
    refine lv_aload_n (pc := 27) hx hb dX3_writeDecimal_27 rfl (lv_at hl 1 rfl) ?_
    refine lv_lload (pc := 28) hx hb dX3_writeDecimal_28 (lv_at hl 0 rfl) ?_
    refine lv_iload_n (pc := 30) hx hb dX3_writeDecimal_30 rfl (lv_at hl 3 rfl) ?_
    refine k_l (pc := 31) (k_S E hC hS hA hl.1 (c_X3_powerOfTen l D tk N0 sa H.size pl ) kw_532 kw_533 kw_1 kw_534 (n := 1) (by decide +kernel) rfl ⟨⟨rfl, rfl⟩, ⟨Nat.le_of_ble_eq_true rfl, Nat.le_of_ble_eq_true rfl⟩, (by dsimp only; omega), (by dsimp only; omega)⟩ rfl (Nat.le_of_ble_eq_true rfl) trivial dX3_writeDecimal_31) hS (fun q z w => absurd w (Nat.not_le.mpr z)) hn (fun r_27 H locs hR hz hk hS => ?_)
    have er_27 := hR
    have f0 := f0.kept (hk _ f0.lt (Nat.not_le.mpr f0.lt))
    have hB := hB.kept (hk _ hB.lt (Nat.not_le.mpr hB.lt))
    refine k_l (pc := 34) (k_S E hC hS hA hl.1 (c_X3_floorOf l D tk N0 sa H.size x_23 r_27 ) kw_537 kw_502 kw_1 kw_503 (n := 2) (by decide +kernel) rfl ⟨⟨rfl, rfl⟩, ⟨Nat.le_of_ble_eq_true rfl, Nat.le_of_ble_eq_true rfl⟩, (by dsimp only; omega), (by dsimp only; omega)⟩ rfl (Nat.le_of_ble_eq_true rfl) trivial dX3_writeDecimal_34) hS (fun q z w => absurd w (Nat.not_le.mpr z)) hn (fun r_29 H locs hR hz hk hS => ?_)
    have er_29 := hR
    have f0 := f0.kept (hk _ f0.lt (Nat.not_le.mpr f0.lt))
    have hB := hB.kept (hk _ hB.lt (Nat.not_le.mpr hB.lt))
    refine lv_l2i (pc := 37) (v := r_29.toInt32) hx hb dX3_writeDecimal_37 rfl ?_
    have hab : x_23 = absL x9 := by rw [ex_23]; exact (if_neg c_10).symm
    have hfl9 : r_29 = f_floorOf (absL x9) (f_p10 (nI kp)) := by rw [er_29, er_27, hpl, ← hab]
    have hd2 := dgI_le r_29.toInt32
    have hz2 := tx_gb (sbC c0 (n0 + 1)) ((n0 + 1) + dgI r_29.toInt32)
    have h2 : tx_wd2 x9 kp (n0, c0) = ((n0 + 1) + dgI r_29.toInt32, sbC (sbC c0 (n0 + 1)) ((n0 + 1) + dgI r_29.toInt32)) := by rw [tx_wd2, h1, ← hfl9]; rfl
    have hm2 := tx_wd_m2 x9 kp (n0, c0)
    rw [h2] at hm2
    dsimp only at hm2
    have hZ0_ := hS.1
    have t_f0 := f0.lt
    have t_hB := hB.lt
    refine k_r (pc := 38) (k_V E hC hS hA hl.1 (c1.recv hC f0 rfl) rfl (c_J4_append_bf812 l D tk N0 sa H.size a9 v_26 (sbC c0 (n0 + 1)) (n0 + 1) ml r_29.toInt32 (hA _ g_f0) (hA _ g_hB) (by omega) (by omega)) kw_281 kw_282 kw_283 kw_19 kw_284 (n := 1) (by decide +kernel) rfl ⟨⟨rfl, rfl⟩, ⟨Nat.le_of_ble_eq_true rfl, Nat.le_of_ble_eq_true rfl⟩, (by dsimp only; omega), (by dsimp only; omega)⟩ rfl (Nat.le_of_ble_eq_true rfl) ⟨f0, hB⟩ dX3_writeDecimal_38) hS (inA2.to g_f0 g_hB) hn (fun r_31 H locs hR hz hk hS => ?_)
    obtain ⟨er9, hR⟩ := hR
    rw [er9]
    obtain ⟨v_32, hv_32, f0, hB⟩ := hR
    have g_hB := hv_32.elim (fun e9 => e9 ▸ g_hB) (fun z9 => hn _ (Nat.le_trans hZ0_ z9))
    have hv_32 := hv_32.imp_right (fun z9 => Nat.le_trans hZ0_ z9)
    have hv_32 := hv_32.elim (fun e9 => e9 ▸ hv_26) Or.inr
    refine lv_pop (pc := 41) hx hb dX3_writeDecimal_41 rfl ?_
    refine lv_iload_n (pc := 42) hx hb dX3_writeDecimal_42 rfl (lv_at hl 3 rfl) ?_
    refine lv_if_le (pc := 43) (tgt := 53) hx hb dX3_writeDecimal_43 (by decide) (fun c_33 => ?_) (fun c_33 => ?_)
    · have hk0 : kp = 0 := by have := (i_le (n := kp) nI_0.symm hpl (by decide) (by omega)).mp c_33; omega
      have h3 : tx_wd3 x9 kp (n0, c0) = (((n0 + 1) + dgI r_29.toInt32), sbC (sbC c0 (n0 + 1)) ((n0 + 1) + dgI r_29.toInt32)) := by rw [tx_wd3, if_pos hk0, h2]
      have hm3 := tx_wd_m3 x9 kp (n0, c0)
      rw [h3] at hm3
      dsimp only at hm3
      refine lv_iload_n (pc := 53) hx hb dX3_writeDecimal_53 rfl (lv_at hl 3 rfl) ?_
      refine lv_iconst (pc := 54) (v := 1) hx hb dX3_writeDecimal_54 (by decide) ?_
      refine lv_isub (pc := 55) hx hb dX3_writeDecimal_55 ?_
      obtain ⟨x_34, ex_34⟩ : ∃ z9 : Int32, z9 = pl - 1 := ⟨_, rfl⟩
      rw [← ex_34]
      refine lv_istore (pc := 56) (lv' := [(6, .int x_34), (4, .long x_23), (0, .ref a9), (1, .long x9), (3, .int pl)]) hx hb dX3_writeDecimal_56 hl (by decide) rfl (fun ls hl => ?_)
      refine W.widen (k := (sbC (sbC c0 (n0 + 1)) ((n0 + 1) + dgI r_29.toInt32)) - c0) (n := 2 * ((sbC (sbC c0 (n0 + 1)) ((n0 + 1) + dgI r_29.toInt32)) - c0)) (by omega) (by omega) ?_
      exact loop_58 (kp + 1) kp v_32 (((n0 + 1) + dgI r_29.toInt32)) (sbC (sbC c0 (n0 + 1)) ((n0 + 1) + dgI r_29.toInt32))  x_23 x_34 (by omega) (Nat.le_refl _) (by rw [ex_34]; exact (Int32.sub_add_cancel _ _).trans hpl) hab hv_32 (by omega) (by rw [tx_wd, h3]) _ _ _ hS f0 hB (lv_sub hl [2, 3, 4, 1, 0] rfl)
    · have hk0 : ¬ kp = 0 := fun z => c_33 ((i_le (n := kp) nI_0.symm hpl (by decide) (by omega)).mpr (by omega))
      have hz3 := tx_gb (sbC (sbC c0 (n0 + 1)) ((n0 + 1) + dgI r_29.toInt32)) (((n0 + 1) + dgI r_29.toInt32) + 1)
      have h3 : tx_wd3 x9 kp (n0, c0) = (((n0 + 1) + dgI r_29.toInt32) + 1, sbC (sbC (sbC c0 (n0 + 1)) ((n0 + 1) + dgI r_29.toInt32)) (((n0 + 1) + dgI r_29.toInt32) + 1)) := by rw [tx_wd3, if_neg hk0, h2]; rfl
      have hm3 := tx_wd_m3 x9 kp (n0, c0)
      rw [h3] at hm3
      dsimp only at hm3
      refine lv_aload_n (pc := 46) hx hb dX3_writeDecimal_46 rfl (lv_at hl 1 rfl) ?_
      refine lv_bipush (pc := 47) (v := 46) hx hb dX3_writeDecimal_47 (by decide) ?_
      have hZ0_ := hS.1
      have t_f0 := f0.lt
      have t_hB := hB.lt
      refine k_r (pc := 49) (k_V E hC hS hA hl.1 (c1.recv hC f0 rfl) rfl (c_J4_append_cf468 l D tk N0 sa H.size a9 v_32 (sbC (sbC c0 (n0 + 1)) ((n0 + 1) + dgI r_29.toInt32)) ((n0 + 1) + dgI r_29.toInt32) ml 46 46 (hA _ g_f0) (hA _ g_hB) (by omega) (by omega) rfl (by decide)) kw_182 kw_183 kw_184 kw_19 kw_185 (n := 1) (by decide +kernel) rfl ⟨⟨rfl, rfl⟩, ⟨Nat.le_of_ble_eq_true rfl, Nat.le_of_ble_eq_true rfl⟩, (by dsimp only; omega), (by dsimp only; omega)⟩ rfl (Nat.le_of_ble_eq_true rfl) ⟨f0, hB⟩ dX3_writeDecimal_49) hS (inA2.to g_f0 g_hB) hn (fun r_35 H locs hR hz hk hS => ?_)
      obtain ⟨er9, hR⟩ := hR
      rw [er9]
      obtain ⟨v_36, hv_36, f0, hB⟩ := hR
      have g_hB := hv_36.elim (fun e9 => e9 ▸ g_hB) (fun z9 => hn _ (Nat.le_trans hZ0_ z9))
      have hv_36 := hv_36.imp_right (fun z9 => Nat.le_trans hZ0_ z9)
      have hv_36 := hv_36.elim (fun e9 => e9 ▸ hv_32) Or.inr
      refine lv_pop (pc := 52) hx hb dX3_writeDecimal_52 rfl ?_
      refine lv_iload_n (pc := 53) hx hb dX3_writeDecimal_53 rfl (lv_at hl 3 rfl) ?_
      refine lv_iconst (pc := 54) (v := 1) hx hb dX3_writeDecimal_54 (by decide) ?_
      refine lv_isub (pc := 55) hx hb dX3_writeDecimal_55 ?_
      obtain ⟨x_37, ex_37⟩ : ∃ z9 : Int32, z9 = pl - 1 := ⟨_, rfl⟩
      rw [← ex_37]
      refine lv_istore (pc := 56) (lv' := [(6, .int x_37), (4, .long x_23), (0, .ref a9), (1, .long x9), (3, .int pl)]) hx hb dX3_writeDecimal_56 hl (by decide) rfl (fun ls hl => ?_)
      refine W.widen (k := (sbC (sbC (sbC c0 (n0 + 1)) ((n0 + 1) + dgI r_29.toInt32)) (((n0 + 1) + dgI r_29.toInt32) + 1)) - c0) (n := 2 * ((sbC (sbC (sbC c0 (n0 + 1)) ((n0 + 1) + dgI r_29.toInt32)) (((n0 + 1) + dgI r_29.toInt32) + 1)) - c0)) (by omega) (by omega) ?_
      exact loop_58 (kp + 1) kp v_36 ((((n0 + 1) + dgI r_29.toInt32) + 1)) (sbC (sbC (sbC c0 (n0 + 1)) ((n0 + 1) + dgI r_29.toInt32)) (((n0 + 1) + dgI r_29.toInt32) + 1))  x_23 x_37 (by omega) (Nat.le_refl _) (by rw [ex_37]; exact (Int32.sub_add_cancel _ _).trans hpl) hab hv_36 (by omega) (by rw [tx_wd, h3]) _ _ _ hS f0 hB (lv_sub hl [2, 3, 4, 1, 0] rfl)
