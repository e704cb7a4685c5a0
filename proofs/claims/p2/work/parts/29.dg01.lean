set_option maxHeartbeats 4000000 in
set_option maxRecDepth 100000 in
/-- Bestratios.mixedWithRatio(JLBestratios$Fraction;Ljava/lang/StringBuilder;)J -/
theorem c_X3_mixedWithRatio (l : Launch) (D : va_G) (tk : Nat → ClassId) (N0 : Nat) (sa : Nat → Nat) {ad : Nat → Nat} (hAD : ADok N0 ad) (sz : Nat) (g : CS) (s0_ : Int64) (i : Nat) (hi : i < 15) (a9 v0 n0 c0 : Nat) (ml : Int32) (ha9 : N0 ≤ a9) (hv0 : N0 ≤ v0) (hn9 : n0 ≤ c0) (hcap : c0 ≤ 100000) (hdg : ∀ md, txD (f_cutNum (tT (tx_mrW g i) i) (tB (tx_mrW g i) i) 3 md) 3) : Met l yX3_mixedWithRatio (wsy yX3_mixedWithRatio cX3_mixedWithRatio 8 (some .long)) ({ frames := 7, cells := (tx_mr g i (n0, c0)).2 - c0, slots := 2 * ((tx_mr g i (n0, c0)).2 - c0), locals := 163 } : Room) (cP D tk N0 sa [.ref (ad 15), .long s0_, .ref (ad i), .ref a9] sz (fun H => CW D tk ad g H ∧ SBo D a9 v0 ml (nI n0) H ∧ BA D tk v0 c0 H)) (kQl (fun r H => (∃ v1 ml1, (v1 = v0 ∨ sz ≤ v1) ∧ SBo D a9 v1 ml1 (nI (tx_mr g i (n0, c0)).1) H ∧ BA D tk v1 (tx_mr g i (n0, c0)).2 H) ∧ CW D tk ad (tx_mrW g i) H) (inC2 ad a9 v0 sz)) ((tx_mr g i (n0, c0)).2 - c0) (2 * ((tx_mr g i (n0, c0)).2 - c0)) (inC2 ad a9 v0 sz) := by
  refine mStart RX3 rfl (by decide +kernel) (Nat.le_of_ble_eq_true rfl) ?_
  intro p e s m args below meth c E hr hlk hnm hsz hC hF ls hl
  subst hsz
  obtain ⟨hx, hb, -⟩ := id E
  have hA : ∀ q, (inC2 ad a9 v0 s.heap.size) q → N0 ≤ q := fun q h => h.elim (cwA.ge hAD hC.2.1 q) (fun z => z.elim (fun e => e ▸ ha9) (fun e => e ▸ hv0))
  have hn : ∀ q, s.heap.size ≤ q → (inC2 ad a9 v0 s.heap.size) q := fun q h => Or.inl (Or.inr h)
  have hS : va_S (inC2 ad a9 v0 s.heap.size) s.heap s.heap [] := va_S.rf
  have hl : lv_has ls 8 [(0, .ref (ad 15)), (1, .long s0_), (3, .ref (ad i)), (4, .ref a9)] := hl
  obtain ⟨Q, hQ⟩ : ∃ Q, Q = MQ below (kQl (fun r H => (∃ v1 ml1, (v1 = v0 ∨ s.heap.size ≤ v1) ∧ SBo D a9 v1 ml1 (nI (tx_mr g i (n0, c0)).1) H ∧ BA D tk v1 (tx_mr g i (n0, c0)).2 H) ∧ CW D tk ad (tx_mrW g i) H) (inC2 ad a9 v0 s.heap.size)) args s ((tx_mr g i (n0, c0)).2 - c0) (2 * ((tx_mr g i (n0, c0)).2 - c0)) (inC2 ad a9 v0 s.heap.size) := ⟨_, rfl⟩
  rw [← hQ]
  obtain ⟨hW, f0, hB⟩ : CW D tk ad g s.heap ∧ SBo D a9 v0 ml (nI n0) s.heap ∧ BA D tk v0 c0 s.heap := hF
  have g_f0 : (inC2 ad a9 v0 s.heap.size) a9 := Or.inr (Or.inl rfl)
  have g_hB : (inC2 ad a9 v0 s.heap.size) v0 := Or.inr (Or.inr rfl)
  have nW_f0 := cwO hC hW f0.cl
  have nW_hB := cwB hC hW hB.cl
  have g_v0 := g_hB
  have hm0 : c0 ≤ (tx_mr g i (n0, c0)).2 := (tx_mr_ok g i (n0, c0)).2.1
  refine lv_lload_n (pc := 0) hx hb dX3_mixedWithRatio_0 rfl (lv_at hl 1 rfl) ?_
  refine lv_lstore (pc := 1) (lv' := [(5, .long s0_), (0, .ref (ad 15)), (1, .long s0_), (3, .ref (ad i)), (4, .ref a9)]) hx hb dX3_mixedWithRatio_1 hl (by decide) rfl (fun ls hl => ?_)
  refine lv_iconst (pc := 3) (v := 0) hx hb dX3_mixedWithRatio_3 (by decide) ?_
  refine lv_istore (pc := 4) (lv' := [(7, .int 0), (5, .long s0_), (0, .ref (ad 15)), (1, .long s0_), (3, .ref (ad i)), (4, .ref a9)]) hx hb dX3_mixedWithRatio_4 hl (by decide) rfl (fun ls hl => ?_)
  have loop_6 : ∀ (n : Nat) (k : Nat)(s9 : Int64) (y9 : Int32), 4 - k < n → k ≤ 4 → y9 = nI k → ∀ (H : Heap) (locs : List Loc) (ls : Array Slot), va_S (inC2 ad a9 v0 s.heap.size) s.heap H locs → CW D tk ad g H → SBo D a9 v0 ml (nI n0) H → BA D tk v0 c0 H → lv_has ls 8 [(0, .ref (ad 15)), (1, .long s0_), (3, .ref (ad i)), (4, .ref a9), (5, .long s9), (7, .int y9)] → W p l e ({ frames := 7, cells := (tx_mr g i (n0, c0)).2 - c0, slots := 2 * ((tx_mr g i (n0, c0)).2 - c0), locals := 163 } : Room) s m args below meth c H locs (0) (0) Q (F0 m 6 ls []) := by
    intro n
    induction n with
    | zero =>
      intro k s9 y9 hf9 hk9 hx9 H locs ls hS hW f0 hB hl
      omega
    | succ n ih_6 =>
      intro k s9 y9 hf9 hk9 hx9 H locs ls hS hW f0 hB hl
      refine lv_iload (pc := 6) hx hb dX3_mixedWithRatio_6 (lv_at hl 5 rfl) ?_
      refine lv_iconst (pc := 8) (v := 3) hx hb dX3_mixedWithRatio_8 (by decide) ?_
      refine lv_icmp_gt (pc := 9) (tgt := 31) hx hb dX3_mixedWithRatio_9 (by decide) (fun c_1 => ?_) (fun c_1 => ?_)
      · refine lv_aload_n (pc := 31) hx hb dX3_mixedWithRatio_31 rfl (lv_at hl 0 rfl) ?_
        refine r_get (pc := 32) E hC hW.obj 8 (v := .ref (ad 19)) rfl rfl (by decide) uX3 (List.mem_cons_of_mem _ kw_122) (fun _ h => h) dX3_mixedWithRatio_32 ?_
        refine lv_aload_n (pc := 35) hx hb dX3_mixedWithRatio_35 rfl (lv_at hl 2 rfl) ?_
        refine k_v (pc := 36) (k_V E hC hS hA hl.1 (c1.recv hC (hW.tm (j := 1) (by decide)) rfl) rfl (c_X2_takeApart l D tk N0 sa hAD H.size g 1 (by decide) i hi ) kw_563 kw_564 kw_565 kw_3 kw_566 (n := 1) (by decide +kernel) rfl ⟨⟨rfl, rfl⟩, ⟨Nat.le_of_ble_eq_true rfl, Nat.le_of_ble_eq_true rfl⟩, (by dsimp only; omega), (by dsimp only; omega)⟩ rfl (Nat.le_of_ble_eq_true rfl) hW dX3_mixedWithRatio_36) hS (fun q _ w => Or.inl (cwA.go hS.1 q w)) hn (fun H locs hR hz hk hS => ?_)
        have hW := hR
        have f0 := f0.kept (hk _ f0.lt (cwN nW_f0 f0.lt))
        have hB := hB.kept (hk _ hB.lt (cwN nW_hB hB.lt))
        obtain ⟨g_4, eg_4⟩ : ∃ z, z = f_apart g 1 i := ⟨_, rfl⟩
        rw [← eg_4] at hW
        refine lv_lload (pc := 39) hx hb dX3_mixedWithRatio_39 (lv_at hl 4 rfl) ?_
        refine lv_aload_n (pc := 41) hx hb dX3_mixedWithRatio_41 rfl (lv_at hl 0 rfl) ?_
        refine r_get (pc := 42) E hC hW.obj 8 (v := .ref (ad 19)) rfl rfl (by decide) uX3 (List.mem_cons_of_mem _ kw_122) (fun _ h => h) dX3_mixedWithRatio_42 ?_
        refine r_getN (pc := 45) "Bestratios" E hC (hW.tm (j := 1) (by decide)) 1 (v := .int (tC g_4 1)) rfl rfl (by decide) uX2 kn_69 (fun _ h => h) dX3_mixedWithRatio_45 ?_
        refine lv_i2l (pc := 48) (v := (tC g_4 1).toInt64) hx hb dX3_mixedWithRatio_48 rfl ?_
        refine k_l (pc := 49) (k_S E hC hS hA hl.1 (c_X3_mixed l D tk N0 sa H.size s9 ((tC g_4 1).toInt64) ) kw_682 kw_683 kw_1 kw_684 (n := 2) (by decide +kernel) rfl ⟨⟨rfl, rfl⟩, ⟨Nat.le_of_ble_eq_true rfl, Nat.le_of_ble_eq_true rfl⟩, (by dsimp only; omega), (by dsimp only; omega)⟩ rfl (Nat.le_of_ble_eq_true rfl) trivial dX3_mixedWithRatio_49) hS (fun q z w => absurd w (Nat.not_le.mpr z)) hn (fun r_5 H locs hR hz hk hS => ?_)
        have er_5 := hR
        have hW := hW.new hk
        have f0 := f0.kept (hk _ f0.lt (Nat.not_le.mpr f0.lt))
        have hB := hB.kept (hk _ hB.lt (Nat.not_le.mpr hB.lt))
        refine lv_lstore (pc := 52) (lv' := [(5, .long r_5), (0, .ref (ad 15)), (1, .long s0_), (3, .ref (ad i)), (4, .ref a9), (7, .int y9)]) hx hb dX3_mixedWithRatio_52 hl (by decide) rfl (fun ls hl => ?_)
        refine lv_lload (pc := 54) hx hb dX3_mixedWithRatio_54 (lv_at hl 0 rfl) ?_
        refine lv_aload_n (pc := 56) hx hb dX3_mixedWithRatio_56 rfl (lv_at hl 1 rfl) ?_
        refine lv_aload_n (pc := 57) hx hb dX3_mixedWithRatio_57 rfl (lv_at hl 3 rfl) ?_
        refine k_l (pc := 58) (k_V E hC hS hA hl.1 (c1.recv hC hW.obj rfl) rfl (c_X3_depthOf l D tk N0 sa hAD H.size g_4 i hi ) kw_694 kw_696 kp_11 kw_1 kw_697 (n := 1) (by decide +kernel) rfl ⟨⟨rfl, rfl⟩, ⟨Nat.le_of_ble_eq_true rfl, Nat.le_of_ble_eq_true rfl⟩, (by dsimp only; omega), (by dsimp only; omega)⟩ rfl (Nat.le_of_ble_eq_true rfl) hW dX3_mixedWithRatio_58) hS (fun q _ w => Or.inl (cwA.go hS.1 q w)) hn (fun r_7 H locs hR hz hk hS => ?_)
        obtain ⟨er_7, hW⟩ := hR
        have f0 := f0.kept (hk _ f0.lt (cwN nW_f0 f0.lt))
        have hB := hB.kept (hk _ hB.lt (cwN nW_hB hB.lt))
        obtain ⟨g_9, eg_9⟩ : ∃ z, z = f_depW g_4 i := ⟨_, rfl⟩
        rw [← eg_9] at hW
        refine k_l (pc := 61) (k_S E hC hS hA hl.1 (c_X3_mixed l D tk N0 sa H.size r_5 r_7 ) kw_682 kw_683 kw_1 kw_684 (n := 2) (by decide +kernel) rfl ⟨⟨rfl, rfl⟩, ⟨Nat.le_of_ble_eq_true rfl, Nat.le_of_ble_eq_true rfl⟩, (by dsimp only; omega), (by dsimp only; omega)⟩ rfl (Nat.le_of_ble_eq_true rfl) trivial dX3_mixedWithRatio_61) hS (fun q z w => absurd w (Nat.not_le.mpr z)) hn (fun r_10 H locs hR hz hk hS => ?_)
        have er_10 := hR
        have hW := hW.new hk
        have f0 := f0.kept (hk _ f0.lt (Nat.not_le.mpr f0.lt))
        have hB := hB.kept (hk _ hB.lt (Nat.not_le.mpr hB.lt))
        refine lv_lstore (pc := 64) (lv' := [(5, .long r_10), (0, .ref (ad 15)), (1, .long s0_), (3, .ref (ad i)), (4, .ref a9), (7, .int y9)]) hx hb dX3_mixedWithRatio_64 hl (by decide) rfl (fun ls hl => ?_)
        refine lv_aload (pc := 66) hx hb dX3_mixedWithRatio_66 (lv_at hl 4 rfl) ?_
        refine lv_iconst (pc := 68) (v := 0) hx hb dX3_mixedWithRatio_68 (by decide) ?_
        have hZ0_ := hS.1
        have t_hW := fun k (hk9 : k < 22) => (hW k hk9).lt
        have t_f0 := f0.lt
        have t_hB := hB.lt
        have hz_12 := tx_gz c0
        refine k_v (pc := 69) (k_V E hC hS hA hl.1 (c1.recv hC f0 rfl) rfl (c_J4_setLength_d00df l D tk N0 sa H.size a9 v0 c0 n0 ml (hA _ g_f0) (hA _ g_hB) (by omega) (by omega)) kw_703 kw_704 kw_705 kw_19 kw_706 (n := 1) (by decide +kernel) rfl ⟨⟨rfl, rfl⟩, ⟨Nat.le_of_ble_eq_true rfl, Nat.le_of_ble_eq_true rfl⟩, (by dsimp only; omega), (by dsimp only; omega)⟩ rfl (Nat.le_of_ble_eq_true rfl) ⟨f0, hB⟩ dX3_mixedWithRatio_69) hS (inA2.to g_f0 g_hB) hn (fun H locs hR hz hk hS => ?_)
        have hW := hW.kept (fun k hk9 => hk _ (hW k hk9).lt (inA2.not (nW_f0 k hk9) (nW_hB k hk9) (hW k hk9).lt))
        obtain ⟨v_14, ml_14, hv_14, f0, hB⟩ := hR
        have g_hB := hv_14.elim (fun e9 => e9 ▸ g_hB) (fun z9 => hn _ (Nat.le_trans hZ0_ z9))
        have nW_hB : ∀ k, k < 22 → ad k ≠ v_14 := fun k hk9 => hv_14.elim (fun e9 => e9 ▸ nW_hB k hk9) (fun z9 => Nat.ne_of_lt (Nat.lt_of_lt_of_le (t_hW k hk9) z9))
        have hv_14 := hv_14.imp_right (fun z9 => Nat.le_trans hZ0_ z9)
        rw [(tx_gz c0).1] at hB
        refine lv_aload_n (pc := 72) hx hb dX3_mixedWithRatio_72 rfl (lv_at hl 1 rfl) ?_
        refine lv_aload (pc := 73) hx hb dX3_mixedWithRatio_73 (lv_at hl 4 rfl) ?_
        refine lv_aload_n (pc := 75) hx hb dX3_mixedWithRatio_75 rfl (lv_at hl 3 rfl) ?_
        have hZ0_ := hS.1
        have t_hW := fun k (hk9 : k < 22) => (hW k hk9).lt
        have t_f0 := f0.lt
        have t_hB := hB.lt
        obtain ⟨Q_15, eQ_15⟩ : ∃ z9 : Nat × Nat, z9 = tx_wy g_9 i (0, c0) := ⟨_, rfl⟩
        have e2Q_15 : (tx_wy g_9 i (0, c0)).2 = Q_15.2 := by rw [eQ_15]
        have e1Q_15 : (tx_wy g_9 i (0, c0)).1 = Q_15.1 := by rw [eQ_15]
        have hQ_15 := tx_wy_ok g_9 i (q := (0, c0)) (by dsimp only; omega)
        rw [← eQ_15] at hQ_15; dsimp only [tx_ok] at hQ_15
        have hm1 := tx_mr_m g i (n0, c0)
        dsimp only at hm1
        rw [← eg_4, ← eg_9, ← eQ_15] at hm1
        refine k_v (pc := 76) (k_V E hC hS hA hl.1 (c1.recv hC hW.obj rfl) rfl (c_X3_writeWay l D tk N0 sa hAD H.size g_9 i hi a9 v_14 0 c0 ml_14 (hA _ g_f0) (hA _ g_hB) (by omega) (by omega)) kw_771 kw_773 kp_12 kw_1 kw_774 (n := 2) (by decide +kernel) rfl ⟨⟨rfl, rfl⟩, ⟨Nat.le_of_ble_eq_true rfl, Nat.le_of_ble_eq_true rfl⟩, (by dsimp only; omega), (by dsimp only; omega)⟩ rfl (Nat.le_of_ble_eq_true rfl) ⟨hW, f0, hB⟩ dX3_mixedWithRatio_76) hS (inC2.to (fun q w => Or.inl (cwA.go hS.1 q w)) g_f0 g_hB) hn (fun H locs hR hz hk hS => ?_)
        obtain ⟨⟨v_17, ml_17, hv_17, f0, hB⟩, hW⟩ := hR
        have g_hB := hv_17.elim (fun e9 => e9 ▸ g_hB) (fun z9 => hn _ (Nat.le_trans hZ0_ z9))
        have hv_17 := hv_17.imp_right (fun z9 => Nat.le_trans hZ0_ z9)
        have hv_17 := hv_17.elim (fun e9 => e9 ▸ hv_14) Or.inr
        rw [← eQ_15] at f0 hB
        obtain ⟨g_19, eg_19⟩ : ∃ z, z = tx_wyW g_9 i := ⟨_, rfl⟩
        rw [← eg_19] at hW
        have nW_hB := cwB hC hW hB.cl
        have hGG : g_19 = tx_mrW g i := by rw [eg_19, eg_9, eg_4]; rfl
        have hg7 : tx_mrL (tT g_19 i) (tB g_19 i) 5 0 Q_15 = tx_mr g i (n0, c0) := by rw [hGG, eQ_15, eg_9, eg_4]; rfl
        refine lv_lload (pc := 79) hx hb dX3_mixedWithRatio_79 (lv_at hl 0 rfl) ?_
        refine lv_aload (pc := 81) hx hb dX3_mixedWithRatio_81 (lv_at hl 4 rfl) ?_
        refine k_i (pc := 83) (k_V E hC hS hA hl.1 (c1.recv hC f0 rfl) rfl (c_J4_length_8abf5 l D tk N0 sa H.size a9 v_17 Q_15.2 ml_17 (nI Q_15.1)) kw_777 kw_337 kw_1820 kw_19 kw_338 (n := 0) (by decide +kernel) rfl ⟨⟨rfl, rfl⟩, ⟨Nat.le_of_ble_eq_true rfl, Nat.le_of_ble_eq_true rfl⟩, (by dsimp only; omega), (by dsimp only; omega)⟩ rfl (Nat.le_of_ble_eq_true rfl) ⟨f0, hB⟩ dX3_mixedWithRatio_83) hS (fun q z w => absurd w (Nat.not_le.mpr z)) hn (fun r_20 H locs hR hz hk hS => ?_)
        have hW := hW.new hk
        have f0 := f0.kept (hk _ f0.lt (Nat.not_le.mpr f0.lt))
        have hB := hB.kept (hk _ hB.lt (Nat.not_le.mpr hB.lt))
        rw [show r_20 = nI Q_15.1 from hR]
        refine lv_i2l (pc := 86) (v := (nI Q_15.1).toInt64) hx hb dX3_mixedWithRatio_86 rfl ?_
        refine k_l (pc := 87) (k_S E hC hS hA hl.1 (c_X3_mixed l D tk N0 sa H.size r_10 ((nI Q_15.1).toInt64) ) kw_682 kw_683 kw_1 kw_684 (n := 2) (by decide +kernel) rfl ⟨⟨rfl, rfl⟩, ⟨Nat.le_of_ble_eq_true rfl, Nat.le_of_ble_eq_true rfl⟩, (by dsimp only; omega), (by dsimp only; omega)⟩ rfl (Nat.le_of_ble_eq_true rfl) trivial dX3_mixedWithRatio_87) hS (fun q z w => absurd w (Nat.not_le.mpr z)) hn (fun r_21 H locs hR hz hk hS => ?_)
        have er_21 := hR
        have hW := hW.new hk
        have f0 := f0.kept (hk _ f0.lt (Nat.not_le.mpr f0.lt))
        have hB := hB.kept (hk _ hB.lt (Nat.not_le.mpr hB.lt))
        refine lv_lstore (pc := 90) (lv' := [(5, .long r_21), (0, .ref (ad 15)), (1, .long s0_), (3, .ref (ad i)), (4, .ref a9), (7, .int y9)]) hx hb dX3_mixedWithRatio_90 hl (by decide) rfl (fun ls hl => ?_)
        refine lv_iconst (pc := 92) (v := 0) hx hb dX3_mixedWithRatio_92 (by decide) ?_
        refine lv_istore (pc := 93) (lv' := [(7, .int 0), (5, .long r_21), (0, .ref (ad 15)), (1, .long s0_), (3, .ref (ad i)), (4, .ref a9)]) hx hb dX3_mixedWithRatio_93 hl (by decide) rfl (fun ls hl => ?_)
        have loop_95 : ∀ (n : Nat) (k8 : Nat) (v9 : Nat) (n9 : Nat) (c9 : Nat) (m9 : Int32)(s8 : Int64) (w9 : Int32), 5 - k8 < n → k8 ≤ 5 → w9 = nI k8 → v9 = v0 ∨ s.heap.size ≤ v9 → n9 ≤ c9 ∧ c0 ≤ c9 ∧ c9 ≤ max c0 3000 → tx_mrL (tT g_19 i) (tB g_19 i) (5 - k8) k8 (n9, c9) = tx_mr g i (n0, c0) → ∀ (H : Heap) (locs : List Loc) (ls : Array Slot), va_S (inC2 ad a9 v0 s.heap.size) s.heap H locs → CW D tk ad g_19 H → SBo D a9 v9 m9 (nI n9) H → BA D tk v9 c9 H → lv_has ls 8 [(0, .ref (ad 15)), (1, .long s0_), (3, .ref (ad i)), (4, .ref a9), (5, .long s8), (7, .int w9)] → W p l e ({ frames := 7, cells := (tx_mr g i (n0, c0)).2 - c0, slots := 2 * ((tx_mr g i (n0, c0)).2 - c0), locals := 163 } : Room) s m args below meth c H locs (c9 - c0) (2 * (c9 - c0)) Q (F0 m 95 ls []) := by
          intro n
          induction n with
          | zero =>
            intro k8 v9 n9 c9 m9 s8 w9 hf8 hk8 hx8 hv9 hb9 hg9 H locs ls hS hW f0 hB hl
            omega
          | succ n ih_95 =>
            intro k8 v9 n9 c9 m9 s8 w9 hf8 hk8 hx8 hv9 hb9 hg9 H locs ls hS hW f0 hB hl
            have g_hB := hv9.elim (fun e9 => e9 ▸ g_v0) (fun z9 => hn _ z9)
            have nW_hB := cwB hC hW hB.cl
            refine lv_iload (pc := 95) hx hb dX3_mixedWithRatio_95 (lv_at hl 5 rfl) ?_
            refine lv_iconst (pc := 97) (v := 4) hx hb dX3_mixedWithRatio_97 (by decide) ?_
            refine lv_icmp_gt (pc := 98) (tgt := 139) hx hb dX3_mixedWithRatio_98 (by decide) (fun c_23 => ?_) (fun c_23 => ?_)
            · have e0 : 5 - k8 = 0 := by have := (i_lt (k := 4) (by decide) hx8 (by decide) (by omega)).mp c_23; omega
              have hR9 : tx_mr g i (n0, c0) = (n9, c9) := by rw [← hg9, e0]; rfl
              have hR2 : (tx_mr g i (n0, c0)).2 = c9 := by rw [hR9]
              refine lv_lload (pc := 139) hx hb dX3_mixedWithRatio_139 (lv_at hl 4 rfl) ?_
              try rw [hQ]
              refine r_lret (pc := 141) E hr hlk hS (by omega) (by omega) ?_ dX3_mixedWithRatio_141
              rw [hR9]
              exact ⟨⟨_, _, hv9, f0, hB⟩, hW.to (by exact hGG)⟩
            · have hm9 := tx_mrL_m (tT g_19 i) (tB g_19 i) (5 - k8) k8 (n9, c9)
              rw [hg9] at hm9
              dsimp only at hm9
              have hlt8 : k8 < 5 := Nat.not_le.mp (fun z => c_23 ((i_lt (k := 4) (by decide) hx8 (by decide) (by omega)).mpr (by omega)))
              have e200 : 5 - k8 = (5 - (k8 + 1)) + 1 := by omega
              rw [e200] at hg9
              have hg8 : tx_mrL (tT g_19 i) (tB g_19 i) (5 - (k8 + 1)) (k8 + 1) (tx_wd (f_cutNum (tT g_19 i) (tB g_19 i) 3 (nI k8)) 3 (0, c9)) = tx_mr g i (n0, c0) := hg9
              refine lv_aload (pc := 101) hx hb dX3_mixedWithRatio_101 (lv_at hl 3 rfl) ?_
              refine lv_iconst (pc := 103) (v := 0) hx hb dX3_mixedWithRatio_103 (by decide) ?_
              have hZ0_ := hS.1
              have t_hW := fun k (hk9 : k < 22) => (hW k hk9).lt
              have t_f0 := f0.lt
              have t_hB := hB.lt
              have hz_24 := tx_gz c9
              refine k_v (pc := 104) (k_V E hC hS hA hl.1 (c1.recv hC f0 rfl) rfl (c_J4_setLength_d00df l D tk N0 sa H.size a9 v9 c9 n9 m9 (hA _ g_f0) (hA _ g_hB) (by omega) (by omega)) kw_703 kw_704 kw_705 kw_19 kw_706 (n := 1) (by decide +kernel) rfl ⟨⟨rfl, rfl⟩, ⟨Nat.le_of_ble_eq_true rfl, Nat.le_of_ble_eq_true rfl⟩, (by dsimp only; omega), (by dsimp only; omega)⟩ rfl (Nat.le_of_ble_eq_true rfl) ⟨f0, hB⟩ dX3_mixedWithRatio_104) hS (inA2.to g_f0 g_hB) hn (fun H locs hR hz hk hS => ?_)
              have hW := hW.kept (fun k hk9 => hk _ (hW k hk9).lt (inA2.not (nW_f0 k hk9) (nW_hB k hk9) (hW k hk9).lt))
              obtain ⟨v_26, ml_26, hv_26, f0, hB⟩ := hR
              have g_hB := hv_26.elim (fun e9 => e9 ▸ g_hB) (fun z9 => hn _ (Nat.le_trans hZ0_ z9))
              have nW_hB : ∀ k, k < 22 → ad k ≠ v_26 := fun k hk9 => hv_26.elim (fun e9 => e9 ▸ nW_hB k hk9) (fun z9 => Nat.ne_of_lt (Nat.lt_of_lt_of_le (t_hW k hk9) z9))
              have hv_26 := hv_26.imp_right (fun z9 => Nat.le_trans hZ0_ z9)
              have hv_26 := hv_26.elim (fun e9 => e9 ▸ hv9) Or.inr
              rw [(tx_gz c9).1] at hB
              refine lv_aload (pc := 107) hx hb dX3_mixedWithRatio_107 (lv_at hl 3 rfl) ?_
              refine lv_aload_n (pc := 109) hx hb dX3_mixedWithRatio_109 rfl (lv_at hl 2 rfl) ?_
              refine lv_iconst (pc := 110) (v := 3) hx hb dX3_mixedWithRatio_110 (by decide) ?_
              refine lv_iload (pc := 111) hx hb dX3_mixedWithRatio_111 (lv_at hl 5 rfl) ?_
              refine k_l (pc := 113) (k_V E hC hS hA hl.1 (c1.recv hC (hW.fr (i := i) hi) rfl) rfl (c_X0_cutTo l D tk N0 sa hAD H.size g_19 i hi 3 w9 ) kw_525 kw_526 kw_527 kw_2 kw_528 (n := 2) (by decide +kernel) rfl ⟨⟨rfl, rfl⟩, ⟨Nat.le_of_ble_eq_true rfl, Nat.le_of_ble_eq_true rfl⟩, (by dsimp only; omega), (by dsimp only; omega)⟩ rfl (Nat.le_of_ble_eq_true rfl) hW dX3_mixedWithRatio_113) hS (fun q z w => absurd w (Nat.not_le.mpr z)) hn (fun r_27 H locs hR hz hk hS => ?_)
              have er_27 := hR
              have hW := hW.new hk
              have f0 := f0.kept (hk _ f0.lt (Nat.not_le.mpr f0.lt))
              have hB := hB.kept (hk _ hB.lt (Nat.not_le.mpr hB.lt))
              refine lv_iconst (pc := 116) (v := 3) hx hb dX3_mixedWithRatio_116 (by decide) ?_
              have hZ0_ := hS.1
              have t_hW := fun k (hk9 : k < 22) => (hW k hk9).lt
              have t_f0 := f0.lt
              have t_hB := hB.lt
              obtain ⟨Q_29, eQ_29⟩ : ∃ z9 : Nat × Nat, z9 = tx_wd r_27 3 (0, c9) := ⟨_, rfl⟩
              have e2Q_29 : (tx_wd r_27 3 (0, c9)).2 = Q_29.2 := by rw [eQ_29]
              have e1Q_29 : (tx_wd r_27 3 (0, c9)).1 = Q_29.1 := by rw [eQ_29]
              have hQ_29 := tx_wd_ok r_27 3 (q := (0, c9)) (by dsimp only; omega)
              rw [← eQ_29] at hQ_29; dsimp only [tx_ok] at hQ_29
              rw [← hx8, ← er_27, ← eQ_29] at hg8
              have hm8 := tx_mrL_m (tT g_19 i) (tB g_19 i) (5 - (k8 + 1)) (k8 + 1) Q_29
              rw [hg8] at hm8
              refine k_v (pc := 117) (k_S E hC hS hA hl.1 (c_X3_writeDecimal l D tk N0 sa H.size r_27 3 a9 v_26 0 c9 ml_26 (hA _ g_f0) (hA _ g_hB) (by omega) (by omega) 3 rfl (by decide) (by rw [er_27, hGG]; exact hdg _)) kw_542 kw_543 kw_1 kw_544 (n := 3) (by decide +kernel) rfl ⟨⟨rfl, rfl⟩, ⟨Nat.le_of_ble_eq_true rfl, Nat.le_of_ble_eq_true rfl⟩, (by dsimp only; omega), (by dsimp only; omega)⟩ rfl (Nat.le_of_ble_eq_true rfl) ⟨f0, hB⟩ dX3_mixedWithRatio_117) hS (inA2.to g_f0 g_hB) hn (fun H locs hR hz hk hS => ?_)
              have hW := hW.kept (fun k hk9 => hk _ (hW k hk9).lt (inA2.not (nW_f0 k hk9) (nW_hB k hk9) (hW k hk9).lt))
              obtain ⟨v_31, ml_31, hv_31, f0, hB⟩ := hR
              have g_hB := hv_31.elim (fun e9 => e9 ▸ g_hB) (fun z9 => hn _ (Nat.le_trans hZ0_ z9))
              have nW_hB : ∀ k, k < 22 → ad k ≠ v_31 := fun k hk9 => hv_31.elim (fun e9 => e9 ▸ nW_hB k hk9) (fun z9 => Nat.ne_of_lt (Nat.lt_of_lt_of_le (t_hW k hk9) z9))
              have hv_31 := hv_31.imp_right (fun z9 => Nat.le_trans hZ0_ z9)
              have hv_31 := hv_31.elim (fun e9 => e9 ▸ hv_26) Or.inr
              rw [← eQ_29] at f0 hB
              refine lv_lload (pc := 120) hx hb dX3_mixedWithRatio_120 (lv_at hl 4 rfl) ?_
              refine lv_aload (pc := 122) hx hb dX3_mixedWithRatio_122 (lv_at hl 3 rfl) ?_
              refine k_i (pc := 124) (k_V E hC hS hA hl.1 (c1.recv hC f0 rfl) rfl (c_J4_length_8abf5 l D tk N0 sa H.size a9 v_31 Q_29.2 ml_31 (nI Q_29.1)) kw_777 kw_337 kw_1820 kw_19 kw_338 (n := 0) (by decide +kernel) rfl ⟨⟨rfl, rfl⟩, ⟨Nat.le_of_ble_eq_true rfl, Nat.le_of_ble_eq_true rfl⟩, (by dsimp only; omega), (by dsimp only; omega)⟩ rfl (Nat.le_of_ble_eq_true rfl) ⟨f0, hB⟩ dX3_mixedWithRatio_124) hS (fun q z w => absurd w (Nat.not_le.mpr z)) hn (fun r_33 H locs hR hz hk hS => ?_)
              have hW := hW.new hk
              have f0 := f0.kept (hk _ f0.lt (Nat.not_le.mpr f0.lt))
              have hB := hB.kept (hk _ hB.lt (Nat.not_le.mpr hB.lt))
              rw [show r_33 = nI Q_29.1 from hR]
              refine lv_i2l (pc := 127) (v := (nI Q_29.1).toInt64) hx hb dX3_mixedWithRatio_127 rfl ?_
              refine k_l (pc := 128) (k_S E hC hS hA hl.1 (c_X3_mixed l D tk N0 sa H.size s8 ((nI Q_29.1).toInt64) ) kw_682 kw_683 kw_1 kw_684 (n := 2) (by decide +kernel) rfl ⟨⟨rfl, rfl⟩, ⟨Nat.le_of_ble_eq_true rfl, Nat.le_of_ble_eq_true rfl⟩, (by dsimp only; omega), (by dsimp only; omega)⟩ rfl (Nat.le_of_ble_eq_true rfl) trivial dX3_mixedWithRatio_128) hS (fun q z w => absurd w (Nat.not_le.mpr z)) hn (fun r_34 H locs hR hz hk hS => ?_)
              have er_34 := hR
              have hW := hW.new hk
              have f0 := f0.kept (hk _ f0.lt (Nat.not_le.mpr f0.lt))
              have hB := hB.kept (hk _ hB.lt (Nat.not_le.mpr hB.lt))
              refine lv_lstore (pc := 131) (lv' := [(5, .long r_34), (0, .ref (ad 15)), (1, .long s0_), (3, .ref (ad i)), (4, .ref a9), (7, .int w9)]) hx hb dX3_mixedWithRatio_131 hl (by decide) rfl (fun ls hl => ?_)
              obtain ⟨x_36, ex_36⟩ : ∃ z9 : Int32, z9 = w9 + 1 := ⟨_, rfl⟩
              refine lv_iinc (pc := 133) (v := x_36) (lv' := [(7, .int x_36), (5, .long r_34), (0, .ref (ad 15)), (1, .long s0_), (3, .ref (ad i)), (4, .ref a9)]) hx hb dX3_mixedWithRatio_133 hl (k := 5) rfl (by rw [ex_36]; rfl) (by decide) rfl (fun ls hl => ?_)
              refine lv_goto (pc := 136) (tgt := 95) hx hb dX3_mixedWithRatio_136 (by decide) ?_
              refine W.widen (k := Q_29.2 - c0) (n := 2 * (Q_29.2 - c0)) (by omega) (by omega) ?_
              exact ih_95  (k8 + 1) v_31 Q_29.1 Q_29.2 ml_31  r_34 x_36 (by omega) (by omega) (i_up hx8 ex_36) hv_31 (by omega) hg8 _ _ _ hS hW f0 hB (lv_sub hl [2, 3, 4, 5, 1, 0] rfl)
        refine W.widen (k := Q_15.2 - c0) (n := 2 * (Q_15.2 - c0)) (by omega) (by omega) ?_
        exact loop_95 6 0 v_17 Q_15.1 Q_15.2 ml_17  r_21 0 (by omega) (Nat.zero_le _) nI_0.symm hv_17 (by omega) (by rw [Nat.sub_zero]; exact hg7) _ _ _ hS hW f0 hB (lv_sub hl [2, 3, 4, 5, 1, 0] rfl)
      · have hlt9 : ¬ 3 < k := fun z => c_1 ((i_lt (k := 3) (by decide) hx9 (by decide) (by omega)).mpr z)
        refine lv_lload (pc := 12) hx hb dX3_mixedWithRatio_12 (lv_at hl 4 rfl) ?_
        refine lv_aload_n (pc := 14) hx hb dX3_mixedWithRatio_14 rfl (lv_at hl 2 rfl) ?_
        refine lv_iload (pc := 15) hx hb dX3_mixedWithRatio_15 (lv_at hl 5 rfl) ?_
        refine k_l (pc := 17) (k_S E hC hS hA hl.1 (c_X3_partOf l D tk N0 sa hAD H.size g i hi y9 ) kw_690 kw_691 kw_1 kw_692 (n := 2) (by decide +kernel) rfl ⟨⟨rfl, rfl⟩, ⟨Nat.le_of_ble_eq_true rfl, Nat.le_of_ble_eq_true rfl⟩, (by dsimp only; omega), (by dsimp only; omega)⟩ rfl (Nat.le_of_ble_eq_true rfl) hW dX3_mixedWithRatio_17) hS (fun q z w => absurd w (Nat.not_le.mpr z)) hn (fun r_37 H locs hR hz hk hS => ?_)
        have er_37 := hR
        have hW := hW.new hk
        have f0 := f0.kept (hk _ f0.lt (Nat.not_le.mpr f0.lt))
        have hB := hB.kept (hk _ hB.lt (Nat.not_le.mpr hB.lt))
        refine k_l (pc := 20) (k_S E hC hS hA hl.1 (c_X3_mixed l D tk N0 sa H.size s9 r_37 ) kw_682 kw_683 kw_1 kw_684 (n := 2) (by decide +kernel) rfl ⟨⟨rfl, rfl⟩, ⟨Nat.le_of_ble_eq_true rfl, Nat.le_of_ble_eq_true rfl⟩, (by dsimp only; omega), (by dsimp only; omega)⟩ rfl (Nat.le_of_ble_eq_true rfl) trivial dX3_mixedWithRatio_20) hS (fun q z w => absurd w (Nat.not_le.mpr z)) hn (fun r_39 H locs hR hz hk hS => ?_)
        have er_39 := hR
        have hW := hW.new hk
        have f0 := f0.kept (hk _ f0.lt (Nat.not_le.mpr f0.lt))
        have hB := hB.kept (hk _ hB.lt (Nat.not_le.mpr hB.lt))
        refine lv_lstore (pc := 23) (lv' := [(5, .long r_39), (0, .ref (ad 15)), (1, .long s0_), (3, .ref (ad i)), (4, .ref a9), (7, .int y9)]) hx hb dX3_mixedWithRatio_23 hl (by decide) rfl (fun ls hl => ?_)
        obtain ⟨x_41, ex_41⟩ : ∃ z9 : Int32, z9 = y9 + 1 := ⟨_, rfl⟩
        refine lv_iinc (pc := 25) (v := x_41) (lv' := [(7, .int x_41), (5, .long r_39), (0, .ref (ad 15)), (1, .long s0_), (3, .ref (ad i)), (4, .ref a9)]) hx hb dX3_mixedWithRatio_25 hl (k := 5) rfl (by rw [ex_41]; rfl) (by decide) rfl (fun ls hl => ?_)
        refine lv_goto (pc := 28) (tgt := 6) hx hb dX3_mixedWithRatio_28 (by decide) ?_
        exact ih_6  (k + 1)  r_39 x_41 (by have := hlt9; omega) (by omega) (i_up hx9 ex_41) _ _ _ hS hW f0 hB (lv_sub hl [2, 3, 4, 5, 1, 0] rfl)
  exact loop_6 5 0  s0_ 0 (by omega) (by omega) nI_0.symm _ _ _ hS hW f0 hB (lv_sub hl [2, 3, 4, 5, 1, 0] rfl)
