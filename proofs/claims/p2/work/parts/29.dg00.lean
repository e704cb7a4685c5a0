set_option maxHeartbeats 4000000 in
set_option maxRecDepth 100000 in
/-- Bestratios.mixedWithTally(JLjava/lang/StringBuilder;)J -/
theorem c_X3_mixedWithTally (l : Launch) (D : va_G) (tk : Nat → ClassId) (N0 : Nat) (sa : Nat → Nat) {ad : Nat → Nat} (hAD : ADok N0 ad) (sz : Nat) (g : CS) (s0_ : Int64) (a9 v0 n0 c0 : Nat) (ml : Int32) (ha9 : N0 ≤ a9) (hv0 : N0 ≤ v0) (hn9 : n0 ≤ c0) (hcap : c0 ≤ 100000) (kp : Nat) (hpl : tI g 3 = nI kp) (hkp : kp ≤ 9) (hdg : txD (f_cutNum (tT g 10) (tB g 10) (tI g 3) 0) kp) : Met l yX3_mixedWithTally (wsy yX3_mixedWithTally cX3_mixedWithTally 6 (some .long)) ({ frames := 8, cells := (tx_mt g kp (n0, c0)).2 - c0, slots := 2 * ((tx_mt g kp (n0, c0)).2 - c0), locals := 184 } : Room) (cP D tk N0 sa [.ref (ad 15), .long s0_, .ref a9] sz (fun H => CW D tk ad g H ∧ SBo D a9 v0 ml (nI n0) H ∧ BA D tk v0 c0 H)) (kQl (fun r H => (∃ v1 ml1, (v1 = v0 ∨ sz ≤ v1) ∧ SBo D a9 v1 ml1 (nI (tx_mt g kp (n0, c0)).1) H ∧ BA D tk v1 (tx_mt g kp (n0, c0)).2 H)) (inA2 a9 v0 sz)) ((tx_mt g kp (n0, c0)).2 - c0) (2 * ((tx_mt g kp (n0, c0)).2 - c0)) (inA2 a9 v0 sz) := by
  refine mStart RX3 rfl (by decide +kernel) (Nat.le_of_ble_eq_true rfl) ?_
  intro p e s m args below meth c E hr hlk hnm hsz hC hF ls hl
  subst hsz
  obtain ⟨hx, hb, -⟩ := id E
  have hA : ∀ q, (inA2 a9 v0 s.heap.size) q → N0 ≤ q := fun q h => h.elim (fun z => z ▸ ha9) (fun z => z.elim (fun w => w ▸ hv0) (fun w => Nat.le_trans hC.2.1 w))
  have hn : ∀ q, s.heap.size ≤ q → (inA2 a9 v0 s.heap.size) q := fun q h => Or.inr (Or.inr h)
  have hS : va_S (inA2 a9 v0 s.heap.size) s.heap s.heap [] := va_S.rf
  have hl : lv_has ls 6 [(0, .ref (ad 15)), (1, .long s0_), (3, .ref a9)] := hl
  obtain ⟨hW, f0, hB⟩ : CW D tk ad g s.heap ∧ SBo D a9 v0 ml (nI n0) s.heap ∧ BA D tk v0 c0 s.heap := hF
  have g_f0 : (inA2 a9 v0 s.heap.size) a9 := Or.inl rfl
  have g_hB : (inA2 a9 v0 s.heap.size) v0 := Or.inr (Or.inl rfl)
  have nW_f0 := cwO hC hW f0.cl
  have nW_hB := cwB hC hW hB.cl
  have hm0 : c0 ≤ (tx_mt g kp (n0, c0)).2 := (tx_mt_ok g kp (n0, c0) hkp).2.1
  refine lv_aload_n (pc := 0) hx hb dX3_mixedWithTally_0 rfl (lv_at hl 2 rfl) ?_
  refine lv_iconst (pc := 1) (v := 0) hx hb dX3_mixedWithTally_1 (by decide) ?_
  have hZ0_ := hS.1
  have t_hW := fun k (hk9 : k < 22) => (hW k hk9).lt
  have t_f0 := f0.lt
  have t_hB := hB.lt
  have hz_1 := tx_gz c0
  refine k_v (pc := 2) (k_V E hC hS hA hl.1 (c1.recv hC f0 rfl) rfl (c_J4_setLength_d00df l D tk N0 sa s.heap.size a9 v0 c0 n0 ml (hA _ g_f0) (hA _ g_hB) (by omega) (by omega)) kw_703 kw_704 kw_705 kw_19 kw_706 (n := 1) (by decide +kernel) rfl ⟨⟨rfl, rfl⟩, ⟨Nat.le_of_ble_eq_true rfl, Nat.le_of_ble_eq_true rfl⟩, (by dsimp only; omega), (by dsimp only; omega)⟩ rfl (Nat.le_of_ble_eq_true rfl) ⟨f0, hB⟩ dX3_mixedWithTally_2) hS (inA2.to g_f0 g_hB) hn (fun H locs hR hz hk hS => ?_)
  have hW := hW.kept (fun k hk9 => hk _ (hW k hk9).lt (inA2.not (nW_f0 k hk9) (nW_hB k hk9) (hW k hk9).lt))
  obtain ⟨v_3, ml_3, hv_3, f0, hB⟩ := hR
  have g_hB := hv_3.elim (fun e9 => e9 ▸ g_hB) (fun z9 => hn _ (Nat.le_trans hZ0_ z9))
  have nW_hB : ∀ k, k < 22 → ad k ≠ v_3 := fun k hk9 => hv_3.elim (fun e9 => e9 ▸ nW_hB k hk9) (fun z9 => Nat.ne_of_lt (Nat.lt_of_lt_of_le (t_hW k hk9) z9))
  have hv_3 := hv_3.imp_right (fun z9 => Nat.le_trans hZ0_ z9)
  rw [(tx_gz c0).1] at hB
  refine lv_aload_n (pc := 5) hx hb dX3_mixedWithTally_5 rfl (lv_at hl 2 rfl) ?_
  refine lv_aload_n (pc := 6) hx hb dX3_mixedWithTally_6 rfl (lv_at hl 0 rfl) ?_
  refine r_get (pc := 7) E hC hW.obj 2 (v := .ref (ad 21)) rfl rfl (by decide) uX3 (List.mem_cons_of_mem _ kw_116) (fun _ h => h) dX3_mixedWithTally_7 ?_
  refine r_getN (pc := 10) "Bestratios" E hC hW.tal 0 (v := .ref (ad 9)) rfl rfl (by decide) uX1 kn_85 (fun _ h => h) dX3_mixedWithTally_10 ?_
  have hZ0_ := hS.1
  have t_hW := fun k (hk9 : k < 22) => (hW k hk9).lt
  have t_f0 := f0.lt
  have t_hB := hB.lt
  obtain ⟨Q_4, eQ_4⟩ : ∃ z9 : Nat × Nat, z9 = tx_wf (tT g 9) (tB g 9) (0, c0) := ⟨_, rfl⟩
  have e2Q_4 : (tx_wf (tT g 9) (tB g 9) (0, c0)).2 = Q_4.2 := by rw [eQ_4]
  have e1Q_4 : (tx_wf (tT g 9) (tB g 9) (0, c0)).1 = Q_4.1 := by rw [eQ_4]
  have hQ_4 := tx_wf_ok (tT g 9) (tB g 9) (q := (0, c0)) (by dsimp only; omega)
  rw [← eQ_4] at hQ_4; dsimp only [tx_ok] at hQ_4
  have hm1 := tx_mt_m1 g kp (n0, c0)
  dsimp only at hm1
  rw [← eQ_4] at hm1
  refine k_v (pc := 13) (k_S E hC hS hA hl.1 (c_X3_writeFraction l D tk N0 sa hAD H.size g 9 (by decide) a9 v_3 0 c0 ml_3 (hA _ g_f0) (hA _ g_hB) (by omega) (by omega)) kw_514 kw_515 kw_1 kw_516 (n := 2) (by decide +kernel) rfl ⟨⟨rfl, rfl⟩, ⟨Nat.le_of_ble_eq_true rfl, Nat.le_of_ble_eq_true rfl⟩, (by dsimp only; omega), (by dsimp only; omega)⟩ rfl (Nat.le_of_ble_eq_true rfl) ⟨hW, f0, hB⟩ dX3_mixedWithTally_13) hS (inA2.to g_f0 g_hB) hn (fun H locs hR hz hk hS => ?_)
  have hW := hW.kept (fun k hk9 => hk _ (hW k hk9).lt (inA2.not (nW_f0 k hk9) (nW_hB k hk9) (hW k hk9).lt))
  obtain ⟨v_6, ml_6, hv_6, f0, hB⟩ := hR
  have g_hB := hv_6.elim (fun e9 => e9 ▸ g_hB) (fun z9 => hn _ (Nat.le_trans hZ0_ z9))
  have nW_hB : ∀ k, k < 22 → ad k ≠ v_6 := fun k hk9 => hv_6.elim (fun e9 => e9 ▸ nW_hB k hk9) (fun z9 => Nat.ne_of_lt (Nat.lt_of_lt_of_le (t_hW k hk9) z9))
  have hv_6 := hv_6.imp_right (fun z9 => Nat.le_trans hZ0_ z9)
  have hv_6 := hv_6.elim (fun e9 => e9 ▸ hv_3) Or.inr
  rw [← eQ_4] at f0 hB
  refine lv_lload_n (pc := 16) hx hb dX3_mixedWithTally_16 rfl (lv_at hl 1 rfl) ?_
  refine lv_aload_n (pc := 17) hx hb dX3_mixedWithTally_17 rfl (lv_at hl 2 rfl) ?_
  refine k_i (pc := 18) (k_V E hC hS hA hl.1 (c1.recv hC f0 rfl) rfl (c_J4_length_8abf5 l D tk N0 sa H.size a9 v_6 Q_4.2 ml_6 (nI Q_4.1)) kw_777 kw_337 kw_1820 kw_19 kw_338 (n := 0) (by decide +kernel) rfl ⟨⟨rfl, rfl⟩, ⟨Nat.le_of_ble_eq_true rfl, Nat.le_of_ble_eq_true rfl⟩, (by dsimp only; omega), (by dsimp only; omega)⟩ rfl (Nat.le_of_ble_eq_true rfl) ⟨f0, hB⟩ dX3_mixedWithTally_18) hS (fun q z w => absurd w (Nat.not_le.mpr z)) hn (fun r_8 H locs hR hz hk hS => ?_)
  have hW := hW.new hk
  have f0 := f0.kept (hk _ f0.lt (Nat.not_le.mpr f0.lt))
  have hB := hB.kept (hk _ hB.lt (Nat.not_le.mpr hB.lt))
  rw [show r_8 = nI Q_4.1 from hR]
  refine lv_i2l (pc := 21) (v := (nI Q_4.1).toInt64) hx hb dX3_mixedWithTally_21 rfl ?_
  refine k_l (pc := 22) (k_S E hC hS hA hl.1 (c_X3_mixed l D tk N0 sa H.size s0_ ((nI Q_4.1).toInt64) ) kw_682 kw_683 kw_1 kw_684 (n := 2) (by decide +kernel) rfl ⟨⟨rfl, rfl⟩, ⟨Nat.le_of_ble_eq_true rfl, Nat.le_of_ble_eq_true rfl⟩, (by dsimp only; omega), (by dsimp only; omega)⟩ rfl (Nat.le_of_ble_eq_true rfl) trivial dX3_mixedWithTally_22) hS (fun q z w => absurd w (Nat.not_le.mpr z)) hn (fun r_9 H locs hR hz hk hS => ?_)
  have er_9 := hR
  have hW := hW.new hk
  have f0 := f0.kept (hk _ f0.lt (Nat.not_le.mpr f0.lt))
  have hB := hB.kept (hk _ hB.lt (Nat.not_le.mpr hB.lt))
  refine lv_lstore (pc := 25) (lv' := [(4, .long r_9), (0, .ref (ad 15)), (1, .long s0_), (3, .ref a9)]) hx hb dX3_mixedWithTally_25 hl (by decide) rfl (fun ls hl => ?_)
  refine lv_aload_n (pc := 27) hx hb dX3_mixedWithTally_27 rfl (lv_at hl 3 rfl) ?_
  refine lv_iconst (pc := 28) (v := 0) hx hb dX3_mixedWithTally_28 (by decide) ?_
  have hZ0_ := hS.1
  have t_hW := fun k (hk9 : k < 22) => (hW k hk9).lt
  have t_f0 := f0.lt
  have t_hB := hB.lt
  have hz_11 := tx_gz Q_4.2
  refine k_v (pc := 29) (k_V E hC hS hA hl.1 (c1.recv hC f0 rfl) rfl (c_J4_setLength_d00df l D tk N0 sa H.size a9 v_6 Q_4.2 Q_4.1 ml_6 (hA _ g_f0) (hA _ g_hB) (by omega) (by omega)) kw_703 kw_704 kw_705 kw_19 kw_706 (n := 1) (by decide +kernel) rfl ⟨⟨rfl, rfl⟩, ⟨Nat.le_of_ble_eq_true rfl, Nat.le_of_ble_eq_true rfl⟩, (by dsimp only; omega), (by dsimp only; omega)⟩ rfl (Nat.le_of_ble_eq_true rfl) ⟨f0, hB⟩ dX3_mixedWithTally_29) hS (inA2.to g_f0 g_hB) hn (fun H locs hR hz hk hS => ?_)
  have hW := hW.kept (fun k hk9 => hk _ (hW k hk9).lt (inA2.not (nW_f0 k hk9) (nW_hB k hk9) (hW k hk9).lt))
  obtain ⟨v_13, ml_13, hv_13, f0, hB⟩ := hR
  have g_hB := hv_13.elim (fun e9 => e9 ▸ g_hB) (fun z9 => hn _ (Nat.le_trans hZ0_ z9))
  have nW_hB : ∀ k, k < 22 → ad k ≠ v_13 := fun k hk9 => hv_13.elim (fun e9 => e9 ▸ nW_hB k hk9) (fun z9 => Nat.ne_of_lt (Nat.lt_of_lt_of_le (t_hW k hk9) z9))
  have hv_13 := hv_13.imp_right (fun z9 => Nat.le_trans hZ0_ z9)
  have hv_13 := hv_13.elim (fun e9 => e9 ▸ hv_6) Or.inr
  rw [(tx_gz Q_4.2).1] at hB
  refine lv_aload_n (pc := 32) hx hb dX3_mixedWithTally_32 rfl (lv_at hl 1 rfl) ?_
  refine lv_aload_n (pc := 33) hx hb dX3_mixedWithTally_33 rfl (lv_at hl 3 rfl) ?_
  have hZ0_ := hS.1
  have t_hW := fun k (hk9 : k < 22) => (hW k hk9).lt
  have t_f0 := f0.lt
  have t_hB := hB.lt
  obtain ⟨Q_14, eQ_14⟩ : ∃ z9 : Nat × Nat, z9 = tx_wd (f_cutNum (tT g 10) (tB g 10) (tI g 3) 0) kp (0, Q_4.2) := ⟨_, rfl⟩
  have e2Q_14 : (tx_wd (f_cutNum (tT g 10) (tB g 10) (tI g 3) 0) kp (0, Q_4.2)).2 = Q_14.2 := by rw [eQ_14]
  have e1Q_14 : (tx_wd (f_cutNum (tT g 10) (tB g 10) (tI g 3) 0) kp (0, Q_4.2)).1 = Q_14.1 := by rw [eQ_14]
  have hQ_14 := tx_wd_ok (f_cutNum (tT g 10) (tB g 10) (tI g 3) 0) kp (q := (0, Q_4.2)) (by dsimp only; omega)
  rw [← eQ_14] at hQ_14; dsimp only [tx_ok] at hQ_14
  have hm2 := tx_mt_m2 g kp (n0, c0)
  dsimp only at hm2
  rw [← eQ_4, ← eQ_14] at hm2
  refine k_v (pc := 34) (k_V E hC hS hA hl.1 (c1.recv hC hW.obj rfl) rfl (c_X3_writeRounded l D tk N0 sa hAD H.size g a9 v_13 0 Q_4.2 ml_13 (hA _ g_f0) (hA _ g_hB) (by omega) (by omega) kp hpl hkp hdg) kw_521 kw_523 kp_1 kw_1 kw_524 (n := 1) (by decide +kernel) rfl ⟨⟨rfl, rfl⟩, ⟨Nat.le_of_ble_eq_true rfl, Nat.le_of_ble_eq_true rfl⟩, (by dsimp only; omega), (by dsimp only; omega)⟩ rfl (Nat.le_of_ble_eq_true rfl) ⟨hW, f0, hB⟩ dX3_mixedWithTally_34) hS (inA2.to g_f0 g_hB) hn (fun H locs hR hz hk hS => ?_)
  have hW := hW.kept (fun k hk9 => hk _ (hW k hk9).lt (inA2.not (nW_f0 k hk9) (nW_hB k hk9) (hW k hk9).lt))
  obtain ⟨v_16, ml_16, hv_16, f0, hB⟩ := hR
  have g_hB := hv_16.elim (fun e9 => e9 ▸ g_hB) (fun z9 => hn _ (Nat.le_trans hZ0_ z9))
  have nW_hB : ∀ k, k < 22 → ad k ≠ v_16 := fun k hk9 => hv_16.elim (fun e9 => e9 ▸ nW_hB k hk9) (fun z9 => Nat.ne_of_lt (Nat.lt_of_lt_of_le (t_hW k hk9) z9))
  have hv_16 := hv_16.imp_right (fun z9 => Nat.le_trans hZ0_ z9)
  have hv_16 := hv_16.elim (fun e9 => e9 ▸ hv_13) Or.inr
  rw [← eQ_14] at f0 hB
  refine lv_lload (pc := 37) hx hb dX3_mixedWithTally_37 (lv_at hl 0 rfl) ?_
  refine lv_aload_n (pc := 39) hx hb dX3_mixedWithTally_39 rfl (lv_at hl 3 rfl) ?_
  refine k_i (pc := 40) (k_V E hC hS hA hl.1 (c1.recv hC f0 rfl) rfl (c_J4_length_8abf5 l D tk N0 sa H.size a9 v_16 Q_14.2 ml_16 (nI Q_14.1)) kw_777 kw_337 kw_1820 kw_19 kw_338 (n := 0) (by decide +kernel) rfl ⟨⟨rfl, rfl⟩, ⟨Nat.le_of_ble_eq_true rfl, Nat.le_of_ble_eq_true rfl⟩, (by dsimp only; omega), (by dsimp only; omega)⟩ rfl (Nat.le_of_ble_eq_true rfl) ⟨f0, hB⟩ dX3_mixedWithTally_40) hS (fun q z w => absurd w (Nat.not_le.mpr z)) hn (fun r_18 H locs hR hz hk hS => ?_)
  have hW := hW.new hk
  have f0 := f0.kept (hk _ f0.lt (Nat.not_le.mpr f0.lt))
  have hB := hB.kept (hk _ hB.lt (Nat.not_le.mpr hB.lt))
  rw [show r_18 = nI Q_14.1 from hR]
  refine lv_i2l (pc := 43) (v := (nI Q_14.1).toInt64) hx hb dX3_mixedWithTally_43 rfl ?_
  refine k_l (pc := 44) (k_S E hC hS hA hl.1 (c_X3_mixed l D tk N0 sa H.size r_9 ((nI Q_14.1).toInt64) ) kw_682 kw_683 kw_1 kw_684 (n := 2) (by decide +kernel) rfl ⟨⟨rfl, rfl⟩, ⟨Nat.le_of_ble_eq_true rfl, Nat.le_of_ble_eq_true rfl⟩, (by dsimp only; omega), (by dsimp only; omega)⟩ rfl (Nat.le_of_ble_eq_true rfl) trivial dX3_mixedWithTally_44) hS (fun q z w => absurd w (Nat.not_le.mpr z)) hn (fun r_19 H locs hR hz hk hS => ?_)
  have er_19 := hR
  have hW := hW.new hk
  have f0 := f0.kept (hk _ f0.lt (Nat.not_le.mpr f0.lt))
  have hB := hB.kept (hk _ hB.lt (Nat.not_le.mpr hB.lt))
  refine lv_lstore (pc := 47) (lv' := [(4, .long r_19), (0, .ref (ad 15)), (1, .long s0_), (3, .ref a9)]) hx hb dX3_mixedWithTally_47 hl (by decide) rfl (fun ls hl => ?_)
  refine lv_aload_n (pc := 49) hx hb dX3_mixedWithTally_49 rfl (lv_at hl 3 rfl) ?_
  refine lv_iconst (pc := 50) (v := 0) hx hb dX3_mixedWithTally_50 (by decide) ?_
  have hZ0_ := hS.1
  have t_hW := fun k (hk9 : k < 22) => (hW k hk9).lt
  have t_f0 := f0.lt
  have t_hB := hB.lt
  have hz_21 := tx_gz Q_14.2
  refine k_v (pc := 51) (k_V E hC hS hA hl.1 (c1.recv hC f0 rfl) rfl (c_J4_setLength_d00df l D tk N0 sa H.size a9 v_16 Q_14.2 Q_14.1 ml_16 (hA _ g_f0) (hA _ g_hB) (by omega) (by omega)) kw_703 kw_704 kw_705 kw_19 kw_706 (n := 1) (by decide +kernel) rfl ⟨⟨rfl, rfl⟩, ⟨Nat.le_of_ble_eq_true rfl, Nat.le_of_ble_eq_true rfl⟩, (by dsimp only; omega), (by dsimp only; omega)⟩ rfl (Nat.le_of_ble_eq_true rfl) ⟨f0, hB⟩ dX3_mixedWithTally_51) hS (inA2.to g_f0 g_hB) hn (fun H locs hR hz hk hS => ?_)
  have hW := hW.kept (fun k hk9 => hk _ (hW k hk9).lt (inA2.not (nW_f0 k hk9) (nW_hB k hk9) (hW k hk9).lt))
  obtain ⟨v_23, ml_23, hv_23, f0, hB⟩ := hR
  have g_hB := hv_23.elim (fun e9 => e9 ▸ g_hB) (fun z9 => hn _ (Nat.le_trans hZ0_ z9))
  have nW_hB : ∀ k, k < 22 → ad k ≠ v_23 := fun k hk9 => hv_23.elim (fun e9 => e9 ▸ nW_hB k hk9) (fun z9 => Nat.ne_of_lt (Nat.lt_of_lt_of_le (t_hW k hk9) z9))
  have hv_23 := hv_23.imp_right (fun z9 => Nat.le_trans hZ0_ z9)
  have hv_23 := hv_23.elim (fun e9 => e9 ▸ hv_16) Or.inr
  rw [(tx_gz Q_14.2).1] at hB
  refine lv_aload_n (pc := 54) hx hb dX3_mixedWithTally_54 rfl (lv_at hl 3 rfl) ?_
  refine lv_aload_n (pc := 55) hx hb dX3_mixedWithTally_55 rfl (lv_at hl 1 rfl) ?_
  refine r_get (pc := 56) E hC hW.obj 2 (v := .ref (ad 21)) rfl rfl (by decide) uX3 (List.mem_cons_of_mem _ kw_116) (fun _ h => h) dX3_mixedWithTally_56 ?_
  refine r_getN (pc := 59) "Bestratios" E hC hW.tal 2 (v := .ref (ad 11)) rfl rfl (by decide) uX1 kn_89 (fun _ h => h) dX3_mixedWithTally_59 ?_
  have hZ0_ := hS.1
  have t_hW := fun k (hk9 : k < 22) => (hW k hk9).lt
  have t_f0 := f0.lt
  have t_hB := hB.lt
  obtain ⟨Q_24, eQ_24⟩ : ∃ z9 : Nat × Nat, z9 = tx_wf (tT g 11) (tB g 11) (0, Q_14.2) := ⟨_, rfl⟩
  have e2Q_24 : (tx_wf (tT g 11) (tB g 11) (0, Q_14.2)).2 = Q_24.2 := by rw [eQ_24]
  have e1Q_24 : (tx_wf (tT g 11) (tB g 11) (0, Q_14.2)).1 = Q_24.1 := by rw [eQ_24]
  have hQ_24 := tx_wf_ok (tT g 11) (tB g 11) (q := (0, Q_14.2)) (by dsimp only; omega)
  rw [← eQ_24] at hQ_24; dsimp only [tx_ok] at hQ_24
  have hm3 : tx_mt g kp (n0, c0) = Q_24 := by rw [eQ_24, eQ_14, eQ_4]; rfl
  have hm4 : (tx_mt g kp (n0, c0)).2 = Q_24.2 := by rw [hm3]
  refine k_v (pc := 62) (k_S E hC hS hA hl.1 (c_X3_writeFraction l D tk N0 sa hAD H.size g 11 (by decide) a9 v_23 0 Q_14.2 ml_23 (hA _ g_f0) (hA _ g_hB) (by omega) (by omega)) kw_514 kw_515 kw_1 kw_516 (n := 2) (by decide +kernel) rfl ⟨⟨rfl, rfl⟩, ⟨Nat.le_of_ble_eq_true rfl, Nat.le_of_ble_eq_true rfl⟩, (by dsimp only; omega), (by dsimp only; omega)⟩ rfl (Nat.le_of_ble_eq_true rfl) ⟨hW, f0, hB⟩ dX3_mixedWithTally_62) hS (inA2.to g_f0 g_hB) hn (fun H locs hR hz hk hS => ?_)
  have hW := hW.kept (fun k hk9 => hk _ (hW k hk9).lt (inA2.not (nW_f0 k hk9) (nW_hB k hk9) (hW k hk9).lt))
  obtain ⟨v_26, ml_26, hv_26, f0, hB⟩ := hR
  have g_hB := hv_26.elim (fun e9 => e9 ▸ g_hB) (fun z9 => hn _ (Nat.le_trans hZ0_ z9))
  have nW_hB : ∀ k, k < 22 → ad k ≠ v_26 := fun k hk9 => hv_26.elim (fun e9 => e9 ▸ nW_hB k hk9) (fun z9 => Nat.ne_of_lt (Nat.lt_of_lt_of_le (t_hW k hk9) z9))
  have hv_26 := hv_26.imp_right (fun z9 => Nat.le_trans hZ0_ z9)
  have hv_26 := hv_26.elim (fun e9 => e9 ▸ hv_23) Or.inr
  rw [← eQ_24] at f0 hB
  refine lv_lload (pc := 65) hx hb dX3_mixedWithTally_65 (lv_at hl 0 rfl) ?_
  refine lv_aload_n (pc := 67) hx hb dX3_mixedWithTally_67 rfl (lv_at hl 3 rfl) ?_
  refine k_i (pc := 68) (k_V E hC hS hA hl.1 (c1.recv hC f0 rfl) rfl (c_J4_length_8abf5 l D tk N0 sa H.size a9 v_26 Q_24.2 ml_26 (nI Q_24.1)) kw_777 kw_337 kw_1820 kw_19 kw_338 (n := 0) (by decide +kernel) rfl ⟨⟨rfl, rfl⟩, ⟨Nat.le_of_ble_eq_true rfl, Nat.le_of_ble_eq_true rfl⟩, (by dsimp only; omega), (by dsimp only; omega)⟩ rfl (Nat.le_of_ble_eq_true rfl) ⟨f0, hB⟩ dX3_mixedWithTally_68) hS (fun q z w => absurd w (Nat.not_le.mpr z)) hn (fun r_28 H locs hR hz hk hS => ?_)
  have hW := hW.new hk
  have f0 := f0.kept (hk _ f0.lt (Nat.not_le.mpr f0.lt))
  have hB := hB.kept (hk _ hB.lt (Nat.not_le.mpr hB.lt))
  rw [show r_28 = nI Q_24.1 from hR]
  refine lv_i2l (pc := 71) (v := (nI Q_24.1).toInt64) hx hb dX3_mixedWithTally_71 rfl ?_
  refine k_l (pc := 72) (k_S E hC hS hA hl.1 (c_X3_mixed l D tk N0 sa H.size r_19 ((nI Q_24.1).toInt64) ) kw_682 kw_683 kw_1 kw_684 (n := 2) (by decide +kernel) rfl ⟨⟨rfl, rfl⟩, ⟨Nat.le_of_ble_eq_true rfl, Nat.le_of_ble_eq_true rfl⟩, (by dsimp only; omega), (by dsimp only; omega)⟩ rfl (Nat.le_of_ble_eq_true rfl) trivial dX3_mixedWithTally_72) hS (fun q z w => absurd w (Nat.not_le.mpr z)) hn (fun r_29 H locs hR hz hk hS => ?_)
  have er_29 := hR
  have hW := hW.new hk
  have f0 := f0.kept (hk _ f0.lt (Nat.not_le.mpr f0.lt))
  have hB := hB.kept (hk _ hB.lt (Nat.not_le.mpr hB.lt))
  refine r_lret (pc := 75) E hr hlk hS (by omega) (by omega) ?_ dX3_mixedWithTally_75
  rw [hm3]
  exact ⟨_, _, hv_26, f0, hB⟩
