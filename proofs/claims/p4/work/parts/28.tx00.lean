set_option maxHeartbeats 4000000 in
set_option maxRecDepth 100000 in
/-- Bestratios.writeFraction(Ljava/lang/StringBuilder;LBestratios$Fraction;)V -/
theorem c_X3_writeFraction (l : Launch) (D : va_G) (tk : Nat → ClassId) (N0 : Nat) (sa : Nat → Nat) {ad : Nat → Nat} (hAD : ADok N0 ad) (sz : Nat) (g : CS) (i : Nat) (hi : i < 15) (a9 v0 n0 c0 : Nat) (ml : Int32) (ha9 : N0 ≤ a9) (hv0 : N0 ≤ v0) (hn9 : n0 ≤ c0) (hcap : c0 ≤ 100000) : Met l yX3_writeFraction (wsy yX3_writeFraction cX3_writeFraction 2 none) ({ frames := 6, cells := (tx_wf (tT g i) (tB g i) (n0, c0)).2 - c0, slots := 2 * ((tx_wf (tT g i) (tB g i) (n0, c0)).2 - c0), locals := 135 } : Room) (cP D tk N0 sa [.ref a9, .ref (ad i)] sz (fun H => CW D tk ad g H ∧ SBo D a9 v0 ml (nI n0) H ∧ BA D tk v0 c0 H)) (kQv (fun H => (∃ v1 ml1, (v1 = v0 ∨ sz ≤ v1) ∧ SBo D a9 v1 ml1 (nI (tx_wf (tT g i) (tB g i) (n0, c0)).1) H ∧ BA D tk v1 (tx_wf (tT g i) (tB g i) (n0, c0)).2 H)) (inA2 a9 v0 sz)) ((tx_wf (tT g i) (tB g i) (n0, c0)).2 - c0) (2 * ((tx_wf (tT g i) (tB g i) (n0, c0)).2 - c0)) (inA2 a9 v0 sz) := by
  refine mStart RX3 rfl (by decide +kernel) (Nat.le_of_ble_eq_true rfl) ?_
  intro p e s m args below meth c E hr hlk hnm hsz hC hF ls hl
  subst hsz
  obtain ⟨hx, hb, -⟩ := id E
  have hA : ∀ q, (inA2 a9 v0 s.heap.size) q → N0 ≤ q := fun q h => h.elim (fun z => z ▸ ha9) (fun z => z.elim (fun w => w ▸ hv0) (fun w => Nat.le_trans hC.2.1 w))
  have hn : ∀ q, s.heap.size ≤ q → (inA2 a9 v0 s.heap.size) q := fun q h => Or.inr (Or.inr h)
  have hS : va_S (inA2 a9 v0 s.heap.size) s.heap s.heap [] := va_S.rf
  have hl : lv_has ls 2 [(0, .ref a9), (1, .ref (ad i))] := hl
  obtain ⟨hW, f0, hB⟩ : CW D tk ad g s.heap ∧ SBo D a9 v0 ml (nI n0) s.heap ∧ BA D tk v0 c0 s.heap := hF
  have g_f0 : (inA2 a9 v0 s.heap.size) a9 := Or.inl rfl
  have g_hB : (inA2 a9 v0 s.heap.size) v0 := Or.inr (Or.inl rfl)
  have nW_f0 := cwO hC hW f0.cl
  have nW_hB := cwB hC hW hB.cl
  have hd1 := dgI_le (tT g i).toInt32
  have hd2 := dgI_le (tB g i).toInt32
  have hz1 := tx_gb c0 (n0 + dgI (tT g i).toInt32)
  have hm1 : sbC c0 (n0 + dgI (tT g i).toInt32) ≤ (tx_wf (tT g i) (tB g i) (n0, c0)).2 := tx_wf_m1 (tT g i) (tB g i) (n0, c0)
  refine lv_aload_n (pc := 0) hx hb dX3_writeFraction_0 rfl (lv_at hl 0 rfl) ?_
  refine lv_aload_n (pc := 1) hx hb dX3_writeFraction_1 rfl (lv_at hl 1 rfl) ?_
  refine r_getN (pc := 2) "Bestratios" E hC (hW.fr (i := i) hi) 0 (v := .long (tT g i)) rfl rfl (by decide) uX0 kn_52 (fun _ h => h) dX3_writeFraction_2 ?_
  refine lv_l2i (pc := 5) (v := (tT g i).toInt32) hx hb dX3_writeFraction_5 rfl ?_
  have hZ0_ := hS.1
  have t_hW := fun k (hk9 : k < 22) => (hW k hk9).lt
  have t_f0 := f0.lt
  have t_hB := hB.lt
  refine k_r (pc := 6) (k_V E hC hS hA hl.1 (c1.recv hC f0 rfl) rfl (c_J4_append_bf812 l D tk N0 sa s.heap.size a9 v0 c0 n0 ml ((tT g i).toInt32) (hA _ g_f0) (hA _ g_hB) (by omega) (by omega)) kw_281 kw_282 kw_283 kw_19 kw_284 (n := 1) (by decide +kernel) rfl ⟨⟨rfl, rfl⟩, ⟨Nat.le_of_ble_eq_true rfl, Nat.le_of_ble_eq_true rfl⟩, (by dsimp only; omega), (by dsimp only; omega)⟩ rfl (Nat.le_of_ble_eq_true rfl) ⟨f0, hB⟩ dX3_writeFraction_6) hS (inA2.to g_f0 g_hB) hn (fun r_1 H locs hR hz hk hS => ?_)
  have hW := hW.kept (fun k hk9 => hk _ (hW k hk9).lt (inA2.not (nW_f0 k hk9) (nW_hB k hk9) (hW k hk9).lt))
  obtain ⟨er9, hR⟩ := hR
  rw [er9]
  obtain ⟨v_2, hv_2, f0, hB⟩ := hR
  have g_hB := hv_2.elim (fun e9 => e9 ▸ g_hB) (fun z9 => hn _ (Nat.le_trans hZ0_ z9))
  have nW_hB : ∀ k, k < 22 → ad k ≠ v_2 := fun k hk9 => hv_2.elim (fun e9 => e9 ▸ nW_hB k hk9) (fun z9 => Nat.ne_of_lt (Nat.lt_of_lt_of_le (t_hW k hk9) z9))
  have hv_2 := hv_2.imp_right (fun z9 => Nat.le_trans hZ0_ z9)
  refine lv_pop (pc := 9) hx hb dX3_writeFraction_9 rfl ?_
  refine lv_aload_n (pc := 10) hx hb dX3_writeFraction_10 rfl (lv_at hl 1 rfl) ?_
  refine r_getN (pc := 11) "Bestratios" E hC (hW.fr (i := i) hi) 1 (v := .long (tB g i)) rfl rfl (by decide) uX0 kn_55 (fun _ h => h) dX3_writeFraction_11 ?_
  refine lv_lconst (pc := 14) (v := 1) hx hb dX3_writeFraction_14 (by decide) ?_
  refine r_lceq (pc := 15) (tgt := 36) E dX3_writeFraction_15 dX3_writeFraction_16 (by decide) (fun c_3 => ?_) (fun c_3 => ?_)
  · have hR9 : tx_wf (tT g i) (tB g i) (n0, c0) = (n0 + dgI (tT g i).toInt32, sbC c0 (n0 + dgI (tT g i).toInt32)) := by rw [tx_wf, if_pos c_3]; rfl
    have hR2 : (tx_wf (tT g i) (tB g i) (n0, c0)).2 = sbC c0 (n0 + dgI (tT g i).toInt32) := by rw [hR9]
    refine r_vret (pc := 36) E hr hlk hS (by omega) (by omega) ?_ dX3_writeFraction_36
    rw [hR9]
    exact ⟨_, _, hv_2, f0, hB⟩
  · have hR9 : tx_wf (tT g i) (tB g i) (n0, c0) = (n0 + dgI (tT g i).toInt32 + 1 + dgI (tB g i).toInt32, sbC (sbC (sbC c0 (n0 + dgI (tT g i).toInt32)) (n0 + dgI (tT g i).toInt32 + 1)) (n0 + dgI (tT g i).toInt32 + 1 + dgI (tB g i).toInt32)) := by rw [tx_wf, if_neg c_3]; rfl
    have hR2 : (tx_wf (tT g i) (tB g i) (n0, c0)).2 = sbC (sbC (sbC c0 (n0 + dgI (tT g i).toInt32)) (n0 + dgI (tT g i).toInt32 + 1)) (n0 + dgI (tT g i).toInt32 + 1 + dgI (tB g i).toInt32) := by rw [hR9]
    have hz2 := tx_gb (sbC c0 (n0 + dgI (tT g i).toInt32)) (n0 + dgI (tT g i).toInt32 + 1)
    have hz3 := tx_gb (sbC (sbC c0 (n0 + dgI (tT g i).toInt32)) (n0 + dgI (tT g i).toInt32 + 1)) (n0 + dgI (tT g i).toInt32 + 1 + dgI (tB g i).toInt32)
    refine lv_aload_n (pc := 19) hx hb dX3_writeFraction_19 rfl (lv_at hl 0 rfl) ?_
    refine lv_bipush (pc := 20) (v := 47) hx hb dX3_writeFraction_20 (by decide) ?_
    have hZ0_ := hS.1
    have t_hW := fun k (hk9 : k < 22) => (hW k hk9).lt
    have t_f0 := f0.lt
    have t_hB := hB.lt
    refine k_r (pc := 22) (k_V E hC hS hA hl.1 (c1.recv hC f0 rfl) rfl (c_J4_append_cf468 l D tk N0 sa H.size a9 v_2 (sbC c0 (n0 + dgI ((tT g i).toInt32))) (n0 + dgI ((tT g i).toInt32)) ml 47 47 (hA _ g_f0) (hA _ g_hB) (by omega) (by omega) rfl (by decide)) kw_182 kw_183 kw_184 kw_19 kw_185 (n := 1) (by decide +kernel) rfl ⟨⟨rfl, rfl⟩, ⟨Nat.le_of_ble_eq_true rfl, Nat.le_of_ble_eq_true rfl⟩, (by dsimp only; omega), (by dsimp only; omega)⟩ rfl (Nat.le_of_ble_eq_true rfl) ⟨f0, hB⟩ dX3_writeFraction_22) hS (inA2.to g_f0 g_hB) hn (fun r_4 H locs hR hz hk hS => ?_)
    have hW := hW.kept (fun k hk9 => hk _ (hW k hk9).lt (inA2.not (nW_f0 k hk9) (nW_hB k hk9) (hW k hk9).lt))
    obtain ⟨er9, hR⟩ := hR
    rw [er9]
    obtain ⟨v_5, hv_5, f0, hB⟩ := hR
    have g_hB := hv_5.elim (fun e9 => e9 ▸ g_hB) (fun z9 => hn _ (Nat.le_trans hZ0_ z9))
    have nW_hB : ∀ k, k < 22 → ad k ≠ v_5 := fun k hk9 => hv_5.elim (fun e9 => e9 ▸ nW_hB k hk9) (fun z9 => Nat.ne_of_lt (Nat.lt_of_lt_of_le (t_hW k hk9) z9))
    have hv_5 := hv_5.imp_right (fun z9 => Nat.le_trans hZ0_ z9)
    have hv_5 := hv_5.elim (fun e9 => e9 ▸ hv_2) Or.inr
    refine lv_pop (pc := 25) hx hb dX3_writeFraction_25 rfl ?_
    refine lv_aload_n (pc := 26) hx hb dX3_writeFraction_26 rfl (lv_at hl 0 rfl) ?_
    refine lv_aload_n (pc := 27) hx hb dX3_writeFraction_27 rfl (lv_at hl 1 rfl) ?_
    refine r_getN (pc := 28) "Bestratios" E hC (hW.fr (i := i) hi) 1 (v := .long (tB g i)) rfl rfl (by decide) uX0 kn_55 (fun _ h => h) dX3_writeFraction_28 ?_
    refine lv_l2i (pc := 31) (v := (tB g i).toInt32) hx hb dX3_writeFraction_31 rfl ?_
    have hZ0_ := hS.1
    have t_hW := fun k (hk9 : k < 22) => (hW k hk9).lt
    have t_f0 := f0.lt
    have t_hB := hB.lt
    refine k_r (pc := 32) (k_V E hC hS hA hl.1 (c1.recv hC f0 rfl) rfl (c_J4_append_bf812 l D tk N0 sa H.size a9 v_5 (sbC (sbC c0 (n0 + dgI ((tT g i).toInt32))) ((n0 + dgI ((tT g i).toInt32)) + 1)) ((n0 + dgI ((tT g i).toInt32)) + 1) ml ((tB g i).toInt32) (hA _ g_f0) (hA _ g_hB) (by omega) (by omega)) kw_281 kw_282 kw_283 kw_19 kw_284 (n := 1) (by decide +kernel) rfl ⟨⟨rfl, rfl⟩, ⟨Nat.le_of_ble_eq_true rfl, Nat.le_of_ble_eq_true rfl⟩, (by dsimp only; omega), (by dsimp only; omega)⟩ rfl (Nat.le_of_ble_eq_true rfl) ⟨f0, hB⟩ dX3_writeFraction_32) hS (inA2.to g_f0 g_hB) hn (fun r_6 H locs hR hz hk hS => ?_)
    have hW := hW.kept (fun k hk9 => hk _ (hW k hk9).lt (inA2.not (nW_f0 k hk9) (nW_hB k hk9) (hW k hk9).lt))
    obtain ⟨er9, hR⟩ := hR
    rw [er9]
    obtain ⟨v_7, hv_7, f0, hB⟩ := hR
    have g_hB := hv_7.elim (fun e9 => e9 ▸ g_hB) (fun z9 => hn _ (Nat.le_trans hZ0_ z9))
    have nW_hB : ∀ k, k < 22 → ad k ≠ v_7 := fun k hk9 => hv_7.elim (fun e9 => e9 ▸ nW_hB k hk9) (fun z9 => Nat.ne_of_lt (Nat.lt_of_lt_of_le (t_hW k hk9) z9))
    have hv_7 := hv_7.imp_right (fun z9 => Nat.le_trans hZ0_ z9)
    have hv_7 := hv_7.elim (fun e9 => e9 ▸ hv_5) Or.inr
    refine lv_pop (pc := 35) hx hb dX3_writeFraction_35 rfl ?_
    refine r_vret (pc := 36) E hr hlk hS (by omega) (by omega) ?_ dX3_writeFraction_36
    rw [hR9]
    exact ⟨_, _, hv_7, f0, hB⟩
set_option maxHeartbeats 4000000 in
set_option maxRecDepth 100000 in
/-- Bestratios.textOf(LBestratios$Fraction;)Ljava/lang/String; -/
theorem c_X3_textOf (l : Launch) (D : va_G) (tk : Nat → ClassId) (N0 : Nat) (sa : Nat → Nat) {ad : Nat → Nat} (hAD : ADok N0 ad) (sz : Nat) (g : CS) (i : Nat) (hi : i < 15) : Met l yX3_textOf (wsy yX3_textOf cX3_textOf 2 (some (.object "java/lang/String"))) ({ frames := 7, cells := 4 + ((tx_wf (tT g i) (tB g i) (0, 16)).2 - 16), slots := 20 + 2 * ((tx_wf (tT g i) (tB g i) (0, 16)).2 - 16) + (4 + (tx_wf (tT g i) (tB g i) (0, 16)).1), locals := 156 } : Room) (cP D tk N0 sa [.ref (ad i)] sz (fun H => CW D tk ad g H)) (kQr (fun r H => sz ≤ r ∧ SX D tk r ((tx_wf (tT g i) (tB g i) (0, 16)).1) H) (nwA sz)) (4 + ((tx_wf (tT g i) (tB g i) (0, 16)).2 - 16)) (20 + 2 * ((tx_wf (tT g i) (tB g i) (0, 16)).2 - 16) + (4 + (tx_wf (tT g i) (tB g i) (0, 16)).1)) (nwA sz) := by
  refine mStart RX3 rfl (by decide +kernel) (Nat.le_of_ble_eq_true rfl) ?_
  intro p e s m args below meth c E hr hlk hnm hsz hC hF ls hl
  subst hsz
  obtain ⟨hx, hb, -⟩ := id E
  have hA : ∀ q, (nwA s.heap.size) q → N0 ≤ q := fun q h => Nat.le_trans hC.2.1 h
  have hn : ∀ q, s.heap.size ≤ q → (nwA s.heap.size) q := fun q h => h
  have hS : va_S (nwA s.heap.size) s.heap s.heap [] := va_S.rf
  have hl : lv_has ls 2 [(0, .ref (ad i))] := hl
  have hW : CW D tk ad g s.heap := hF
  have hS0_ := hS
  refine r_new (pc := 0) E hC hS tyJ4_ok uJ4 (List.mem_cons_of_mem _ kw_149) (List.mem_cons_of_mem _ kw_150) (List.mem_cons_of_mem _ kw_19) (ci := 1) rfl (fs := [.null, .int 0, .int 0, .int 0]) (by decide) (by dsimp only; omega) (by dsimp only; omega) dX3_textOf_0 (fun qf1 H zq_ n_ ho_ hS => ?_)
  have nW_f1 : ∀ k, k < 22 → ad k ≠ qf1 := fun k hk9 => Nat.ne_of_lt (zq_ ▸ (hW k hk9).lt)
  have hW := hW.kept (fun k hk9 => ho_ _ (hW k hk9).lt)
  have f1 := n_
  have s_f1 : s.heap.size ≤ qf1 := zq_ ▸ hS0_.1
  have g_f1 := hn _ s_f1
  refine lv_dup (pc := 3) hx hb dX3_textOf_3 rfl ?_
  have hZ0_ := hS.1
  have t_hW := fun k (hk9 : k < 22) => (hW k hk9).lt
  have t_f1 := f1.lt
  refine k_v (pc := 4) (k_I E hC hS hA hl.1 (c_J4_init_da8c8 l D tk N0 sa H.size qf1 (hA _ g_f1)) kw_151 kw_152 kw_19 kw_153 rfl (n := 0) (by decide +kernel) rfl ⟨⟨rfl, rfl⟩, ⟨Nat.le_of_ble_eq_true rfl, Nat.le_of_ble_eq_true rfl⟩, (by dsimp only; omega), (by dsimp only; omega)⟩ rfl (Nat.le_of_ble_eq_true rfl) f1 dX3_textOf_4) hS (inA1.to g_f1) hn (fun H locs hR hz hk hS => ?_)
  have hW := hW.kept (fun k hk9 => hk _ (hW k hk9).lt (inA1.not (nW_f1 k hk9) (hW k hk9).lt))
  obtain ⟨q_hB, z9_, f1, hB⟩ := hR
  have s_hB : s.heap.size ≤ q_hB := Nat.le_trans hZ0_ z9_
  have g_hB := hn _ s_hB
  have nW_hB : ∀ k, k < 22 → ad k ≠ q_hB := fun k hk9 => Nat.ne_of_lt (Nat.lt_of_lt_of_le (t_hW k hk9) z9_)
  have l_f1_hB : qf1 < q_hB := Nat.lt_of_lt_of_le t_f1 z9_
  have nW_f1 := cwO hC hW f1.cl
  refine lv_astore_n (pc := 7) (lv' := [(1, .ref qf1), (0, .ref (ad i))]) hx hb dX3_textOf_7 rfl hl (by decide) rfl (fun ls hl => ?_)
  refine lv_aload_n (pc := 8) hx hb dX3_textOf_8 rfl (lv_at hl 0 rfl) ?_
  refine lv_aload_n (pc := 9) hx hb dX3_textOf_9 rfl (lv_at hl 1 rfl) ?_
  have hZ0_ := hS.1
  have t_hW := fun k (hk9 : k < 22) => (hW k hk9).lt
  have t_f1 := f1.lt
  have t_hB := hB.lt
  obtain ⟨Q_3, eQ_3⟩ : ∃ z9 : Nat × Nat, z9 = tx_wf (tT g i) (tB g i) (0, 16) := ⟨_, rfl⟩
  have e2Q_3 : (tx_wf (tT g i) (tB g i) (0, 16)).2 = Q_3.2 := by rw [eQ_3]
  have e1Q_3 : (tx_wf (tT g i) (tB g i) (0, 16)).1 = Q_3.1 := by rw [eQ_3]
  have hQ_3 := tx_wf_ok (tT g i) (tB g i) (q := (0, 16)) (by dsimp only; omega)
  rw [← eQ_3] at hQ_3; dsimp only [tx_ok] at hQ_3
  refine k_v (pc := 10) (k_S E hC hS hA hl.1 (c_X3_writeFraction l D tk N0 sa hAD H.size g i hi qf1 q_hB 0 16 0 (hA _ g_f1) (hA _ g_hB) (by omega) (by omega)) kw_514 kw_515 kw_1 kw_516 (n := 2) (by decide +kernel) rfl ⟨⟨rfl, rfl⟩, ⟨Nat.le_of_ble_eq_true rfl, Nat.le_of_ble_eq_true rfl⟩, (by dsimp only; omega), (by dsimp only; omega)⟩ rfl (Nat.le_of_ble_eq_true rfl) ⟨hW, f1, hB⟩ dX3_textOf_10) hS (inA2.to g_f1 g_hB) hn (fun H locs hR hz hk hS => ?_)
  have hW := hW.kept (fun k hk9 => hk _ (hW k hk9).lt (inA2.not (nW_f1 k hk9) (nW_hB k hk9) (hW k hk9).lt))
  obtain ⟨v_5, ml_5, hv_5, f1, hB⟩ := hR
  have g_hB := hv_5.elim (fun e9 => e9 ▸ g_hB) (fun z9 => hn _ (Nat.le_trans hZ0_ z9))
  have nW_hB : ∀ k, k < 22 → ad k ≠ v_5 := fun k hk9 => hv_5.elim (fun e9 => e9 ▸ nW_hB k hk9) (fun z9 => Nat.ne_of_lt (Nat.lt_of_lt_of_le (t_hW k hk9) z9))
  have l_f1_hB : qf1 < v_5 := hv_5.elim (fun e9 => e9 ▸ l_f1_hB) (fun z9 => Nat.lt_of_lt_of_le t_f1 z9)
  have hv_5 := hv_5.imp_right (fun z9 => Nat.le_trans hZ0_ z9)
  rw [← eQ_3] at f1 hB
  refine lv_aload_n (pc := 13) hx hb dX3_textOf_13 rfl (lv_at hl 0 rfl) ?_
  have hZ0_ := hS.1
  have t_hW := fun k (hk9 : k < 22) => (hW k hk9).lt
  have t_f1 := f1.lt
  have t_hB := hB.lt
  refine k_r (pc := 14) (k_V E hC hS hA hl.1 (c1.recv hC f1 rfl) rfl (c_J4_toString_0e30d l D tk N0 sa H.size qf1 v_5 Q_3.2 Q_3.1 ml_5 (by omega) (by omega)) kw_315 kw_316 kw_317 kw_19 kw_318 (n := 0) (by decide +kernel) rfl ⟨⟨rfl, rfl⟩, ⟨Nat.le_of_ble_eq_true rfl, Nat.le_of_ble_eq_true rfl⟩, (by dsimp only; omega), (by dsimp only; omega)⟩ rfl (Nat.le_of_ble_eq_true rfl) ⟨f1, hB⟩ dX3_textOf_14) hS (fun q z w => absurd w (Nat.not_le.mpr z)) hn (fun r_7 H locs hR hz hk hS => ?_)
  have hW := hW.new hk
  have f1 := f1.kept (hk _ f1.lt (Nat.not_le.mpr f1.lt))
  have hB := hB.kept (hk _ hB.lt (Nat.not_le.mpr hB.lt))
  obtain ⟨q_f8, z9_, y9_, f8⟩ := hR
  have f8 := SM.sx f8
  have zr_f8 : s.heap.size ≤ r_7 := Nat.le_trans hZ0_ z9_
  refine r_aret (pc := 17) E hr (Or.inl ⟨_, rfl⟩) hlk hS (by omega) (by omega) ?_ dX3_textOf_17
  rw [← eQ_3]
  exact ⟨zr_f8, f8⟩
set_option maxHeartbeats 4000000 in
set_option maxRecDepth 100000 in
/-- Bestratios.writeDecimal(Ljava/lang/StringBuilder;JI)V -/
theorem c_X3_writeDecimal (l : Launch) (D : va_G) (tk : Nat → ClassId) (N0 : Nat) (sa : Nat → Nat)  (sz : Nat) (x9 : Int64) (pl : Int32) (a9 v0 n0 c0 : Nat) (ml : Int32) (ha9 : N0 ≤ a9) (hv0 : N0 ≤ v0) (hn9 : n0 ≤ c0) (hcap : c0 ≤ 100000) (kp : Nat) (hpl : pl = nI kp) (hkp : kp ≤ 9) (hdg : txD x9 kp) : Met l yX3_writeDecimal (wsy yX3_writeDecimal cX3_writeDecimal 9 none) ({ frames := 6, cells := (tx_wd x9 kp (n0, c0)).2 - c0, slots := 2 * ((tx_wd x9 kp (n0, c0)).2 - c0), locals := 135 } : Room) (cP D tk N0 sa [.ref a9, .long x9, .int pl] sz (fun H => SBo D a9 v0 ml (nI n0) H ∧ BA D tk v0 c0 H)) (kQv (fun H => (∃ v1 ml1, (v1 = v0 ∨ sz ≤ v1) ∧ SBo D a9 v1 ml1 (nI (tx_wd x9 kp (n0, c0)).1) H ∧ BA D tk v1 (tx_wd x9 kp (n0, c0)).2 H)) (inA2 a9 v0 sz)) ((tx_wd x9 kp (n0, c0)).2 - c0) (2 * ((tx_wd x9 kp (n0, c0)).2 - c0)) (inA2 a9 v0 sz) := by
  refine mStart RX3 rfl (by decide +kernel) (Nat.le_of_ble_eq_true rfl) ?_
  intro p e s m args below meth c E hr hlk hnm hsz hC hF ls hl
  subst hsz
  obtain ⟨hx, hb, -⟩ := id E
  have hA : ∀ q, (inA2 a9 v0 s.heap.size) q → N0 ≤ q := fun q h => h.elim (fun z => z ▸ ha9) (fun z => z.elim (fun w => w ▸ hv0) (fun w => Nat.le_trans hC.2.1 w))
  have hn : ∀ q, s.heap.size ≤ q → (inA2 a9 v0 s.heap.size) q := fun q h => Or.inr (Or.inr h)
  have hS : va_S (inA2 a9 v0 s.heap.size) s.heap s.heap [] := va_S.rf
  have hl : lv_has ls 9 [(0, .ref a9), (1, .long x9), (3, .int pl)] := hl
  obtain ⟨Q, hQ⟩ : ∃ Q, Q = MQ below (kQv (fun H => (∃ v1 ml1, (v1 = v0 ∨ s.heap.size ≤ v1) ∧ SBo D a9 v1 ml1 (nI (tx_wd x9 kp (n0, c0)).1) H ∧ BA D tk v1 (tx_wd x9 kp (n0, c0)).2 H)) (inA2 a9 v0 s.heap.size)) args s ((tx_wd x9 kp (n0, c0)).2 - c0) (2 * ((tx_wd x9 kp (n0, c0)).2 - c0)) (inA2 a9 v0 s.heap.size) := ⟨_, rfl⟩
  rw [← hQ]
  obtain ⟨f0, hB⟩ : SBo D a9 v0 ml (nI n0) s.heap ∧ BA D tk v0 c0 s.heap := hF
  have g_f0 : (inA2 a9 v0 s.heap.size) a9 := Or.inl rfl
  have g_hB : (inA2 a9 v0 s.heap.size) v0 := Or.inr (Or.inl rfl)
  have loop_58 : ∀ (n : Nat) (k : Nat) (v9 : Nat) (n9 : Nat) (c9 : Nat)(u9 : Int64) (y9 : Int32), k < n → k ≤ kp → y9 + 1 = nI k → u9 = absL x9 → v9 = v0 ∨ s.heap.size ≤ v9 → n9 ≤ c9 ∧ c0 ≤ c9 ∧ n9 + k ≤ n0 + 32 ∧ c9 ≤ max c0 (2 * n9) → tx_wdL k (n9, c9) = tx_wd x9 kp (n0, c0) → ∀ (H : Heap) (locs : List Loc) (ls : Array Slot), va_S (inA2 a9 v0 s.heap.size) s.heap H locs → SBo D a9 v9 ml (nI n9) H → BA D tk v9 c9 H → lv_has ls 9 [(0, .ref a9), (1, .long x9), (3, .int pl), (4, .long u9), (6, .int y9)] → W p l e ({ frames := 6, cells := (tx_wd x9 kp (n0, c0)).2 - c0, slots := 2 * ((tx_wd x9 kp (n0, c0)).2 - c0), locals := 135 } : Room) s m args below meth c H locs (c9 - c0) (2 * (c9 - c0)) Q (F0 m 58 ls []) := by
    intro n
    induction n with
    | zero =>
      intro k v9 n9 c9 u9 y9 hf9 hk9 hx9 hu9 hv9 hb9 hg9 H locs ls hS f0 hB hl
      omega
    | succ n ih_58 =>
      intro k v9 n9 c9 u9 y9 hf9 hk9 hx9 hu9 hv9 hb9 hg9 H locs ls hS f0 hB hl
      have g_hB := hv9.elim (fun e9 => e9 ▸ g_hB) (fun z9 => hn _ z9)
      refine lv_iload (pc := 58) hx hb dX3_writeDecimal_58 (lv_at hl 4 rfl) ?_
      refine lv_if_lt (pc := 60) (tgt := 98) hx hb dX3_writeDecimal_60 (by decide) (fun c_1 => ?_) (fun c_1 => ?_)
      · have hk0 := f_zero hx9 (by omega) c_1
        have hR9 : tx_wd x9 kp (n0, c0) = (n9, c9) := by rw [← hg9, hk0]; rfl
        have hR2 : (tx_wd x9 kp (n0, c0)).2 = c9 := by rw [hR9]
        try rw [hQ]
        refine r_vret (pc := 98) E hr hlk hS (by omega) (by omega) ?_ dX3_writeDecimal_98
        rw [hR9]
        exact ⟨_, _, hv9, f0, hB⟩
      · obtain ⟨k1, rfl⟩ : ∃ k1, k = k1 + 1 := ⟨k - 1, by have := f_pos hx9 (by omega) c_1; omega⟩
        have hx8 : y9 = nI k1 := f_prev hx9
        have hz9 := tx_gb c9 (n9 + 1)
        have hm9 := tx_wdL_m k1 (tx_ap (n9, c9) 1)
        have hg8 : tx_wdL k1 (tx_ap (n9, c9) 1) = tx_wd x9 kp (n0, c0) := hg9
        rw [hg8] at hm9
        dsimp only [tx_ap] at hm9
        refine lv_lload (pc := 63) hx hb dX3_writeDecimal_63 (lv_at hl 3 rfl) ?_
        refine lv_iload (pc := 65) hx hb dX3_writeDecimal_65 (lv_at hl 4 rfl) ?_
        refine k_l (pc := 67) (k_S E hC hS hA hl.1 (c_X3_powerOfTen l D tk N0 sa H.size y9 ) kw_532 kw_533 kw_1 kw_534 (n := 1) (by decide +kernel) rfl ⟨⟨rfl, rfl⟩, ⟨Nat.le_of_ble_eq_true rfl, Nat.le_of_ble_eq_true rfl⟩, (by dsimp only; omega), (by dsimp only; omega)⟩ rfl (Nat.le_of_ble_eq_true rfl) trivial dX3_writeDecimal_67) hS (fun q z w => absurd w (Nat.not_le.mpr z)) hn (fun r_2 H locs hR hz hk hS => ?_)
        have er_2 := hR
        have f0 := f0.kept (hk _ f0.lt (Nat.not_le.mpr f0.lt))
        have hB := hB.kept (hk _ hB.lt (Nat.not_le.mpr hB.lt))
        refine k_l (pc := 70) (k_S E hC hS hA hl.1 (c_X3_floorOf l D tk N0 sa H.size u9 r_2 ) kw_537 kw_502 kw_1 kw_503 (n := 2) (by decide +kernel) rfl ⟨⟨rfl, rfl⟩, ⟨Nat.le_of_ble_eq_true rfl, Nat.le_of_ble_eq_true rfl⟩, (by dsimp only; omega), (by dsimp only; omega)⟩ rfl (Nat.le_of_ble_eq_true rfl) trivial dX3_writeDecimal_70) hS (fun q z w => absurd w (Nat.not_le.mpr z)) hn (fun r_4 H locs hR hz hk hS => ?_)
        have er_4 := hR
        have f0 := f0.kept (hk _ f0.lt (Nat.not_le.mpr f0.lt))
        have hB := hB.kept (hk _ hB.lt (Nat.not_le.mpr hB.lt))
        refine lv_ldc2 (pc := 73) (v := 10) hx hb E.2.2.2.1 (E.2.2.2.2 _ (List.mem_cons_of_mem _ kw_545)) dX3_writeDecimal_73 ?_
        refine lv_lrem (pc := 76) hx hb dX3_writeDecimal_76 (by decide) ?_
        obtain ⟨x_6, ex_6⟩ : ∃ z9 : Int64, z9 = r_4 - r_4 / 10 * 10 := ⟨_, rfl⟩
        rw [← ex_6]
        refine lv_lstore (pc := 77) (lv' := [(7, .long x_6), (0, .ref a9), (1, .long x9), (3, .int pl), (4, .long u9), (6, .int y9)]) hx hb dX3_writeDecimal_77 hl (by decide) rfl (fun ls hl => ?_)
        refine lv_aload_n (pc := 79) hx hb dX3_writeDecimal_79 rfl (lv_at hl 1 rfl) ?_
        refine lv_ldc2 (pc := 80) (v := 48) hx hb E.2.2.2.1 (E.2.2.2.2 _ (List.mem_cons_of_mem _ kw_546)) dX3_writeDecimal_80 ?_
        refine lv_lload (pc := 83) hx hb dX3_writeDecimal_83 (lv_at hl 0 rfl) ?_
        refine lv_ladd (pc := 85) hx hb dX3_writeDecimal_85 ?_
        refine lv_l2i (pc := 86) (v := (48 + x_6).toInt32) hx hb dX3_writeDecimal_86 rfl ?_
        refine lv_i2c (pc := 87) (v := (((48 + x_6).toInt32).toUInt32 % 65536).toInt32) hx hb dX3_writeDecimal_87 rfl ?_
        have hd9 : 0 ≤ r_4 := by rw [er_4, er_2, hu9, hx8]; exact hdg k1 (by omega)
        obtain ⟨kc, hc1, hc2⟩ := tx_dig hd9
        have hZ0_ := hS.1
        have t_f0 := f0.lt
        have t_hB := hB.lt
        refine k_r (pc := 88) (k_V E hC hS hA hl.1 (c1.recv hC f0 rfl) rfl (c_J4_append_cf468 l D tk N0 sa H.size a9 v9 c9 n9 ml ((((48 + x_6).toInt32).toUInt32 % 65536).toInt32) kc (hA _ g_f0) (hA _ g_hB) (by omega) (by omega) (by rw [ex_6]; exact hc2) hc1) kw_182 kw_183 kw_184 kw_19 kw_185 (n := 1) (by decide +kernel) rfl ⟨⟨rfl, rfl⟩, ⟨Nat.le_of_ble_eq_true rfl, Nat.le_of_ble_eq_true rfl⟩, (by dsimp only; omega), (by dsimp only; omega)⟩ rfl (Nat.le_of_ble_eq_true rfl) ⟨f0, hB⟩ dX3_writeDecimal_88) hS (inA2.to g_f0 g_hB) hn (fun r_7 H locs hR hz hk hS => ?_)
        obtain ⟨er9, hR⟩ := hR
        rw [er9]
        obtain ⟨v_8, hv_8, f0, hB⟩ := hR
        have g_hB := hv_8.elim (fun e9 => e9 ▸ g_hB) (fun z9 => hn _ (Nat.le_trans hZ0_ z9))
        have hv_8 := hv_8.imp_right (fun z9 => Nat.le_trans hZ0_ z9)
        have hv_8 := hv_8.elim (fun e9 => e9 ▸ hv9) Or.inr
        refine lv_pop (pc := 91) hx hb dX3_writeDecimal_91 rfl ?_
        obtain ⟨x_9, ex_9⟩ : ∃ z9 : Int32, z9 = y9 + (-1) := ⟨_, rfl⟩
        refine lv_iinc (pc := 92) (v := x_9) (lv' := [(6, .int x_9), (7, .long x_6), (0, .ref a9), (1, .long x9), (3, .int pl), (4, .long u9)]) hx hb dX3_writeDecimal_92 hl (k := 5) rfl (by rw [ex_9]; rfl) (by decide) rfl (fun ls hl => ?_)
        refine lv_goto (pc := 95) (tgt := 58) hx hb dX3_writeDecimal_95 (by decide) ?_
        refine W.widen (k := (sbC c9 (n9 + 1)) - c0) (n := 2 * ((sbC c9 (n9 + 1)) - c0)) (by omega) (by omega) ?_
        exact ih_58  k1 v_8 ((n9 + 1)) (sbC c9 (n9 + 1))  u9 x_9 (by omega) (by omega) (by rw [ex_9]; exact f_dn hx8) hu9 hv_8 (by omega) hg8 _ _ _ hS f0 hB (lv_sub hl [2, 3, 4, 5, 0] rfl)
  refine lv_lload_n (pc := 0) hx hb dX3_writeDecimal_0 rfl (lv_at hl 1 rfl) ?_
  refine lv_lconst (pc := 1) (v := 0) hx hb dX3_writeDecimal_1 (by decide) ?_
  refine r_lcge (pc := 2) (tgt := 11) E dX3_writeDecimal_2 dX3_writeDecimal_3 (by decide) (fun c_10 => ?_) (fun c_10 => ?_)
  · refine lv_lload_n (pc := 11) hx hb dX3_writeDecimal_11 rfl (lv_at hl 1 rfl) ?_
    refine lv_lstore (pc := 12) (lv' := [(4, .long x9), (0, .ref a9), (1, .long x9), (3, .int pl)]) hx hb dX3_writeDecimal_12 hl (by decide) rfl (fun ls hl => ?_)
    refine lv_lload_n (pc := 14) hx hb dX3_writeDecimal_14 rfl (lv_at hl 2 rfl) ?_
    refine lv_lconst (pc := 15) (v := 0) hx hb dX3_writeDecimal_15 (by decide) ?_
    refine r_lcge (pc := 16) (tgt := 27) E dX3_writeDecimal_16 dX3_writeDecimal_17 (by decide) (fun c_11 => ?_) (fun c_11 => ?_)
    rotate_left
    · exact absurd c_10 c_11
    refine lv_aload_n (pc := 27) hx hb dX3_writeDecimal_27 rfl (lv_at hl 1 rfl) ?_
    refine lv_lload (pc := 28) hx hb dX3_writeDecimal_28 (lv_at hl 0 rfl) ?_
    refine lv_iload_n (pc := 30) hx hb dX3_writeDecimal_30 rfl (lv_at hl 3 rfl) ?_
    refine k_l (pc := 31) (k_S E hC hS hA hl.1 (c_X3_powerOfTen l D tk N0 sa s.heap.size pl ) kw_532 kw_533 kw_1 kw_534 (n := 1) (by decide +kernel) rfl ⟨⟨rfl, rfl⟩, ⟨Nat.le_of_ble_eq_true rfl, Nat.le_of_ble_eq_true rfl⟩, (by dsimp only; omega), (by dsimp only; omega)⟩ rfl (Nat.le_of_ble_eq_true rfl) trivial dX3_writeDecimal_31) hS (fun q z w => absurd w (Nat.not_le.mpr z)) hn (fun r_12 H locs hR hz hk hS => ?_)
    have er_12 := hR
    have f0 := f0.kept (hk _ f0.lt (Nat.not_le.mpr f0.lt))
    have hB := hB.kept (hk _ hB.lt (Nat.not_le.mpr hB.lt))
    refine k_l (pc := 34) (k_S E hC hS hA hl.1 (c_X3_floorOf l D tk N0 sa H.size x9 r_12 ) kw_537 kw_502 kw_1 kw_503 (n := 2) (by decide +kernel) rfl ⟨⟨rfl, rfl⟩, ⟨Nat.le_of_ble_eq_true rfl, Nat.le_of_ble_eq_true rfl⟩, (by dsimp only; omega), (by dsimp only; omega)⟩ rfl (Nat.le_of_ble_eq_true rfl) trivial dX3_writeDecimal_34) hS (fun q z w => absurd w (Nat.not_le.mpr z)) hn (fun r_14 H locs hR hz hk hS => ?_)
    have er_14 := hR
    have f0 := f0.kept (hk _ f0.lt (Nat.not_le.mpr f0.lt))
    have hB := hB.kept (hk _ hB.lt (Nat.not_le.mpr hB.lt))
    refine lv_l2i (pc := 37) (v := r_14.toInt32) hx hb dX3_writeDecimal_37 rfl ?_
    have h1 : tx_wd1 x9 (n0, c0) = (n0, c0) := by rw [tx_wd1, if_pos c_10]
    have hab : x9 = absL x9 := (if_pos c_10).symm
    have hfl9 : r_14 = f_floorOf (absL x9) (f_p10 (nI kp)) := by rw [er_14, er_12, hpl, ← hab]
    have hd2 := dgI_le r_14.toInt32
    have hz2 := tx_gb (c0) (n0 + dgI r_14.toInt32)
    have h2 : tx_wd2 x9 kp (n0, c0) = (n0 + dgI r_14.toInt32, sbC (c0) (n0 + dgI r_14.toInt32)) := by rw [tx_wd2, h1, ← hfl9]; rfl
    have hm2 := tx_wd_m2 x9 kp (n0, c0)
    rw [h2] at hm2
    dsimp only at hm2
    have hZ0_ := hS.1
    have t_f0 := f0.lt
    have t_hB := hB.lt
    refine k_r (pc := 38) (k_V E hC hS hA hl.1 (c1.recv hC f0 rfl) rfl (c_J4_append_bf812 l D tk N0 sa H.size a9 v0 c0 n0 ml r_14.toInt32 (hA _ g_f0) (hA _ g_hB) (by omega) (by omega)) kw_281 kw_282 kw_283 kw_19 kw_284 (n := 1) (by decide +kernel) rfl ⟨⟨rfl, rfl⟩, ⟨Nat.le_of_ble_eq_true rfl, Nat.le_of_ble_eq_true rfl⟩, (by dsimp only; omega), (by dsimp only; omega)⟩ rfl (Nat.le_of_ble_eq_true rfl) ⟨f0, hB⟩ dX3_writeDecimal_38) hS (inA2.to g_f0 g_hB) hn (fun r_16 H locs hR hz hk hS => ?_)
    obtain ⟨er9, hR⟩ := hR
    rw [er9]
    obtain ⟨v_17, hv_17, f0, hB⟩ := hR
    have g_hB := hv_17.elim (fun e9 => e9 ▸ g_hB) (fun z9 => hn _ (Nat.le_trans hZ0_ z9))
    have hv_17 := hv_17.imp_right (fun z9 => Nat.le_trans hZ0_ z9)
    refine lv_pop (pc := 41) hx hb dX3_writeDecimal_41 rfl ?_
    refine lv_iload_n (pc := 42) hx hb dX3_writeDecimal_42 rfl (lv_at hl 3 rfl) ?_
    refine lv_if_le (pc := 43) (tgt := 53) hx hb dX3_writeDecimal_43 (by decide) (fun c_18 => ?_) (fun c_18 => ?_)
    · have hk0 : kp = 0 := by have := (i_le (n := kp) nI_0.symm hpl (by decide) (by omega)).mp c_18; omega
      have h3 : tx_wd3 x9 kp (n0, c0) = ((n0 + dgI r_14.toInt32), sbC c0 (n0 + dgI r_14.toInt32)) := by rw [tx_wd3, if_pos hk0, h2]
      have hm3 := tx_wd_m3 x9 kp (n0, c0)
      rw [h3] at hm3
      dsimp only at hm3
      refine lv_iload_n (pc := 53) hx hb dX3_writeDecimal_53 rfl (lv_at hl 3 rfl) ?_
      refine lv_iconst (pc := 54) (v := 1) hx hb dX3_writeDecimal_54 (by decide) ?_
      refine lv_isub (pc := 55) hx hb dX3_writeDecimal_55 ?_
      obtain ⟨x_19, ex_19⟩ : ∃ z9 : Int32, z9 = pl - 1 := ⟨_, rfl⟩
      rw [← ex_19]
      refine lv_istore (pc := 56) (lv' := [(6, .int x_19), (4, .long x9), (0, .ref a9), (1, .long x9), (3, .int pl)]) hx hb dX3_writeDecimal_56 hl (by decide) rfl (fun ls hl => ?_)
      refine W.widen (k := (sbC c0 (n0 + dgI r_14.toInt32)) - c0) (n := 2 * ((sbC c0 (n0 + dgI r_14.toInt32)) - c0)) (by omega) (by omega) ?_
      exact loop_58 (kp + 1) kp v_17 ((n0 + dgI r_14.toInt32)) (sbC c0 (n0 + dgI r_14.toInt32))  x9 x_19 (by omega) (Nat.le_refl _) (by rw [ex_19]; exact (Int32.sub_add_cancel _ _).trans hpl) hab hv_17 (by omega) (by rw [tx_wd, h3]) _ _ _ hS f0 hB (lv_sub hl [2, 3, 4, 1, 0] rfl)
    · have hk0 : ¬ kp = 0 := fun z => c_18 ((i_le (n := kp) nI_0.symm hpl (by decide) (by omega)).mpr (by omega))
      have hz3 := tx_gb (sbC c0 (n0 + dgI r_14.toInt32)) ((n0 + dgI r_14.toInt32) + 1)
      have h3 : tx_wd3 x9 kp (n0, c0) = ((n0 + dgI r_14.toInt32) + 1, sbC (sbC c0 (n0 + dgI r_14.toInt32)) ((n0 + dgI r_14.toInt32) + 1)) := by rw [tx_wd3, if_neg hk0, h2]; rfl
      have hm3 := tx_wd_m3 x9 kp (n0, c0)
      rw [h3] at hm3
      dsimp only at hm3
      refine lv_aload_n (pc := 46) hx hb dX3_writeDecimal_46 rfl (lv_at hl 1 rfl) ?_
      refine lv_bipush (pc := 47) (v := 46) hx hb dX3_writeDecimal_47 (by decide) ?_
      have hZ0_ := hS.1
      have t_f0 := f0.lt
      have t_hB := hB.lt
      refine k_r (pc := 49) (k_V E hC hS hA hl.1 (c1.recv hC f0 rfl) rfl (c_J4_append_cf468 l D tk N0 sa H.size a9 v_17 (sbC c0 (n0 + dgI r_14.toInt32)) (n0 + dgI r_14.toInt32) ml 46 46 (hA _ g_f0) (hA _ g_hB) (by omega) (by omega) rfl (by decide)) kw_182 kw_183 kw_184 kw_19 kw_185 (n := 1) (by decide +kernel) rfl ⟨⟨rfl, rfl⟩, ⟨Nat.le_of_ble_eq_true rfl, Nat.le_of_ble_eq_true rfl⟩, (by dsimp only; omega), (by dsimp only; omega)⟩ rfl (Nat.le_of_ble_eq_true rfl) ⟨f0, hB⟩ dX3_writeDecimal_49) hS (inA2.to g_f0 g_hB) hn (fun r_20 H locs hR hz hk hS => ?_)
      obtain ⟨er9, hR⟩ := hR
      rw [er9]
      obtain ⟨v_21, hv_21, f0, hB⟩ := hR
      have g_hB := hv_21.elim (fun e9 => e9 ▸ g_hB) (fun z9 => hn _ (Nat.le_trans hZ0_ z9))
      have hv_21 := hv_21.imp_right (fun z9 => Nat.le_trans hZ0_ z9)
      have hv_21 := hv_21.elim (fun e9 => e9 ▸ hv_17) Or.inr
      refine lv_pop (pc := 52) hx hb dX3_writeDecimal_52 rfl ?_
      refine lv_iload_n (pc := 53) hx hb dX3_writeDecimal_53 rfl (lv_at hl 3 rfl) ?_
      refine lv_iconst (pc := 54) (v := 1) hx hb dX3_writeDecimal_54 (by decide) ?_
      refine lv_isub (pc := 55) hx hb dX3_writeDecimal_55 ?_
      obtain ⟨x_22, ex_22⟩ : ∃ z9 : Int32, z9 = pl - 1 := ⟨_, rfl⟩
      rw [← ex_22]
      refine lv_istore (pc := 56) (lv' := [(6, .int x_22), (4, .long x9), (0, .ref a9), (1, .long x9), (3, .int pl)]) hx hb dX3_writeDecimal_56 hl (by decide) rfl (fun ls hl => ?_)
      refine W.widen (k := (sbC (sbC c0 (n0 + dgI r_14.toInt32)) ((n0 + dgI r_14.toInt32) + 1)) - c0) (n := 2 * ((sbC (sbC c0 (n0 + dgI r_14.toInt32)) ((n0 + dgI r_14.toInt32) + 1)) - c0)) (by omega) (by omega) ?_
      exact loop_58 (kp + 1) kp v_21 (((n0 + dgI r_14.toInt32) + 1)) (sbC (sbC c0 (n0 + dgI r_14.toInt32)) ((n0 + dgI r_14.toInt32) + 1))  x9 x_22 (by omega) (Nat.le_refl _) (by rw [ex_22]; exact (Int32.sub_add_cancel _ _).trans hpl) hab hv_21 (by omega) (by rw [tx_wd, h3]) _ _ _ hS f0 hB (lv_sub hl [2, 3, 4, 1, 0] rfl)
  · refine lv_lload_n (pc := 6) hx hb dX3_writeDecimal_6 rfl (lv_at hl 1 rfl) ?_
    refine lv_lneg (pc := 7) hx hb dX3_writeDecimal_7 ?_
    refine lv_goto (pc := 8) (tgt := 12) hx hb dX3_writeDecimal_8 (by decide) ?_
    obtain ⟨x_23, ex_23⟩ : ∃ z9 : Int64, z9 = -x9 := ⟨_, rfl⟩
    rw [← ex_23]
    refine lv_lstore (pc := 12) (lv' := [(4, .long x_23), (0, .ref a9), (1, .long x9), (3, .int pl)]) hx hb dX3_writeDecimal_12 hl (by decide) rfl (fun ls hl => ?_)
    refine lv_lload_n (pc := 14) hx hb dX3_writeDecimal_14 rfl (lv_at hl 2 rfl) ?_
    refine lv_lconst (pc := 15) (v := 0) hx hb dX3_writeDecimal_15 (by decide) ?_
    refine r_lcge (pc := 16) (tgt := 27) E dX3_writeDecimal_16 dX3_writeDecimal_17 (by decide) (fun c_24 => ?_) (fun c_24 => ?_)
    · exact absurd c_24 c_10
    have hz1 := tx_gb c0 (n0 + 1)
    have h1 : tx_wd1 x9 (n0, c0) = (n0 + 1, sbC c0 (n0 + 1)) := by rw [tx_wd1, if_neg c_10]; rfl
    have hm1 := tx_wd_m1 x9 kp (n0, c0)
    rw [h1] at hm1
    dsimp only at hm1
    refine lv_aload_n (pc := 20) hx hb dX3_writeDecimal_20 rfl (lv_at hl 1 rfl) ?_
    refine lv_bipush (pc := 21) (v := 45) hx hb dX3_writeDecimal_21 (by decide) ?_
    have hZ0_ := hS.1
    have t_f0 := f0.lt
    have t_hB := hB.lt
    refine k_r (pc := 23) (k_V E hC hS hA hl.1 (c1.recv hC f0 rfl) rfl (c_J4_append_cf468 l D tk N0 sa s.heap.size a9 v0 c0 n0 ml 45 45 (hA _ g_f0) (hA _ g_hB) (by omega) (by omega) rfl (by decide)) kw_182 kw_183 kw_184 kw_19 kw_185 (n := 1) (by decide +kernel) rfl ⟨⟨rfl, rfl⟩, ⟨Nat.le_of_ble_eq_true rfl, Nat.le_of_ble_eq_true rfl⟩, (by dsimp only; omega), (by dsimp only; omega)⟩ rfl (Nat.le_of_ble_eq_true rfl) ⟨f0, hB⟩ dX3_writeDecimal_23) hS (inA2.to g_f0 g_hB) hn (fun r_25 H locs hR hz hk hS => ?_)
    obtain ⟨er9, hR⟩ := hR
    rw [er9]
    obtain ⟨v_26, hv_26, f0, hB⟩ := hR
    have g_hB := hv_26.elim (fun e9 => e9 ▸ g_hB) (fun z9 => hn _ (Nat.le_trans hZ0_ z9))
    have hv_26 := hv_26.imp_right (fun z9 => Nat.le_trans hZ0_ z9)
    refine lv_pop (pc := 26) hx hb dX3_writeDecimal_26 rfl ?_
    refine lv_aload_n (pc := 27) hx hb dX3_writeDecimal_27 rfl (lv_at hl 1 rfl) ?_
    refine lv_lload (pc := 28) hx hb dX3_writeDecimal_28 (lv_at hl 0 rfl) ?_
    refine lv_iload_n (pc := 30) hx hb dX3_writeDecimal_30 rfl (lv_at hl 3 rfl) ?_
    refine k_l (pc := 31) (k_S E hC hS hA hl.1 (c_X3_powerOfTen l D tk N0 sa H.size pl ) kw_532 kw_533 kw_1 kw_534 (n := 1) (by decide +kernel) rfl ⟨⟨rfl, rfl⟩, ⟨Nat.le_of_ble_eq_true rfl, Nat.le_of_ble_eq_true rfl⟩, (by dsimp only; omega), (by dsimp only; omega)⟩ rfl (Nat.le_of_ble_eq_true rfl) trivial dX3_writeDecimal_31) hS (fun q z w => absurd w (Nat.not_le.mpr z)) hn (fun r_27 H locs hR hz hk hS => ?_)
    have er_27 := hR
    have f0 := f0.kept (hk _ f0.lt (Nat.not_le.mpr f0.lt))
    have hB := hB.kept (hk _ hB.lt (Nat.not_le.mpr hB.lt))
    refine k_l (pc := 34) (k_S E hC hS hA hl.1 (c_X3_floorOf l D tk N0 sa H.size x_23 r_27 ) kw_537 kw_502 kw_1 kw_503 (n := 2) (by decide +kernel) rfl ⟨⟨rfl, rfl⟩, ⟨Nat.le_of_ble_eq_true rfl, Nat.le_of_ble_eq_true rfl⟩, (by dsimp only; omega), (by dsimp only; omega)⟩ rfl (Nat.le_of_ble_eq_true rfl) trivial dX3_writeDecimal_34) hS (fun q z w => absurd w (Nat.not_le.mpr z)) hn (fun r_29 H locs hR hz hk hS => ?_)
    have er_29 := hR
    have f0 := f0.kept (hk _ f0.lt (Nat.not_le.mpr f0.lt))
    have hB := hB.kept (hk _ hB.lt (Nat.not_le.mpr hB.lt))
    refine lv_l2i (pc := 37) (v := r_29.toInt32) hx hb dX3_writeDecimal_37 rfl ?_
    have hab : x_23 = absL x9 := by rw [ex_23]; exact (if_neg c_10).symm
    have hfl9 : r_29 = f_floorOf (absL x9) (f_p10 (nI kp)) := by rw [er_29, er_27, hpl, ← hab]
    have hd2 := dgI_le r_29.toInt32
    have hz2 := tx_gb (sbC c0 (n0 + 1)) ((n0 + 1) + dgI r_29.toInt32)
    have h2 : tx_wd2 x9 kp (n0, c0) = ((n0 + 1) + dgI r_29.toInt32, sbC (sbC c0 (n0 + 1)) ((n0 + 1) + dgI r_29.toInt32)) := by rw [tx_wd2, h1, ← hfl9]; rfl
    have hm2 := tx_wd_m2 x9 kp (n0, c0)
    rw [h2] at hm2
    dsimp only at hm2
    have hZ0_ := hS.1
    have t_f0 := f0.lt
    have t_hB := hB.lt
    refine k_r (pc := 38) (k_V E hC hS hA hl.1 (c1.recv hC f0 rfl) rfl (c_J4_append_bf812 l D tk N0 sa H.size a9 v_26 (sbC c0 (n0 + 1)) (n0 + 1) ml r_29.toInt32 (hA _ g_f0) (hA _ g_hB) (by omega) (by omega)) kw_281 kw_282 kw_283 kw_19 kw_284 (n := 1) (by decide +kernel) rfl ⟨⟨rfl, rfl⟩, ⟨Nat.le_of_ble_eq_true rfl, Nat.le_of_ble_eq_true rfl⟩, (by dsimp only; omega), (by dsimp only; omega)⟩ rfl (Nat.le_of_ble_eq_true rfl) ⟨f0, hB⟩ dX3_writeDecimal_38) hS (inA2.to g_f0 g_hB) hn (fun r_31 H locs hR hz hk hS => ?_)
    obtain ⟨er9, hR⟩ := hR
    rw [er9]
    obtain ⟨v_32, hv_32, f0, hB⟩ := hR
    have g_hB := hv_32.elim (fun e9 => e9 ▸ g_hB) (fun z9 => hn _ (Nat.le_trans hZ0_ z9))
    have hv_32 := hv_32.imp_right (fun z9 => Nat.le_trans hZ0_ z9)
    have hv_32 := hv_32.elim (fun e9 => e9 ▸ hv_26) Or.inr
    refine lv_pop (pc := 41) hx hb dX3_writeDecimal_41 rfl ?_
    refine lv_iload_n (pc := 42) hx hb dX3_writeDecimal_42 rfl (lv_at hl 3 rfl) ?_
    refine lv_if_le (pc := 43) (tgt := 53) hx hb dX3_writeDecimal_43 (by decide) (fun c_33 => ?_) (fun c_33 => ?_)
    · have hk0 : kp = 0 := by have := (i_le (n := kp) nI_0.symm hpl (by decide) (by omega)).mp c_33; omega
      have h3 : tx_wd3 x9 kp (n0, c0) = (((n0 + 1) + dgI r_29.toInt32), sbC (sbC c0 (n0 + 1)) ((n0 + 1) + dgI r_29.toInt32)) := by rw [tx_wd3, if_pos hk0, h2]
      have hm3 := tx_wd_m3 x9 kp (n0, c0)
      rw [h3] at hm3
      dsimp only at hm3
      refine lv_iload_n (pc := 53) hx hb dX3_writeDecimal_53 rfl (lv_at hl 3 rfl) ?_
      refine lv_iconst (pc := 54) (v := 1) hx hb dX3_writeDecimal_54 (by decide) ?_
      refine lv_isub (pc := 55) hx hb dX3_writeDecimal_55 ?_
      obtain ⟨x_34, ex_34⟩ : ∃ z9 : Int32, z9 = pl - 1 := ⟨_, rfl⟩
      rw [← ex_34]
      refine lv_istore (pc := 56) (lv' := [(6, .int x_34), (4, .long x_23), (0, .ref a9), (1, .long x9), (3, .int pl)]) hx hb dX3_writeDecimal_56 hl (by decide) rfl (fun ls hl => ?_)
      refine W.widen (k := (sbC (sbC c0 (n0 + 1)) ((n0 + 1) + dgI r_29.toInt32)) - c0) (n := 2 * ((sbC (sbC c0 (n0 + 1)) ((n0 + 1) + dgI r_29.toInt32)) - c0)) (by omega) (by omega) ?_
      exact loop_58 (kp + 1) kp v_32 (((n0 + 1) + dgI r_29.toInt32)) (sbC (sbC c0 (n0 + 1)) ((n0 + 1) + dgI r_29.toInt32))  x_23 x_34 (by omega) (Nat.le_refl _) (by rw [ex_34]; exact (Int32.sub_add_cancel _ _).trans hpl) hab hv_32 (by omega) (by rw [tx_wd, h3]) _ _ _ hS f0 hB (lv_sub hl [2, 3, 4, 1, 0] rfl)
    · have hk0 : ¬ kp = 0 := fun z => c_33 ((i_le (n := kp) nI_0.symm hpl (by decide) (by omega)).mpr (by omega))
      have hz3 := tx_gb (sbC (sbC c0 (n0 + 1)) ((n0 + 1) + dgI r_29.toInt32)) (((n0 + 1) + dgI r_29.toInt32) + 1)
      have h3 : tx_wd3 x9 kp (n0, c0) = (((n0 + 1) + dgI r_29.toInt32) + 1, sbC (sbC (sbC c0 (n0 + 1)) ((n0 + 1) + dgI r_29.toInt32)) (((n0 + 1) + dgI r_29.toInt32) + 1)) := by rw [tx_wd3, if_neg hk0, h2]; rfl
      have hm3 := tx_wd_m3 x9 kp (n0, c0)
      rw [h3] at hm3
      dsimp only at hm3
      refine lv_aload_n (pc := 46) hx hb dX3_writeDecimal_46 rfl (lv_at hl 1 rfl) ?_
      refine lv_bipush (pc := 47) (v := 46) hx hb dX3_writeDecimal_47 (by decide) ?_
      have hZ0_ := hS.1
      have t_f0 := f0.lt
      have t_hB := hB.lt
      refine k_r (pc := 49) (k_V E hC hS hA hl.1 (c1.recv hC f0 rfl) rfl (c_J4_append_cf468 l D tk N0 sa H.size a9 v_32 (sbC (sbC c0 (n0 + 1)) ((n0 + 1) + dgI r_29.toInt32)) ((n0 + 1) + dgI r_29.toInt32) ml 46 46 (hA _ g_f0) (hA _ g_hB) (by omega) (by omega) rfl (by decide)) kw_182 kw_183 kw_184 kw_19 kw_185 (n := 1) (by decide +kernel) rfl ⟨⟨rfl, rfl⟩, ⟨Nat.le_of_ble_eq_true rfl, Nat.le_of_ble_eq_true rfl⟩, (by dsimp only; omega), (by dsimp only; omega)⟩ rfl (Nat.le_of_ble_eq_true rfl) ⟨f0, hB⟩ dX3_writeDecimal_49) hS (inA2.to g_f0 g_hB) hn (fun r_35 H locs hR hz hk hS => ?_)
      obtain ⟨er9, hR⟩ := hR
      rw [er9]
      obtain ⟨v_36, hv_36, f0, hB⟩ := hR
      have g_hB := hv_36.elim (fun e9 => e9 ▸ g_hB) (fun z9 => hn _ (Nat.le_trans hZ0_ z9))
      have hv_36 := hv_36.imp_right (fun z9 => Nat.le_trans hZ0_ z9)
      have hv_36 := hv_36.elim (fun e9 => e9 ▸ hv_32) Or.inr
      refine lv_pop (pc := 52) hx hb dX3_writeDecimal_52 rfl ?_
      refine lv_iload_n (pc := 53) hx hb dX3_writeDecimal_53 rfl (lv_at hl 3 rfl) ?_
      refine lv_iconst (pc := 54) (v := 1) hx hb dX3_writeDecimal_54 (by decide) ?_
      refine lv_isub (pc := 55) hx hb dX3_writeDecimal_55 ?_
      obtain ⟨x_37, ex_37⟩ : ∃ z9 : Int32, z9 = pl - 1 := ⟨_, rfl⟩
      rw [← ex_37]
      refine lv_istore (pc := 56) (lv' := [(6, .int x_37), (4, .long x_23), (0, .ref a9), (1, .long x9), (3, .int pl)]) hx hb dX3_writeDecimal_56 hl (by decide) rfl (fun ls hl => ?_)
      refine W.widen (k := (sbC (sbC (sbC c0 (n0 + 1)) ((n0 + 1) + dgI r_29.toInt32)) (((n0 + 1) + dgI r_29.toInt32) + 1)) - c0) (n := 2 * ((sbC (sbC (sbC c0 (n0 + 1)) ((n0 + 1) + dgI r_29.toInt32)) (((n0 + 1) + dgI r_29.toInt32) + 1)) - c0)) (by omega) (by omega) ?_
      exact loop_58 (kp + 1) kp v_36 ((((n0 + 1) + dgI r_29.toInt32) + 1)) (sbC (sbC (sbC c0 (n0 + 1)) ((n0 + 1) + dgI r_29.toInt32)) (((n0 + 1) + dgI r_29.toInt32) + 1))  x_23 x_37 (by omega) (Nat.le_refl _) (by rw [ex_37]; exact (Int32.sub_add_cancel _ _).trans hpl) hab hv_36 (by omega) (by rw [tx_wd, h3]) _ _ _ hS f0 hB (lv_sub hl [2, 3, 4, 1, 0] rfl)
set_option maxHeartbeats 4000000 in
set_option maxRecDepth 100000 in
/-- Bestratios.writeRounded(Ljava/lang/StringBuilder;)V -/
theorem c_X3_writeRounded (l : Launch) (D : va_G) (tk : Nat → ClassId) (N0 : Nat) (sa : Nat → Nat) {ad : Nat → Nat} (hAD : ADok N0 ad) (sz : Nat) (g : CS) (a9 v0 n0 c0 : Nat) (ml : Int32) (ha9 : N0 ≤ a9) (hv0 : N0 ≤ v0) (hn9 : n0 ≤ c0) (hcap : c0 ≤ 100000) (kp : Nat) (hpl : tI g 3 = nI kp) (hkp : kp ≤ 9) (hdg : txD (f_cutNum (tT g 10) (tB g 10) (tI g 3) 0) kp) : Met l yX3_writeRounded (wsy yX3_writeRounded cX3_writeRounded 2 none) ({ frames := 7, cells := (tx_wd (f_cutNum (tT g 10) (tB g 10) (tI g 3) 0) kp (n0, c0)).2 - c0, slots := 2 * ((tx_wd (f_cutNum (tT g 10) (tB g 10) (tI g 3) 0) kp (n0, c0)).2 - c0), locals := 163 } : Room) (cP D tk N0 sa [.ref (ad 15), .ref a9] sz (fun H => CW D tk ad g H ∧ SBo D a9 v0 ml (nI n0) H ∧ BA D tk v0 c0 H)) (kQv (fun H => (∃ v1 ml1, (v1 = v0 ∨ sz ≤ v1) ∧ SBo D a9 v1 ml1 (nI (tx_wd (f_cutNum (tT g 10) (tB g 10) (tI g 3) 0) kp (n0, c0)).1) H ∧ BA D tk v1 (tx_wd (f_cutNum (tT g 10) (tB g 10) (tI g 3) 0) kp (n0, c0)).2 H)) (inA2 a9 v0 sz)) ((tx_wd (f_cutNum (tT g 10) (tB g 10) (tI g 3) 0) kp (n0, c0)).2 - c0) (2 * ((tx_wd (f_cutNum (tT g 10) (tB g 10) (tI g 3) 0) kp (n0, c0)).2 - c0)) (inA2 a9 v0 sz) := by
  refine mStart RX3 rfl (by decide +kernel) (Nat.le_of_ble_eq_true rfl) ?_
  intro p e s m args below meth c E hr hlk hnm hsz hC hF ls hl
  subst hsz
  obtain ⟨hx, hb, -⟩ := id E
  have hA : ∀ q, (inA2 a9 v0 s.heap.size) q → N0 ≤ q := fun q h => h.elim (fun z => z ▸ ha9) (fun z => z.elim (fun w => w ▸ hv0) (fun w => Nat.le_trans hC.2.1 w))
  have hn : ∀ q, s.heap.size ≤ q → (inA2 a9 v0 s.heap.size) q := fun q h => Or.inr (Or.inr h)
  have hS : va_S (inA2 a9 v0 s.heap.size) s.heap s.heap [] := va_S.rf
  have hl : lv_has ls 2 [(0, .ref (ad 15)), (1, .ref a9)] := hl
  obtain ⟨hW, f0, hB⟩ : CW D tk ad g s.heap ∧ SBo D a9 v0 ml (nI n0) s.heap ∧ BA D tk v0 c0 s.heap := hF
  have g_f0 : (inA2 a9 v0 s.heap.size) a9 := Or.inl rfl
  have g_hB : (inA2 a9 v0 s.heap.size) v0 := Or.inr (Or.inl rfl)
  have nW_f0 := cwO hC hW f0.cl
  have nW_hB := cwB hC hW hB.cl
  refine lv_aload_n (pc := 0) hx hb dX3_writeRounded_0 rfl (lv_at hl 1 rfl) ?_
  refine lv_aload_n (pc := 1) hx hb dX3_writeRounded_1 rfl (lv_at hl 0 rfl) ?_
  refine r_get (pc := 2) E hC hW.obj 2 (v := .ref (ad 21)) rfl rfl (by decide) uX3 (List.mem_cons_of_mem _ kw_116) (fun _ h => h) dX3_writeRounded_2 ?_
  refine r_getN (pc := 5) "Bestratios" E hC hW.tal 1 (v := .ref (ad 10)) rfl rfl (by decide) uX1 kn_87 (fun _ h => h) dX3_writeRounded_5 ?_
  refine lv_aload_n (pc := 8) hx hb dX3_writeRounded_8 rfl (lv_at hl 0 rfl) ?_
  refine r_get (pc := 9) E hC hW.obj 2 (v := .ref (ad 21)) rfl rfl (by decide) uX3 (List.mem_cons_of_mem _ kw_116) (fun _ h => h) dX3_writeRounded_9 ?_
  refine r_getN (pc := 12) "Bestratios" E hC hW.tal 7 (v := .int (tI g 3)) rfl rfl (by decide) uX1 kn_96 (fun _ h => h) dX3_writeRounded_12 ?_
  refine lv_iconst (pc := 15) (v := 0) hx hb dX3_writeRounded_15 (by decide) ?_
  refine k_l (pc := 16) (k_V E hC hS hA hl.1 (c1.recv hC (hW.fr (i := 10) (by decide)) rfl) rfl (c_X0_cutTo l D tk N0 sa hAD s.heap.size g 10 (by decide) (tI g 3) 0 ) kw_525 kw_526 kw_527 kw_2 kw_528 (n := 2) (by decide +kernel) rfl ⟨⟨rfl, rfl⟩, ⟨Nat.le_of_ble_eq_true rfl, Nat.le_of_ble_eq_true rfl⟩, (by dsimp only; omega), (by dsimp only; omega)⟩ rfl (Nat.le_of_ble_eq_true rfl) hW dX3_writeRounded_16) hS (fun q z w => absurd w (Nat.not_le.mpr z)) hn (fun r_1 H locs hR hz hk hS => ?_)
  have er_1 := hR
  have hW := hW.new hk
  have f0 := f0.kept (hk _ f0.lt (Nat.not_le.mpr f0.lt))
  have hB := hB.kept (hk _ hB.lt (Nat.not_le.mpr hB.lt))
  refine lv_aload_n (pc := 19) hx hb dX3_writeRounded_19 rfl (lv_at hl 0 rfl) ?_
  refine r_get (pc := 20) E hC hW.obj 2 (v := .ref (ad 21)) rfl rfl (by decide) uX3 (List.mem_cons_of_mem _ kw_116) (fun _ h => h) dX3_writeRounded_20 ?_
  refine r_getN (pc := 23) "Bestratios" E hC hW.tal 7 (v := .int (tI g 3)) rfl rfl (by decide) uX1 kn_96 (fun _ h => h) dX3_writeRounded_23 ?_
  have hZ0_ := hS.1
  have t_hW := fun k (hk9 : k < 22) => (hW k hk9).lt
  have t_f0 := f0.lt
  have t_hB := hB.lt
  obtain ⟨Q_3, eQ_3⟩ : ∃ z9 : Nat × Nat, z9 = tx_wd r_1 kp (n0, c0) := ⟨_, rfl⟩
  have e2Q_3 : (tx_wd r_1 kp (n0, c0)).2 = Q_3.2 := by rw [eQ_3]
  have e1Q_3 : (tx_wd r_1 kp (n0, c0)).1 = Q_3.1 := by rw [eQ_3]
  have hQ_3 := tx_wd_ok r_1 kp (q := (n0, c0)) (by dsimp only; omega)
  rw [← eQ_3] at hQ_3; dsimp only [tx_ok] at hQ_3
  have hM9 : (tx_wd (f_cutNum (tT g 10) (tB g 10) (tI g 3) 0) kp (n0, c0)).2 = Q_3.2 := by rw [eQ_3, er_1]
  refine k_v (pc := 26) (k_S E hC hS hA hl.1 (c_X3_writeDecimal l D tk N0 sa H.size r_1 (tI g 3) a9 v0 n0 c0 ml (hA _ g_f0) (hA _ g_hB) (by omega) (by omega) kp hpl hkp (by rw [er_1]; exact hdg)) kw_542 kw_543 kw_1 kw_544 (n := 3) (by decide +kernel) rfl ⟨⟨rfl, rfl⟩, ⟨Nat.le_of_ble_eq_true rfl, Nat.le_of_ble_eq_true rfl⟩, (by dsimp only; omega), (by dsimp only; omega)⟩ rfl (Nat.le_of_ble_eq_true rfl) ⟨f0, hB⟩ dX3_writeRounded_26) hS (inA2.to g_f0 g_hB) hn (fun H locs hR hz hk hS => ?_)
  have hW := hW.kept (fun k hk9 => hk _ (hW k hk9).lt (inA2.not (nW_f0 k hk9) (nW_hB k hk9) (hW k hk9).lt))
  obtain ⟨v_5, ml_5, hv_5, f0, hB⟩ := hR
  have g_hB := hv_5.elim (fun e9 => e9 ▸ g_hB) (fun z9 => hn _ (Nat.le_trans hZ0_ z9))
  have nW_hB : ∀ k, k < 22 → ad k ≠ v_5 := fun k hk9 => hv_5.elim (fun e9 => e9 ▸ nW_hB k hk9) (fun z9 => Nat.ne_of_lt (Nat.lt_of_lt_of_le (t_hW k hk9) z9))
  have hv_5 := hv_5.imp_right (fun z9 => Nat.le_trans hZ0_ z9)
  rw [← eQ_3] at f0 hB
  refine r_vret (pc := 29) E hr hlk hS (by omega) (by omega) ?_ dX3_writeRounded_29
  rw [← er_1, ← eQ_3]
  exact ⟨_, _, hv_5, f0, hB⟩
set_option maxHeartbeats 4000000 in
set_option maxRecDepth 100000 in
/-- Bestratios.rowText(LBestratios$Terms;)Ljava/lang/String; -/
theorem c_X3_rowText (l : Launch) (D : va_G) (tk : Nat → ClassId) (N0 : Nat) (sa : Nat → Nat) {ad : Nat → Nat} (hAD : ADok N0 ad) (sz : Nat) (g : CS) (j : Nat) (hj : j < 2) (htc : (tC g j).toNatClampNeg ≤ 64) : Met l yX3_rowText (wsy yX3_rowText cX3_rowText 3 (some (.object "java/lang/String"))) ({ frames := 6, cells := 4 + ((tx_rt g j).2 - 16), slots := 20 + 2 * ((tx_rt g j).2 - 16) + (4 + (tx_rt g j).1), locals := 137 } : Room) (cP D tk N0 sa [.ref (ad (17 + 2 * j))] sz (fun H => CW D tk ad g H)) (kQr (fun r H => sz ≤ r ∧ SX D tk r ((tx_rt g j).1) H) (nwA sz)) (4 + ((tx_rt g j).2 - 16)) (20 + 2 * ((tx_rt g j).2 - 16) + (4 + (tx_rt g j).1)) (nwA sz) := by
  refine mStart RX3 rfl (by decide +kernel) (Nat.le_of_ble_eq_true rfl) ?_
  intro p e s m args below meth c E hr hlk hnm hsz hC hF ls hl
  subst hsz
  obtain ⟨hx, hb, -⟩ := id E
  have hA : ∀ q, (nwA s.heap.size) q → N0 ≤ q := fun q h => Nat.le_trans hC.2.1 h
  have hn : ∀ q, s.heap.size ≤ q → (nwA s.heap.size) q := fun q h => h
  have hS : va_S (nwA s.heap.size) s.heap s.heap [] := va_S.rf
  have hl : lv_has ls 3 [(0, .ref (ad (17 + 2 * j)))] := hl
  obtain ⟨Q, hQ⟩ : ∃ Q, Q = MQ below (kQr (fun r H => s.heap.size ≤ r ∧ SX D tk r ((tx_rt g j).1) H) (nwA s.heap.size)) args s (4 + ((tx_rt g j).2 - 16)) (20 + 2 * ((tx_rt g j).2 - 16) + (4 + (tx_rt g j).1)) (nwA s.heap.size) := ⟨_, rfl⟩
  rw [← hQ]
  have hW : CW D tk ad g s.heap := hF
  have hS0_ := hS
  refine r_new (pc := 0) E hC hS tyJ4_ok uJ4 (List.mem_cons_of_mem _ kw_149) (List.mem_cons_of_mem _ kw_150) (List.mem_cons_of_mem _ kw_19) (ci := 1) rfl (fs := [.null, .int 0, .int 0, .int 0]) (by decide) (by dsimp only; omega) (by dsimp only; omega) dX3_rowText_0 (fun qf1 H zq_ n_ ho_ hS => ?_)
  have nW_f1 : ∀ k, k < 22 → ad k ≠ qf1 := fun k hk9 => Nat.ne_of_lt (zq_ ▸ (hW k hk9).lt)
  have hW := hW.kept (fun k hk9 => ho_ _ (hW k hk9).lt)
  have f1 := n_
  have s_f1 : s.heap.size ≤ qf1 := zq_ ▸ hS0_.1
  have g_f1 := hn _ s_f1
  refine lv_dup (pc := 3) hx hb dX3_rowText_3 rfl ?_
  have hZ0_ := hS.1
  have t_hW := fun k (hk9 : k < 22) => (hW k hk9).lt
  have t_f1 := f1.lt
  refine k_v (pc := 4) (k_I E hC hS hA hl.1 (c_J4_init_da8c8 l D tk N0 sa H.size qf1 (hA _ g_f1)) kw_151 kw_152 kw_19 kw_153 rfl (n := 0) (by decide +kernel) rfl ⟨⟨rfl, rfl⟩, ⟨Nat.le_of_ble_eq_true rfl, Nat.le_of_ble_eq_true rfl⟩, (by dsimp only; omega), (by dsimp only; omega)⟩ rfl (Nat.le_of_ble_eq_true rfl) f1 dX3_rowText_4) hS (inA1.to g_f1) hn (fun H locs hR hz hk hS => ?_)
  have hW := hW.kept (fun k hk9 => hk _ (hW k hk9).lt (inA1.not (nW_f1 k hk9) (hW k hk9).lt))
  obtain ⟨q_hB, z9_, f1, hB⟩ := hR
  have s_hB : s.heap.size ≤ q_hB := Nat.le_trans hZ0_ z9_
  have g_hB := hn _ s_hB
  have nW_hB : ∀ k, k < 22 → ad k ≠ q_hB := fun k hk9 => Nat.ne_of_lt (Nat.lt_of_lt_of_le (t_hW k hk9) z9_)
  have l_f1_hB : qf1 < q_hB := Nat.lt_of_lt_of_le t_f1 z9_
  have nW_f1 := cwO hC hW f1.cl
  refine lv_astore_n (pc := 7) (lv' := [(1, .ref qf1), (0, .ref (ad (17 + 2 * j)))]) hx hb dX3_rowText_7 rfl hl (by decide) rfl (fun ls hl => ?_)
  refine lv_iconst (pc := 8) (v := 0) hx hb dX3_rowText_8 (by decide) ?_
  refine lv_istore_n (pc := 9) (lv' := [(2, .int 0), (1, .ref qf1), (0, .ref (ad (17 + 2 * j)))]) hx hb dX3_rowText_9 rfl hl (by decide) rfl (fun ls hl => ?_)
  have loop_10 : ∀ (n : Nat) (k : Nat) (v9 : Nat) (n9 : Nat) (c9 : Nat)(y9 : Int32), (tC g j).toNatClampNeg - k < n → k ≤ (tC g j).toNatClampNeg → y9 = nI k → s.heap.size ≤ v9 → n9 ≤ c9 ∧ 16 ≤ c9 ∧ n9 ≤ 22 * k ∧ c9 ≤ max 16 (2 * n9) → tx_rtL g j ((tC g j).toNatClampNeg - k) k (n9, c9) = tx_rt g j → ∀ (H : Heap) (locs : List Loc) (ls : Array Slot), va_S (nwA s.heap.size) s.heap H locs → CW D tk ad g H → SBo D qf1 v9 0 (nI n9) H → BA D tk v9 c9 H → lv_has ls 3 [(0, .ref (ad (17 + 2 * j))), (1, .ref qf1), (2, .int y9)] → W p l e ({ frames := 6, cells := 4 + ((tx_rt g j).2 - 16), slots := 20 + 2 * ((tx_rt g j).2 - 16) + (4 + (tx_rt g j).1), locals := 137 } : Room) s m args below meth c H locs (2 + (c9 - 16)) (20 + 2 * (c9 - 16)) Q (F0 m 10 ls []) := by
    intro n
    induction n with
    | zero =>
      intro k v9 n9 c9 y9 hf9 hk9 hx9 hv9 hb9 hg9 H locs ls hS hW f1 hB hl
      omega
    | succ n ih_10 =>
      intro k v9 n9 c9 y9 hf9 hk9 hx9 hv9 hb9 hg9 H locs ls hS hW f1 hB hl
      have g_hB := hn _ hv9
      have nW_hB := cwB hC hW hB.cl
      refine lv_iload_n (pc := 10) hx hb dX3_rowText_10 rfl (lv_at hl 2 rfl) ?_
      refine lv_aload_n (pc := 11) hx hb dX3_rowText_11 rfl (lv_at hl 0 rfl) ?_
      refine r_getN (pc := 12) "Bestratios" E hC (hW.tm (j := j) hj) 1 (v := .int (tC g j)) rfl rfl (by decide) uX2 kn_69 (fun _ h => h) dX3_rowText_12 ?_
      refine lv_icmp_ge (pc := 15) (tgt := 46) hx hb dX3_rowText_15 (by decide) (fun c_3 => ?_) (fun c_3 => ?_)
      · have e0 := (i_mle hx9 hk9).mp c_3
        have hR9 : tx_rt g j = (n9, c9) := by rw [← hg9, e0]; rfl
        have hR2 : (tx_rt g j).2 = c9 := by rw [hR9]
        have hR1 : (tx_rt g j).1 = n9 := by rw [hR9]
        refine lv_aload_n (pc := 46) hx hb dX3_rowText_46 rfl (lv_at hl 1 rfl) ?_
        have hZ0_ := hS.1
        have t_hW := fun k (hk9 : k < 22) => (hW k hk9).lt
        have t_f1 := f1.lt
        have t_hB := hB.lt
        refine k_r (pc := 47) (k_V E hC hS hA hl.1 (c1.recv hC f1 rfl) rfl (c_J4_toString_0e30d l D tk N0 sa H.size qf1 v9 c9 n9 0 (by omega) (by omega)) kw_315 kw_316 kw_317 kw_19 kw_318 (n := 0) (by decide +kernel) rfl ⟨⟨rfl, rfl⟩, ⟨Nat.le_of_ble_eq_true rfl, Nat.le_of_ble_eq_true rfl⟩, (by dsimp only; omega), (by dsimp only; omega)⟩ rfl (Nat.le_of_ble_eq_true rfl) ⟨f1, hB⟩ dX3_rowText_47) hS (fun q z w => absurd w (Nat.not_le.mpr z)) hn (fun r_4 H locs hR hz hk hS => ?_)
        have hW := hW.new hk
        have f1 := f1.kept (hk _ f1.lt (Nat.not_le.mpr f1.lt))
        have hB := hB.kept (hk _ hB.lt (Nat.not_le.mpr hB.lt))
        obtain ⟨q_f5, z9_, y9_, f5⟩ := hR
        have f5 := SM.sx f5
        have zr_f5 : s.heap.size ≤ r_4 := Nat.le_trans hZ0_ z9_
        try rw [hQ]
        refine r_aret (pc := 50) E hr (Or.inl ⟨_, rfl⟩) hlk hS (by omega) (by omega) ?_ dX3_rowText_50
        rw [hR1]
        exact ⟨zr_f5, f5⟩
      · have hlt := (i_mlt hx9 hk9).mp c_3
        have e200 : (tC g j).toNatClampNeg - k = ((tC g j).toNatClampNeg - (k + 1)) + 1 := by omega
        rw [e200] at hg9
        have hg8 : tx_rtL g j ((tC g j).toNatClampNeg - (k + 1)) (k + 1) (tx_rtS g j k (n9, c9)) = tx_rt g j := hg9
        have hd9 := dgI_le (f_at g j (nI k)).toInt32
        refine lv_iload_n (pc := 18) hx hb dX3_rowText_18 rfl (lv_at hl 2 rfl) ?_
        refine lv_if_le (pc := 19) (tgt := 29) hx hb dX3_rowText_19 (by decide) (fun c_6 => ?_) (fun c_6 => ?_)
        · have hk0 : k = 0 := by have := (i_le (n := k) nI_0.symm hx9 (by decide) (by omega)).mp c_6; omega
          have hT9 : tx_rtS g j k (n9, c9) = (n9 + dgI (f_at g j (nI k)).toInt32, sbC c9 (n9 + dgI (f_at g j (nI k)).toInt32)) := by rw [tx_rtS, if_pos hk0]; rfl
          have hz2 := tx_gb c9 (n9 + dgI (f_at g j (nI k)).toInt32)
          have hm9 := tx_rtL_m g j ((tC g j).toNatClampNeg - (k + 1)) (k + 1) (tx_rtS g j k (n9, c9))
          rw [hg8, hT9] at hm9
          dsimp only at hm9
          refine lv_aload_n (pc := 29) hx hb dX3_rowText_29 rfl (lv_at hl 1 rfl) ?_
          refine lv_aload_n (pc := 30) hx hb dX3_rowText_30 rfl (lv_at hl 0 rfl) ?_
          refine lv_iload_n (pc := 31) hx hb dX3_rowText_31 rfl (lv_at hl 2 rfl) ?_
          refine k_l (pc := 32) (k_V E hC hS hA hl.1 (c1.recv hC (hW.tm (j := j) hj) rfl) rfl (c_X2_at l D tk N0 sa hAD H.size g j hj y9 ) kw_277 kw_278 kw_279 kw_3 kw_280 (n := 1) (by decide +kernel) rfl ⟨⟨rfl, rfl⟩, ⟨Nat.le_of_ble_eq_true rfl, Nat.le_of_ble_eq_true rfl⟩, (by dsimp only; omega), (by dsimp only; omega)⟩ rfl (Nat.le_of_ble_eq_true rfl) hW dX3_rowText_32) hS (fun q z w => absurd w (Nat.not_le.mpr z)) hn (fun r_7 H locs hR hz hk hS => ?_)
          have er_7 := hR
          have hW := hW.new hk
          have f1 := f1.kept (hk _ f1.lt (Nat.not_le.mpr f1.lt))
          have hB := hB.kept (hk _ hB.lt (Nat.not_le.mpr hB.lt))
          have hr9 : f_at g j (nI k) = r_7 := by rw [er_7, hx9]
          rw [hr9] at hT9 hz2 hm9 hd9
          refine lv_l2i (pc := 35) (v := r_7.toInt32) hx hb dX3_rowText_35 rfl ?_
          have hZ0_ := hS.1
          have t_hW := fun k (hk9 : k < 22) => (hW k hk9).lt
          have t_f1 := f1.lt
          have t_hB := hB.lt
          refine k_r (pc := 36) (k_V E hC hS hA hl.1 (c1.recv hC f1 rfl) rfl (c_J4_append_bf812 l D tk N0 sa H.size qf1 v9 c9 n9 0 r_7.toInt32 (hA _ g_f1) (hA _ g_hB) (by omega) (by omega)) kw_281 kw_282 kw_283 kw_19 kw_284 (n := 1) (by decide +kernel) rfl ⟨⟨rfl, rfl⟩, ⟨Nat.le_of_ble_eq_true rfl, Nat.le_of_ble_eq_true rfl⟩, (by dsimp only; omega), (by dsimp only; omega)⟩ rfl (Nat.le_of_ble_eq_true rfl) ⟨f1, hB⟩ dX3_rowText_36) hS (inA2.to g_f1 g_hB) hn (fun r_9 H locs hR hz hk hS => ?_)
          have hW := hW.kept (fun k hk9 => hk _ (hW k hk9).lt (inA2.not (nW_f1 k hk9) (nW_hB k hk9) (hW k hk9).lt))
          obtain ⟨er9, hR⟩ := hR
          rw [er9]
          obtain ⟨v_10, hv_10, f1, hB⟩ := hR
          have g_hB := hv_10.elim (fun e9 => e9 ▸ g_hB) (fun z9 => hn _ (Nat.le_trans hZ0_ z9))
          have nW_hB : ∀ k, k < 22 → ad k ≠ v_10 := fun k hk9 => hv_10.elim (fun e9 => e9 ▸ nW_hB k hk9) (fun z9 => Nat.ne_of_lt (Nat.lt_of_lt_of_le (t_hW k hk9) z9))
          have hv_10 := hv_10.imp_right (fun z9 => Nat.le_trans hZ0_ z9)
          refine lv_pop (pc := 39) hx hb dX3_rowText_39 rfl ?_
          obtain ⟨x_11, ex_11⟩ : ∃ z9 : Int32, z9 = y9 + 1 := ⟨_, rfl⟩
          refine lv_iinc (pc := 40) (v := x_11) (lv' := [(2, .int x_11), (0, .ref (ad (17 + 2 * j))), (1, .ref qf1)]) hx hb dX3_rowText_40 hl (k := 2) rfl (by rw [ex_11]; rfl) (by decide) rfl (fun ls hl => ?_)
          refine lv_goto (pc := 43) (tgt := 10) hx hb dX3_rowText_43 (by decide) ?_
          refine W.widen (k := 2 + ((sbC c9 (n9 + dgI r_7.toInt32)) - 16)) (n := 20 + 2 * ((sbC c9 (n9 + dgI r_7.toInt32)) - 16)) (by omega) (by omega) ?_
          exact ih_10  (k + 1) v_10 ((n9 + dgI r_7.toInt32)) (sbC c9 (n9 + dgI r_7.toInt32))  x_11 (by omega) (by omega) (i_up hx9 ex_11) (hv_10.elim (fun e9 => e9 ▸ hv9) id) (by omega) (by rw [← hg8, hT9]) _ _ _ hS hW f1 hB (lv_sub hl [1, 2, 0] rfl)
        · have hk0 : ¬ k = 0 := fun z => c_6 (by rw [hx9, z]; decide)
          have hT9 : tx_rtS g j k (n9, c9) = (n9 + 1 + dgI (f_at g j (nI k)).toInt32, sbC (sbC c9 (n9 + 1)) (n9 + 1 + dgI (f_at g j (nI k)).toInt32)) := by rw [tx_rtS, if_neg hk0]; rfl
          have hz1 := tx_gb c9 (n9 + 1)
          have hz2 := tx_gb (sbC c9 (n9 + 1)) (n9 + 1 + dgI (f_at g j (nI k)).toInt32)
          have hm9 := tx_rtL_m g j ((tC g j).toNatClampNeg - (k + 1)) (k + 1) (tx_rtS g j k (n9, c9))
          rw [hg8, hT9] at hm9
          dsimp only at hm9
          refine lv_aload_n (pc := 22) hx hb dX3_rowText_22 rfl (lv_at hl 1 rfl) ?_
          refine lv_bipush (pc := 23) (v := 32) hx hb dX3_rowText_23 (by decide) ?_
          have hZ0_ := hS.1
          have t_hW := fun k (hk9 : k < 22) => (hW k hk9).lt
          have t_f1 := f1.lt
          have t_hB := hB.lt
          refine k_r (pc := 25) (k_V E hC hS hA hl.1 (c1.recv hC f1 rfl) rfl (c_J4_append_cf468 l D tk N0 sa H.size qf1 v9 c9 n9 0 32 32 (hA _ g_f1) (hA _ g_hB) (by omega) (by omega) rfl (by decide)) kw_182 kw_183 kw_184 kw_19 kw_185 (n := 1) (by decide +kernel) rfl ⟨⟨rfl, rfl⟩, ⟨Nat.le_of_ble_eq_true rfl, Nat.le_of_ble_eq_true rfl⟩, (by dsimp only; omega), (by dsimp only; omega)⟩ rfl (Nat.le_of_ble_eq_true rfl) ⟨f1, hB⟩ dX3_rowText_25) hS (inA2.to g_f1 g_hB) hn (fun r_12 H locs hR hz hk hS => ?_)
          have hW := hW.kept (fun k hk9 => hk _ (hW k hk9).lt (inA2.not (nW_f1 k hk9) (nW_hB k hk9) (hW k hk9).lt))
          obtain ⟨er9, hR⟩ := hR
          rw [er9]
          obtain ⟨v_13, hv_13, f1, hB⟩ := hR
          have g_hB := hv_13.elim (fun e9 => e9 ▸ g_hB) (fun z9 => hn _ (Nat.le_trans hZ0_ z9))
          have nW_hB : ∀ k, k < 22 → ad k ≠ v_13 := fun k hk9 => hv_13.elim (fun e9 => e9 ▸ nW_hB k hk9) (fun z9 => Nat.ne_of_lt (Nat.lt_of_lt_of_le (t_hW k hk9) z9))
          have hv_13 := hv_13.imp_right (fun z9 => Nat.le_trans hZ0_ z9)
          refine lv_pop (pc := 28) hx hb dX3_rowText_28 rfl ?_
          refine lv_aload_n (pc := 29) hx hb dX3_rowText_29 rfl (lv_at hl 1 rfl) ?_
          refine lv_aload_n (pc := 30) hx hb dX3_rowText_30 rfl (lv_at hl 0 rfl) ?_
          refine lv_iload_n (pc := 31) hx hb dX3_rowText_31 rfl (lv_at hl 2 rfl) ?_
          refine k_l (pc := 32) (k_V E hC hS hA hl.1 (c1.recv hC (hW.tm (j := j) hj) rfl) rfl (c_X2_at l D tk N0 sa hAD H.size g j hj y9 ) kw_277 kw_278 kw_279 kw_3 kw_280 (n := 1) (by decide +kernel) rfl ⟨⟨rfl, rfl⟩, ⟨Nat.le_of_ble_eq_true rfl, Nat.le_of_ble_eq_true rfl⟩, (by dsimp only; omega), (by dsimp only; omega)⟩ rfl (Nat.le_of_ble_eq_true rfl) hW dX3_rowText_32) hS (fun q z w => absurd w (Nat.not_le.mpr z)) hn (fun r_14 H locs hR hz hk hS => ?_)
          have er_14 := hR
          have hW := hW.new hk
          have f1 := f1.kept (hk _ f1.lt (Nat.not_le.mpr f1.lt))
          have hB := hB.kept (hk _ hB.lt (Nat.not_le.mpr hB.lt))
          have hr9 : f_at g j (nI k) = r_14 := by rw [er_14, hx9]
          rw [hr9] at hT9 hz2 hm9 hd9
          refine lv_l2i (pc := 35) (v := r_14.toInt32) hx hb dX3_rowText_35 rfl ?_
          have hZ0_ := hS.1
          have t_hW := fun k (hk9 : k < 22) => (hW k hk9).lt
          have t_f1 := f1.lt
          have t_hB := hB.lt
          refine k_r (pc := 36) (k_V E hC hS hA hl.1 (c1.recv hC f1 rfl) rfl (c_J4_append_bf812 l D tk N0 sa H.size qf1 v_13 (sbC c9 (n9 + 1)) (n9 + 1) 0 r_14.toInt32 (hA _ g_f1) (hA _ g_hB) (by omega) (by omega)) kw_281 kw_282 kw_283 kw_19 kw_284 (n := 1) (by decide +kernel) rfl ⟨⟨rfl, rfl⟩, ⟨Nat.le_of_ble_eq_true rfl, Nat.le_of_ble_eq_true rfl⟩, (by dsimp only; omega), (by dsimp only; omega)⟩ rfl (Nat.le_of_ble_eq_true rfl) ⟨f1, hB⟩ dX3_rowText_36) hS (inA2.to g_f1 g_hB) hn (fun r_16 H locs hR hz hk hS => ?_)
          have hW := hW.kept (fun k hk9 => hk _ (hW k hk9).lt (inA2.not (nW_f1 k hk9) (nW_hB k hk9) (hW k hk9).lt))
          obtain ⟨er9, hR⟩ := hR
          rw [er9]
          obtain ⟨v_17, hv_17, f1, hB⟩ := hR
          have g_hB := hv_17.elim (fun e9 => e9 ▸ g_hB) (fun z9 => hn _ (Nat.le_trans hZ0_ z9))
          have nW_hB : ∀ k, k < 22 → ad k ≠ v_17 := fun k hk9 => hv_17.elim (fun e9 => e9 ▸ nW_hB k hk9) (fun z9 => Nat.ne_of_lt (Nat.lt_of_lt_of_le (t_hW k hk9) z9))
          have hv_17 := hv_17.imp_right (fun z9 => Nat.le_trans hZ0_ z9)
          have hv_17 := hv_17.elim (fun e9 => e9 ▸ hv_13) Or.inr
          refine lv_pop (pc := 39) hx hb dX3_rowText_39 rfl ?_
          obtain ⟨x_18, ex_18⟩ : ∃ z9 : Int32, z9 = y9 + 1 := ⟨_, rfl⟩
          refine lv_iinc (pc := 40) (v := x_18) (lv' := [(2, .int x_18), (0, .ref (ad (17 + 2 * j))), (1, .ref qf1)]) hx hb dX3_rowText_40 hl (k := 2) rfl (by rw [ex_18]; rfl) (by decide) rfl (fun ls hl => ?_)
          refine lv_goto (pc := 43) (tgt := 10) hx hb dX3_rowText_43 (by decide) ?_
          refine W.widen (k := 2 + ((sbC (sbC c9 (n9 + 1)) ((n9 + 1) + dgI r_14.toInt32)) - 16)) (n := 20 + 2 * ((sbC (sbC c9 (n9 + 1)) ((n9 + 1) + dgI r_14.toInt32)) - 16)) (by omega) (by omega) ?_
          exact ih_10  (k + 1) v_17 (((n9 + 1) + dgI r_14.toInt32)) (sbC (sbC c9 (n9 + 1)) ((n9 + 1) + dgI r_14.toInt32))  x_18 (by omega) (by omega) (i_up hx9 ex_18) (hv_17.elim (fun e9 => e9 ▸ hv9) id) (by omega) (by rw [← hg8, hT9]) _ _ _ hS hW f1 hB (lv_sub hl [1, 2, 0] rfl)
  refine W.widen (k := 2 + (16 - 16)) (n := 20 + 2 * (16 - 16)) (by omega) (by omega) ?_
  exact loop_10 ((tC g j).toNatClampNeg + 1) 0 q_hB 0 16  0 (by omega) (Nat.zero_le _) nI_0.symm s_hB (by omega) (by rw [Nat.sub_zero]; rfl) _ _ _ hS hW f1 hB (lv_sub hl [2, 1, 0] rfl)
