set_option maxHeartbeats 4000000 in
set_option maxRecDepth 100000 in
/-- Bestratios.writeFraction(Ljava/lang/StringBuilder;LBestratios$Fraction;)V -/
theorem c_X3_writeFraction (l : Launch) (D : va_G) (tk : Nat → ClassId) (N0 : Nat) (sa : Nat → Nat) {ad : Nat → Nat} (hAD : ADok N0 ad) (sz : Nat) (g : CS) (i : Nat) (hi : i < 15) (a9 v0 n0 c0 : Nat) (ml : Int32) (ha9 : N0 ≤ a9) (hv0 : N0 ≤ v0) (hn9 : n0 ≤ c0) (hcap : c0 ≤ 100000) : Met l yX3_writeFraction (wsy yX3_writeFraction cX3_writeFraction 2 none) ({ frames := 6, cells := (tx_wf (tT g i) (tB g i) (n0, c0)).2 - c0, slots := 2 * ((tx_wf (tT g i) (tB g i) (n0, c0)).2 - c0), locals := 135 } : Room) (cP D tk N0 sa [.ref a9, .ref (ad i)] sz (fun H => CW D tk ad g H ∧ SBo D a9 v0 ml (nI n0) H ∧ BA D tk v0 c0 H)) (kQv (fun H => (∃ v1 ml1, (v1 = v0 ∨ sz ≤ v1) ∧ SBo D a9 v1 ml1 (nI (tx_wf (tT g i) (tB g i) (n0, c0)).1) H ∧ BA D tk v1 (tx_wf (tT g i) (tB g i) (n0, c0)).2 H)) (inA2 a9 v0 sz)) ((tx_wf (tT g i) (tB g i) (n0, c0)).2 - c0) (2 * ((tx_wf (tT g i) (tB g i) (n0, c0)).2 - c0)) (inA2 a9 v0 sz) := by
  refine mStart RX3 rfl (by decide +kernel) (Nat.le_of_ble_eq_true rfl) ?_
  intro p e s m args below meth c E hr hlk hnm hsz hC hF ls hl
  subst hsz
  obtain ⟨hx, hb, -⟩ := id E
  have hA : ∀ q, (inA2 a9 v0 s.heap.size) q → N0 ≤ q := fun q h => h.elim (fun z => z ▸ ha9) (fun z => z.elim (fun w => w ▸ hv0) (fun w => Nat.le_trans hC.2.1 w))
  have hn : ∀ q, s.heap.size ≤ q → (inA2 a9 v0 s.heap.size) q := fun q h => Or.inr (Or.inr h)
  have hS : va_S (inA2 a9 v0 s.heap.size) s.heap s.heap [] := va_S.rf
  have hl : lv_has ls 2 [(0, .ref a9), (1, .ref (ad i))] := hl
  obtain ⟨hW, f0, hB⟩ : CW D tk ad g s.heap ∧ SBo D a9 v0 ml (nI n0) s.heap ∧ BA D tk v0 c0 s.heap := hF
  have g_f0 : (inA2 a9 v0 s.heap.size) a9 := Or.inl rfl
  have g_hB : (inA2 a9 v0 s.heap.size) v0 := Or.inr (Or.inl rfl)
  have nW_f0 := cwO hC hW f0.cl
  have nW_hB := cwB hC hW hB.cl
  have hd1 := dgI_le (tT g i).toInt32
  have hd2 := dgI_le (tB g i).toInt32
  have hz1 := tx_gb c0 (n0 + dgI (tT g i).toInt32)
  have hm1 : sbC c0 (n0 + dgI (tT g i).toInt32) ≤ (tx_wf (tT g i) (tB g i) (n0, c0)).2 := tx_wf_m1 (tT g i) (tB g i) (n0, c0)
  refine lv_aload_n (pc := 0) hx hb dX3_writeFraction_0 rfl (lv_at hl 0 rfl) ?_
  refine lv_aload_n (pc := 1) hx hb dX3_writeFraction_1 rfl (lv_at hl 1 rfl) ?_
  refine r_getN (pc := 2) "Bestratios" E hC (hW.fr (i := i) hi) 0 (v := .long (tT g i)) rfl rfl (by decide) uX0 kn_52 (fun _ h => h) dX3_writeFraction_2 ?_
  refine lv_l2i (pc := 5) (v := (tT g i).toInt32) hx hb dX3_writeFraction_5 rfl ?_
  have hZ0_ := hS.1
  have t_hW := fun k (hk9 : k < 22) => (hW k hk9).lt
  have t_f0 := f0.lt
  have t_hB := hB.lt
  refine k_r (pc := 6) (k_V E hC hS hA hl.1 (c1.recv hC f0 rfl) rfl (c_J4_append_bf812 l D tk N0 sa s.heap.size a9 v0 c0 n0 ml ((tT g i).toInt32) (hA _ g_f0) (hA _ g_hB) (by omega) (by omega)) kw_281 kw_282 kw_283 kw_19 kw_284 (n := 1) (by decide +kernel) rfl ⟨⟨rfl, rfl⟩, ⟨Nat.le_of_ble_eq_true rfl, Nat.le_of_ble_eq_true rfl⟩, (by dsimp only; omega), (by dsimp only; omega)⟩ rfl (Nat.le_of_ble_eq_true rfl) ⟨f0, hB⟩ dX3_writeFraction_6) hS (inA2.to g_f0 g_hB) hn (fun r_1 H locs hR hz hk hS => ?_)
  have hW := hW.kept (fun k hk9 => hk _ (hW k hk9).lt (inA2.not (nW_f0 k hk9) (nW_hB k hk9) (hW k hk9).lt))
  obtain ⟨er9, hR⟩ := hR
  rw [er9]
  obtain ⟨v_2, hv_2, f0, hB⟩ := hR
  have g_hB := hv_2.elim (fun e9 => e9 ▸ g_hB) (fun z9 => hn _ (Nat.le_trans hZ0_ z9))
  have nW_hB : ∀ k, k < 22 → ad k ≠ v_2 := fun k hk9 => hv_2.elim (fun e9 => e9 ▸ nW_hB k hk9) (fun z9 => Nat.ne_of_lt (Nat.lt_of_lt_of_le (t_hW k hk9) z9))
  have hv_2 := hv_2.imp_right (fun z9 => Nat.le_trans hZ0_ z9)
  refine lv_pop (pc := 9) hx hb dX3_writeFraction_9 rfl ?_
  refine lv_aload_n (pc := 10) hx hb dX3_writeFraction_10 rfl (lv_at hl 1 rfl) ?_
  refine r_getN (pc := 11) "Bestratios" E hC (hW.fr (i := i) hi) 1 (v := .long (tB g i)) rfl rfl (by decide) uX0 kn_55 (fun _ h => h) dX3_writeFraction_11 ?_
  refine lv_lconst (pc := 14) (v := 1) hx hb dX3_writeFraction_14 (by decide) ?_
  refine r_lceq (pc := 15) (tgt := 36) E dX3_writeFraction_15 dX3_writeFraction_16 (by decide) (fun c_3 => ?_) (fun c_3 => ?_)
  · have hR9 : tx_wf (tT g i) (tB g i) (n0, c0) = (n0 + dgI (tT g i).toInt32, sbC c0 (n0 + dgI (tT g i).toInt32)) := by rw [tx_wf, if_pos c_3]; rfl
    have hR2 : (tx_wf (tT g i) (tB g i) (n0, c0)).2 = sbC c0 (n0 + dgI (tT g i).toInt32) := by rw [hR9]
    refine r_vret (pc := 36) E hr hlk hS (by omega) (by omega) ?_ dX3_writeFraction_36
    rw [hR9]
    exact ⟨_, _, hv_2, f0, hB⟩
  · have hR9 : tx_wf (tT g i) (tB g i) (n0, c0) = (n0 + dgI (tT g i).toInt32 + 1 + dgI (tB g i).toInt32, sbC (sbC (sbC c0 (n0 + dgI (tT g i).toInt32)) (n0 + dgI (tT g i).toInt32 + 1)) (n0 + dgI (tT g i).toInt32 + 1 + dgI (tB g i).toInt32)) := by rw [tx_wf, if_neg c_3]; rfl
    have hR2 : (tx_wf (tT g i) (tB g i) (n0, c0)).2 = sbC (sbC (sbC c0 (n0 + dgI (tT g i).toInt32)) (n0 + dgI (tT g i).toInt32 + 1)) (n0 + dgI (tT g i).toInt32 + 1 + dgI (tB g i).toInt32) := by rw [hR9]
    have hz2 := tx_gb (sbC c0 (n0 + dgI (tT g i).toInt32)) (n0 + dgI (tT g i).toInt32 + 1)
    have hz3 := tx_gb (sbC (sbC c0 (n0 + dgI (tT g i).toInt32)) (n0 + dgI (tT g i).toInt32 + 1)) (n0 + dgI (tT g i).toInt32 + 1 + dgI (tB g i).toInt32)
    refine lv_aload_n (pc := 19) hx hb dX3_writeFraction_19 rfl (lv_at hl 0 rfl) ?_
    refine lv_bipush (pc := 20) (v := 47) hx hb dX3_writeFraction_20 (by decide) ?_
    have hZ0_ := hS.1
    have t_hW := fun k (hk9 : k < 22) => (hW k hk9).lt
    have t_f0 := f0.lt
    have t_hB := hB.lt
    refine k_r (pc := 22) (k_V E hC hS hA hl.1 (c1.recv hC f0 rfl) rfl (c_J4_append_cf468 l D tk N0 sa H.size a9 v_2 (sbC c0 (n0 + dgI ((tT g i).toInt32))) (n0 + dgI ((tT g i).toInt32)) ml 47 47 (hA _ g_f0) (hA _ g_hB) (by omega) (by omega) rfl (by decide)) kw_182 kw_183 kw_184 kw_19 kw_185 (n := 1) (by decide +kernel) rfl ⟨⟨rfl, rfl⟩, ⟨Nat.le_of_ble_eq_true rfl, Nat.le_of_ble_eq_true rfl⟩, (by dsimp only; omega), (by dsimp only; omega)⟩ rfl (Nat.le_of_ble_eq_true rfl) ⟨f0, hB⟩ dX3_writeFraction_22) hS (inA2.to g_f0 g_hB) hn (fun r_4 H locs hR hz hk hS => ?_)
    have hW := hW.kept (fun k hk9 => hk _ (hW k hk9).lt (inA2.not (nW_f0 k hk9) (nW_hB k hk9) (hW k hk9).lt))
    obtain ⟨er9, hR⟩ := hR
    rw [er9]
    obtain ⟨v_5, hv_5, f0, hB⟩ := hR
    have g_hB := hv_5.elim (fun e9 => e9 ▸ g_hB) (fun z9 => hn _ (Nat.le_trans hZ0_ z9))
    have nW_hB : ∀ k, k < 22 → ad k ≠ v_5 := fun k hk9 => hv_5.elim (fun e9 => e9 ▸ nW_hB k hk9) (fun z9 => Nat.ne_of_lt (Nat.lt_of_lt_of_le (t_hW k hk9) z9))
    have hv_5 := hv_5.imp_right (fun z9 => Nat.le_trans hZ0_ z9)
    have hv_5 := hv_5.elim (fun e9 => e9 ▸ hv_2) Or.inr
    refine lv_pop (pc := 25) hx hb dX3_writeFraction_25 rfl ?_
    refine lv_aload_n (pc := 26) hx hb dX3_writeFraction_26 rfl (lv_at hl 0 rfl) ?_
    refine lv_aload_n (pc := 27) hx hb dX3_writeFraction_27 rfl (lv_at hl 1 rfl) ?_
    refine r_getN (pc := 28) "Bestratios" E hC (hW.fr (i := i) hi) 1 (v := .long (tB g i)) rfl rfl (by decide) uX0 kn_55 (fun _ h => h) dX3_writeFraction_28 ?_
    refine lv_l2i (pc := 31) (v := (tB g i).toInt32) hx hb dX3_writeFraction_31 rfl ?_
    have hZ0_ := hS.1
    have t_hW := fun k (hk9 : k < 22) => (hW k hk9).lt
    have t_f0 := f0.lt
    have t_hB := hB.lt
    refine k_r (pc := 32) (k_V E hC hS hA hl.1 (c1.recv hC f0 rfl) rfl (c_J4_append_bf812 l D tk N0 sa H.size a9 v_5 (sbC (sbC c0 (n0 + dgI ((tT g i).toInt32))) ((n0 + dgI ((tT g i).toInt32)) + 1)) ((n0 + dgI ((tT g i).toInt32)) + 1) ml ((tB g i).toInt32) (hA _ g_f0) (hA _ g_hB) (by omega) (by omega)) kw_281 kw_282 kw_283 kw_19 kw_284 (n := 1) (by decide +kernel) rfl ⟨⟨rfl, rfl⟩, ⟨Nat.le_of_ble_eq_true rfl, Nat.le_of_ble_eq_true rfl⟩, (by dsimp only; omega), (by dsimp only; omega)⟩ rfl (Nat.le_of_ble_eq_true rfl) ⟨f0, hB⟩ dX3_writeFraction_32) hS (inA2.to g_f0 g_hB) hn (fun r_6 H locs hR hz hk hS => ?_)
    have hW := hW.kept (fun k hk9 => hk _ (hW k hk9).lt (inA2.not (nW_f0 k hk9) (nW_hB k hk9) (hW k hk9).lt))
    obtain ⟨er9, hR⟩ := hR
    rw [er9]
    obtain ⟨v_7, hv_7, f0, hB⟩ := hR
    have g_hB := hv_7.elim (fun e9 => e9 ▸ g_hB) (fun z9 => hn _ (Nat.le_trans hZ0_ z9))
    have nW_hB : ∀ k, k < 22 → ad k ≠ v_7 := fun k hk9 => hv_7.elim (fun e9 => e9 ▸ nW_hB k hk9) (fun z9 => Nat.ne_of_lt (Nat.lt_of_lt_of_le (t_hW k hk9) z9))
    have hv_7 := hv_7.imp_right (fun z9 => Nat.le_trans hZ0_ z9)
    have hv_7 := hv_7.elim (fun e9 => e9 ▸ hv_5) Or.inr
    refine lv_pop (pc := 35) hx hb dX3_writeFraction_35 rfl ?_
    refine r_vret (pc := 36) E hr hlk hS (by omega) (by omega) ?_ dX3_writeFraction_36
    rw [hR9]
    exact ⟨_, _, hv_7, f0, hB⟩
