set_option maxHeartbeats 4000000 in
set_option maxRecDepth 100000 in
/-- Bestratios.writeRounded(Ljava/lang/StringBuilder;)V -/
theorem c_X3_writeRounded (l : Launch) (D : va_G) (tk : Nat → ClassId) (N0 : Nat) (sa : Nat → Nat) {ad : Nat → Nat} (hAD : ADok N0 ad) (sz : Nat) (g : CS) (a9 v0 n0 c0 : Nat) (ml : Int32) (ha9 : N0 ≤ a9) (hv0 : N0 ≤ v0) (hn9 : n0 ≤ c0) (hcap : c0 ≤ 100000) (kp : Nat) (hpl : tI g 3 = nI kp) (hkp : kp ≤ 9) (hdg : txD (f_cutNum (tT g 10) (tB g 10) (tI g 3) 0) kp) : Met l yX3_writeRounded (wsy yX3_writeRounded cX3_writeRounded 2 none) ({ frames := 7, cells := (tx_wd (f_cutNum (tT g 10) (tB g 10) (tI g 3) 0) kp (n0, c0)).2 - c0, slots := 2 * ((tx_wd (f_cutNum (tT g 10) (tB g 10) (tI g 3) 0) kp (n0, c0)).2 - c0), locals := 163 } : Room) (cP D tk N0 sa [.ref (ad 15), .ref a9] sz (fun H => CW D tk ad g H ∧ SBo D a9 v0 ml (nI n0) H ∧ BA D tk v0 c0 H)) (kQv (fun H => (∃ v1 ml1, (v1 = v0 ∨ sz ≤ v1) ∧ SBo D a9 v1 ml1 (nI (tx_wd (f_cutNum (tT g 10) (tB g 10) (tI g 3) 0) kp (n0, c0)).1) H ∧ BA D tk v1 (tx_wd (f_cutNum (tT g 10) (tB g 10) (tI g 3) 0) kp (n0, c0)).2 H)) (inA2 a9 v0 sz)) ((tx_wd (f_cutNum (tT g 10) (tB g 10) (tI g 3) 0) kp (n0, c0)).2 - c0) (2 * ((tx_wd (f_cutNum (tT g 10) (tB g 10) (tI g 3) 0) kp (n0, c0)).2 - c0)) (inA2 a9 v0 sz) := by
  refine mStart RX3 rfl (by decide +kernel) (Nat.le_of_ble_eq_true rfl) ?_
  intro p e s m args below meth c E hr hlk hnm hsz hC hF ls hl
  subst hsz
  obtain ⟨hx, hb, -⟩ := id E
  have hA : ∀ q, (inA2 a9 v0 s.heap.size) q → N0 ≤ q := fun q h => h.elim (fun z => z ▸ ha9) (fun z => z.elim (fun w => w ▸ hv0) (fun w => Nat.le_trans hC.2.1 w))
  have hn : ∀ q, s.heap.size ≤ q → (inA2 a9 v0 s.heap.size) q := fun q h => Or.inr (Or.inr h)
  have hS : va_S (inA2 a9 v0 s.heap.size) s.heap s.heap [] := va_S.rf
  have hl : lv_has ls 2 [(0, .ref (ad 15)), (1, .ref a9)] := hl
  obtain ⟨hW, f0, hB⟩ : CW D tk ad g s.heap ∧ SBo D a9 v0 ml (nI n0) s.heap ∧ BA D tk v0 c0 s.heap := hF
  have g_f0 : (inA2 a9 v0 s.heap.size) a9 := Or.inl rfl
  have g_hB : (inA2 a9 v0 s.heap.size) v0 := Or.inr (Or.inl rfl)
  have nW_f0 := cwO hC hW f0.cl
  have nW_hB := cwB hC hW hB.cl
  refine lv_aload_n (pc := 0) hx hb dX3_writeRounded_0 rfl (lv_at hl 1 rfl) ?_
  refine lv_aload_n (pc := 1) hx hb dX3_writeRounded_1 rfl (lv_at hl 0 rfl) ?_
  refine r_get (pc := 2) E hC hW.obj 2 (v := .ref (ad 21)) rfl rfl (by decide) uX3 (List.mem_cons_of_mem _ kw_116) (fun _ h => h) dX3_writeRounded_2 ?_
  refine r_getN (pc := 5) "Bestratios" E hC hW.tal 1 (v := .ref (ad 10)) rfl rfl (by decide) uX1 kn_87 (fun _ h => h) dX3_writeRounded_5 ?_
  refine lv_aload_n (pc := 8) hx hb dX3_writeRounded_8 rfl (lv_at hl 0 rfl) ?_
  refine r_get (pc := 9) E hC hW.obj 2 (v := .ref (ad 21)) rfl rfl (by decide) uX3 (List.mem_cons_of_mem _ kw_116) (fun _ h => h) dX3_writeRounded_9 ?_
  refine r_getN (pc := 12) "Bestratios" E hC hW.tal 7 (v := .int (tI g 3)) rfl rfl (by decide) uX1 kn_96 (fun _ h => h) dX3_writeRounded_12 ?_
  refine lv_iconst (pc := 15) (v := 0) hx hb dX3_writeRounded_15 (by decide) ?_
  refine k_l (pc := 16) (k_V E hC hS hA hl.1 (c1.recv hC (hW.fr (i := 10) (by decide)) rfl) rfl (c_X0_cutTo l D tk N0 sa hAD s.heap.size g 10 (by decide) (tI g 3) 0 ) kw_525 kw_526 kw_527 kw_2 kw_528 (n := 2) (by decide +kernel) rfl ⟨⟨rfl, rfl⟩, ⟨Nat.le_of_ble_eq_true rfl, Nat.le_of_ble_eq_true rfl⟩, (by dsimp only; omega), (by dsimp only; omega)⟩ rfl (Nat.le_of_ble_eq_true rfl) hW dX3_writeRounded_16) hS (fun q z w => absurd w (Nat.not_le.mpr z)) hn (fun r_1 H locs hR hz hk hS => ?_)
  have er_1 := hR
  have hW := hW.new hk
  have f0 := f0.kept (hk _ f0.lt (Nat.not_le.mpr f0.lt))
  have hB := hB.kept (hk _ hB.lt (Nat.not_le.mpr hB.lt))
  refine lv_aload_n (pc := 19) hx hb dX3_writeRounded_19 rfl (lv_at hl 0 rfl) ?_
  refine r_get (pc := 20) E hC hW.obj 2 (v := .ref (ad 21)) rfl rfl (by decide) uX3 (List.mem_cons_of_mem _ kw_116) (fun _ h => h) dX3_writeRounded_20 ?_
  refine r_getN (pc := 23) "Bestratios" E hC hW.tal 7 (v := .int (tI g 3)) rfl rfl (by decide) uX1 kn_96 (fun _ h => h) dX3_writeRounded_23 ?_
  have hZ0_ := hS.1
  have t_hW := fun k (hk9 : k < 22) => (hW k hk9).lt
  have t_f0 := f0.lt
  have t_hB := hB.lt
  obtain ⟨Q_3, eQ_3⟩ : ∃ z9 : Nat × Nat, z9 = tx_wd r_1 kp (n0, c0) := ⟨_, rfl⟩
  have e2Q_3 : (tx_wd r_1 kp (n0, c0)).2 = Q_3.2 := by rw [eQ_3]
  have e1Q_3 : (tx_wd r_1 kp (n0, c0)).1 = Q_3.1 := by rw [eQ_3]
  have hQ_3 := tx_wd_ok r_1 kp (q := (n0, c0)) (by dsimp only; omega)
  rw [← eQ_3] at hQ_3; dsimp only [tx_ok] at hQ_3
  have hM9 : (tx_wd (f_cutNum (tT g 10) (tB g 10) (tI g 3) 0) kp (n0, c0)).2 = Q_3.2 := by rw [eQ_3, er_1]
  refine k_v (pc := 26) (k_S E hC hS hA hl.1 (c_X3_writeDecimal l D tk N0 sa H.size r_1 (tI g 3) a9 v0 n0 c0 ml (hA _ g_f0) (hA _ g_hB) (by omega) (by omega) kp hpl hkp (by rw [er_1]; exact hdg)) kw_542 kw_543 kw_1 kw_544 (n := 3) (by decide +kernel) rfl ⟨⟨rfl, rfl⟩, ⟨Nat.le_of_ble_eq_true rfl, Nat.le_of_ble_eq_true rfl⟩, (by dsimp only; omega), (by dsimp only; omega)⟩ rfl (Nat.le_of_ble_eq_true rfl) ⟨f0, hB⟩ dX3_writeRounded_26) hS (inA2.to g_f0 g_hB) hn (fun H locs hR hz hk hS => ?_)
  have hW := hW.kept (fun k hk9 => hk _ (hW k hk9).lt (inA2.not (nW_f0 k hk9) (nW_hB k hk9) (hW k hk9).lt))
  obtain ⟨v_5, ml_5, hv_5, f0, hB⟩ := hR
  have g_hB := hv_5.elim (fun e9 => e9 ▸ g_hB) (fun z9 => hn _ (Nat.le_trans hZ0_ z9))
  have nW_hB : ∀ k, k < 22 → ad k ≠ v_5 := fun k hk9 => hv_5.elim (fun e9 => e9 ▸ nW_hB k hk9) (fun z9 => Nat.ne_of_lt (Nat.lt_of_lt_of_le (t_hW k hk9) z9))
  have hv_5 := hv_5.imp_right (fun z9 => Nat.le_trans hZ0_ z9)
  rw [← eQ_3] at f0 hB
  refine r_vret (pc := 29) E hr hlk hS (by omega) (by omega) ?_ dX3_writeRounded_29
  rw [← er_1, ← eQ_3]
  exact ⟨_, _, hv_5, f0, hB⟩
