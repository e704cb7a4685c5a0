set_option maxHeartbeats 4000000 in
set_option maxRecDepth 100000 in
/-- Bestratios.error()Ljava/lang/String; -/
theorem c_X3_error (l : Launch) (D : va_G) (tk : Nat → ClassId) (N0 : Nat) (sa : Nat → Nat) {ad : Nat → Nat} (hAD : ADok N0 ad) (sz : Nat) (g : CS) : Met l yX3_error (wsy yX3_error cX3_error 1 (some (.object "java/lang/String"))) ({ frames := 8, cells := 4 + ((tx_wf (tT g 11) (tB g 11) (0, 16)).2 - 16), slots := 20 + 2 * ((tx_wf (tT g 11) (tB g 11) (0, 16)).2 - 16) + (4 + (tx_wf (tT g 11) (tB g 11) (0, 16)).1), locals := 177 } : Room) (cP D tk N0 sa [.ref (ad 15)] sz (fun H => CW D tk ad g H)) (kQr (fun r H => sz ≤ r ∧ SX D tk r ((tx_wf (tT g 11) (tB g 11) (0, 16)).1) H) (nwA sz)) (4 + ((tx_wf (tT g 11) (tB g 11) (0, 16)).2 - 16)) (20 + 2 * ((tx_wf (tT g 11) (tB g 11) (0, 16)).2 - 16) + (4 + (tx_wf (tT g 11) (tB g 11) (0, 16)).1)) (nwA sz) := by
  refine mStart RX3 rfl (by decide +kernel) (Nat.le_of_ble_eq_true rfl) ?_
  intro p e s m args below meth c E hr hlk hnm hsz hC hF ls hl
  subst hsz
  obtain ⟨hx, hb, -⟩ := id E
  have hA : ∀ q, (nwA s.heap.size) q → N0 ≤ q := fun q h => Nat.le_trans hC.2.1 h
  have hn : ∀ q, s.heap.size ≤ q → (nwA s.heap.size) q := fun q h => h
  have hS : va_S (nwA s.heap.size) s.heap s.heap [] := va_S.rf
  have hl : lv_has ls 1 [(0, .ref (ad 15))] := hl
  have hW : CW D tk ad g s.heap := hF
  refine lv_aload_n (pc := 0) hx hb dX3_error_0 rfl (lv_at hl 0 rfl) ?_
  refine r_get (pc := 1) E hC hW.obj 2 (v := .ref (ad 21)) rfl rfl (by decide) uX3 (List.mem_cons_of_mem _ kw_116) (fun _ h => h) dX3_error_1 ?_
  refine r_getN (pc := 4) "Bestratios" E hC hW.tal 2 (v := .ref (ad 11)) rfl rfl (by decide) uX1 kn_89 (fun _ h => h) dX3_error_4 ?_
  have hZ0_ := hS.1
  refine k_r (pc := 7) (k_S E hC hS hA hl.1 (c_X3_textOf l D tk N0 sa hAD s.heap.size g 11 (by decide)) kw_511 kw_512 kw_1 kw_513 (n := 1) (by decide +kernel) rfl ⟨⟨rfl, rfl⟩, ⟨Nat.le_of_ble_eq_true rfl, Nat.le_of_ble_eq_true rfl⟩, (by dsimp only; omega), (by dsimp only; omega)⟩ rfl (Nat.le_of_ble_eq_true rfl) hW dX3_error_7) hS (fun q z w => absurd w (Nat.not_le.mpr z)) hn (fun r_1 H locs hR hz hk hS => ?_)
  have hW := hW.new hk
  obtain ⟨z9_, f3⟩ := hR
  have zr_f3 : s.heap.size ≤ r_1 := Nat.le_trans hZ0_ z9_
  refine r_aret (pc := 10) E hr (Or.inl ⟨_, rfl⟩) hlk hS (by omega) (by omega) ?_ dX3_error_10
  exact ⟨zr_f3, f3⟩
