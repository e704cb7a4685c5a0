set_option maxHeartbeats 4000000 in
set_option maxRecDepth 100000 in
/-- BestratiosModel.roundedNow()Ljava/lang/String; -/
theorem c_X5_roundedNow (l : Launch) (D : va_G) (tk : Nat → ClassId) (N0 : Nat) (sa : Nat → Nat)  (sz : Nat) (P : Nat → Prop) (hPN : ∀ q, P q → N0 ≤ q) (mo n9 : Nat) (kn th : Int32) (tt bb : Nat → Int64) (eT eB oT oB : Int64) (pk : Nat) (ca rf : Int32) (vs : Nat → Value)  : Met l yX5_roundedNow (wsy yX5_roundedNow cX5_roundedNow 1 (some (.object "java/lang/String"))) ({ frames := 7, cells := 16 + 4 * 4, slots := 83 + 3 * 14 + 36 * 4, locals := 163 } : Room) (cP D tk N0 sa [.ref mo] sz (fun H => MI D tk sa P mo tt bb eT eB oT oB pk ca rf vs kn n9 th H)) (kQr (fun r H => ∃ n1, n1 ≤ 16 ∧ SX D tk r n1 H) (nwA sz)) (16 + 4 * 4) (83 + 3 * 14 + 36 * 4) (nwA sz) := by
  refine mStart RX5 rfl (by decide +kernel) (Nat.le_of_ble_eq_true rfl) ?_
  intro p e s m args below meth c E hr hlk hnm hsz hC hF ls hl
  subst hsz
  obtain ⟨hx, hb, -⟩ := id E
  have hA : ∀ q, (nwA s.heap.size) q → N0 ≤ q := fun q h => Nat.le_trans hC.2.1 h
  have hn : ∀ q, s.heap.size ≤ q → (nwA s.heap.size) q := fun q h => h
  have hS : va_S (nwA s.heap.size) s.heap s.heap [] := va_S.rf
  have hl : lv_has ls 1 [(0, .ref mo)] := hl
  have hM : MI D tk sa P mo tt bb eT eB oT oB pk ca rf vs kn n9 th s.heap := hF
  obtain ⟨ra, rl, ex, ro, rt, fo, fj, fk, fe, fr, fw, ⟨hPm, hPa, hPl, hPe, hPr, hPk⟩, hFk, hFe, hFr, hpk, hn9⟩ := hM
  refine lv_aload_n (pc := 0) hx hb dX5_roundedNow_0 rfl (lv_at hl 0 rfl) ?_
  refine r_get (pc := 1) E hC fo 3 (v := .ref ro) rfl rfl (by decide) uX5 (List.mem_cons_of_mem _ kw_1212) (fun _ h => h) dX5_roundedNow_1 ?_
  refine lv_iconst (pc := 4) (v := 0) hx hb dX5_roundedNow_4 (by decide) ?_
  refine r_l0 (pc := 5) E hC fr dX5_roundedNow_5 ?_
  refine lv_aload_n (pc := 6) hx hb dX5_roundedNow_6 rfl (lv_at hl 0 rfl) ?_
  refine r_get (pc := 7) E hC fo 4 (v := .int (nI pk)) rfl rfl (by decide) uX5 (List.mem_cons_of_mem _ kw_1213) (fun _ h => h) dX5_roundedNow_7 ?_
  refine k_l (pc := 10) (k_S E hC hS hA hl.1 (c_X5_power l D tk N0 sa s.heap.size (nI pk) ) kw_1278 kw_1279 kw_5 kw_1280 (n := 1) (by decide +kernel) rfl ⟨⟨rfl, rfl⟩, ⟨Nat.le_of_ble_eq_true rfl, Nat.le_of_ble_eq_true rfl⟩, (by dsimp only; omega), (by dsimp only; omega)⟩ rfl (Nat.le_of_ble_eq_true rfl) trivial dX5_roundedNow_10) hS (fun q z w => absurd w (Nat.not_le.mpr z)) hn (fun r_1 H locs hR hz hk hS => ?_)
  have er_1 := hR
  have fw := fw.new hk
  have fo := fo.kept (hk _ fo.lt (Nat.not_le.mpr fo.lt))
  have fj := fj.kept (hk _ fj.lt (Nat.not_le.mpr fj.lt))
  have fk := fk.new hk
  have fe := fe.kept (hk _ fe.lt (Nat.not_le.mpr fe.lt))
  have fr := fr.kept (hk _ fr.lt (Nat.not_le.mpr fr.lt))
  refine lv_aload_n (pc := 13) hx hb dX5_roundedNow_13 rfl (lv_at hl 0 rfl) ?_
  refine r_get (pc := 14) E hC fo 3 (v := .ref ro) rfl rfl (by decide) uX5 (List.mem_cons_of_mem _ kw_1212) (fun _ h => h) dX5_roundedNow_14 ?_
  refine lv_iconst (pc := 17) (v := 1) hx hb dX5_roundedNow_17 (by decide) ?_
  refine r_l1 (pc := 18) E hC fr dX5_roundedNow_18 ?_
  refine lv_ldiv (pc := 19) hx hb dX5_roundedNow_19 ((m_ne0 hFr.1.2.1)) ?_
  refine lv_lmul (pc := 20) hx hb dX5_roundedNow_20 ?_
  refine lv_aload_n (pc := 21) hx hb dX5_roundedNow_21 rfl (lv_at hl 0 rfl) ?_
  refine r_get (pc := 22) E hC fo 4 (v := .int (nI pk)) rfl rfl (by decide) uX5 (List.mem_cons_of_mem _ kw_1213) (fun _ h => h) dX5_roundedNow_22 ?_
  have hdG := (m_dG1 14).1 (by decide)
  have hZ0_ := hS.1
  have t_fo := fo.lt
  have t_fj := fj.lt
  have t_fk := fun k (hk9 : k < 6) => (fk k hk9).lt
  have t_fe := fe.lt
  have t_fr := fr.lt
  refine k_r (pc := 25) (k_S E hC hS hA hl.1 (c_X5_decimal l D tk N0 sa H.size (oT * (r_1 / oB)) (nI pk) pk 14 rfl (by omega) (by omega) (by decide) (m_rndB hFr.1 er_1 hpk rfl)) kw_1707 kw_1708 kw_5 kw_1709 (n := 2) (by decide +kernel) rfl ⟨⟨rfl, rfl⟩, ⟨Nat.le_of_ble_eq_true rfl, Nat.le_of_ble_eq_true rfl⟩, (by dsimp only; omega), (by dsimp only; omega)⟩ rfl (Nat.le_of_ble_eq_true rfl) trivial dX5_roundedNow_25) hS (fun q z w => absurd w (Nat.not_le.mpr z)) hn (fun r_3 H locs hR hz hk hS => ?_)
  have fw := fw.new hk
  have fo := fo.kept (hk _ fo.lt (Nat.not_le.mpr fo.lt))
  have fj := fj.kept (hk _ fj.lt (Nat.not_le.mpr fj.lt))
  have fk := fk.new hk
  have fe := fe.kept (hk _ fe.lt (Nat.not_le.mpr fe.lt))
  have fr := fr.kept (hk _ fr.lt (Nat.not_le.mpr fr.lt))
  obtain ⟨n_f4, hn_f4, z9_, f4⟩ := hR
  refine r_aret (pc := 28) E hr (Or.inl ⟨_, rfl⟩) hlk hS (by omega) (by omega) ?_ dX5_roundedNow_28
  exact ⟨_, by omega, f4⟩
