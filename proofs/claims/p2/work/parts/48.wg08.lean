set_option maxHeartbeats 4000000 in
set_option maxRecDepth 100000 in
/-- BestratiosModel.errorNow()Ljava/lang/String; -/
theorem c_X5_errorNow (l : Launch) (D : va_G) (tk : Nat → ClassId) (N0 : Nat) (sa : Nat → Nat)  (sz : Nat) (P : Nat → Prop) (hPN : ∀ q, P q → N0 ≤ q) (mo n9 : Nat) (kn th : Int32) (tt bb : Nat → Int64) (eT eB oT oB : Int64) (pk : Nat) (ca rf : Int32) (vs : Nat → Value)  : Met l yX5_errorNow (wsy yX5_errorNow cX5_errorNow 1 (some (.object "java/lang/String"))) ({ frames := 7, cells := 8, slots := 212, locals := 157 } : Room) (cP D tk N0 sa [.ref mo] sz (fun H => MI D tk sa P mo tt bb eT eB oT oB pk ca rf vs kn n9 th H)) (kQr (fun r H => ∃ n1, n1 ≤ 43 ∧ SX D tk r n1 H) (nwA sz)) (8) (212) (nwA sz) := by
  refine mStart RX5 rfl (by decide +kernel) (Nat.le_of_ble_eq_true rfl) ?_
  intro p e s m args below meth c E hr hlk hnm hsz hC hF ls hl
  subst hsz
  obtain ⟨hx, hb, -⟩ := id E
  have hA : ∀ q, (nwA s.heap.size) q → N0 ≤ q := fun q h => Nat.le_trans hC.2.1 h
  have hn : ∀ q, s.heap.size ≤ q → (nwA s.heap.size) q := fun q h => h
  have hS : va_S (nwA s.heap.size) s.heap s.heap [] := va_S.rf
  have hl : lv_has ls 1 [(0, .ref mo)] := hl
  have hM : MI D tk sa P mo tt bb eT eB oT oB pk ca rf vs kn n9 th s.heap := hF
  obtain ⟨ra, rl, ex, ro, rt, fo, fj, fk, fe, fr, fw, ⟨hPm, hPa, hPl, hPe, hPr, hPk⟩, hFk, hFe, hFr, hpk, hn9⟩ := hM
  refine lv_aload_n (pc := 0) hx hb dX5_errorNow_0 rfl (lv_at hl 0 rfl) ?_
  refine r_get (pc := 1) E hC fo 2 (v := .ref ex) rfl rfl (by decide) uX5 (List.mem_cons_of_mem _ kw_1211) (fun _ h => h) dX5_errorNow_1 ?_
  refine lv_aload_n (pc := 4) hx hb dX5_errorNow_4 rfl (lv_at hl 0 rfl) ?_
  refine r_get (pc := 5) E hC fo 3 (v := .ref ro) rfl rfl (by decide) uX5 (List.mem_cons_of_mem _ kw_1212) (fun _ h => h) dX5_errorNow_5 ?_
  refine lv_iconst (pc := 8) (v := (-1)) hx hb dX5_errorNow_8 (by decide) ?_
  have hP9 := m_sumP (-1) hFe hFr.1 (by decide)
  have hZ0_ := hS.1
  have t_fo := fo.lt
  have t_fj := fj.lt
  have t_fk := fun k (hk9 : k < 6) => (fk k hk9).lt
  have t_fe := fe.lt
  have t_fr := fr.lt
  refine k_r (pc := 9) (k_S E hC hS hA hl.1 (c_X5_sum l D tk N0 sa s.heap.size ex eT eB ro oT oB ((-1)) hP9.1) kw_1297 kw_1298 kw_5 kw_1299 (n := 3) (by decide +kernel) rfl ⟨⟨rfl, rfl⟩, ⟨Nat.le_of_ble_eq_true rfl, Nat.le_of_ble_eq_true rfl⟩, (by dsimp only; omega), (by dsimp only; omega)⟩ rfl (Nat.le_of_ble_eq_true rfl) ⟨fe, fr⟩ dX5_errorNow_9) hS (fun q z w => absurd w (Nat.not_le.mpr z)) hn (fun r_1 H locs hR hz hk hS => ?_)
  have fw := fw.new hk
  have fo := fo.kept (hk _ fo.lt (Nat.not_le.mpr fo.lt))
  have fj := fj.kept (hk _ fj.lt (Nat.not_le.mpr fj.lt))
  have fk := fk.new hk
  have fe := fe.kept (hk _ fe.lt (Nat.not_le.mpr fe.lt))
  have fr := fr.kept (hk _ fr.lt (Nat.not_le.mpr fr.lt))
  obtain ⟨z9_, f2⟩ := hR
  have s_f2 : s.heap.size ≤ r_1 := Nat.le_trans hZ0_ z9_
  have g_f2 := hn _ s_f2
  have l_fo_f2 : mo < r_1 := Nat.lt_of_lt_of_le t_fo z9_
  have l_fj_f2 : ra < r_1 := Nat.lt_of_lt_of_le t_fj z9_
  have nW_f2 : ∀ k, k < 6 → rt k ≠ r_1 := fun k hk9 => Nat.ne_of_lt (Nat.lt_of_lt_of_le (t_fk k hk9) z9_)
  have l_fe_f2 : ex < r_1 := Nat.lt_of_lt_of_le t_fe z9_
  have l_fr_f2 : ro < r_1 := Nat.lt_of_lt_of_le t_fr z9_
  have hZ0_ := hS.1
  have t_fo := fo.lt
  have t_fj := fj.lt
  have t_fk := fun k (hk9 : k < 6) => (fk k hk9).lt
  have t_fe := fe.lt
  have t_fr := fr.lt
  have t_f2 := f2.lt
  refine k_r (pc := 12) (k_S E hC hS hA hl.1 (c_X5_text l D tk N0 sa H.size r_1 (m_loT (eT * oB + (((-1) : Int32)).toInt64 * (oT * eB)) (eB * oB)) (m_loB (eT * oB + (((-1) : Int32)).toInt64 * (oT * eB)) (eB * oB))) kw_1348 kw_1349 kw_5 kw_1350 (n := 1) (by decide +kernel) rfl ⟨⟨rfl, rfl⟩, ⟨Nat.le_of_ble_eq_true rfl, Nat.le_of_ble_eq_true rfl⟩, (by dsimp only; omega), (by dsimp only; omega)⟩ rfl (Nat.le_of_ble_eq_true rfl) f2 dX5_errorNow_12) hS (fun q z w => absurd w (Nat.not_le.mpr z)) hn (fun r_3 H locs hR hz hk hS => ?_)
  have fw := fw.new hk
  have fo := fo.kept (hk _ fo.lt (Nat.not_le.mpr fo.lt))
  have fj := fj.kept (hk _ fj.lt (Nat.not_le.mpr fj.lt))
  have fk := fk.new hk
  have fe := fe.kept (hk _ fe.lt (Nat.not_le.mpr fe.lt))
  have fr := fr.kept (hk _ fr.lt (Nat.not_le.mpr fr.lt))
  have f2 := f2.kept (hk _ f2.lt (Nat.not_le.mpr f2.lt))
  obtain ⟨n_f4, hn_f4, z9_, f4⟩ := hR
  refine r_aret (pc := 15) E hr (Or.inl ⟨_, rfl⟩) hlk hS (by omega) (by omega) ?_ dX5_errorNow_15
  exact ⟨_, by omega, f4⟩
