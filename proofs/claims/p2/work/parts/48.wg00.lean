set_option maxHeartbeats 4000000 in
set_option maxRecDepth 100000 in
/-- BestratiosModel.cutNow(III)Ljava/lang/String; -/
theorem c_X5_cutNow (l : Launch) (D : va_G) (tk : Nat → ClassId) (N0 : Nat) (sa : Nat → Nat)  (sz : Nat) (P : Nat → Prop) (hPN : ∀ q, P q → N0 ≤ q) (mo n9 : Nat) (kn th : Int32) (tt bb : Nat → Int64) (eT eB oT oB : Int64) (pk : Nat) (ca rf : Int32) (vs : Nat → Value) (x : Int32) (k_x : Nat) (hx_x : x = nI k_x) (hk_x : k_x < 6) (pl : Int32) (md : Int32) (kp : Nat) (nd : Nat) (hpl : pl = nI kp) (hkp : kp ≤ 9) (hkn : kp + 1 ≤ nd) (hnd : nd ≤ 20) (hdg : ∀ t b : Int64, m_F t b → dgJ (f_absJ (m_cut t b pl md)) ≤ nd) : Met l yX5_cutNow (wsy yX5_cutNow cX5_cutNow 4 (some (.object "java/lang/String"))) ({ frames := 7, cells := 16 + 4 * kp + 2 * m_dG nd, slots := 83 + 3 * nd + 36 * kp + 68 * m_dG nd, locals := 163 } : Room) (cP D tk N0 sa [.ref mo, .int x, .int pl, .int md] sz (fun H => MI D tk sa P mo tt bb eT eB oT oB pk ca rf vs kn n9 th H)) (kQr (fun r H => ∃ n1, n1 ≤ 22 ∧ SX D tk r n1 H) (nwA sz)) (16 + 4 * kp + 2 * m_dG nd) (83 + 3 * nd + 36 * kp + 68 * m_dG nd) (nwA sz) := by
  refine mStart RX5 rfl (by decide +kernel) (Nat.le_of_ble_eq_true rfl) ?_
  intro p e s m args below meth c E hr hlk hnm hsz hC hF ls hl
  subst hsz
  obtain ⟨hx, hb, -⟩ := id E
  have hA : ∀ q, (nwA s.heap.size) q → N0 ≤ q := fun q h => Nat.le_trans hC.2.1 h
  have hn : ∀ q, s.heap.size ≤ q → (nwA s.heap.size) q := fun q h => h
  have hS : va_S (nwA s.heap.size) s.heap s.heap [] := va_S.rf
  have hl : lv_has ls 4 [(0, .ref mo), (1, .int x), (2, .int pl), (3, .int md)] := hl
  have hM : MI D tk sa P mo tt bb eT eB oT oB pk ca rf vs kn n9 th s.heap := hF
  obtain ⟨ra, rl, ex, ro, rt, fo, fj, fk, fe, fr, fw, ⟨hPm, hPa, hPl, hPe, hPr, hPk⟩, hFk, hFe, hFr, hpk, hn9⟩ := hM
  refine lv_aload_n (pc := 0) hx hb dX5_cutNow_0 rfl (lv_at hl 0 rfl) ?_
  refine r_get (pc := 1) E hC fo 0 (v := .ref ra) rfl rfl (by decide) uX5 (List.mem_cons_of_mem _ kw_1209) (fun _ h => h) dX5_cutNow_1 ?_
  refine lv_iload_n (pc := 4) hx hb dX5_cutNow_4 rfl (lv_at hl 1 rfl) ?_
  refine r_aaldJ (pc := 5) E hC fj k_x hx_x hk_x (by decide) rfl dX5_cutNow_5 ?_
  have fL1 := fk k_x hk_x
  have mF_fL1 := hFk k_x hk_x
  have Pq_fL1 := hPk k_x hk_x
  refine lv_iconst (pc := 6) (v := 0) hx hb dX5_cutNow_6 (by decide) ?_
  refine r_l0 (pc := 7) E hC fL1 dX5_cutNow_7 ?_
  refine lv_aload_n (pc := 8) hx hb dX5_cutNow_8 rfl (lv_at hl 0 rfl) ?_
  refine r_get (pc := 9) E hC fo 0 (v := .ref ra) rfl rfl (by decide) uX5 (List.mem_cons_of_mem _ kw_1209) (fun _ h => h) dX5_cutNow_9 ?_
  refine lv_iload_n (pc := 12) hx hb dX5_cutNow_12 rfl (lv_at hl 1 rfl) ?_
  refine r_aaldJ (pc := 13) E hC fj k_x hx_x hk_x (by decide) rfl dX5_cutNow_13 ?_
  have fL2 := fk k_x hk_x
  have mF_fL2 := hFk k_x hk_x
  have Pq_fL2 := hPk k_x hk_x
  refine lv_iconst (pc := 14) (v := 1) hx hb dX5_cutNow_14 (by decide) ?_
  refine r_l1 (pc := 15) E hC fL2 dX5_cutNow_15 ?_
  refine lv_iload_n (pc := 16) hx hb dX5_cutNow_16 rfl (lv_at hl 2 rfl) ?_
  refine lv_iload_n (pc := 17) hx hb dX5_cutNow_17 rfl (lv_at hl 3 rfl) ?_
  refine k_l (pc := 18) (k_S E hC hS hA hl.1 (c_X5_cutOf l D tk N0 sa s.heap.size (tt k_x) (bb k_x) pl md (m_ne0 mF_fL2.2.1)) kw_1704 kw_1705 kw_5 kw_1706 (n := 4) (by decide +kernel) rfl ⟨⟨rfl, rfl⟩, ⟨Nat.le_of_ble_eq_true rfl, Nat.le_of_ble_eq_true rfl⟩, (by dsimp only; omega), (by dsimp only; omega)⟩ rfl (Nat.le_of_ble_eq_true rfl) trivial dX5_cutNow_18) hS (fun q z w => absurd w (Nat.not_le.mpr z)) hn (fun r_3 H locs hR hz hk hS => ?_)
  have er_3 := hR
  have fw := fw.new hk
  have fo := fo.kept (hk _ fo.lt (Nat.not_le.mpr fo.lt))
  have fj := fj.kept (hk _ fj.lt (Nat.not_le.mpr fj.lt))
  have fk := fk.new hk
  have fe := fe.kept (hk _ fe.lt (Nat.not_le.mpr fe.lt))
  have fr := fr.kept (hk _ fr.lt (Nat.not_le.mpr fr.lt))
  have fL1 := fL1.kept (hk _ fL1.lt (Nat.not_le.mpr fL1.lt))
  have fL2 := fL2.kept (hk _ fL2.lt (Nat.not_le.mpr fL2.lt))
  refine lv_iload_n (pc := 21) hx hb dX5_cutNow_21 rfl (lv_at hl 2 rfl) ?_
  have hZ0_ := hS.1
  have t_fo := fo.lt
  have t_fj := fj.lt
  have t_fk := fun k (hk9 : k < 6) => (fk k hk9).lt
  have t_fe := fe.lt
  have t_fr := fr.lt
  have t_fL1 := fL1.lt
  have t_fL2 := fL2.lt
  refine k_r (pc := 22) (k_S E hC hS hA hl.1 (c_X5_decimal l D tk N0 sa H.size r_3 pl kp nd hpl hkp hkn hnd (by rw [er_3]; exact hdg _ _ mF_fL2)) kw_1707 kw_1708 kw_5 kw_1709 (n := 2) (by decide +kernel) rfl ⟨⟨rfl, rfl⟩, ⟨Nat.le_of_ble_eq_true rfl, Nat.le_of_ble_eq_true rfl⟩, (by dsimp only; omega), (by dsimp only; omega)⟩ rfl (Nat.le_of_ble_eq_true rfl) trivial dX5_cutNow_22) hS (fun q z w => absurd w (Nat.not_le.mpr z)) hn (fun r_5 H locs hR hz hk hS => ?_)
  have fw := fw.new hk
  have fo := fo.kept (hk _ fo.lt (Nat.not_le.mpr fo.lt))
  have fj := fj.kept (hk _ fj.lt (Nat.not_le.mpr fj.lt))
  have fk := fk.new hk
  have fe := fe.kept (hk _ fe.lt (Nat.not_le.mpr fe.lt))
  have fr := fr.kept (hk _ fr.lt (Nat.not_le.mpr fr.lt))
  have fL1 := fL1.kept (hk _ fL1.lt (Nat.not_le.mpr fL1.lt))
  have fL2 := fL2.kept (hk _ fL2.lt (Nat.not_le.mpr fL2.lt))
  obtain ⟨n_f6, hn_f6, z9_, f6⟩ := hR
  refine r_aret (pc := 25) E hr (Or.inl ⟨_, rfl⟩) hlk hS (by omega) (by omega) ?_ dX5_cutNow_25
  exact ⟨_, by omega, f6⟩
