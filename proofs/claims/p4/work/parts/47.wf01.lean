set_option maxHeartbeats 4000000 in
set_option maxRecDepth 100000 in
/-- BestratiosModel.way(I)Ljava/lang/String; -/
theorem c_X5_way (l : Launch) (D : va_G) (tk : Nat → ClassId) (N0 : Nat) (sa : Nat → Nat)  (sz : Nat) (P : Nat → Prop) (hPN : ∀ q, P q → N0 ≤ q) (hPs : ∀ q, sz ≤ q → P q) (mo n9 : Nat) (kn th : Int32) (tt bb : Nat → Int64) (eT eB oT oB : Int64) (pk : Nat) (ca rf : Int32) (vs : Nat → Value) (x1 : Int32) : Met l yX5_way (wsy yX5_way cX5_way 2 (some (.object "java/lang/String"))) ({ frames := 9, cells := 393, slots := 14193, locals := 212 } : Room) (cP D tk N0 sa [.ref mo, .int x1] sz (fun H => MI D tk sa P mo tt bb eT eB oT oB pk ca rf vs kn n9 th H)) (kQr (fun r H => ∃ th1, MI D tk sa P mo tt bb eT eB oT oB pk ca rf vs kn n9 th1 H) (P)) (393) (14193) (P) := by
  refine mStart RX5 rfl (by decide +kernel) (Nat.le_of_ble_eq_true rfl) ?_
  intro p e s m args below meth c E hr hlk hnm hsz hC hF ls hl
  subst hsz
  obtain ⟨hx, hb, -⟩ := id E
  have hA : ∀ q, (P) q → N0 ≤ q := hPN
  have hn : ∀ q, s.heap.size ≤ q → (P) q := hPs
  have hS : va_S (P) s.heap s.heap [] := va_S.rf
  have hl : lv_has ls 2 [(0, .ref mo), (1, .int x1)] := hl
  have hM : MI D tk sa P mo tt bb eT eB oT oB pk ca rf vs kn n9 th s.heap := hF
  obtain ⟨ra, rl, ex, ro, rt, fo, fj, fk, fe, fr, fw, ⟨hPm, hPa, hPl, hPe, hPr, hPk⟩, hFk, hFe, hFr, hpk, hn9⟩ := hM
  have g_fo := hPm
  have g_fj := hPa
  refine lv_aload_n (pc := 0) hx hb dX5_way_0 rfl (lv_at hl 0 rfl) ?_
  refine lv_iload_n (pc := 1) hx hb dX5_way_1 rfl (lv_at hl 1 rfl) ?_
  refine k_i (pc := 2) (k_S E hC hS hA hl.1 (c_X5_isNo l D tk N0 sa s.heap.size x1 ) kw_1245 kw_1246 kw_5 kw_1247 (n := 1) (by decide +kernel) rfl ⟨⟨rfl, rfl⟩, ⟨Nat.le_of_ble_eq_true rfl, Nat.le_of_ble_eq_true rfl⟩, (by dsimp only; omega), (by dsimp only; omega)⟩ rfl (Nat.le_of_ble_eq_true rfl) trivial dX5_way_2) hS (fun q z w => absurd w (Nat.not_le.mpr z)) hn (fun r_1 H locs hR hz hk hS => ?_)
  have er_1 := hR
  have fw := fw.new hk
  have fo := fo.kept (hk _ fo.lt (Nat.not_le.mpr fo.lt))
  have fj := fj.kept (hk _ fj.lt (Nat.not_le.mpr fj.lt))
  have fk := fk.new hk
  have fe := fe.kept (hk _ fe.lt (Nat.not_le.mpr fe.lt))
  have fr := fr.kept (hk _ fr.lt (Nat.not_le.mpr fr.lt))
  refine lv_iconst (pc := 5) (v := 0) hx hb dX5_way_5 (by decide) ?_
  have hZ0_ := hS.1
  have t_fo := fo.lt
  have t_fj := fj.lt
  have t_fk := fun k (hk9 : k < 6) => (fk k hk9).lt
  have t_fe := fe.lt
  have t_fr := fr.lt
  refine k_i (pc := 6) (k_V E hC hS hA hl.1 (c1.recv hC fo rfl) rfl (c_X5_fails l D tk N0 sa H.size P hPN (fun q h9 => hPs q (Nat.le_trans hS.1 h9)) mo n9 kn th tt bb eT eB oT oB pk ca rf vs r_1 0 ) kw_1251 kw_1253 kp_20 kw_5 kw_1254 (n := 2) (by decide +kernel) rfl ⟨⟨rfl, rfl⟩, ⟨Nat.le_of_ble_eq_true rfl, Nat.le_of_ble_eq_true rfl⟩, (by dsimp only; omega), (by dsimp only; omega)⟩ rfl (Nat.le_of_ble_eq_true rfl) ⟨_, _, _, _, _, fo, fj, fk, fe, fr, fw, ⟨hPm, hPa, hPl, hPe, hPr, hPk⟩, hFk, hFe, hFr, hpk, hn9⟩ dX5_way_6) hS (fun q _ h => h) hn (fun r_3 H locs hR hz hk hS => ?_)
  obtain ⟨er_3, hM⟩ := hR
  obtain ⟨ra, rl, ex, ro, rt, fo, fj, fk, fe, fr, fw, ⟨hPm, hPa, hPl, hPe, hPr, hPk⟩, hFk, hFe, hFr, hpk, hn9⟩ := hM
  have g_fo := hPm
  have g_fj := hPa
  refine lv_if_eq (pc := 9) (tgt := 17) hx hb dX5_way_9 (by decide) (fun c_4 => ?_) (fun c_4 => ?_)
  · refine lv_aload_n (pc := 17) hx hb dX5_way_17 rfl (lv_at hl 0 rfl) ?_
    refine lv_iload_n (pc := 18) hx hb dX5_way_18 rfl (lv_at hl 1 rfl) ?_
    have hZ0_ := hS.1
    have t_fo := fo.lt
    have t_fj := fj.lt
    have t_fk := fun k (hk9 : k < 6) => (fk k hk9).lt
    have t_fe := fe.lt
    have t_fr := fr.lt
    obtain ⟨hx_5, hk_5⟩ := m_noN (er_1.symm.trans (m_fl0 (er_3.symm.trans c_4)).1)
    refine k_r (pc := 19) (k_V E hC hS hA hl.1 (c1.recv hC fo rfl) rfl (c_X5_wayNow l D tk N0 sa H.size P hPN mo n9 kn ((m_th r_1 0)) tt bb eT eB oT oB pk ca rf vs x1 (nn x1) hx_5 hk_5 ) kw_1678 kw_1680 kp_31 kw_5 kw_1681 (n := 1) (by decide +kernel) rfl ⟨⟨rfl, rfl⟩, ⟨Nat.le_of_ble_eq_true rfl, Nat.le_of_ble_eq_true rfl⟩, (by dsimp only; omega), (by dsimp only; omega)⟩ rfl (Nat.le_of_ble_eq_true rfl) ⟨_, _, _, _, _, fo, fj, fk, fe, fr, fw, ⟨hPm, hPa, hPl, hPe, hPr, hPk⟩, hFk, hFe, hFr, hpk, hn9⟩ dX5_way_19) hS (fun q z w => absurd w (Nat.not_le.mpr z)) hn (fun r_6 H locs hR hz hk hS => ?_)
    have fw := fw.new hk
    have fo := fo.kept (hk _ fo.lt (Nat.not_le.mpr fo.lt))
    have fj := fj.kept (hk _ fj.lt (Nat.not_le.mpr fj.lt))
    have fk := fk.new hk
    have fe := fe.kept (hk _ fe.lt (Nat.not_le.mpr fe.lt))
    have fr := fr.kept (hk _ fr.lt (Nat.not_le.mpr fr.lt))
    refine r_aret (pc := 22) E hr (Or.inl ⟨_, rfl⟩) hlk hS (by omega) (by omega) ?_ dX5_way_22
    exact ⟨_, ⟨_, _, _, _, _, fo, fj, fk, fe, fr, fw, ⟨hPm, hPa, hPl, hPe, hPr, hPk⟩, hFk, hFe, hFr, hpk, hn9⟩⟩
  · refine va_ldcS (pc := 12) hx hb E.2.2.2.1 (hC.2.2.2.2.1 6 _ rfl).1 dX5_way_12 ?_
    have k7 : SX D tk (sa (10 + 6)) 0 H := hC.str hS hA 6 _ rfl (by decide)
    refine lv_goto (pc := 14) (tgt := 22) hx hb dX5_way_14 (by decide) ?_
    refine r_aret (pc := 22) E hr (Or.inl ⟨_, rfl⟩) hlk hS (by omega) (by omega) ?_ dX5_way_22
    exact ⟨_, ⟨_, _, _, _, _, fo, fj, fk, fe, fr, fw, ⟨hPm, hPa, hPl, hPe, hPr, hPk⟩, hFk, hFe, hFr, hpk, hn9⟩⟩
set_option maxHeartbeats 4000000 in
set_option maxRecDepth 100000 in
/-- BestratiosModel.cutNow(III)Ljava/lang/String; -/
theorem c_X5_cutNow (l : Launch) (D : va_G) (tk : Nat → ClassId) (N0 : Nat) (sa : Nat → Nat)  (sz : Nat) (P : Nat → Prop) (hPN : ∀ q, P q → N0 ≤ q) (mo n9 : Nat) (kn th : Int32) (tt bb : Nat → Int64) (eT eB oT oB : Int64) (pk : Nat) (ca rf : Int32) (vs : Nat → Value) (x : Int32) (k_x : Nat) (hx_x : x = nI k_x) (hk_x : k_x < 6) (pl : Int32) (md : Int32) (kp : Nat) (nd : Nat) (hpl : pl = nI kp) (hkp : kp ≤ 9) (hkn : kp + 1 ≤ nd) (hnd : nd ≤ 20) (hdg : ∀ t b : Int64, m_F t b → dgJ (f_absJ (m_cut t b pl md)) ≤ nd) : Met l yX5_cutNow (wsy yX5_cutNow cX5_cutNow 4 (some (.object "java/lang/String"))) ({ frames := 7, cells := 16 + 4 * kp + 2 * m_dG nd, slots := 83 + 3 * nd + 36 * kp + 68 * m_dG nd, locals := 163 } : Room) (cP D tk N0 sa [.ref mo, .int x, .int pl, .int md] sz (fun H => MI D tk sa P mo tt bb eT eB oT oB pk ca rf vs kn n9 th H)) (kQr (fun r H => ∃ n1, n1 ≤ 22 ∧ SX D tk r n1 H) (nwA sz)) (16 + 4 * kp + 2 * m_dG nd) (83 + 3 * nd + 36 * kp + 68 * m_dG nd) (nwA sz) := by
  refine mStart RX5 rfl (by decide +kernel) (Nat.le_of_ble_eq_true rfl) ?_
  intro p e s m args below meth c E hr hlk hnm hsz hC hF ls hl
  subst hsz
  obtain ⟨hx, hb, -⟩ := id E
  have hA : ∀ q, (nwA s.heap.size) q → N0 ≤ q := fun q h => Nat.le_trans hC.2.1 h
  have hn : ∀ q, s.heap.size ≤ q → (nwA s.heap.size) q := fun q h => h
  have hS : va_S (nwA s.heap.size) s.heap s.heap [] := va_S.rf
  have hl : lv_has ls 4 [(0, .ref mo), (1, .int x), (2, .int pl), (3, .int md)] := hl
  have hM : MI D tk sa P mo tt bb eT eB oT oB pk ca rf vs kn n9 th s.heap := hF
  obtain ⟨ra, rl, ex, ro, rt, fo, fj, fk, fe, fr, fw, ⟨hPm, hPa, hPl, hPe, hPr, hPk⟩, hFk, hFe, hFr, hpk, hn9⟩ := hM
  refine lv_aload_n (pc := 0) hx hb dX5_cutNow_0 rfl (lv_at hl 0 rfl) ?_
  refine r_get (pc := 1) E hC fo 0 (v := .ref ra) rfl rfl (by decide) uX5 (List.mem_cons_of_mem _ kw_1209) (fun _ h => h) dX5_cutNow_1 ?_
  refine lv_iload_n (pc := 4) hx hb dX5_cutNow_4 rfl (lv_at hl 1 rfl) ?_
  refine r_aaldJ (pc := 5) E hC fj k_x hx_x hk_x (by decide) rfl dX5_cutNow_5 ?_
  have fL1 := fk k_x hk_x
  have mF_fL1 := hFk k_x hk_x
  have Pq_fL1 := hPk k_x hk_x
  refine lv_iconst (pc := 6) (v := 0) hx hb dX5_cutNow_6 (by decide) ?_
  refine r_l0 (pc := 7) E hC fL1 dX5_cutNow_7 ?_
  refine lv_aload_n (pc := 8) hx hb dX5_cutNow_8 rfl (lv_at hl 0 rfl) ?_
  refine r_get (pc := 9) E hC fo 0 (v := .ref ra) rfl rfl (by decide) uX5 (List.mem_cons_of_mem _ kw_1209) (fun _ h => h) dX5_cutNow_9 ?_
  refine lv_iload_n (pc := 12) hx hb dX5_cutNow_12 rfl (lv_at hl 1 rfl) ?_
  refine r_aaldJ (pc := 13) E hC fj k_x hx_x hk_x (by decide) rfl dX5_cutNow_13 ?_
  have fL2 := fk k_x hk_x
  have mF_fL2 := hFk k_x hk_x
  have Pq_fL2 := hPk k_x hk_x
  refine lv_iconst (pc := 14) (v := 1) hx hb dX5_cutNow_14 (by decide) ?_
  refine r_l1 (pc := 15) E hC fL2 dX5_cutNow_15 ?_
  refine lv_iload_n (pc := 16) hx hb dX5_cutNow_16 rfl (lv_at hl 2 rfl) ?_
  refine lv_iload_n (pc := 17) hx hb dX5_cutNow_17 rfl (lv_at hl 3 rfl) ?_
  refine k_l (pc := 18) (k_S E hC hS hA hl.1 (c_X5_cutOf l D tk N0 sa s.heap.size (tt k_x) (bb k_x) pl md (m_ne0 mF_fL2.2.1)) kw_1704 kw_1705 kw_5 kw_1706 (n := 4) (by decide +kernel) rfl ⟨⟨rfl, rfl⟩, ⟨Nat.le_of_ble_eq_true rfl, Nat.le_of_ble_eq_true rfl⟩, (by dsimp only; omega), (by dsimp only; omega)⟩ rfl (Nat.le_of_ble_eq_true rfl) trivial dX5_cutNow_18) hS (fun q z w => absurd w (Nat.not_le.mpr z)) hn (fun r_3 H locs hR hz hk hS => ?_)
  have er_3 := hR
  have fw := fw.new hk
  have fo := fo.kept (hk _ fo.lt (Nat.not_le.mpr fo.lt))
  have fj := fj.kept (hk _ fj.lt (Nat.not_le.mpr fj.lt))
  have fk := fk.new hk
  have fe := fe.kept (hk _ fe.lt (Nat.not_le.mpr fe.lt))
  have fr := fr.kept (hk _ fr.lt (Nat.not_le.mpr fr.lt))
  have fL1 := fL1.kept (hk _ fL1.lt (Nat.not_le.mpr fL1.lt))
  have fL2 := fL2.kept (hk _ fL2.lt (Nat.not_le.mpr fL2.lt))
  refine lv_iload_n (pc := 21) hx hb dX5_cutNow_21 rfl (lv_at hl 2 rfl) ?_
  have hZ0_ := hS.1
  have t_fo := fo.lt
  have t_fj := fj.lt
  have t_fk := fun k (hk9 : k < 6) => (fk k hk9).lt
  have t_fe := fe.lt
  have t_fr := fr.lt
  have t_fL1 := fL1.lt
  have t_fL2 := fL2.lt
  refine k_r (pc := 22) (k_S E hC hS hA hl.1 (c_X5_decimal l D tk N0 sa H.size r_3 pl kp nd hpl hkp hkn hnd (by rw [er_3]; exact hdg _ _ mF_fL2)) kw_1707 kw_1708 kw_5 kw_1709 (n := 2) (by decide +kernel) rfl ⟨⟨rfl, rfl⟩, ⟨Nat.le_of_ble_eq_true rfl, Nat.le_of_ble_eq_true rfl⟩, (by dsimp only; omega), (by dsimp only; omega)⟩ rfl (Nat.le_of_ble_eq_true rfl) trivial dX5_cutNow_22) hS (fun q z w => absurd w (Nat.not_le.mpr z)) hn (fun r_5 H locs hR hz hk hS => ?_)
  have fw := fw.new hk
  have fo := fo.kept (hk _ fo.lt (Nat.not_le.mpr fo.lt))
  have fj := fj.kept (hk _ fj.lt (Nat.not_le.mpr fj.lt))
  have fk := fk.new hk
  have fe := fe.kept (hk _ fe.lt (Nat.not_le.mpr fe.lt))
  have fr := fr.kept (hk _ fr.lt (Nat.not_le.mpr fr.lt))
  have fL1 := fL1.kept (hk _ fL1.lt (Nat.not_le.mpr fL1.lt))
  have fL2 := fL2.kept (hk _ fL2.lt (Nat.not_le.mpr fL2.lt))
  obtain ⟨n_f6, hn_f6, z9_, f6⟩ := hR
  refine r_aret (pc := 25) E hr (Or.inl ⟨_, rfl⟩) hlk hS (by omega) (by omega) ?_ dX5_cutNow_25
  exact ⟨_, by omega, f6⟩
set_option maxHeartbeats 4000000 in
set_option maxRecDepth 100000 in
/-- BestratiosModel.cut(III)Ljava/lang/String; -/
theorem c_X5_cut (l : Launch) (D : va_G) (tk : Nat → ClassId) (N0 : Nat) (sa : Nat → Nat)  (sz : Nat) (P : Nat → Prop) (hPN : ∀ q, P q → N0 ≤ q) (hPs : ∀ q, sz ≤ q → P q) (mo n9 : Nat) (kn th : Int32) (tt bb : Nat → Int64) (eT eB oT oB : Int64) (pk : Nat) (ca rf : Int32) (vs : Nat → Value) (x1 : Int32) (x2 : Int32) (x3 : Int32) : Met l yX5_cut (wsy yX5_cut cX5_cut 4 (some (.object "java/lang/String"))) ({ frames := 8, cells := 54, slots := 535, locals := 186 } : Room) (cP D tk N0 sa [.ref mo, .int x1, .int x2, .int x3] sz (fun H => MI D tk sa P mo tt bb eT eB oT oB pk ca rf vs kn n9 th H)) (kQr (fun r H => ∃ th1, MI D tk sa P mo tt bb eT eB oT oB pk ca rf vs kn n9 th1 H) (P)) (54) (535) (P) := by
  refine mStart RX5 rfl (by decide +kernel) (Nat.le_of_ble_eq_true rfl) ?_
  intro p e s m args below meth c E hr hlk hnm hsz hC hF ls hl
  subst hsz
  obtain ⟨hx, hb, -⟩ := id E
  have hA : ∀ q, (P) q → N0 ≤ q := hPN
  have hn : ∀ q, s.heap.size ≤ q → (P) q := hPs
  have hS : va_S (P) s.heap s.heap [] := va_S.rf
  have hl : lv_has ls 4 [(0, .ref mo), (1, .int x1), (2, .int x2), (3, .int x3)] := hl
  have hM : MI D tk sa P mo tt bb eT eB oT oB pk ca rf vs kn n9 th s.heap := hF
  obtain ⟨ra, rl, ex, ro, rt, fo, fj, fk, fe, fr, fw, ⟨hPm, hPa, hPl, hPe, hPr, hPk⟩, hFk, hFe, hFr, hpk, hn9⟩ := hM
  have g_fo := hPm
  have g_fj := hPa
  refine lv_aload_n (pc := 0) hx hb dX5_cut_0 rfl (lv_at hl 0 rfl) ?_
  refine lv_iload_n (pc := 1) hx hb dX5_cut_1 rfl (lv_at hl 1 rfl) ?_
  refine k_i (pc := 2) (k_S E hC hS hA hl.1 (c_X5_isNo l D tk N0 sa s.heap.size x1 ) kw_1245 kw_1246 kw_5 kw_1247 (n := 1) (by decide +kernel) rfl ⟨⟨rfl, rfl⟩, ⟨Nat.le_of_ble_eq_true rfl, Nat.le_of_ble_eq_true rfl⟩, (by dsimp only; omega), (by dsimp only; omega)⟩ rfl (Nat.le_of_ble_eq_true rfl) trivial dX5_cut_2) hS (fun q z w => absurd w (Nat.not_le.mpr z)) hn (fun r_1 H locs hR hz hk hS => ?_)
  have er_1 := hR
  have fw := fw.new hk
  have fo := fo.kept (hk _ fo.lt (Nat.not_le.mpr fo.lt))
  have fj := fj.kept (hk _ fj.lt (Nat.not_le.mpr fj.lt))
  have fk := fk.new hk
  have fe := fe.kept (hk _ fe.lt (Nat.not_le.mpr fe.lt))
  have fr := fr.kept (hk _ fr.lt (Nat.not_le.mpr fr.lt))
  refine lv_iload_n (pc := 5) hx hb dX5_cut_5 rfl (lv_at hl 2 rfl) ?_
  refine lv_iconst (pc := 6) (v := 0) hx hb dX5_cut_6 (by decide) ?_
  refine lv_bipush (pc := 7) (v := 9) hx hb dX5_cut_7 (by decide) ?_
  refine k_i (pc := 9) (k_S E hC hS hA hl.1 (c_X5_isIn l D tk N0 sa H.size x2 0 9 ) kw_1248 kw_1249 kw_5 kw_1250 (n := 3) (by decide +kernel) rfl ⟨⟨rfl, rfl⟩, ⟨Nat.le_of_ble_eq_true rfl, Nat.le_of_ble_eq_true rfl⟩, (by dsimp only; omega), (by dsimp only; omega)⟩ rfl (Nat.le_of_ble_eq_true rfl) trivial dX5_cut_9) hS (fun q z w => absurd w (Nat.not_le.mpr z)) hn (fun r_3 H locs hR hz hk hS => ?_)
  have er_3 := hR
  have fw := fw.new hk
  have fo := fo.kept (hk _ fo.lt (Nat.not_le.mpr fo.lt))
  have fj := fj.kept (hk _ fj.lt (Nat.not_le.mpr fj.lt))
  have fk := fk.new hk
  have fe := fe.kept (hk _ fe.lt (Nat.not_le.mpr fe.lt))
  have fr := fr.kept (hk _ fr.lt (Nat.not_le.mpr fr.lt))
  refine lv_if_eq (pc := 12) (tgt := 24) hx hb dX5_cut_12 (by decide) (fun c_5 => ?_) (fun c_5 => ?_)
  · refine lv_iconst (pc := 24) (v := 1) hx hb dX5_cut_24 (by decide) ?_
    refine lv_goto (pc := 25) (tgt := 29) hx hb dX5_cut_25 (by decide) ?_
    have hZ0_ := hS.1
    have t_fo := fo.lt
    have t_fj := fj.lt
    have t_fk := fun k (hk9 : k < 6) => (fk k hk9).lt
    have t_fe := fe.lt
    have t_fr := fr.lt
    refine k_i (pc := 29) (k_V E hC hS hA hl.1 (c1.recv hC fo rfl) rfl (c_X5_fails l D tk N0 sa H.size P hPN (fun q h9 => hPs q (Nat.le_trans hS.1 h9)) mo n9 kn th tt bb eT eB oT oB pk ca rf vs r_1 1 ) kw_1251 kw_1253 kp_20 kw_5 kw_1254 (n := 2) (by decide +kernel) rfl ⟨⟨rfl, rfl⟩, ⟨Nat.le_of_ble_eq_true rfl, Nat.le_of_ble_eq_true rfl⟩, (by dsimp only; omega), (by dsimp only; omega)⟩ rfl (Nat.le_of_ble_eq_true rfl) ⟨_, _, _, _, _, fo, fj, fk, fe, fr, fw, ⟨hPm, hPa, hPl, hPe, hPr, hPk⟩, hFk, hFe, hFr, hpk, hn9⟩ dX5_cut_29) hS (fun q _ h => h) hn (fun r_6 H locs hR hz hk hS => ?_)
    obtain ⟨er_6, hM⟩ := hR
    obtain ⟨ra, rl, ex, ro, rt, fo, fj, fk, fe, fr, fw, ⟨hPm, hPa, hPl, hPe, hPr, hPk⟩, hFk, hFe, hFr, hpk, hn9⟩ := hM
    have g_fo := hPm
    have g_fj := hPa
    have ef_r_6 : r_6 = 1 := er_6.trans (m_fl1 _)
    rw [ef_r_6]
    refine lv_if_eq (pc := 32) (tgt := 40) hx hb dX5_cut_32 (by decide) (fun c_7 => ?_) (fun c_7 => ?_)
    · exact absurd c_7 (by decide)
    refine va_ldcS (pc := 35) hx hb E.2.2.2.1 (hC.2.2.2.2.1 6 _ rfl).1 dX5_cut_35 ?_
    have k8 : SX D tk (sa (10 + 6)) 0 H := hC.str hS hA 6 _ rfl (by decide)
    refine lv_goto (pc := 37) (tgt := 47) hx hb dX5_cut_37 (by decide) ?_
    refine r_aret (pc := 47) E hr (Or.inl ⟨_, rfl⟩) hlk hS (by omega) (by omega) ?_ dX5_cut_47
    exact ⟨_, ⟨_, _, _, _, _, fo, fj, fk, fe, fr, fw, ⟨hPm, hPa, hPl, hPe, hPr, hPk⟩, hFk, hFe, hFr, hpk, hn9⟩⟩
  · refine lv_iload_n (pc := 15) hx hb dX5_cut_15 rfl (lv_at hl 3 rfl) ?_
    refine lv_iconst (pc := 16) (v := 0) hx hb dX5_cut_16 (by decide) ?_
    refine lv_iconst (pc := 17) (v := 4) hx hb dX5_cut_17 (by decide) ?_
    refine k_i (pc := 18) (k_S E hC hS hA hl.1 (c_X5_isIn l D tk N0 sa H.size x3 0 4 ) kw_1248 kw_1249 kw_5 kw_1250 (n := 3) (by decide +kernel) rfl ⟨⟨rfl, rfl⟩, ⟨Nat.le_of_ble_eq_true rfl, Nat.le_of_ble_eq_true rfl⟩, (by dsimp only; omega), (by dsimp only; omega)⟩ rfl (Nat.le_of_ble_eq_true rfl) trivial dX5_cut_18) hS (fun q z w => absurd w (Nat.not_le.mpr z)) hn (fun r_9 H locs hR hz hk hS => ?_)
    have er_9 := hR
    have fw := fw.new hk
    have fo := fo.kept (hk _ fo.lt (Nat.not_le.mpr fo.lt))
    have fj := fj.kept (hk _ fj.lt (Nat.not_le.mpr fj.lt))
    have fk := fk.new hk
    have fe := fe.kept (hk _ fe.lt (Nat.not_le.mpr fe.lt))
    have fr := fr.kept (hk _ fr.lt (Nat.not_le.mpr fr.lt))
    refine lv_if_ne (pc := 21) (tgt := 28) hx hb dX5_cut_21 (by decide) (fun c_11 => ?_) (fun c_11 => ?_)
    · refine lv_iconst (pc := 28) (v := 0) hx hb dX5_cut_28 (by decide) ?_
      have hZ0_ := hS.1
      have t_fo := fo.lt
      have t_fj := fj.lt
      have t_fk := fun k (hk9 : k < 6) => (fk k hk9).lt
      have t_fe := fe.lt
      have t_fr := fr.lt
      refine k_i (pc := 29) (k_V E hC hS hA hl.1 (c1.recv hC fo rfl) rfl (c_X5_fails l D tk N0 sa H.size P hPN (fun q h9 => hPs q (Nat.le_trans hS.1 h9)) mo n9 kn th tt bb eT eB oT oB pk ca rf vs r_1 0 ) kw_1251 kw_1253 kp_20 kw_5 kw_1254 (n := 2) (by decide +kernel) rfl ⟨⟨rfl, rfl⟩, ⟨Nat.le_of_ble_eq_true rfl, Nat.le_of_ble_eq_true rfl⟩, (by dsimp only; omega), (by dsimp only; omega)⟩ rfl (Nat.le_of_ble_eq_true rfl) ⟨_, _, _, _, _, fo, fj, fk, fe, fr, fw, ⟨hPm, hPa, hPl, hPe, hPr, hPk⟩, hFk, hFe, hFr, hpk, hn9⟩ dX5_cut_29) hS (fun q _ h => h) hn (fun r_12 H locs hR hz hk hS => ?_)
      obtain ⟨er_12, hM⟩ := hR
      obtain ⟨ra, rl, ex, ro, rt, fo, fj, fk, fe, fr, fw, ⟨hPm, hPa, hPl, hPe, hPr, hPk⟩, hFk, hFe, hFr, hpk, hn9⟩ := hM
      have g_fo := hPm
      have g_fj := hPa
      refine lv_if_eq (pc := 32) (tgt := 40) hx hb dX5_cut_32 (by decide) (fun c_13 => ?_) (fun c_13 => ?_)
      · refine lv_aload_n (pc := 40) hx hb dX5_cut_40 rfl (lv_at hl 0 rfl) ?_
        refine lv_iload_n (pc := 41) hx hb dX5_cut_41 rfl (lv_at hl 1 rfl) ?_
        refine lv_iload_n (pc := 42) hx hb dX5_cut_42 rfl (lv_at hl 2 rfl) ?_
        refine lv_iload_n (pc := 43) hx hb dX5_cut_43 rfl (lv_at hl 3 rfl) ?_
        obtain ⟨kp, hkp1, hkp2⟩ := m_in (x := x2) (hi_ := 9) (by decide) (fun z9 => c_5 (er_3.trans z9))
        have hdG := (m_dG1 20).2 (by decide)
        have hZ0_ := hS.1
        have t_fo := fo.lt
        have t_fj := fj.lt
        have t_fk := fun k (hk9 : k < 6) => (fk k hk9).lt
        have t_fe := fe.lt
        have t_fr := fr.lt
        obtain ⟨hx_14, hk_14⟩ := m_noN (er_1.symm.trans (m_fl0 (er_12.symm.trans c_13)).1)
        refine k_r (pc := 44) (k_V E hC hS hA hl.1 (c1.recv hC fo rfl) rfl (c_X5_cutNow l D tk N0 sa H.size P hPN mo n9 kn ((m_th r_1 0)) tt bb eT eB oT oB pk ca rf vs x1 (nn x1) hx_14 hk_14 x2 x3 kp 20 hkp1 hkp2 (by omega) (by decide) (fun t b h9 => m_dg20 (m_cut9B h9 hkp1 hkp2 _))) kw_1700 kw_1702 kp_32 kw_5 kw_1703 (n := 3) (by decide +kernel) rfl ⟨⟨rfl, rfl⟩, ⟨Nat.le_of_ble_eq_true rfl, Nat.le_of_ble_eq_true rfl⟩, (by dsimp only; omega), (by dsimp only; omega)⟩ rfl (Nat.le_of_ble_eq_true rfl) ⟨_, _, _, _, _, fo, fj, fk, fe, fr, fw, ⟨hPm, hPa, hPl, hPe, hPr, hPk⟩, hFk, hFe, hFr, hpk, hn9⟩ dX5_cut_44) hS (fun q z w => absurd w (Nat.not_le.mpr z)) hn (fun r_15 H locs hR hz hk hS => ?_)
        have fw := fw.new hk
        have fo := fo.kept (hk _ fo.lt (Nat.not_le.mpr fo.lt))
        have fj := fj.kept (hk _ fj.lt (Nat.not_le.mpr fj.lt))
        have fk := fk.new hk
        have fe := fe.kept (hk _ fe.lt (Nat.not_le.mpr fe.lt))
        have fr := fr.kept (hk _ fr.lt (Nat.not_le.mpr fr.lt))
        obtain ⟨n_f16, hn_f16, f16⟩ := hR
        refine r_aret (pc := 47) E hr (Or.inl ⟨_, rfl⟩) hlk hS (by omega) (by omega) ?_ dX5_cut_47
        exact ⟨_, ⟨_, _, _, _, _, fo, fj, fk, fe, fr, fw, ⟨hPm, hPa, hPl, hPe, hPr, hPk⟩, hFk, hFe, hFr, hpk, hn9⟩⟩
      · refine va_ldcS (pc := 35) hx hb E.2.2.2.1 (hC.2.2.2.2.1 6 _ rfl).1 dX5_cut_35 ?_
        have k17 : SX D tk (sa (10 + 6)) 0 H := hC.str hS hA 6 _ rfl (by decide)
        refine lv_goto (pc := 37) (tgt := 47) hx hb dX5_cut_37 (by decide) ?_
        refine r_aret (pc := 47) E hr (Or.inl ⟨_, rfl⟩) hlk hS (by omega) (by omega) ?_ dX5_cut_47
        exact ⟨_, ⟨_, _, _, _, _, fo, fj, fk, fe, fr, fw, ⟨hPm, hPa, hPl, hPe, hPr, hPk⟩, hFk, hFe, hFr, hpk, hn9⟩⟩
    · refine lv_iconst (pc := 24) (v := 1) hx hb dX5_cut_24 (by decide) ?_
      refine lv_goto (pc := 25) (tgt := 29) hx hb dX5_cut_25 (by decide) ?_
      have hZ0_ := hS.1
      have t_fo := fo.lt
      have t_fj := fj.lt
      have t_fk := fun k (hk9 : k < 6) => (fk k hk9).lt
      have t_fe := fe.lt
      have t_fr := fr.lt
      refine k_i (pc := 29) (k_V E hC hS hA hl.1 (c1.recv hC fo rfl) rfl (c_X5_fails l D tk N0 sa H.size P hPN (fun q h9 => hPs q (Nat.le_trans hS.1 h9)) mo n9 kn th tt bb eT eB oT oB pk ca rf vs r_1 1 ) kw_1251 kw_1253 kp_20 kw_5 kw_1254 (n := 2) (by decide +kernel) rfl ⟨⟨rfl, rfl⟩, ⟨Nat.le_of_ble_eq_true rfl, Nat.le_of_ble_eq_true rfl⟩, (by dsimp only; omega), (by dsimp only; omega)⟩ rfl (Nat.le_of_ble_eq_true rfl) ⟨_, _, _, _, _, fo, fj, fk, fe, fr, fw, ⟨hPm, hPa, hPl, hPe, hPr, hPk⟩, hFk, hFe, hFr, hpk, hn9⟩ dX5_cut_29) hS (fun q _ h => h) hn (fun r_18 H locs hR hz hk hS => ?_)
      obtain ⟨er_18, hM⟩ := hR
      obtain ⟨ra, rl, ex, ro, rt, fo, fj, fk, fe, fr, fw, ⟨hPm, hPa, hPl, hPe, hPr, hPk⟩, hFk, hFe, hFr, hpk, hn9⟩ := hM
      have g_fo := hPm
      have g_fj := hPa
      have ef_r_18 : r_18 = 1 := er_18.trans (m_fl1 _)
      rw [ef_r_18]
      refine lv_if_eq (pc := 32) (tgt := 40) hx hb dX5_cut_32 (by decide) (fun c_19 => ?_) (fun c_19 => ?_)
      · exact absurd c_19 (by decide)
      refine va_ldcS (pc := 35) hx hb E.2.2.2.1 (hC.2.2.2.2.1 6 _ rfl).1 dX5_cut_35 ?_
      have k20 : SX D tk (sa (10 + 6)) 0 H := hC.str hS hA 6 _ rfl (by decide)
      refine lv_goto (pc := 37) (tgt := 47) hx hb dX5_cut_37 (by decide) ?_
      refine r_aret (pc := 47) E hr (Or.inl ⟨_, rfl⟩) hlk hS (by omega) (by omega) ?_ dX5_cut_47
      exact ⟨_, ⟨_, _, _, _, _, fo, fj, fk, fe, fr, fw, ⟨hPm, hPa, hPl, hPe, hPr, hPk⟩, hFk, hFe, hFr, hpk, hn9⟩⟩
set_option maxHeartbeats 4000000 in
set_option maxRecDepth 100000 in
/-- BestratiosModel.simplest(IIII)I -/
theorem c_X5_simplest (l : Launch) (D : va_G) (tk : Nat → ClassId) (N0 : Nat) (sa : Nat → Nat)  (sz : Nat) (P : Nat → Prop) (hPN : ∀ q, P q → N0 ≤ q) (hPs : ∀ q, sz ≤ q → P q) (mo n9 : Nat) (kn th : Int32) (tt bb : Nat → Int64) (eT eB oT oB : Int64) (pk : Nat) (ca rf : Int32) (vs : Nat → Value) (x1 : Int32) (x2 : Int32) (x3 : Int32) (x4 : Int32) : Met l yX5_simplest (wsy yX5_simplest cX5_simplest 5 (some .int)) ({ frames := 4, cells := 1, slots := 2, locals := 106 } : Room) (cP D tk N0 sa [.ref mo, .int x1, .int x2, .int x3, .int x4] sz (fun H => MI D tk sa P mo tt bb eT eB oT oB pk ca rf vs kn n9 th H)) (kQi (fun r H => ∃ th1 tt1 bb1 rf1 o, MI D tk sa P mo tt1 bb1 eT eB oT oB pk ca rf1 vs kn n9 th1 H ∧ AC (m_areNo x1 x2) (m_or (m_not (m_isIn x3 0 2)) (m_not (m_isIn x4 0 4))) tt bb rf (nn x1) o r th1 tt1 bb1 rf1 ∧ (m_fl (m_areNo x1 x2) (m_or (m_not (m_isIn x3 0 2)) (m_not (m_isIn x4 0 4))) = 0 → ∃ p, o = some p ∧ m_SMP (tt (nn x2)) (bb (nn x2)) (nn x3) x4 p)) (P)) (1) (2) (P) := by
  refine mStart RX5 rfl (by decide +kernel) (Nat.le_of_ble_eq_true rfl) ?_
  intro p e s m args below meth c E hr hlk hnm hsz hC hF ls hl
  subst hsz
  obtain ⟨hx, hb, -⟩ := id E
  have hA : ∀ q, (P) q → N0 ≤ q := hPN
  have hn : ∀ q, s.heap.size ≤ q → (P) q := hPs
  have hS : va_S (P) s.heap s.heap [] := va_S.rf
  have hl : lv_has ls 5 [(0, .ref mo), (1, .int x1), (2, .int x2), (3, .int x3), (4, .int x4)] := hl
  have hM : MI D tk sa P mo tt bb eT eB oT oB pk ca rf vs kn n9 th s.heap := hF
  obtain ⟨ra, rl, ex, ro, rt, fo, fj, fk, fe, fr, fw, ⟨hPm, hPa, hPl, hPe, hPr, hPk⟩, hFk, hFe, hFr, hpk, hn9⟩ := hM
  have g_fo := hPm
  have g_fj := hPa
  refine lv_aload_n (pc := 0) hx hb dX5_simplest_0 rfl (lv_at hl 0 rfl) ?_
  refine lv_iload_n (pc := 1) hx hb dX5_simplest_1 rfl (lv_at hl 1 rfl) ?_
  refine lv_iload_n (pc := 2) hx hb dX5_simplest_2 rfl (lv_at hl 2 rfl) ?_
  refine k_i (pc := 3) (k_S E hC hS hA hl.1 (c_X5_areNo l D tk N0 sa s.heap.size x1 x2 ) kw_1286 kw_1287 kw_5 kw_1288 (n := 2) (by decide +kernel) rfl ⟨⟨rfl, rfl⟩, ⟨Nat.le_of_ble_eq_true rfl, Nat.le_of_ble_eq_true rfl⟩, (by dsimp only; omega), (by dsimp only; omega)⟩ rfl (Nat.le_of_ble_eq_true rfl) trivial dX5_simplest_3) hS (fun q z w => absurd w (Nat.not_le.mpr z)) hn (fun r_1 H locs hR hz hk hS => ?_)
  have er_1 := hR
  have fw := fw.new hk
  have fo := fo.kept (hk _ fo.lt (Nat.not_le.mpr fo.lt))
  have fj := fj.kept (hk _ fj.lt (Nat.not_le.mpr fj.lt))
  have fk := fk.new hk
  have fe := fe.kept (hk _ fe.lt (Nat.not_le.mpr fe.lt))
  have fr := fr.kept (hk _ fr.lt (Nat.not_le.mpr fr.lt))
  refine lv_iload_n (pc := 6) hx hb dX5_simplest_6 rfl (lv_at hl 3 rfl) ?_
  refine lv_iconst (pc := 7) (v := 0) hx hb dX5_simplest_7 (by decide) ?_
  refine lv_iconst (pc := 8) (v := 2) hx hb dX5_simplest_8 (by decide) ?_
  refine k_i (pc := 9) (k_S E hC hS hA hl.1 (c_X5_isIn l D tk N0 sa H.size x3 0 2 ) kw_1248 kw_1249 kw_5 kw_1250 (n := 3) (by decide +kernel) rfl ⟨⟨rfl, rfl⟩, ⟨Nat.le_of_ble_eq_true rfl, Nat.le_of_ble_eq_true rfl⟩, (by dsimp only; omega), (by dsimp only; omega)⟩ rfl (Nat.le_of_ble_eq_true rfl) trivial dX5_simplest_9) hS (fun q z w => absurd w (Nat.not_le.mpr z)) hn (fun r_3 H locs hR hz hk hS => ?_)
  have er_3 := hR
  have fw := fw.new hk
  have fo := fo.kept (hk _ fo.lt (Nat.not_le.mpr fo.lt))
  have fj := fj.kept (hk _ fj.lt (Nat.not_le.mpr fj.lt))
  have fk := fk.new hk
  have fe := fe.kept (hk _ fe.lt (Nat.not_le.mpr fe.lt))
  have fr := fr.kept (hk _ fr.lt (Nat.not_le.mpr fr.lt))
  refine lv_if_eq (pc := 12) (tgt := 25) hx hb dX5_simplest_12 (by decide) (fun c_5 => ?_) (fun c_5 => ?_)
  · refine lv_iconst (pc := 25) (v := 1) hx hb dX5_simplest_25 (by decide) ?_
    refine lv_goto (pc := 26) (tgt := 30) hx hb dX5_simplest_26 (by decide) ?_
    have hZ0_ := hS.1
    have t_fo := fo.lt
    have t_fj := fj.lt
    have t_fk := fun k (hk9 : k < 6) => (fk k hk9).lt
    have t_fe := fe.lt
    have t_fr := fr.lt
    refine k_i (pc := 30) (k_V E hC hS hA hl.1 (c1.recv hC fo rfl) rfl (c_X5_fails l D tk N0 sa H.size P hPN (fun q h9 => hPs q (Nat.le_trans hS.1 h9)) mo n9 kn th tt bb eT eB oT oB pk ca rf vs r_1 1 ) kw_1251 kw_1253 kp_20 kw_5 kw_1254 (n := 2) (by decide +kernel) rfl ⟨⟨rfl, rfl⟩, ⟨Nat.le_of_ble_eq_true rfl, Nat.le_of_ble_eq_true rfl⟩, (by dsimp only; omega), (by dsimp only; omega)⟩ rfl (Nat.le_of_ble_eq_true rfl) ⟨_, _, _, _, _, fo, fj, fk, fe, fr, fw, ⟨hPm, hPa, hPl, hPe, hPr, hPk⟩, hFk, hFe, hFr, hpk, hn9⟩ dX5_simplest_30) hS (fun q _ h => h) hn (fun r_6 H locs hR hz hk hS => ?_)
    obtain ⟨er_6, hM⟩ := hR
    obtain ⟨ra, rl, ex, ro, rt, fo, fj, fk, fe, fr, fw, ⟨hPm, hPa, hPl, hPe, hPr, hPk⟩, hFk, hFe, hFr, hpk, hn9⟩ := hM
    have g_fo := hPm
    have g_fj := hPa
    have ef_r_6 : r_6 = 1 := er_6.trans (m_fl1 _)
    rw [ef_r_6]
    refine lv_if_eq (pc := 33) (tgt := 40) hx hb dX5_simplest_33 (by decide) (fun c_7 => ?_) (fun c_7 => ?_)
    · exact absurd c_7 (by decide)
    refine lv_iconst (pc := 36) (v := 0) hx hb dX5_simplest_36 (by decide) ?_
    refine lv_goto (pc := 37) (tgt := 57) hx hb dX5_simplest_37 (by decide) ?_
    refine r_iret (pc := 57) E hr hlk hS (by omega) (by omega) ?_ dX5_simplest_57
    exact ⟨_, _, _, _, none, ⟨_, _, _, _, _, fo, fj, fk, fe, fr, fw, ⟨hPm, hPa, hPl, hPe, hPr, hPk⟩, hFk, hFe, hFr, hpk, hn9⟩, AC.fail (by subst er_1 er_3; first | rfl | (simp [m_or, m_not, m_is0, m_lt0, m_fl, c_5]; done)) (by subst er_1 er_3; first | rfl | (simp [m_or, m_not, m_is0, m_lt0, m_fl, c_5]; done)) (fun z9 => absurd (ef_r_6.symm.trans (er_6.trans z9)) (by decide)), fun z9 => absurd z9 (AC7 (by subst er_1 er_3; first | rfl | (simp [m_or, m_not, m_is0, m_lt0, m_fl, c_5]; done)) (by subst er_1 er_3; first | rfl | (simp [m_or, m_not, m_is0, m_lt0, m_fl, c_5]; done)) (fun z9 => absurd (ef_r_6.symm.trans (er_6.trans z9)) (by decide)))⟩
  · refine lv_iload (pc := 15) hx hb dX5_simplest_15 (lv_at hl 4 rfl) ?_
    refine lv_iconst (pc := 17) (v := 0) hx hb dX5_simplest_17 (by decide) ?_
    refine lv_iconst (pc := 18) (v := 4) hx hb dX5_simplest_18 (by decide) ?_
    refine k_i (pc := 19) (k_S E hC hS hA hl.1 (c_X5_isIn l D tk N0 sa H.size x4 0 4 ) kw_1248 kw_1249 kw_5 kw_1250 (n := 3) (by decide +kernel) rfl ⟨⟨rfl, rfl⟩, ⟨Nat.le_of_ble_eq_true rfl, Nat.le_of_ble_eq_true rfl⟩, (by dsimp only; omega), (by dsimp only; omega)⟩ rfl (Nat.le_of_ble_eq_true rfl) trivial dX5_simplest_19) hS (fun q z w => absurd w (Nat.not_le.mpr z)) hn (fun r_8 H locs hR hz hk hS => ?_)
    have er_8 := hR
    have fw := fw.new hk
    have fo := fo.kept (hk _ fo.lt (Nat.not_le.mpr fo.lt))
    have fj := fj.kept (hk _ fj.lt (Nat.not_le.mpr fj.lt))
    have fk := fk.new hk
    have fe := fe.kept (hk _ fe.lt (Nat.not_le.mpr fe.lt))
    have fr := fr.kept (hk _ fr.lt (Nat.not_le.mpr fr.lt))
    refine lv_if_ne (pc := 22) (tgt := 29) hx hb dX5_simplest_22 (by decide) (fun c_10 => ?_) (fun c_10 => ?_)
    · refine lv_iconst (pc := 29) (v := 0) hx hb dX5_simplest_29 (by decide) ?_
      have hZ0_ := hS.1
      have t_fo := fo.lt
      have t_fj := fj.lt
      have t_fk := fun k (hk9 : k < 6) => (fk k hk9).lt
      have t_fe := fe.lt
      have t_fr := fr.lt
      refine k_i (pc := 30) (k_V E hC hS hA hl.1 (c1.recv hC fo rfl) rfl (c_X5_fails l D tk N0 sa H.size P hPN (fun q h9 => hPs q (Nat.le_trans hS.1 h9)) mo n9 kn th tt bb eT eB oT oB pk ca rf vs r_1 0 ) kw_1251 kw_1253 kp_20 kw_5 kw_1254 (n := 2) (by decide +kernel) rfl ⟨⟨rfl, rfl⟩, ⟨Nat.le_of_ble_eq_true rfl, Nat.le_of_ble_eq_true rfl⟩, (by dsimp only; omega), (by dsimp only; omega)⟩ rfl (Nat.le_of_ble_eq_true rfl) ⟨_, _, _, _, _, fo, fj, fk, fe, fr, fw, ⟨hPm, hPa, hPl, hPe, hPr, hPk⟩, hFk, hFe, hFr, hpk, hn9⟩ dX5_simplest_30) hS (fun q _ h => h) hn (fun r_11 H locs hR hz hk hS => ?_)
      obtain ⟨er_11, hM⟩ := hR
      obtain ⟨ra, rl, ex, ro, rt, fo, fj, fk, fe, fr, fw, ⟨hPm, hPa, hPl, hPe, hPr, hPk⟩, hFk, hFe, hFr, hpk, hn9⟩ := hM
      have g_fo := hPm
      have g_fj := hPa
      refine lv_if_eq (pc := 33) (tgt := 40) hx hb dX5_simplest_33 (by decide) (fun c_12 => ?_) (fun c_12 => ?_)
      · refine lv_aload_n (pc := 40) hx hb dX5_simplest_40 rfl (lv_at hl 0 rfl) ?_
        refine lv_iload_n (pc := 41) hx hb dX5_simplest_41 rfl (lv_at hl 1 rfl) ?_
        refine lv_aload_n (pc := 42) hx hb dX5_simplest_42 rfl (lv_at hl 0 rfl) ?_
        refine r_get (pc := 43) E hC fo 0 (v := .ref ra) rfl rfl (by decide) uX5 (List.mem_cons_of_mem _ kw_1209) (fun _ h => h) dX5_simplest_43 ?_
        refine lv_iload_n (pc := 46) hx hb dX5_simplest_46 rfl (lv_at hl 2 rfl) ?_
        obtain ⟨hx_13, hk_13⟩ := m_noN (m_ano (er_1.symm.trans (m_fl0 (er_11.symm.trans c_12)).1)).2
        refine r_aaldJ (pc := 47) E hC fj (nn x2) hx_13 hk_13 (by decide) rfl dX5_simplest_47 ?_
        have fL14 := fk (nn x2) hk_13
        have mF_fL14 := hFk (nn x2) hk_13
        have Pq_fL14 := hPk (nn x2) hk_13
        refine lv_iload_n (pc := 48) hx hb dX5_simplest_48 rfl (lv_at hl 3 rfl) ?_
        refine lv_iload (pc := 49) hx hb dX5_simplest_49 (lv_at hl 4 rfl) ?_
        obtain ⟨kp, hkp1, hkp2⟩ := m_in (x := x3) (hi_ := 2) (by decide) (fun z9 => c_5 (er_3.trans z9))
        have hZ0_ := hS.1
        have t_fo := fo.lt
        have t_fj := fj.lt
        have t_fk := fun k (hk9 : k < 6) => (fk k hk9).lt
        have t_fe := fe.lt
        have t_fr := fr.lt
        have t_fL14 := fL14.lt
        refine k_r (pc := 51) (k_S E hC hS hA hl.1 (c_X5_simplestOf l D tk N0 sa H.size (rt (nn x2)) (tt (nn x2)) (bb (nn x2)) x3 x4 kp mF_fL14 hkp1 hkp2) kw_1751 kw_1752 kw_5 kw_1753 (n := 3) (by decide +kernel) rfl ⟨⟨rfl, rfl⟩, ⟨Nat.le_of_ble_eq_true rfl, Nat.le_of_ble_eq_true rfl⟩, (by dsimp only; omega), (by dsimp only; omega)⟩ rfl (Nat.le_of_ble_eq_true rfl) fL14 dX5_simplest_51) hS (fun q z w => absurd w (Nat.not_le.mpr z)) hn (fun r_15 H locs hR hz hk hS => ?_)
        have fw := fw.new hk
        have fo := fo.kept (hk _ fo.lt (Nat.not_le.mpr fo.lt))
        have fj := fj.kept (hk _ fj.lt (Nat.not_le.mpr fj.lt))
        have fk := fk.new hk
        have fe := fe.kept (hk _ fe.lt (Nat.not_le.mpr fe.lt))
        have fr := fr.kept (hk _ fr.lt (Nat.not_le.mpr fr.lt))
        have fL14 := fL14.kept (hk _ fL14.lt (Nat.not_le.mpr fL14.lt))
        obtain ⟨z9_, tt_f16, bb_f16, f16, hb_f16, hv_f16⟩ := hR
        have s_f16 : s.heap.size ≤ r_15 := Nat.le_trans hZ0_ z9_
        have g_f16 := hn _ s_f16
        have l_fo_f16 : mo < r_15 := Nat.lt_of_lt_of_le t_fo z9_
        have l_fj_f16 : ra < r_15 := Nat.lt_of_lt_of_le t_fj z9_
        have nW_f16 : ∀ k, k < 6 → rt k ≠ r_15 := fun k hk9 => Nat.ne_of_lt (Nat.lt_of_lt_of_le (t_fk k hk9) z9_)
        have l_fe_f16 : ex < r_15 := Nat.lt_of_lt_of_le t_fe z9_
        have l_fr_f16 : ro < r_15 := Nat.lt_of_lt_of_le t_fr z9_
        have l_fL14_f16 : rt (nn x2) < r_15 := Nat.lt_of_lt_of_le t_fL14 z9_
        have hZ0_ := hS.1
        have t_fo := fo.lt
        have t_fj := fj.lt
        have t_fk := fun k (hk9 : k < 6) => (fk k hk9).lt
        have t_fe := fe.lt
        have t_fr := fr.lt
        have t_fL14 := fL14.lt
        have t_f16 := f16.lt
        obtain ⟨hx_17, hk_17⟩ := m_noN (m_ano (er_1.symm.trans (m_fl0 (er_11.symm.trans c_12)).1)).1
        refine k_i (pc := 54) (k_V E hC hS hA hl.1 (c1.recv hC fo rfl) rfl (c_X5_become l D tk N0 sa H.size P hPN (fun q h9 => hPs q (Nat.le_trans hS.1 h9)) mo n9 kn ((m_th r_1 0)) tt bb eT eB oT oB pk ca rf vs x1 (nn x1) hx_17 hk_17 r_15 tt_f16 bb_f16 (hPs _ s_f16) hb_f16.1) kw_1255 kw_1257 kp_21 kw_5 kw_1258 (n := 2) (by decide +kernel) rfl ⟨⟨rfl, rfl⟩, ⟨Nat.le_of_ble_eq_true rfl, Nat.le_of_ble_eq_true rfl⟩, (by dsimp only; omega), (by dsimp only; omega)⟩ rfl (Nat.le_of_ble_eq_true rfl) ⟨⟨_, _, _, _, _, fo, fj, fk, fe, fr, fw, ⟨hPm, hPa, hPl, hPe, hPr, hPk⟩, hFk, hFe, hFr, hpk, hn9⟩, f16⟩ dX5_simplest_54) hS (fun q _ h => h) hn (fun r_18 H locs hR hz hk hS => ?_)
        obtain ⟨tt_19, bb_19, rf_19, hM, hBE_19⟩ := hR
        obtain ⟨ra, rl, ex, ro, rt, fo, fj, fk, fe, fr, fw, ⟨hPm, hPa, hPl, hPe, hPr, hPk⟩, hFk, hFe, hFr, hpk, hn9⟩ := hM
        have g_fo := hPm
        have g_fj := hPa
        refine r_iret (pc := 57) E hr hlk hS (by omega) (by omega) ?_ dX5_simplest_57
        exact ⟨_, _, _, _, _, ⟨_, _, _, _, _, fo, fj, fk, fe, fr, fw, ⟨hPm, hPa, hPl, hPe, hPr, hPk⟩, hFk, hFe, hFr, hpk, hn9⟩, AC.ok (by subst er_1 er_3 er_8 er_11; first | rfl | (simp [m_or, m_not, m_is0, m_lt0, m_fl, c_5, c_10, c_12]; done)) (by subst er_1 er_3 er_8 er_11; first | rfl | (simp [m_or, m_not, m_is0, m_lt0, m_fl, c_5, c_10, c_12]; done)) (er_11.symm.trans c_12) hBE_19, fun _ => ⟨_, rfl, by rw [show nn x3 = kp from by rw [hkp1]; exact nI_clamp (by omega)]; exact hv_f16⟩⟩
      · refine lv_iconst (pc := 36) (v := 0) hx hb dX5_simplest_36 (by decide) ?_
        refine lv_goto (pc := 37) (tgt := 57) hx hb dX5_simplest_37 (by decide) ?_
        refine r_iret (pc := 57) E hr hlk hS (by omega) (by omega) ?_ dX5_simplest_57
        exact ⟨_, _, _, _, none, ⟨_, _, _, _, _, fo, fj, fk, fe, fr, fw, ⟨hPm, hPa, hPl, hPe, hPr, hPk⟩, hFk, hFe, hFr, hpk, hn9⟩, AC.fail (by subst er_1 er_3 er_8 er_11; first | rfl | (simp [m_or, m_not, m_is0, m_lt0, m_fl, c_5, c_10, c_12]; done)) (by subst er_1 er_3 er_8 er_11; first | rfl | (simp [m_or, m_not, m_is0, m_lt0, m_fl, c_5, c_10, c_12]; done)) (fun z9 => c_12 (er_11.trans z9)), fun z9 => absurd z9 (AC7 (by subst er_1 er_3 er_8 er_11; first | rfl | (simp [m_or, m_not, m_is0, m_lt0, m_fl, c_5, c_10, c_12]; done)) (by subst er_1 er_3 er_8 er_11; first | rfl | (simp [m_or, m_not, m_is0, m_lt0, m_fl, c_5, c_10, c_12]; done)) (fun z9 => c_12 (er_11.trans z9)))⟩
    · refine lv_iconst (pc := 25) (v := 1) hx hb dX5_simplest_25 (by decide) ?_
      refine lv_goto (pc := 26) (tgt := 30) hx hb dX5_simplest_26 (by decide) ?_
      have hZ0_ := hS.1
      have t_fo := fo.lt
      have t_fj := fj.lt
      have t_fk := fun k (hk9 : k < 6) => (fk k hk9).lt
      have t_fe := fe.lt
      have t_fr := fr.lt
      refine k_i (pc := 30) (k_V E hC hS hA hl.1 (c1.recv hC fo rfl) rfl (c_X5_fails l D tk N0 sa H.size P hPN (fun q h9 => hPs q (Nat.le_trans hS.1 h9)) mo n9 kn th tt bb eT eB oT oB pk ca rf vs r_1 1 ) kw_1251 kw_1253 kp_20 kw_5 kw_1254 (n := 2) (by decide +kernel) rfl ⟨⟨rfl, rfl⟩, ⟨Nat.le_of_ble_eq_true rfl, Nat.le_of_ble_eq_true rfl⟩, (by dsimp only; omega), (by dsimp only; omega)⟩ rfl (Nat.le_of_ble_eq_true rfl) ⟨_, _, _, _, _, fo, fj, fk, fe, fr, fw, ⟨hPm, hPa, hPl, hPe, hPr, hPk⟩, hFk, hFe, hFr, hpk, hn9⟩ dX5_simplest_30) hS (fun q _ h => h) hn (fun r_20 H locs hR hz hk hS => ?_)
      obtain ⟨er_20, hM⟩ := hR
      obtain ⟨ra, rl, ex, ro, rt, fo, fj, fk, fe, fr, fw, ⟨hPm, hPa, hPl, hPe, hPr, hPk⟩, hFk, hFe, hFr, hpk, hn9⟩ := hM
      have g_fo := hPm
      have g_fj := hPa
      have ef_r_20 : r_20 = 1 := er_20.trans (m_fl1 _)
      rw [ef_r_20]
      refine lv_if_eq (pc := 33) (tgt := 40) hx hb dX5_simplest_33 (by decide) (fun c_21 => ?_) (fun c_21 => ?_)
      · exact absurd c_21 (by decide)
      refine lv_iconst (pc := 36) (v := 0) hx hb dX5_simplest_36 (by decide) ?_
      refine lv_goto (pc := 37) (tgt := 57) hx hb dX5_simplest_37 (by decide) ?_
      refine r_iret (pc := 57) E hr hlk hS (by omega) (by omega) ?_ dX5_simplest_57
      exact ⟨_, _, _, _, none, ⟨_, _, _, _, _, fo, fj, fk, fe, fr, fw, ⟨hPm, hPa, hPl, hPe, hPr, hPk⟩, hFk, hFe, hFr, hpk, hn9⟩, AC.fail (by subst er_1 er_3 er_8; first | rfl | (simp [m_or, m_not, m_is0, m_lt0, m_fl, c_5, c_10]; done)) (by subst er_1 er_3 er_8; first | rfl | (simp [m_or, m_not, m_is0, m_lt0, m_fl, c_5, c_10]; done)) (fun z9 => absurd (ef_r_20.symm.trans (er_20.trans z9)) (by decide)), fun z9 => absurd z9 (AC7 (by subst er_1 er_3 er_8; first | rfl | (simp [m_or, m_not, m_is0, m_lt0, m_fl, c_5, c_10]; done)) (by subst er_1 er_3 er_8; first | rfl | (simp [m_or, m_not, m_is0, m_lt0, m_fl, c_5, c_10]; done)) (fun z9 => absurd (ef_r_20.symm.trans (er_20.trans z9)) (by decide)))⟩
set_option maxHeartbeats 4000000 in
set_option maxRecDepth 100000 in
/-- BestratiosModel.tally(III)I -/
theorem c_X5_tally (l : Launch) (D : va_G) (tk : Nat → ClassId) (N0 : Nat) (sa : Nat → Nat)  (sz : Nat) (P : Nat → Prop) (hPN : ∀ q, P q → N0 ≤ q) (hPs : ∀ q, sz ≤ q → P q) (mo n9 : Nat) (kn th : Int32) (tt bb : Nat → Int64) (eT eB oT oB : Int64) (pk : Nat) (ca rf : Int32) (vs : Nat → Value) (x1 : Int32) (x2 : Int32) (x3 : Int32) : Met l yX5_tally (wsy yX5_tally cX5_tally 7 (some .int)) ({ frames := 4, cells := 4, slots := 8, locals := 99 } : Room) (cP D tk N0 sa [.ref mo, .int x1, .int x2, .int x3] sz (fun H => MI D tk sa P mo tt bb eT eB oT oB pk ca rf vs kn n9 th H)) (kQi (fun r H => ∃ (th1 : Int32) (eT1 eB1 oT1 oB1 : Int64) (pk1 : Nat) (ca1 rf1 : Int32), MI D tk sa P mo tt bb eT1 eB1 oT1 oB1 pk1 ca1 rf1 vs kn n9 th1 H ∧ TL (m_isNo x1) (m_or (m_not (m_isIn x2 0 4)) (m_not (m_isIn x3 0 4))) eT eB oT oB pk ca rf (tt (nn x1)) (bb (nn x1)) x2 x3 r th1 eT1 eB1 oT1 oB1 pk1 ca1 rf1) (P)) (4) (8) (P) := by
  refine mStart RX5 rfl (by decide +kernel) (Nat.le_of_ble_eq_true rfl) ?_
  intro p e s m args below meth c E hr hlk hnm hsz hC hF ls hl
  subst hsz
  obtain ⟨hx, hb, -⟩ := id E
  have hA : ∀ q, (P) q → N0 ≤ q := hPN
  have hn : ∀ q, s.heap.size ≤ q → (P) q := hPs
  have hS : va_S (P) s.heap s.heap [] := va_S.rf
  have hl : lv_has ls 7 [(0, .ref mo), (1, .int x1), (2, .int x2), (3, .int x3)] := hl
  have hM : MI D tk sa P mo tt bb eT eB oT oB pk ca rf vs kn n9 th s.heap := hF
  obtain ⟨ra, rl, ex, ro, rt, fo, fj, fk, fe, fr, fw, ⟨hPm, hPa, hPl, hPe, hPr, hPk⟩, hFk, hFe, hFr, hpk, hn9⟩ := hM
  have g_fo := hPm
  have g_fj := hPa
  refine lv_aload_n (pc := 0) hx hb dX5_tally_0 rfl (lv_at hl 0 rfl) ?_
  refine lv_iload_n (pc := 1) hx hb dX5_tally_1 rfl (lv_at hl 1 rfl) ?_
  refine k_i (pc := 2) (k_S E hC hS hA hl.1 (c_X5_isNo l D tk N0 sa s.heap.size x1 ) kw_1245 kw_1246 kw_5 kw_1247 (n := 1) (by decide +kernel) rfl ⟨⟨rfl, rfl⟩, ⟨Nat.le_of_ble_eq_true rfl, Nat.le_of_ble_eq_true rfl⟩, (by dsimp only; omega), (by dsimp only; omega)⟩ rfl (Nat.le_of_ble_eq_true rfl) trivial dX5_tally_2) hS (fun q z w => absurd w (Nat.not_le.mpr z)) hn (fun r_1 H locs hR hz hk hS => ?_)
  have er_1 := hR
  have fw := fw.new hk
  have fo := fo.kept (hk _ fo.lt (Nat.not_le.mpr fo.lt))
  have fj := fj.kept (hk _ fj.lt (Nat.not_le.mpr fj.lt))
  have fk := fk.new hk
  have fe := fe.kept (hk _ fe.lt (Nat.not_le.mpr fe.lt))
  have fr := fr.kept (hk _ fr.lt (Nat.not_le.mpr fr.lt))
  refine lv_iload_n (pc := 5) hx hb dX5_tally_5 rfl (lv_at hl 2 rfl) ?_
  refine lv_iconst (pc := 6) (v := 0) hx hb dX5_tally_6 (by decide) ?_
  refine lv_iconst (pc := 7) (v := 4) hx hb dX5_tally_7 (by decide) ?_
  refine k_i (pc := 8) (k_S E hC hS hA hl.1 (c_X5_isIn l D tk N0 sa H.size x2 0 4 ) kw_1248 kw_1249 kw_5 kw_1250 (n := 3) (by decide +kernel) rfl ⟨⟨rfl, rfl⟩, ⟨Nat.le_of_ble_eq_true rfl, Nat.le_of_ble_eq_true rfl⟩, (by dsimp only; omega), (by dsimp only; omega)⟩ rfl (Nat.le_of_ble_eq_true rfl) trivial dX5_tally_8) hS (fun q z w => absurd w (Nat.not_le.mpr z)) hn (fun r_3 H locs hR hz hk hS => ?_)
  have er_3 := hR
  have fw := fw.new hk
  have fo := fo.kept (hk _ fo.lt (Nat.not_le.mpr fo.lt))
  have fj := fj.kept (hk _ fj.lt (Nat.not_le.mpr fj.lt))
  have fk := fk.new hk
  have fe := fe.kept (hk _ fe.lt (Nat.not_le.mpr fe.lt))
  have fr := fr.kept (hk _ fr.lt (Nat.not_le.mpr fr.lt))
  refine lv_if_eq (pc := 11) (tgt := 23) hx hb dX5_tally_11 (by decide) (fun c_5 => ?_) (fun c_5 => ?_)
  · refine lv_iconst (pc := 23) (v := 1) hx hb dX5_tally_23 (by decide) ?_
    refine lv_goto (pc := 24) (tgt := 28) hx hb dX5_tally_24 (by decide) ?_
    have hZ0_ := hS.1
    have t_fo := fo.lt
    have t_fj := fj.lt
    have t_fk := fun k (hk9 : k < 6) => (fk k hk9).lt
    have t_fe := fe.lt
    have t_fr := fr.lt
    refine k_i (pc := 28) (k_V E hC hS hA hl.1 (c1.recv hC fo rfl) rfl (c_X5_fails l D tk N0 sa H.size P hPN (fun q h9 => hPs q (Nat.le_trans hS.1 h9)) mo n9 kn th tt bb eT eB oT oB pk ca rf vs r_1 1 ) kw_1251 kw_1253 kp_20 kw_5 kw_1254 (n := 2) (by decide +kernel) rfl ⟨⟨rfl, rfl⟩, ⟨Nat.le_of_ble_eq_true rfl, Nat.le_of_ble_eq_true rfl⟩, (by dsimp only; omega), (by dsimp only; omega)⟩ rfl (Nat.le_of_ble_eq_true rfl) ⟨_, _, _, _, _, fo, fj, fk, fe, fr, fw, ⟨hPm, hPa, hPl, hPe, hPr, hPk⟩, hFk, hFe, hFr, hpk, hn9⟩ dX5_tally_28) hS (fun q _ h => h) hn (fun r_6 H locs hR hz hk hS => ?_)
    obtain ⟨er_6, hM⟩ := hR
    obtain ⟨ra, rl, ex, ro, rt, fo, fj, fk, fe, fr, fw, ⟨hPm, hPa, hPl, hPe, hPr, hPk⟩, hFk, hFe, hFr, hpk, hn9⟩ := hM
    have g_fo := hPm
    have g_fj := hPa
    have ef_r_6 : r_6 = 1 := er_6.trans (m_fl1 _)
    rw [ef_r_6]
    refine lv_if_eq (pc := 31) (tgt := 36) hx hb dX5_tally_31 (by decide) (fun c_7 => ?_) (fun c_7 => ?_)
    · exact absurd c_7 (by decide)
    refine lv_iconst (pc := 34) (v := 0) hx hb dX5_tally_34 (by decide) ?_
    refine r_iret (pc := 35) E hr hlk hS (by omega) (by omega) ?_ dX5_tally_35
    exact ⟨_, _, _, _, _, _, _, _, ⟨_, _, _, _, _, fo, fj, fk, fe, fr, fw, ⟨hPm, hPa, hPl, hPe, hPr, hPk⟩, hFk, hFe, hFr, hpk, hn9⟩, TL.fail (by subst er_1 er_3; first | rfl | (simp [m_or, m_not, m_is0, m_lt0, m_fl, c_5]; done)) (by subst er_1 er_3; first | rfl | (simp [m_or, m_not, m_is0, m_lt0, m_fl, c_5]; done)) (fun z9 => absurd (ef_r_6.symm.trans (er_6.trans z9)) (by decide))⟩
  · refine lv_iload_n (pc := 14) hx hb dX5_tally_14 rfl (lv_at hl 3 rfl) ?_
    refine lv_iconst (pc := 15) (v := 0) hx hb dX5_tally_15 (by decide) ?_
    refine lv_iconst (pc := 16) (v := 4) hx hb dX5_tally_16 (by decide) ?_
    refine k_i (pc := 17) (k_S E hC hS hA hl.1 (c_X5_isIn l D tk N0 sa H.size x3 0 4 ) kw_1248 kw_1249 kw_5 kw_1250 (n := 3) (by decide +kernel) rfl ⟨⟨rfl, rfl⟩, ⟨Nat.le_of_ble_eq_true rfl, Nat.le_of_ble_eq_true rfl⟩, (by dsimp only; omega), (by dsimp only; omega)⟩ rfl (Nat.le_of_ble_eq_true rfl) trivial dX5_tally_17) hS (fun q z w => absurd w (Nat.not_le.mpr z)) hn (fun r_8 H locs hR hz hk hS => ?_)
    have er_8 := hR
    have fw := fw.new hk
    have fo := fo.kept (hk _ fo.lt (Nat.not_le.mpr fo.lt))
    have fj := fj.kept (hk _ fj.lt (Nat.not_le.mpr fj.lt))
    have fk := fk.new hk
    have fe := fe.kept (hk _ fe.lt (Nat.not_le.mpr fe.lt))
    have fr := fr.kept (hk _ fr.lt (Nat.not_le.mpr fr.lt))
    refine lv_if_ne (pc := 20) (tgt := 27) hx hb dX5_tally_20 (by decide) (fun c_10 => ?_) (fun c_10 => ?_)
    · refine lv_iconst (pc := 27) (v := 0) hx hb dX5_tally_27 (by decide) ?_
      have hZ0_ := hS.1
      have t_fo := fo.lt
      have t_fj := fj.lt
      have t_fk := fun k (hk9 : k < 6) => (fk k hk9).lt
      have t_fe := fe.lt
      have t_fr := fr.lt
      refine k_i (pc := 28) (k_V E hC hS hA hl.1 (c1.recv hC fo rfl) rfl (c_X5_fails l D tk N0 sa H.size P hPN (fun q h9 => hPs q (Nat.le_trans hS.1 h9)) mo n9 kn th tt bb eT eB oT oB pk ca rf vs r_1 0 ) kw_1251 kw_1253 kp_20 kw_5 kw_1254 (n := 2) (by decide +kernel) rfl ⟨⟨rfl, rfl⟩, ⟨Nat.le_of_ble_eq_true rfl, Nat.le_of_ble_eq_true rfl⟩, (by dsimp only; omega), (by dsimp only; omega)⟩ rfl (Nat.le_of_ble_eq_true rfl) ⟨_, _, _, _, _, fo, fj, fk, fe, fr, fw, ⟨hPm, hPa, hPl, hPe, hPr, hPk⟩, hFk, hFe, hFr, hpk, hn9⟩ dX5_tally_28) hS (fun q _ h => h) hn (fun r_11 H locs hR hz hk hS => ?_)
      obtain ⟨er_11, hM⟩ := hR
      obtain ⟨ra, rl, ex, ro, rt, fo, fj, fk, fe, fr, fw, ⟨hPm, hPa, hPl, hPe, hPr, hPk⟩, hFk, hFe, hFr, hpk, hn9⟩ := hM
      have g_fo := hPm
      have g_fj := hPa
      refine lv_if_eq (pc := 31) (tgt := 36) hx hb dX5_tally_31 (by decide) (fun c_12 => ?_) (fun c_12 => ?_)
      · refine lv_aload_n (pc := 36) hx hb dX5_tally_36 rfl (lv_at hl 0 rfl) ?_
        refine r_get (pc := 37) E hC fo 0 (v := .ref ra) rfl rfl (by decide) uX5 (List.mem_cons_of_mem _ kw_1209) (fun _ h => h) dX5_tally_37 ?_
        refine lv_iload_n (pc := 40) hx hb dX5_tally_40 rfl (lv_at hl 1 rfl) ?_
        obtain ⟨hx_13, hk_13⟩ := m_noN (er_1.symm.trans (m_fl0 (er_11.symm.trans c_12)).1)
        refine r_aaldJ (pc := 41) E hC fj (nn x1) hx_13 hk_13 (by decide) rfl dX5_tally_41 ?_
        have fL14 := fk (nn x1) hk_13
        have mF_fL14 := hFk (nn x1) hk_13
        have Pq_fL14 := hPk (nn x1) hk_13
        refine lv_astore (pc := 42) (lv' := [(4, .ref (rt (nn x1))), (0, .ref mo), (1, .int x1), (2, .int x2), (3, .int x3)]) hx hb dX5_tally_42 hl (by decide) rfl (fun ls hl => ?_)
        refine lv_aload_n (pc := 44) hx hb dX5_tally_44 rfl (lv_at hl 1 rfl) ?_
        refine r_get (pc := 45) E hC fo 2 (v := .ref ex) rfl rfl (by decide) uX5 (List.mem_cons_of_mem _ kw_1211) (fun _ h => h) dX5_tally_45 ?_
        refine lv_aload (pc := 48) hx hb dX5_tally_48 (lv_at hl 0 rfl) ?_
        refine lv_iconst (pc := 50) (v := 1) hx hb dX5_tally_50 (by decide) ?_
        have hP1 := m_sumP 1 hFe mF_fL14 (by decide)
        have hZ0_ := hS.1
        have t_fo := fo.lt
        have t_fj := fj.lt
        have t_fk := fun k (hk9 : k < 6) => (fk k hk9).lt
        have t_fe := fe.lt
        have t_fr := fr.lt
        have t_fL14 := fL14.lt
        refine k_r (pc := 51) (k_S E hC hS hA hl.1 (c_X5_sum l D tk N0 sa H.size ex eT eB (rt (nn x1)) (tt (nn x1)) (bb (nn x1)) 1 hP1.1) kw_1297 kw_1298 kw_5 kw_1299 (n := 3) (by decide +kernel) rfl ⟨⟨rfl, rfl⟩, ⟨Nat.le_of_ble_eq_true rfl, Nat.le_of_ble_eq_true rfl⟩, (by dsimp only; omega), (by dsimp only; omega)⟩ rfl (Nat.le_of_ble_eq_true rfl) ⟨fe, fL14⟩ dX5_tally_51) hS (fun q z w => absurd w (Nat.not_le.mpr z)) hn (fun r_15 H locs hR hz hk hS => ?_)
        have fw := fw.new hk
        have fo := fo.kept (hk _ fo.lt (Nat.not_le.mpr fo.lt))
        have fj := fj.kept (hk _ fj.lt (Nat.not_le.mpr fj.lt))
        have fk := fk.new hk
        have fe := fe.kept (hk _ fe.lt (Nat.not_le.mpr fe.lt))
        have fr := fr.kept (hk _ fr.lt (Nat.not_le.mpr fr.lt))
        have fL14 := fL14.kept (hk _ fL14.lt (Nat.not_le.mpr fL14.lt))
        obtain ⟨z9_, f16⟩ := hR
        have s_f16 : s.heap.size ≤ r_15 := Nat.le_trans hZ0_ z9_
        have g_f16 := hn _ s_f16
        have l_fo_f16 : mo < r_15 := Nat.lt_of_lt_of_le t_fo z9_
        have l_fj_f16 : ra < r_15 := Nat.lt_of_lt_of_le t_fj z9_
        have nW_f16 : ∀ k, k < 6 → rt k ≠ r_15 := fun k hk9 => Nat.ne_of_lt (Nat.lt_of_lt_of_le (t_fk k hk9) z9_)
        have l_fe_f16 : ex < r_15 := Nat.lt_of_lt_of_le t_fe z9_
        have l_fr_f16 : ro < r_15 := Nat.lt_of_lt_of_le t_fr z9_
        have l_fL14_f16 : rt (nn x1) < r_15 := Nat.lt_of_lt_of_le t_fL14 z9_
        refine lv_astore (pc := 54) (lv' := [(5, .ref r_15), (4, .ref (rt (nn x1))), (0, .ref mo), (1, .int x1), (2, .int x2), (3, .int x3)]) hx hb dX5_tally_54 hl (by decide) rfl (fun ls hl => ?_)
        refine lv_aload_n (pc := 56) hx hb dX5_tally_56 rfl (lv_at hl 2 rfl) ?_
        refine r_get (pc := 57) E hC fo 3 (v := .ref ro) rfl rfl (by decide) uX5 (List.mem_cons_of_mem _ kw_1212) (fun _ h => h) dX5_tally_57 ?_
        refine lv_aload (pc := 60) hx hb dX5_tally_60 (lv_at hl 1 rfl) ?_
        refine lv_iconst (pc := 62) (v := 0) hx hb dX5_tally_62 (by decide) ?_
        refine r_l0 (pc := 63) E hC fL14 dX5_tally_63 ?_
        refine lv_aload (pc := 64) hx hb dX5_tally_64 (lv_at hl 1 rfl) ?_
        refine lv_iconst (pc := 66) (v := 1) hx hb dX5_tally_66 (by decide) ?_
        refine r_l1 (pc := 67) E hC fL14 dX5_tally_67 ?_
        refine lv_iload_n (pc := 68) hx hb dX5_tally_68 rfl (lv_at hl 4 rfl) ?_
        refine lv_iload_n (pc := 69) hx hb dX5_tally_69 rfl (lv_at hl 5 rfl) ?_
        obtain ⟨kp, hkp1, hkp2⟩ := m_in (x := x2) (hi_ := 4) (by decide) (fun z9 => c_5 (er_3.trans z9))
        refine k_l (pc := 70) (k_S E hC hS hA hl.1 (c_X5_cutOf l D tk N0 sa H.size (tt (nn x1)) (bb (nn x1)) x2 x3 (m_ne0 mF_fL14.2.1)) kw_1704 kw_1705 kw_5 kw_1706 (n := 4) (by decide +kernel) rfl ⟨⟨rfl, rfl⟩, ⟨Nat.le_of_ble_eq_true rfl, Nat.le_of_ble_eq_true rfl⟩, (by dsimp only; omega), (by dsimp only; omega)⟩ rfl (Nat.le_of_ble_eq_true rfl) trivial dX5_tally_70) hS (fun q z w => absurd w (Nat.not_le.mpr z)) hn (fun r_17 H locs hR hz hk hS => ?_)
        have er_17 := hR
        have fw := fw.new hk
        have fo := fo.kept (hk _ fo.lt (Nat.not_le.mpr fo.lt))
        have fj := fj.kept (hk _ fj.lt (Nat.not_le.mpr fj.lt))
        have fk := fk.new hk
        have fe := fe.kept (hk _ fe.lt (Nat.not_le.mpr fe.lt))
        have fr := fr.kept (hk _ fr.lt (Nat.not_le.mpr fr.lt))
        have fL14 := fL14.kept (hk _ fL14.lt (Nat.not_le.mpr fL14.lt))
        have f16 := f16.kept (hk _ f16.lt (Nat.not_le.mpr f16.lt))
        refine lv_iload_n (pc := 73) hx hb dX5_tally_73 rfl (lv_at hl 4 rfl) ?_
        refine k_l (pc := 74) (k_S E hC hS hA hl.1 (c_X5_power l D tk N0 sa H.size x2 ) kw_1278 kw_1279 kw_5 kw_1280 (n := 1) (by decide +kernel) rfl ⟨⟨rfl, rfl⟩, ⟨Nat.le_of_ble_eq_true rfl, Nat.le_of_ble_eq_true rfl⟩, (by dsimp only; omega), (by dsimp only; omega)⟩ rfl (Nat.le_of_ble_eq_true rfl) trivial dX5_tally_74) hS (fun q z w => absurd w (Nat.not_le.mpr z)) hn (fun r_19 H locs hR hz hk hS => ?_)
        have er_19 := hR
        have fw := fw.new hk
        have fo := fo.kept (hk _ fo.lt (Nat.not_le.mpr fo.lt))
        have fj := fj.kept (hk _ fj.lt (Nat.not_le.mpr fj.lt))
        have fk := fk.new hk
        have fe := fe.kept (hk _ fe.lt (Nat.not_le.mpr fe.lt))
        have fr := fr.kept (hk _ fr.lt (Nat.not_le.mpr fr.lt))
        have fL14 := fL14.kept (hk _ fL14.lt (Nat.not_le.mpr fL14.lt))
        have f16 := f16.kept (hk _ f16.lt (Nat.not_le.mpr f16.lt))
        have hcb : r_17.toInt.natAbs ≤ 10000000000002 := by rw [er_17]; exact m_cut4B mF_fL14 hkp1 hkp2 _
        have hP2 := m_addP hcb (show r_19 = m_pow (nI kp) by rw [er_19, hkp1]) hkp2
        have hZ0_ := hS.1
        have t_fo := fo.lt
        have t_fj := fj.lt
        have t_fk := fun k (hk9 : k < 6) => (fk k hk9).lt
        have t_fe := fe.lt
        have t_fr := fr.lt
        have t_fL14 := fL14.lt
        have t_f16 := f16.lt
        refine k_r (pc := 77) (k_S E hC hS hA hl.1 (c_X5_lowest l D tk N0 sa H.size r_17 r_19 hP2.1) kw_1199 kw_1200 kw_5 kw_1201 (n := 2) (by decide +kernel) rfl ⟨⟨rfl, rfl⟩, ⟨Nat.le_of_ble_eq_true rfl, Nat.le_of_ble_eq_true rfl⟩, (by dsimp only; omega), (by dsimp only; omega)⟩ rfl (Nat.le_of_ble_eq_true rfl) trivial dX5_tally_77) hS (fun q z w => absurd w (Nat.not_le.mpr z)) hn (fun r_21 H locs hR hz hk hS => ?_)
        have fw := fw.new hk
        have fo := fo.kept (hk _ fo.lt (Nat.not_le.mpr fo.lt))
        have fj := fj.kept (hk _ fj.lt (Nat.not_le.mpr fj.lt))
        have fk := fk.new hk
        have fe := fe.kept (hk _ fe.lt (Nat.not_le.mpr fe.lt))
        have fr := fr.kept (hk _ fr.lt (Nat.not_le.mpr fr.lt))
        have fL14 := fL14.kept (hk _ fL14.lt (Nat.not_le.mpr fL14.lt))
        have f16 := f16.kept (hk _ f16.lt (Nat.not_le.mpr f16.lt))
        obtain ⟨z9_, f22⟩ := hR
        have s_f22 : s.heap.size ≤ r_21 := Nat.le_trans hZ0_ z9_
        have g_f22 := hn _ s_f22
        have l_fo_f22 : mo < r_21 := Nat.lt_of_lt_of_le t_fo z9_
        have l_fj_f22 : ra < r_21 := Nat.lt_of_lt_of_le t_fj z9_
        have nW_f22 : ∀ k, k < 6 → rt k ≠ r_21 := fun k hk9 => Nat.ne_of_lt (Nat.lt_of_lt_of_le (t_fk k hk9) z9_)
        have l_fe_f22 : ex < r_21 := Nat.lt_of_lt_of_le t_fe z9_
        have l_fr_f22 : ro < r_21 := Nat.lt_of_lt_of_le t_fr z9_
        have l_fL14_f22 : rt (nn x1) < r_21 := Nat.lt_of_lt_of_le t_fL14 z9_
        have l_f16_f22 : r_15 < r_21 := Nat.lt_of_lt_of_le t_f16 z9_
        refine lv_iconst (pc := 80) (v := 1) hx hb dX5_tally_80 (by decide) ?_
        have hP3 := m_tlP hFr.1 hFr.2 hP2.2.2.2.1 hP2.2.1 hP2.2.2.1 hP2.2.2.2.2
        have hZ0_ := hS.1
        have t_fo := fo.lt
        have t_fj := fj.lt
        have t_fk := fun k (hk9 : k < 6) => (fk k hk9).lt
        have t_fe := fe.lt
        have t_fr := fr.lt
        have t_fL14 := fL14.lt
        have t_f16 := f16.lt
        have t_f22 := f22.lt
        refine k_r (pc := 81) (k_S E hC hS hA hl.1 (c_X5_sum l D tk N0 sa H.size ro oT oB r_21 (m_loT r_17 r_19) (m_loB r_17 r_19) 1 hP3.1) kw_1297 kw_1298 kw_5 kw_1299 (n := 3) (by decide +kernel) rfl ⟨⟨rfl, rfl⟩, ⟨Nat.le_of_ble_eq_true rfl, Nat.le_of_ble_eq_true rfl⟩, (by dsimp only; omega), (by dsimp only; omega)⟩ rfl (Nat.le_of_ble_eq_true rfl) ⟨fr, f22⟩ dX5_tally_81) hS (fun q z w => absurd w (Nat.not_le.mpr z)) hn (fun r_23 H locs hR hz hk hS => ?_)
        have fw := fw.new hk
        have fo := fo.kept (hk _ fo.lt (Nat.not_le.mpr fo.lt))
        have fj := fj.kept (hk _ fj.lt (Nat.not_le.mpr fj.lt))
        have fk := fk.new hk
        have fe := fe.kept (hk _ fe.lt (Nat.not_le.mpr fe.lt))
        have fr := fr.kept (hk _ fr.lt (Nat.not_le.mpr fr.lt))
        have fL14 := fL14.kept (hk _ fL14.lt (Nat.not_le.mpr fL14.lt))
        have f16 := f16.kept (hk _ f16.lt (Nat.not_le.mpr f16.lt))
        have f22 := f22.kept (hk _ f22.lt (Nat.not_le.mpr f22.lt))
        obtain ⟨z9_, f24⟩ := hR
        have s_f24 : s.heap.size ≤ r_23 := Nat.le_trans hZ0_ z9_
        have g_f24 := hn _ s_f24
        have l_fo_f24 : mo < r_23 := Nat.lt_of_lt_of_le t_fo z9_
        have l_fj_f24 : ra < r_23 := Nat.lt_of_lt_of_le t_fj z9_
        have nW_f24 : ∀ k, k < 6 → rt k ≠ r_23 := fun k hk9 => Nat.ne_of_lt (Nat.lt_of_lt_of_le (t_fk k hk9) z9_)
        have l_fe_f24 : ex < r_23 := Nat.lt_of_lt_of_le t_fe z9_
        have l_fr_f24 : ro < r_23 := Nat.lt_of_lt_of_le t_fr z9_
        have l_fL14_f24 : rt (nn x1) < r_23 := Nat.lt_of_lt_of_le t_fL14 z9_
        have l_f16_f24 : r_15 < r_23 := Nat.lt_of_lt_of_le t_f16 z9_
        have l_f22_f24 : r_21 < r_23 := Nat.lt_of_lt_of_le t_f22 z9_
        refine lv_astore (pc := 84) (lv' := [(6, .ref r_23), (5, .ref r_15), (4, .ref (rt (nn x1))), (0, .ref mo), (1, .int x1), (2, .int x2), (3, .int x3)]) hx hb dX5_tally_84 hl (by decide) rfl (fun ls hl => ?_)
        refine lv_aload (pc := 86) hx hb dX5_tally_86 (lv_at hl 1 rfl) ?_
        have hZ0_ := hS.1
        have t_fo := fo.lt
        have t_fj := fj.lt
        have t_fk := fun k (hk9 : k < 6) => (fk k hk9).lt
        have t_fe := fe.lt
        have t_fr := fr.lt
        have t_fL14 := fL14.lt
        have t_f16 := f16.lt
        have t_f22 := f22.lt
        have t_f24 := f24.lt
        refine k_i (pc := 88) (k_S E hC hS hA hl.1 (c_X5_isFit l D tk N0 sa H.size r_15 (m_loT (eT * (bb (nn x1)) + ((1 : Int32)).toInt64 * ((tt (nn x1)) * eB)) (eB * (bb (nn x1)))) (m_loB (eT * (bb (nn x1)) + ((1 : Int32)).toInt64 * ((tt (nn x1)) * eB)) (eB * (bb (nn x1)))) ) kw_1259 kw_1260 kw_5 kw_1261 (n := 1) (by decide +kernel) rfl ⟨⟨rfl, rfl⟩, ⟨Nat.le_of_ble_eq_true rfl, Nat.le_of_ble_eq_true rfl⟩, (by dsimp only; omega), (by dsimp only; omega)⟩ rfl (Nat.le_of_ble_eq_true rfl) f16 dX5_tally_88) hS (fun q z w => absurd w (Nat.not_le.mpr z)) hn (fun r_25 H locs hR hz hk hS => ?_)
        have fw := fw.new hk
        have fo := fo.kept (hk _ fo.lt (Nat.not_le.mpr fo.lt))
        have fj := fj.kept (hk _ fj.lt (Nat.not_le.mpr fj.lt))
        have fk := fk.new hk
        have fe := fe.kept (hk _ fe.lt (Nat.not_le.mpr fe.lt))
        have fr := fr.kept (hk _ fr.lt (Nat.not_le.mpr fr.lt))
        have fL14 := fL14.kept (hk _ fL14.lt (Nat.not_le.mpr fL14.lt))
        have f16 := f16.kept (hk _ f16.lt (Nat.not_le.mpr f16.lt))
        have f22 := f22.kept (hk _ f22.lt (Nat.not_le.mpr f22.lt))
        have f24 := f24.kept (hk _ f24.lt (Nat.not_le.mpr f24.lt))
        have er_25 := hR
        refine lv_if_eq (pc := 91) (tgt := 116) hx hb dX5_tally_91 (by decide) (fun c_26 => ?_) (fun c_26 => ?_)
        · refine lv_aload_n (pc := 116) hx hb dX5_tally_116 rfl (lv_at hl 3 rfl) ?_
          have hZ0_ := hS.1
          have t_fo := fo.lt
          have t_fj := fj.lt
          have t_fk := fun k (hk9 : k < 6) => (fk k hk9).lt
          have t_fe := fe.lt
          have t_fr := fr.lt
          have t_fL14 := fL14.lt
          have t_f16 := f16.lt
          have t_f22 := f22.lt
          have t_f24 := f24.lt
          refine k_i (pc := 117) (k_V E hC hS hA hl.1 (c1.recv hC fo rfl) rfl (c_X5_no l D tk N0 sa H.size P hPN (fun q h9 => hPs q (Nat.le_trans hS.1 h9)) mo n9 kn ((m_th r_1 0)) tt bb eT eB oT oB pk ca rf vs  ) kw_1264 kw_1266 kp_22 kw_5 kw_1267 (n := 0) (by decide +kernel) rfl ⟨⟨rfl, rfl⟩, ⟨Nat.le_of_ble_eq_true rfl, Nat.le_of_ble_eq_true rfl⟩, (by dsimp only; omega), (by dsimp only; omega)⟩ rfl (Nat.le_of_ble_eq_true rfl) ⟨_, _, _, _, _, fo, fj, fk, fe, fr, fw, ⟨hPm, hPa, hPl, hPe, hPr, hPk⟩, hFk, hFe, hFr, hpk, hn9⟩ dX5_tally_117) hS (fun q _ h => h) hn (fun r_27 H locs hR hz hk hS => ?_)
          obtain ⟨er_27, hM⟩ := hR
          obtain ⟨ra, rl, ex, ro, rt, fo, fj, fk, fe, fr, fw, ⟨hPm, hPa, hPl, hPe, hPr, hPk⟩, hFk, hFe, hFr, hpk, hn9⟩ := hM
          have g_fo := hPm
          have g_fj := hPa
          refine r_iret (pc := 120) E hr hlk hS (by omega) (by omega) ?_ dX5_tally_120
          have hE9 : (m_loT (eT * (bb (nn x1)) + ((1 : Int32)).toInt64 * ((tt (nn x1)) * eB)) (eB * (bb (nn x1))), m_loB (eT * (bb (nn x1)) + ((1 : Int32)).toInt64 * ((tt (nn x1)) * eB)) (eB * (bb (nn x1)))) = m_TLe eT eB (tt (nn x1)) (bb (nn x1)) := rfl
          have hR9 : (m_loT (oT * (m_loB r_17 r_19) + ((1 : Int32)).toInt64 * ((m_loT r_17 r_19) * oB)) (oB * (m_loB r_17 r_19)), m_loB (oT * (m_loB r_17 r_19) + ((1 : Int32)).toInt64 * ((m_loT r_17 r_19) * oB)) (oB * (m_loB r_17 r_19))) = m_TLo oT oB (tt (nn x1)) (bb (nn x1)) x2 x3 := by rw [er_17, er_19]; rfl
          exact ⟨_, _, _, _, _, _, _, _, ⟨_, _, _, _, _, fo, fj, fk, fe, fr, fw, ⟨hPm, hPa, hPl, hPe, hPr, hPk⟩, hFk, hFe, hFr, hpk, hn9⟩, TL.no (by subst er_1 er_3 er_8 er_11 er_17 er_19 er_25 er_27; first | rfl | (simp [m_or, m_not, m_is0, m_lt0, m_fl, c_5, c_10, c_12, c_26]; done)) (by subst er_1 er_3 er_8 er_11 er_17 er_19 er_25 er_27; first | rfl | (simp [m_or, m_not, m_is0, m_lt0, m_fl, c_5, c_10, c_12, c_26]; done)) (er_11.symm.trans c_12) (fun z9 => z9.1 (by rw [← hE9]; exact (er_25.symm.trans c_26))) er_27⟩
        · refine lv_aload (pc := 94) hx hb dX5_tally_94 (lv_at hl 0 rfl) ?_
          have hZ0_ := hS.1
          have t_fo := fo.lt
          have t_fj := fj.lt
          have t_fk := fun k (hk9 : k < 6) => (fk k hk9).lt
          have t_fe := fe.lt
          have t_fr := fr.lt
          have t_fL14 := fL14.lt
          have t_f16 := f16.lt
          have t_f22 := f22.lt
          have t_f24 := f24.lt
          refine k_i (pc := 96) (k_S E hC hS hA hl.1 (c_X5_isFit l D tk N0 sa H.size r_23 (m_loT (oT * (m_loB r_17 r_19) + ((1 : Int32)).toInt64 * ((m_loT r_17 r_19) * oB)) (oB * (m_loB r_17 r_19))) (m_loB (oT * (m_loB r_17 r_19) + ((1 : Int32)).toInt64 * ((m_loT r_17 r_19) * oB)) (oB * (m_loB r_17 r_19))) ) kw_1259 kw_1260 kw_5 kw_1261 (n := 1) (by decide +kernel) rfl ⟨⟨rfl, rfl⟩, ⟨Nat.le_of_ble_eq_true rfl, Nat.le_of_ble_eq_true rfl⟩, (by dsimp only; omega), (by dsimp only; omega)⟩ rfl (Nat.le_of_ble_eq_true rfl) f24 dX5_tally_96) hS (fun q z w => absurd w (Nat.not_le.mpr z)) hn (fun r_28 H locs hR hz hk hS => ?_)
          have fw := fw.new hk
          have fo := fo.kept (hk _ fo.lt (Nat.not_le.mpr fo.lt))
          have fj := fj.kept (hk _ fj.lt (Nat.not_le.mpr fj.lt))
          have fk := fk.new hk
          have fe := fe.kept (hk _ fe.lt (Nat.not_le.mpr fe.lt))
          have fr := fr.kept (hk _ fr.lt (Nat.not_le.mpr fr.lt))
          have fL14 := fL14.kept (hk _ fL14.lt (Nat.not_le.mpr fL14.lt))
          have f16 := f16.kept (hk _ f16.lt (Nat.not_le.mpr f16.lt))
          have f22 := f22.kept (hk _ f22.lt (Nat.not_le.mpr f22.lt))
          have f24 := f24.kept (hk _ f24.lt (Nat.not_le.mpr f24.lt))
          have er_28 := hR
          refine lv_if_eq (pc := 99) (tgt := 116) hx hb dX5_tally_99 (by decide) (fun c_29 => ?_) (fun c_29 => ?_)
          · refine lv_aload_n (pc := 116) hx hb dX5_tally_116 rfl (lv_at hl 3 rfl) ?_
            have hZ0_ := hS.1
            have t_fo := fo.lt
            have t_fj := fj.lt
            have t_fk := fun k (hk9 : k < 6) => (fk k hk9).lt
            have t_fe := fe.lt
            have t_fr := fr.lt
            have t_fL14 := fL14.lt
            have t_f16 := f16.lt
            have t_f22 := f22.lt
            have t_f24 := f24.lt
            refine k_i (pc := 117) (k_V E hC hS hA hl.1 (c1.recv hC fo rfl) rfl (c_X5_no l D tk N0 sa H.size P hPN (fun q h9 => hPs q (Nat.le_trans hS.1 h9)) mo n9 kn ((m_th r_1 0)) tt bb eT eB oT oB pk ca rf vs  ) kw_1264 kw_1266 kp_22 kw_5 kw_1267 (n := 0) (by decide +kernel) rfl ⟨⟨rfl, rfl⟩, ⟨Nat.le_of_ble_eq_true rfl, Nat.le_of_ble_eq_true rfl⟩, (by dsimp only; omega), (by dsimp only; omega)⟩ rfl (Nat.le_of_ble_eq_true rfl) ⟨_, _, _, _, _, fo, fj, fk, fe, fr, fw, ⟨hPm, hPa, hPl, hPe, hPr, hPk⟩, hFk, hFe, hFr, hpk, hn9⟩ dX5_tally_117) hS (fun q _ h => h) hn (fun r_30 H locs hR hz hk hS => ?_)
            obtain ⟨er_30, hM⟩ := hR
            obtain ⟨ra, rl, ex, ro, rt, fo, fj, fk, fe, fr, fw, ⟨hPm, hPa, hPl, hPe, hPr, hPk⟩, hFk, hFe, hFr, hpk, hn9⟩ := hM
            have g_fo := hPm
            have g_fj := hPa
            refine r_iret (pc := 120) E hr hlk hS (by omega) (by omega) ?_ dX5_tally_120
            have hE9 : (m_loT (eT * (bb (nn x1)) + ((1 : Int32)).toInt64 * ((tt (nn x1)) * eB)) (eB * (bb (nn x1))), m_loB (eT * (bb (nn x1)) + ((1 : Int32)).toInt64 * ((tt (nn x1)) * eB)) (eB * (bb (nn x1)))) = m_TLe eT eB (tt (nn x1)) (bb (nn x1)) := rfl
            have hR9 : (m_loT (oT * (m_loB r_17 r_19) + ((1 : Int32)).toInt64 * ((m_loT r_17 r_19) * oB)) (oB * (m_loB r_17 r_19)), m_loB (oT * (m_loB r_17 r_19) + ((1 : Int32)).toInt64 * ((m_loT r_17 r_19) * oB)) (oB * (m_loB r_17 r_19))) = m_TLo oT oB (tt (nn x1)) (bb (nn x1)) x2 x3 := by rw [er_17, er_19]; rfl
            exact ⟨_, _, _, _, _, _, _, _, ⟨_, _, _, _, _, fo, fj, fk, fe, fr, fw, ⟨hPm, hPa, hPl, hPe, hPr, hPk⟩, hFk, hFe, hFr, hpk, hn9⟩, TL.no (by subst er_1 er_3 er_8 er_11 er_17 er_19 er_25 er_28 er_30; first | rfl | (simp [m_or, m_not, m_is0, m_lt0, m_fl, c_5, c_10, c_12, c_26, c_29]; done)) (by subst er_1 er_3 er_8 er_11 er_17 er_19 er_25 er_28 er_30; first | rfl | (simp [m_or, m_not, m_is0, m_lt0, m_fl, c_5, c_10, c_12, c_26, c_29]; done)) (er_11.symm.trans c_12) (fun z9 => z9.2.1 (by rw [← hR9]; exact (er_28.symm.trans c_29))) er_30⟩
          · refine lv_aload (pc := 102) hx hb dX5_tally_102 (lv_at hl 1 rfl) ?_
            refine lv_aload (pc := 104) hx hb dX5_tally_104 (lv_at hl 0 rfl) ?_
            refine lv_iconst (pc := 106) (v := (-1)) hx hb dX5_tally_106 (by decide) ?_
            have hFE := m_fit1 (by rw [← er_25]; exact c_26) hP1.2.1
            have hFR := m_fit1 (by rw [← er_28]; exact c_29) hP3.2.1
            have hP4 := m_sumP (-1) hFE hFR (by decide)
            have hZ0_ := hS.1
            have t_fo := fo.lt
            have t_fj := fj.lt
            have t_fk := fun k (hk9 : k < 6) => (fk k hk9).lt
            have t_fe := fe.lt
            have t_fr := fr.lt
            have t_fL14 := fL14.lt
            have t_f16 := f16.lt
            have t_f22 := f22.lt
            have t_f24 := f24.lt
            refine k_r (pc := 107) (k_S E hC hS hA hl.1 (c_X5_sum l D tk N0 sa H.size r_15 (m_loT (eT * (bb (nn x1)) + ((1 : Int32)).toInt64 * ((tt (nn x1)) * eB)) (eB * (bb (nn x1)))) (m_loB (eT * (bb (nn x1)) + ((1 : Int32)).toInt64 * ((tt (nn x1)) * eB)) (eB * (bb (nn x1)))) r_23 (m_loT (oT * (m_loB r_17 r_19) + ((1 : Int32)).toInt64 * ((m_loT r_17 r_19) * oB)) (oB * (m_loB r_17 r_19))) (m_loB (oT * (m_loB r_17 r_19) + ((1 : Int32)).toInt64 * ((m_loT r_17 r_19) * oB)) (oB * (m_loB r_17 r_19))) ((-1)) hP4.1) kw_1297 kw_1298 kw_5 kw_1299 (n := 3) (by decide +kernel) rfl ⟨⟨rfl, rfl⟩, ⟨Nat.le_of_ble_eq_true rfl, Nat.le_of_ble_eq_true rfl⟩, (by dsimp only; omega), (by dsimp only; omega)⟩ rfl (Nat.le_of_ble_eq_true rfl) ⟨f16, f24⟩ dX5_tally_107) hS (fun q z w => absurd w (Nat.not_le.mpr z)) hn (fun r_31 H locs hR hz hk hS => ?_)
            have fw := fw.new hk
            have fo := fo.kept (hk _ fo.lt (Nat.not_le.mpr fo.lt))
            have fj := fj.kept (hk _ fj.lt (Nat.not_le.mpr fj.lt))
            have fk := fk.new hk
            have fe := fe.kept (hk _ fe.lt (Nat.not_le.mpr fe.lt))
            have fr := fr.kept (hk _ fr.lt (Nat.not_le.mpr fr.lt))
            have fL14 := fL14.kept (hk _ fL14.lt (Nat.not_le.mpr fL14.lt))
            have f16 := f16.kept (hk _ f16.lt (Nat.not_le.mpr f16.lt))
            have f22 := f22.kept (hk _ f22.lt (Nat.not_le.mpr f22.lt))
            have f24 := f24.kept (hk _ f24.lt (Nat.not_le.mpr f24.lt))
            obtain ⟨z9_, f32⟩ := hR
            have s_f32 : s.heap.size ≤ r_31 := Nat.le_trans hZ0_ z9_
            have g_f32 := hn _ s_f32
            have l_fo_f32 : mo < r_31 := Nat.lt_of_lt_of_le t_fo z9_
            have l_fj_f32 : ra < r_31 := Nat.lt_of_lt_of_le t_fj z9_
            have nW_f32 : ∀ k, k < 6 → rt k ≠ r_31 := fun k hk9 => Nat.ne_of_lt (Nat.lt_of_lt_of_le (t_fk k hk9) z9_)
            have l_fe_f32 : ex < r_31 := Nat.lt_of_lt_of_le t_fe z9_
            have l_fr_f32 : ro < r_31 := Nat.lt_of_lt_of_le t_fr z9_
            have l_fL14_f32 : rt (nn x1) < r_31 := Nat.lt_of_lt_of_le t_fL14 z9_
            have l_f16_f32 : r_15 < r_31 := Nat.lt_of_lt_of_le t_f16 z9_
            have l_f22_f32 : r_21 < r_31 := Nat.lt_of_lt_of_le t_f22 z9_
            have l_f24_f32 : r_23 < r_31 := Nat.lt_of_lt_of_le t_f24 z9_
            have hZ0_ := hS.1
            have t_fo := fo.lt
            have t_fj := fj.lt
            have t_fk := fun k (hk9 : k < 6) => (fk k hk9).lt
            have t_fe := fe.lt
            have t_fr := fr.lt
            have t_fL14 := fL14.lt
            have t_f16 := f16.lt
            have t_f22 := f22.lt
            have t_f24 := f24.lt
            have t_f32 := f32.lt
            refine k_i (pc := 110) (k_S E hC hS hA hl.1 (c_X5_isFit l D tk N0 sa H.size r_31 (m_loT ((m_loT (eT * (bb (nn x1)) + ((1 : Int32)).toInt64 * ((tt (nn x1)) * eB)) (eB * (bb (nn x1)))) * (m_loB (oT * (m_loB r_17 r_19) + ((1 : Int32)).toInt64 * ((m_loT r_17 r_19) * oB)) (oB * (m_loB r_17 r_19))) + (((-1) : Int32)).toInt64 * ((m_loT (oT * (m_loB r_17 r_19) + ((1 : Int32)).toInt64 * ((m_loT r_17 r_19) * oB)) (oB * (m_loB r_17 r_19))) * (m_loB (eT * (bb (nn x1)) + ((1 : Int32)).toInt64 * ((tt (nn x1)) * eB)) (eB * (bb (nn x1)))))) ((m_loB (eT * (bb (nn x1)) + ((1 : Int32)).toInt64 * ((tt (nn x1)) * eB)) (eB * (bb (nn x1)))) * (m_loB (oT * (m_loB r_17 r_19) + ((1 : Int32)).toInt64 * ((m_loT r_17 r_19) * oB)) (oB * (m_loB r_17 r_19))))) (m_loB ((m_loT (eT * (bb (nn x1)) + ((1 : Int32)).toInt64 * ((tt (nn x1)) * eB)) (eB * (bb (nn x1)))) * (m_loB (oT * (m_loB r_17 r_19) + ((1 : Int32)).toInt64 * ((m_loT r_17 r_19) * oB)) (oB * (m_loB r_17 r_19))) + (((-1) : Int32)).toInt64 * ((m_loT (oT * (m_loB r_17 r_19) + ((1 : Int32)).toInt64 * ((m_loT r_17 r_19) * oB)) (oB * (m_loB r_17 r_19))) * (m_loB (eT * (bb (nn x1)) + ((1 : Int32)).toInt64 * ((tt (nn x1)) * eB)) (eB * (bb (nn x1)))))) ((m_loB (eT * (bb (nn x1)) + ((1 : Int32)).toInt64 * ((tt (nn x1)) * eB)) (eB * (bb (nn x1)))) * (m_loB (oT * (m_loB r_17 r_19) + ((1 : Int32)).toInt64 * ((m_loT r_17 r_19) * oB)) (oB * (m_loB r_17 r_19))))) ) kw_1259 kw_1260 kw_5 kw_1261 (n := 1) (by decide +kernel) rfl ⟨⟨rfl, rfl⟩, ⟨Nat.le_of_ble_eq_true rfl, Nat.le_of_ble_eq_true rfl⟩, (by dsimp only; omega), (by dsimp only; omega)⟩ rfl (Nat.le_of_ble_eq_true rfl) f32 dX5_tally_110) hS (fun q z w => absurd w (Nat.not_le.mpr z)) hn (fun r_33 H locs hR hz hk hS => ?_)
            have fw := fw.new hk
            have fo := fo.kept (hk _ fo.lt (Nat.not_le.mpr fo.lt))
            have fj := fj.kept (hk _ fj.lt (Nat.not_le.mpr fj.lt))
            have fk := fk.new hk
            have fe := fe.kept (hk _ fe.lt (Nat.not_le.mpr fe.lt))
            have fr := fr.kept (hk _ fr.lt (Nat.not_le.mpr fr.lt))
            have fL14 := fL14.kept (hk _ fL14.lt (Nat.not_le.mpr fL14.lt))
            have f16 := f16.kept (hk _ f16.lt (Nat.not_le.mpr f16.lt))
            have f22 := f22.kept (hk _ f22.lt (Nat.not_le.mpr f22.lt))
            have f24 := f24.kept (hk _ f24.lt (Nat.not_le.mpr f24.lt))
            have f32 := f32.kept (hk _ f32.lt (Nat.not_le.mpr f32.lt))
            have er_33 := hR
            refine lv_if_ne (pc := 113) (tgt := 121) hx hb dX5_tally_113 (by decide) (fun c_34 => ?_) (fun c_34 => ?_)
            · refine lv_aload_n (pc := 121) hx hb dX5_tally_121 rfl (lv_at hl 3 rfl) ?_
              refine lv_aload (pc := 122) hx hb dX5_tally_122 (lv_at hl 1 rfl) ?_
              refine r_put (pc := 124) E hC fo hS g_fo 2 tyX5 tyX5_ok nmX5 rfl (by decide) (Nat.le_of_ble_eq_true rfl) uX5 (List.mem_cons_of_mem _ kw_1211) (fun _ h => h) rfl rfl rfl dX5_tally_124 (fun H locs n_ ho hz hS => ?_)
              have fw := fw.put ho (fun q9 h9 => clA.ne h9 fo.cl (hC.oo 7 13 rfl rfl (by decide))) (fun q9 h9 => clA.ne h9 fo.cl (hC.ao 13 4 rfl rfl)) (fun q9 h9 => clA.ne h9 fo.cl (hC.ceo (Or.inr rfl) 13 rfl (by decide)))
              have nW_fo : ∀ k, k < 6 → rt k ≠ mo := fun k hk9 => clA.ne (fk k hk9).cla fo.cl (hC.ao 13 0 rfl rfl)
              have fj := fj.kept (ho _ (clA.ne fj.cla fo.cl (hC.ao 13 3 rfl rfl)))
              have fk := fk.kept (fun k hk9 => ho _ (nW_fo k hk9))
              have fe := fe.kept (ho _ (clA.ne fe.cla fo.cl (hC.ao 13 0 rfl rfl)))
              have fr := fr.kept (ho _ (clA.ne fr.cla fo.cl (hC.ao 13 0 rfl rfl)))
              have fL14 := fL14.kept (ho _ (clA.ne fL14.cla fo.cl (hC.ao 13 0 rfl rfl)))
              have f16 := f16.kept (ho _ (clA.ne f16.cla fo.cl (hC.ao 13 0 rfl rfl)))
              have f22 := f22.kept (ho _ (clA.ne f22.cla fo.cl (hC.ao 13 0 rfl rfl)))
              have f24 := f24.kept (ho _ (clA.ne f24.cla fo.cl (hC.ao 13 0 rfl rfl)))
              have f32 := f32.kept (ho _ (clA.ne f32.cla fo.cl (hC.ao 13 0 rfl rfl)))
              have fo : c1 D mo (.inr (13, [.ref ra, .ref rl, .ref r_15, .ref ro, .int (nI pk), .int ca, .int rf, .int kn, .int ((m_th r_1 0))])) H := n_
              refine lv_aload_n (pc := 127) hx hb dX5_tally_127 rfl (lv_at hl 3 rfl) ?_
              refine lv_aload (pc := 128) hx hb dX5_tally_128 (lv_at hl 0 rfl) ?_
              refine r_put (pc := 130) E hC fo hS g_fo 3 tyX5 tyX5_ok nmX5 rfl (by decide) (Nat.le_of_ble_eq_true rfl) uX5 (List.mem_cons_of_mem _ kw_1212) (fun _ h => h) rfl rfl rfl dX5_tally_130 (fun H locs n_ ho hz hS => ?_)
              have fw := fw.put ho (fun q9 h9 => clA.ne h9 fo.cl (hC.oo 7 13 rfl rfl (by decide))) (fun q9 h9 => clA.ne h9 fo.cl (hC.ao 13 4 rfl rfl)) (fun q9 h9 => clA.ne h9 fo.cl (hC.ceo (Or.inr rfl) 13 rfl (by decide)))
              have fj := fj.kept (ho _ (clA.ne fj.cla fo.cl (hC.ao 13 3 rfl rfl)))
              have fk := fk.kept (fun k hk9 => ho _ (nW_fo k hk9))
              have fe := fe.kept (ho _ (clA.ne fe.cla fo.cl (hC.ao 13 0 rfl rfl)))
              have fr := fr.kept (ho _ (clA.ne fr.cla fo.cl (hC.ao 13 0 rfl rfl)))
              have fL14 := fL14.kept (ho _ (clA.ne fL14.cla fo.cl (hC.ao 13 0 rfl rfl)))
              have f16 := f16.kept (ho _ (clA.ne f16.cla fo.cl (hC.ao 13 0 rfl rfl)))
              have f22 := f22.kept (ho _ (clA.ne f22.cla fo.cl (hC.ao 13 0 rfl rfl)))
              have f24 := f24.kept (ho _ (clA.ne f24.cla fo.cl (hC.ao 13 0 rfl rfl)))
              have f32 := f32.kept (ho _ (clA.ne f32.cla fo.cl (hC.ao 13 0 rfl rfl)))
              have fo : c1 D mo (.inr (13, [.ref ra, .ref rl, .ref r_15, .ref r_23, .int (nI pk), .int ca, .int rf, .int kn, .int ((m_th r_1 0))])) H := n_
              refine lv_aload_n (pc := 133) hx hb dX5_tally_133 rfl (lv_at hl 3 rfl) ?_
              refine lv_aload_n (pc := 134) hx hb dX5_tally_134 rfl (lv_at hl 3 rfl) ?_
              refine r_get (pc := 135) E hC fo 4 (v := .int (nI pk)) rfl rfl (by decide) uX5 (List.mem_cons_of_mem _ kw_1213) (fun _ h => h) dX5_tally_135 ?_
              refine lv_iload_n (pc := 138) hx hb dX5_tally_138 rfl (lv_at hl 5 rfl) ?_
              refine k_i (pc := 139) (k_S E hC hS hA hl.1 (c_J9_max_7cf53 l D tk N0 sa H.size (nI pk) x2 ) kw_1758 kw_201 kw_9 kw_202 (n := 2) (by decide +kernel) rfl ⟨⟨rfl, rfl⟩, ⟨Nat.le_of_ble_eq_true rfl, Nat.le_of_ble_eq_true rfl⟩, (by dsimp only; omega), (by dsimp only; omega)⟩ rfl (Nat.le_of_ble_eq_true rfl) trivial dX5_tally_139) hS (fun q z w => absurd w (Nat.not_le.mpr z)) hn (fun r_35 H locs hR hz hk hS => ?_)
              have er_35 := hR
              have fw := fw.new hk
              have fo := fo.kept (hk _ fo.lt (Nat.not_le.mpr fo.lt))
              have fj := fj.kept (hk _ fj.lt (Nat.not_le.mpr fj.lt))
              have fk := fk.new hk
              have fe := fe.kept (hk _ fe.lt (Nat.not_le.mpr fe.lt))
              have fr := fr.kept (hk _ fr.lt (Nat.not_le.mpr fr.lt))
              have fL14 := fL14.kept (hk _ fL14.lt (Nat.not_le.mpr fL14.lt))
              have f16 := f16.kept (hk _ f16.lt (Nat.not_le.mpr f16.lt))
              have f22 := f22.kept (hk _ f22.lt (Nat.not_le.mpr f22.lt))
              have f24 := f24.kept (hk _ f24.lt (Nat.not_le.mpr f24.lt))
              have f32 := f32.kept (hk _ f32.lt (Nat.not_le.mpr f32.lt))
              obtain ⟨zp, hz1, hz2⟩ := m_max (a := pk) (b := kp) (by omega) (by omega)
              rw [show r_35 = nI zp by rw [er_35, hkp1]; exact hz1]
              have hpk9 : f_max (nI pk) x2 = nI zp := by rw [hkp1]; exact hz1
              refine r_put (pc := 142) E hC fo hS g_fo 4 tyX5 tyX5_ok nmX5 rfl (by decide) (Nat.le_of_ble_eq_true rfl) uX5 (List.mem_cons_of_mem _ kw_1213) (fun _ h => h) rfl rfl rfl dX5_tally_142 (fun H locs n_ ho hz hS => ?_)
              have fw := fw.put ho (fun q9 h9 => clA.ne h9 fo.cl (hC.oo 7 13 rfl rfl (by decide))) (fun q9 h9 => clA.ne h9 fo.cl (hC.ao 13 4 rfl rfl)) (fun q9 h9 => clA.ne h9 fo.cl (hC.ceo (Or.inr rfl) 13 rfl (by decide)))
              have fj := fj.kept (ho _ (clA.ne fj.cla fo.cl (hC.ao 13 3 rfl rfl)))
              have fk := fk.kept (fun k hk9 => ho _ (nW_fo k hk9))
              have fe := fe.kept (ho _ (clA.ne fe.cla fo.cl (hC.ao 13 0 rfl rfl)))
              have fr := fr.kept (ho _ (clA.ne fr.cla fo.cl (hC.ao 13 0 rfl rfl)))
              have fL14 := fL14.kept (ho _ (clA.ne fL14.cla fo.cl (hC.ao 13 0 rfl rfl)))
              have f16 := f16.kept (ho _ (clA.ne f16.cla fo.cl (hC.ao 13 0 rfl rfl)))
              have f22 := f22.kept (ho _ (clA.ne f22.cla fo.cl (hC.ao 13 0 rfl rfl)))
              have f24 := f24.kept (ho _ (clA.ne f24.cla fo.cl (hC.ao 13 0 rfl rfl)))
              have f32 := f32.kept (ho _ (clA.ne f32.cla fo.cl (hC.ao 13 0 rfl rfl)))
              have fo : c1 D mo (.inr (13, [.ref ra, .ref rl, .ref r_15, .ref r_23, .int (nI zp), .int ca, .int rf, .int kn, .int ((m_th r_1 0))])) H := n_
              refine lv_aload_n (pc := 145) hx hb dX5_tally_145 rfl (lv_at hl 3 rfl) ?_
              refine lv_dup (pc := 146) hx hb dX5_tally_146 rfl ?_
              refine r_get (pc := 147) E hC fo 5 (v := .int ca) rfl rfl (by decide) uX5 (List.mem_cons_of_mem _ kw_1214) (fun _ h => h) dX5_tally_147 ?_
              refine lv_iconst (pc := 150) (v := 1) hx hb dX5_tally_150 (by decide) ?_
              refine lv_iadd (pc := 151) hx hb dX5_tally_151 ?_
              refine r_put (pc := 152) E hC fo hS g_fo 5 tyX5 tyX5_ok nmX5 rfl (by decide) (Nat.le_of_ble_eq_true rfl) uX5 (List.mem_cons_of_mem _ kw_1214) (fun _ h => h) rfl rfl rfl dX5_tally_152 (fun H locs n_ ho hz hS => ?_)
              have fw := fw.put ho (fun q9 h9 => clA.ne h9 fo.cl (hC.oo 7 13 rfl rfl (by decide))) (fun q9 h9 => clA.ne h9 fo.cl (hC.ao 13 4 rfl rfl)) (fun q9 h9 => clA.ne h9 fo.cl (hC.ceo (Or.inr rfl) 13 rfl (by decide)))
              have fj := fj.kept (ho _ (clA.ne fj.cla fo.cl (hC.ao 13 3 rfl rfl)))
              have fk := fk.kept (fun k hk9 => ho _ (nW_fo k hk9))
              have fe := fe.kept (ho _ (clA.ne fe.cla fo.cl (hC.ao 13 0 rfl rfl)))
              have fr := fr.kept (ho _ (clA.ne fr.cla fo.cl (hC.ao 13 0 rfl rfl)))
              have fL14 := fL14.kept (ho _ (clA.ne fL14.cla fo.cl (hC.ao 13 0 rfl rfl)))
              have f16 := f16.kept (ho _ (clA.ne f16.cla fo.cl (hC.ao 13 0 rfl rfl)))
              have f22 := f22.kept (ho _ (clA.ne f22.cla fo.cl (hC.ao 13 0 rfl rfl)))
              have f24 := f24.kept (ho _ (clA.ne f24.cla fo.cl (hC.ao 13 0 rfl rfl)))
              have f32 := f32.kept (ho _ (clA.ne f32.cla fo.cl (hC.ao 13 0 rfl rfl)))
              have fo : c1 D mo (.inr (13, [.ref ra, .ref rl, .ref r_15, .ref r_23, .int (nI zp), .int (ca + 1), .int rf, .int kn, .int ((m_th r_1 0))])) H := n_
              refine lv_aload_n (pc := 155) hx hb dX5_tally_155 rfl (lv_at hl 3 rfl) ?_
              refine r_get (pc := 156) E hC fo 5 (v := .int (ca + 1)) rfl rfl (by decide) uX5 (List.mem_cons_of_mem _ kw_1214) (fun _ h => h) dX5_tally_156 ?_
              refine r_iret (pc := 159) E hr hlk hS (by omega) (by omega) ?_ dX5_tally_159
              have hE9 : (m_loT (eT * (bb (nn x1)) + ((1 : Int32)).toInt64 * ((tt (nn x1)) * eB)) (eB * (bb (nn x1))), m_loB (eT * (bb (nn x1)) + ((1 : Int32)).toInt64 * ((tt (nn x1)) * eB)) (eB * (bb (nn x1)))) = m_TLe eT eB (tt (nn x1)) (bb (nn x1)) := rfl
              have hR9 : (m_loT (oT * (m_loB r_17 r_19) + ((1 : Int32)).toInt64 * ((m_loT r_17 r_19) * oB)) (oB * (m_loB r_17 r_19)), m_loB (oT * (m_loB r_17 r_19) + ((1 : Int32)).toInt64 * ((m_loT r_17 r_19) * oB)) (oB * (m_loB r_17 r_19))) = m_TLo oT oB (tt (nn x1)) (bb (nn x1)) x2 x3 := by rw [er_17, er_19]; rfl
              exact ⟨_, _, _, _, _, _, _, _, ⟨_, _, _, _, _, fo, fj, fk, f16, f24, fw, ⟨hPm, hPa, hPl, (hPs _ s_f16), (hPs _ s_f24), hPk⟩, hFk, hFE, ⟨hFR, hP3.2.2⟩, (by omega), hn9⟩, TL.ok (by subst er_1 er_3 er_8 er_11 er_17 er_19 er_25 er_28 er_33 er_35; first | rfl | (simp [m_or, m_not, m_is0, m_lt0, m_fl, c_5, c_10, c_12, c_26, c_29, c_34]; done)) (by subst er_1 er_3 er_8 er_11 er_17 er_19 er_25 er_28 er_33 er_35; first | rfl | (simp [m_or, m_not, m_is0, m_lt0, m_fl, c_5, c_10, c_12, c_26, c_29, c_34]; done)) (er_11.symm.trans c_12) ⟨by rw [← hE9]; exact (fun z9 => c_26 (er_25.trans z9)), by rw [← hR9]; exact (fun z9 => c_29 (er_28.trans z9)), by rw [← hE9, ← hR9]; exact (fun z9 => c_34 (er_33.trans z9))⟩ hE9 hR9 hpk9 rfl⟩
            · refine lv_aload_n (pc := 116) hx hb dX5_tally_116 rfl (lv_at hl 3 rfl) ?_
              have hZ0_ := hS.1
              have t_fo := fo.lt
              have t_fj := fj.lt
              have t_fk := fun k (hk9 : k < 6) => (fk k hk9).lt
              have t_fe := fe.lt
              have t_fr := fr.lt
              have t_fL14 := fL14.lt
              have t_f16 := f16.lt
              have t_f22 := f22.lt
              have t_f24 := f24.lt
              have t_f32 := f32.lt
              refine k_i (pc := 117) (k_V E hC hS hA hl.1 (c1.recv hC fo rfl) rfl (c_X5_no l D tk N0 sa H.size P hPN (fun q h9 => hPs q (Nat.le_trans hS.1 h9)) mo n9 kn ((m_th r_1 0)) tt bb eT eB oT oB pk ca rf vs  ) kw_1264 kw_1266 kp_22 kw_5 kw_1267 (n := 0) (by decide +kernel) rfl ⟨⟨rfl, rfl⟩, ⟨Nat.le_of_ble_eq_true rfl, Nat.le_of_ble_eq_true rfl⟩, (by dsimp only; omega), (by dsimp only; omega)⟩ rfl (Nat.le_of_ble_eq_true rfl) ⟨_, _, _, _, _, fo, fj, fk, fe, fr, fw, ⟨hPm, hPa, hPl, hPe, hPr, hPk⟩, hFk, hFe, hFr, hpk, hn9⟩ dX5_tally_117) hS (fun q _ h => h) hn (fun r_37 H locs hR hz hk hS => ?_)
              obtain ⟨er_37, hM⟩ := hR
              obtain ⟨ra, rl, ex, ro, rt, fo, fj, fk, fe, fr, fw, ⟨hPm, hPa, hPl, hPe, hPr, hPk⟩, hFk, hFe, hFr, hpk, hn9⟩ := hM
              have g_fo := hPm
              have g_fj := hPa
              refine r_iret (pc := 120) E hr hlk hS (by omega) (by omega) ?_ dX5_tally_120
              have hE9 : (m_loT (eT * (bb (nn x1)) + ((1 : Int32)).toInt64 * ((tt (nn x1)) * eB)) (eB * (bb (nn x1))), m_loB (eT * (bb (nn x1)) + ((1 : Int32)).toInt64 * ((tt (nn x1)) * eB)) (eB * (bb (nn x1)))) = m_TLe eT eB (tt (nn x1)) (bb (nn x1)) := rfl
              have hR9 : (m_loT (oT * (m_loB r_17 r_19) + ((1 : Int32)).toInt64 * ((m_loT r_17 r_19) * oB)) (oB * (m_loB r_17 r_19)), m_loB (oT * (m_loB r_17 r_19) + ((1 : Int32)).toInt64 * ((m_loT r_17 r_19) * oB)) (oB * (m_loB r_17 r_19))) = m_TLo oT oB (tt (nn x1)) (bb (nn x1)) x2 x3 := by rw [er_17, er_19]; rfl
              exact ⟨_, _, _, _, _, _, _, _, ⟨_, _, _, _, _, fo, fj, fk, fe, fr, fw, ⟨hPm, hPa, hPl, hPe, hPr, hPk⟩, hFk, hFe, hFr, hpk, hn9⟩, TL.no (by subst er_1 er_3 er_8 er_11 er_17 er_19 er_25 er_28 er_33 er_37; first | rfl | (simp [m_or, m_not, m_is0, m_lt0, m_fl, c_5, c_10, c_12, c_26, c_29, c_34]; done)) (by subst er_1 er_3 er_8 er_11 er_17 er_19 er_25 er_28 er_33 er_37; first | rfl | (simp [m_or, m_not, m_is0, m_lt0, m_fl, c_5, c_10, c_12, c_26, c_29, c_34]; done)) (er_11.symm.trans c_12) (fun z9 => z9.2.2 (by rw [← hE9, ← hR9]; exact (er_33.symm.trans c_34))) er_37⟩
      · refine lv_iconst (pc := 34) (v := 0) hx hb dX5_tally_34 (by decide) ?_
        refine r_iret (pc := 35) E hr hlk hS (by omega) (by omega) ?_ dX5_tally_35
        exact ⟨_, _, _, _, _, _, _, _, ⟨_, _, _, _, _, fo, fj, fk, fe, fr, fw, ⟨hPm, hPa, hPl, hPe, hPr, hPk⟩, hFk, hFe, hFr, hpk, hn9⟩, TL.fail (by subst er_1 er_3 er_8 er_11; first | rfl | (simp [m_or, m_not, m_is0, m_lt0, m_fl, c_5, c_10, c_12]; done)) (by subst er_1 er_3 er_8 er_11; first | rfl | (simp [m_or, m_not, m_is0, m_lt0, m_fl, c_5, c_10, c_12]; done)) (fun z9 => c_12 (er_11.trans z9))⟩
    · refine lv_iconst (pc := 23) (v := 1) hx hb dX5_tally_23 (by decide) ?_
      refine lv_goto (pc := 24) (tgt := 28) hx hb dX5_tally_24 (by decide) ?_
      have hZ0_ := hS.1
      have t_fo := fo.lt
      have t_fj := fj.lt
      have t_fk := fun k (hk9 : k < 6) => (fk k hk9).lt
      have t_fe := fe.lt
      have t_fr := fr.lt
      refine k_i (pc := 28) (k_V E hC hS hA hl.1 (c1.recv hC fo rfl) rfl (c_X5_fails l D tk N0 sa H.size P hPN (fun q h9 => hPs q (Nat.le_trans hS.1 h9)) mo n9 kn th tt bb eT eB oT oB pk ca rf vs r_1 1 ) kw_1251 kw_1253 kp_20 kw_5 kw_1254 (n := 2) (by decide +kernel) rfl ⟨⟨rfl, rfl⟩, ⟨Nat.le_of_ble_eq_true rfl, Nat.le_of_ble_eq_true rfl⟩, (by dsimp only; omega), (by dsimp only; omega)⟩ rfl (Nat.le_of_ble_eq_true rfl) ⟨_, _, _, _, _, fo, fj, fk, fe, fr, fw, ⟨hPm, hPa, hPl, hPe, hPr, hPk⟩, hFk, hFe, hFr, hpk, hn9⟩ dX5_tally_28) hS (fun q _ h => h) hn (fun r_38 H locs hR hz hk hS => ?_)
      obtain ⟨er_38, hM⟩ := hR
      obtain ⟨ra, rl, ex, ro, rt, fo, fj, fk, fe, fr, fw, ⟨hPm, hPa, hPl, hPe, hPr, hPk⟩, hFk, hFe, hFr, hpk, hn9⟩ := hM
      have g_fo := hPm
      have g_fj := hPa
      have ef_r_38 : r_38 = 1 := er_38.trans (m_fl1 _)
      rw [ef_r_38]
      refine lv_if_eq (pc := 31) (tgt := 36) hx hb dX5_tally_31 (by decide) (fun c_39 => ?_) (fun c_39 => ?_)
      · exact absurd c_39 (by decide)
      refine lv_iconst (pc := 34) (v := 0) hx hb dX5_tally_34 (by decide) ?_
      refine r_iret (pc := 35) E hr hlk hS (by omega) (by omega) ?_ dX5_tally_35
      exact ⟨_, _, _, _, _, _, _, _, ⟨_, _, _, _, _, fo, fj, fk, fe, fr, fw, ⟨hPm, hPa, hPl, hPe, hPr, hPk⟩, hFk, hFe, hFr, hpk, hn9⟩, TL.fail (by subst er_1 er_3 er_8; first | rfl | (simp [m_or, m_not, m_is0, m_lt0, m_fl, c_5, c_10]; done)) (by subst er_1 er_3 er_8; first | rfl | (simp [m_or, m_not, m_is0, m_lt0, m_fl, c_5, c_10]; done)) (fun z9 => absurd (ef_r_38.symm.trans (er_38.trans z9)) (by decide))⟩
set_option maxHeartbeats 4000000 in
set_option maxRecDepth 100000 in
/-- BestratiosModel.wipe()I -/
theorem c_X5_wipe (l : Launch) (D : va_G) (tk : Nat → ClassId) (N0 : Nat) (sa : Nat → Nat)  (sz : Nat) (P : Nat → Prop) (hPN : ∀ q, P q → N0 ≤ q) (hPs : ∀ q, sz ≤ q → P q) (mo n9 : Nat) (kn th : Int32) (tt bb : Nat → Int64) (eT eB oT oB : Int64) (pk : Nat) (ca rf : Int32) (vs : Nat → Value)  : Met l yX5_wipe (wsy yX5_wipe cX5_wipe 2 (some .int)) ({ frames := 3, cells := 2, slots := 4, locals := 77 } : Room) (cP D tk N0 sa [.ref mo] sz (fun H => MI D tk sa P mo tt bb eT eB oT oB pk ca rf vs kn n9 th H)) (kQi (fun r H => r = ca ∧ MI D tk sa P mo tt bb ((m_loT 0 1)) ((m_loB 0 1)) ((m_loT 0 1)) ((m_loB 0 1)) 0 0 rf vs kn n9 0 H) (P)) (2) (4) (P) := by
  refine mStart RX5 rfl (by decide +kernel) (Nat.le_of_ble_eq_true rfl) ?_
  intro p e s m args below meth c E hr hlk hnm hsz hC hF ls hl
  subst hsz
  obtain ⟨hx, hb, -⟩ := id E
  have hA : ∀ q, (P) q → N0 ≤ q := hPN
  have hn : ∀ q, s.heap.size ≤ q → (P) q := hPs
  have hS : va_S (P) s.heap s.heap [] := va_S.rf
  have hl : lv_has ls 2 [(0, .ref mo)] := hl
  have hM : MI D tk sa P mo tt bb eT eB oT oB pk ca rf vs kn n9 th s.heap := hF
  obtain ⟨ra, rl, ex, ro, rt, fo, fj, fk, fe, fr, fw, ⟨hPm, hPa, hPl, hPe, hPr, hPk⟩, hFk, hFe, hFr, hpk, hn9⟩ := hM
  have g_fo := hPm
  have g_fj := hPa
  refine lv_aload_n (pc := 0) hx hb dX5_wipe_0 rfl (lv_at hl 0 rfl) ?_
  refine lv_iconst (pc := 1) (v := 0) hx hb dX5_wipe_1 (by decide) ?_
  refine r_put (pc := 2) E hC fo hS g_fo 8 tyX5 tyX5_ok nmX5 rfl (by decide) (Nat.le_of_ble_eq_true rfl) uX5 (List.mem_cons_of_mem _ kw_1217) (fun _ h => h) rfl rfl rfl dX5_wipe_2 (fun H locs n_ ho hz hS => ?_)
  have fw := fw.put ho (fun q9 h9 => clA.ne h9 fo.cl (hC.oo 7 13 rfl rfl (by decide))) (fun q9 h9 => clA.ne h9 fo.cl (hC.ao 13 4 rfl rfl)) (fun q9 h9 => clA.ne h9 fo.cl (hC.ceo (Or.inr rfl) 13 rfl (by decide)))
  have nW_fo : ∀ k, k < 6 → rt k ≠ mo := fun k hk9 => clA.ne (fk k hk9).cla fo.cl (hC.ao 13 0 rfl rfl)
  have fj := fj.kept (ho _ (clA.ne fj.cla fo.cl (hC.ao 13 3 rfl rfl)))
  have fk := fk.kept (fun k hk9 => ho _ (nW_fo k hk9))
  have fe := fe.kept (ho _ (clA.ne fe.cla fo.cl (hC.ao 13 0 rfl rfl)))
  have fr := fr.kept (ho _ (clA.ne fr.cla fo.cl (hC.ao 13 0 rfl rfl)))
  have fo : c1 D mo (.inr (13, [.ref ra, .ref rl, .ref ex, .ref ro, .int (nI pk), .int ca, .int rf, .int kn, .int 0])) H := n_
  refine lv_aload_n (pc := 5) hx hb dX5_wipe_5 rfl (lv_at hl 0 rfl) ?_
  refine r_get (pc := 6) E hC fo 5 (v := .int ca) rfl rfl (by decide) uX5 (List.mem_cons_of_mem _ kw_1214) (fun _ h => h) dX5_wipe_6 ?_
  refine lv_istore_n (pc := 9) (lv' := [(1, .int ca), (0, .ref mo)]) hx hb dX5_wipe_9 rfl hl (by decide) rfl (fun ls hl => ?_)
  refine lv_aload_n (pc := 10) hx hb dX5_wipe_10 rfl (lv_at hl 1 rfl) ?_
  refine lv_lconst (pc := 11) (v := 0) hx hb dX5_wipe_11 (by decide) ?_
  refine lv_lconst (pc := 12) (v := 1) hx hb dX5_wipe_12 (by decide) ?_
  have hZ0_ := hS.1
  have t_fo := fo.lt
  have t_fj := fj.lt
  have t_fk := fun k (hk9 : k < 6) => (fk k hk9).lt
  have t_fe := fe.lt
  have t_fr := fr.lt
  refine k_r (pc := 13) (k_S E hC hS hA hl.1 (c_X5_lowest l D tk N0 sa H.size 0 1 m_div01) kw_1199 kw_1200 kw_5 kw_1201 (n := 2) (by decide +kernel) rfl ⟨⟨rfl, rfl⟩, ⟨Nat.le_of_ble_eq_true rfl, Nat.le_of_ble_eq_true rfl⟩, (by dsimp only; omega), (by dsimp only; omega)⟩ rfl (Nat.le_of_ble_eq_true rfl) trivial dX5_wipe_13) hS (fun q z w => absurd w (Nat.not_le.mpr z)) hn (fun r_1 H locs hR hz hk hS => ?_)
  have fw := fw.new hk
  have fo := fo.kept (hk _ fo.lt (Nat.not_le.mpr fo.lt))
  have fj := fj.kept (hk _ fj.lt (Nat.not_le.mpr fj.lt))
  have fk := fk.new hk
  have fe := fe.kept (hk _ fe.lt (Nat.not_le.mpr fe.lt))
  have fr := fr.kept (hk _ fr.lt (Nat.not_le.mpr fr.lt))
  obtain ⟨z9_, f2⟩ := hR
  have s_f2 : s.heap.size ≤ r_1 := Nat.le_trans hZ0_ z9_
  have g_f2 := hn _ s_f2
  have l_fo_f2 : mo < r_1 := Nat.lt_of_lt_of_le t_fo z9_
  have l_fj_f2 : ra < r_1 := Nat.lt_of_lt_of_le t_fj z9_
  have nW_f2 : ∀ k, k < 6 → rt k ≠ r_1 := fun k hk9 => Nat.ne_of_lt (Nat.lt_of_lt_of_le (t_fk k hk9) z9_)
  have l_fe_f2 : ex < r_1 := Nat.lt_of_lt_of_le t_fe z9_
  have l_fr_f2 : ro < r_1 := Nat.lt_of_lt_of_le t_fr z9_
  refine r_put (pc := 16) E hC fo hS g_fo 2 tyX5 tyX5_ok nmX5 rfl (by decide) (Nat.le_of_ble_eq_true rfl) uX5 (List.mem_cons_of_mem _ kw_1211) (fun _ h => h) rfl rfl rfl dX5_wipe_16 (fun H locs n_ ho hz hS => ?_)
  have fw := fw.put ho (fun q9 h9 => clA.ne h9 fo.cl (hC.oo 7 13 rfl rfl (by decide))) (fun q9 h9 => clA.ne h9 fo.cl (hC.ao 13 4 rfl rfl)) (fun q9 h9 => clA.ne h9 fo.cl (hC.ceo (Or.inr rfl) 13 rfl (by decide)))
  have fj := fj.kept (ho _ (clA.ne fj.cla fo.cl (hC.ao 13 3 rfl rfl)))
  have fk := fk.kept (fun k hk9 => ho _ (nW_fo k hk9))
  have fe := fe.kept (ho _ (clA.ne fe.cla fo.cl (hC.ao 13 0 rfl rfl)))
  have fr := fr.kept (ho _ (clA.ne fr.cla fo.cl (hC.ao 13 0 rfl rfl)))
  have f2 := f2.kept (ho _ (clA.ne f2.cla fo.cl (hC.ao 13 0 rfl rfl)))
  have fo : c1 D mo (.inr (13, [.ref ra, .ref rl, .ref r_1, .ref ro, .int (nI pk), .int ca, .int rf, .int kn, .int 0])) H := n_
  refine lv_aload_n (pc := 19) hx hb dX5_wipe_19 rfl (lv_at hl 1 rfl) ?_
  refine lv_lconst (pc := 20) (v := 0) hx hb dX5_wipe_20 (by decide) ?_
  refine lv_lconst (pc := 21) (v := 1) hx hb dX5_wipe_21 (by decide) ?_
  have hZ0_ := hS.1
  have t_fo := fo.lt
  have t_fj := fj.lt
  have t_fk := fun k (hk9 : k < 6) => (fk k hk9).lt
  have t_fe := fe.lt
  have t_fr := fr.lt
  have t_f2 := f2.lt
  refine k_r (pc := 22) (k_S E hC hS hA hl.1 (c_X5_lowest l D tk N0 sa H.size 0 1 m_div01) kw_1199 kw_1200 kw_5 kw_1201 (n := 2) (by decide +kernel) rfl ⟨⟨rfl, rfl⟩, ⟨Nat.le_of_ble_eq_true rfl, Nat.le_of_ble_eq_true rfl⟩, (by dsimp only; omega), (by dsimp only; omega)⟩ rfl (Nat.le_of_ble_eq_true rfl) trivial dX5_wipe_22) hS (fun q z w => absurd w (Nat.not_le.mpr z)) hn (fun r_3 H locs hR hz hk hS => ?_)
  have fw := fw.new hk
  have fo := fo.kept (hk _ fo.lt (Nat.not_le.mpr fo.lt))
  have fj := fj.kept (hk _ fj.lt (Nat.not_le.mpr fj.lt))
  have fk := fk.new hk
  have fe := fe.kept (hk _ fe.lt (Nat.not_le.mpr fe.lt))
  have fr := fr.kept (hk _ fr.lt (Nat.not_le.mpr fr.lt))
  have f2 := f2.kept (hk _ f2.lt (Nat.not_le.mpr f2.lt))
  obtain ⟨z9_, f4⟩ := hR
  have s_f4 : s.heap.size ≤ r_3 := Nat.le_trans hZ0_ z9_
  have g_f4 := hn _ s_f4
  have l_fo_f4 : mo < r_3 := Nat.lt_of_lt_of_le t_fo z9_
  have l_fj_f4 : ra < r_3 := Nat.lt_of_lt_of_le t_fj z9_
  have nW_f4 : ∀ k, k < 6 → rt k ≠ r_3 := fun k hk9 => Nat.ne_of_lt (Nat.lt_of_lt_of_le (t_fk k hk9) z9_)
  have l_fe_f4 : ex < r_3 := Nat.lt_of_lt_of_le t_fe z9_
  have l_fr_f4 : ro < r_3 := Nat.lt_of_lt_of_le t_fr z9_
  have l_f2_f4 : r_1 < r_3 := Nat.lt_of_lt_of_le t_f2 z9_
  refine r_put (pc := 25) E hC fo hS g_fo 3 tyX5 tyX5_ok nmX5 rfl (by decide) (Nat.le_of_ble_eq_true rfl) uX5 (List.mem_cons_of_mem _ kw_1212) (fun _ h => h) rfl rfl rfl dX5_wipe_25 (fun H locs n_ ho hz hS => ?_)
  have fw := fw.put ho (fun q9 h9 => clA.ne h9 fo.cl (hC.oo 7 13 rfl rfl (by decide))) (fun q9 h9 => clA.ne h9 fo.cl (hC.ao 13 4 rfl rfl)) (fun q9 h9 => clA.ne h9 fo.cl (hC.ceo (Or.inr rfl) 13 rfl (by decide)))
  have fj := fj.kept (ho _ (clA.ne fj.cla fo.cl (hC.ao 13 3 rfl rfl)))
  have fk := fk.kept (fun k hk9 => ho _ (nW_fo k hk9))
  have fe := fe.kept (ho _ (clA.ne fe.cla fo.cl (hC.ao 13 0 rfl rfl)))
  have fr := fr.kept (ho _ (clA.ne fr.cla fo.cl (hC.ao 13 0 rfl rfl)))
  have f2 := f2.kept (ho _ (clA.ne f2.cla fo.cl (hC.ao 13 0 rfl rfl)))
  have f4 := f4.kept (ho _ (clA.ne f4.cla fo.cl (hC.ao 13 0 rfl rfl)))
  have fo : c1 D mo (.inr (13, [.ref ra, .ref rl, .ref r_1, .ref r_3, .int (nI pk), .int ca, .int rf, .int kn, .int 0])) H := n_
  refine lv_aload_n (pc := 28) hx hb dX5_wipe_28 rfl (lv_at hl 1 rfl) ?_
  refine lv_iconst (pc := 29) (v := 0) hx hb dX5_wipe_29 (by decide) ?_
  refine r_put (pc := 30) E hC fo hS g_fo 4 tyX5 tyX5_ok nmX5 rfl (by decide) (Nat.le_of_ble_eq_true rfl) uX5 (List.mem_cons_of_mem _ kw_1213) (fun _ h => h) rfl rfl rfl dX5_wipe_30 (fun H locs n_ ho hz hS => ?_)
  have fw := fw.put ho (fun q9 h9 => clA.ne h9 fo.cl (hC.oo 7 13 rfl rfl (by decide))) (fun q9 h9 => clA.ne h9 fo.cl (hC.ao 13 4 rfl rfl)) (fun q9 h9 => clA.ne h9 fo.cl (hC.ceo (Or.inr rfl) 13 rfl (by decide)))
  have fj := fj.kept (ho _ (clA.ne fj.cla fo.cl (hC.ao 13 3 rfl rfl)))
  have fk := fk.kept (fun k hk9 => ho _ (nW_fo k hk9))
  have fe := fe.kept (ho _ (clA.ne fe.cla fo.cl (hC.ao 13 0 rfl rfl)))
  have fr := fr.kept (ho _ (clA.ne fr.cla fo.cl (hC.ao 13 0 rfl rfl)))
  have f2 := f2.kept (ho _ (clA.ne f2.cla fo.cl (hC.ao 13 0 rfl rfl)))
  have f4 := f4.kept (ho _ (clA.ne f4.cla fo.cl (hC.ao 13 0 rfl rfl)))
  have fo : c1 D mo (.inr (13, [.ref ra, .ref rl, .ref r_1, .ref r_3, .int 0, .int ca, .int rf, .int kn, .int 0])) H := n_
  refine lv_aload_n (pc := 33) hx hb dX5_wipe_33 rfl (lv_at hl 1 rfl) ?_
  refine lv_iconst (pc := 34) (v := 0) hx hb dX5_wipe_34 (by decide) ?_
  refine r_put (pc := 35) E hC fo hS g_fo 5 tyX5 tyX5_ok nmX5 rfl (by decide) (Nat.le_of_ble_eq_true rfl) uX5 (List.mem_cons_of_mem _ kw_1214) (fun _ h => h) rfl rfl rfl dX5_wipe_35 (fun H locs n_ ho hz hS => ?_)
  have fw := fw.put ho (fun q9 h9 => clA.ne h9 fo.cl (hC.oo 7 13 rfl rfl (by decide))) (fun q9 h9 => clA.ne h9 fo.cl (hC.ao 13 4 rfl rfl)) (fun q9 h9 => clA.ne h9 fo.cl (hC.ceo (Or.inr rfl) 13 rfl (by decide)))
  have fj := fj.kept (ho _ (clA.ne fj.cla fo.cl (hC.ao 13 3 rfl rfl)))
  have fk := fk.kept (fun k hk9 => ho _ (nW_fo k hk9))
  have fe := fe.kept (ho _ (clA.ne fe.cla fo.cl (hC.ao 13 0 rfl rfl)))
  have fr := fr.kept (ho _ (clA.ne fr.cla fo.cl (hC.ao 13 0 rfl rfl)))
  have f2 := f2.kept (ho _ (clA.ne f2.cla fo.cl (hC.ao 13 0 rfl rfl)))
  have f4 := f4.kept (ho _ (clA.ne f4.cla fo.cl (hC.ao 13 0 rfl rfl)))
  have fo : c1 D mo (.inr (13, [.ref ra, .ref rl, .ref r_1, .ref r_3, .int 0, .int 0, .int rf, .int kn, .int 0])) H := n_
  refine lv_iload_n (pc := 38) hx hb dX5_wipe_38 rfl (lv_at hl 0 rfl) ?_
  refine r_iret (pc := 39) E hr hlk hS (by omega) (by omega) ?_ dX5_wipe_39
  exact ⟨rfl, ⟨_, _, _, _, _, fo, fj, fk, f2, f4, fw, ⟨hPm, hPa, hPl, (hPs _ s_f2), (hPs _ s_f4), hPk⟩, hFk, m_F01, ⟨m_F01, m_D01⟩, (Nat.zero_le 4), hn9⟩⟩
set_option maxHeartbeats 4000000 in
set_option maxRecDepth 100000 in
/-- BestratiosModel.exact()Ljava/lang/String; -/
theorem c_X5_exact (l : Launch) (D : va_G) (tk : Nat → ClassId) (N0 : Nat) (sa : Nat → Nat)  (sz : Nat) (P : Nat → Prop) (hPN : ∀ q, P q → N0 ≤ q) (hPs : ∀ q, sz ≤ q → P q) (mo n9 : Nat) (kn th : Int32) (tt bb : Nat → Int64) (eT eB oT oB : Int64) (pk : Nat) (ca rf : Int32) (vs : Nat → Value)  : Met l yX5_exact (wsy yX5_exact cX5_exact 1 (some (.object "java/lang/String"))) ({ frames := 7, cells := 7, slots := 210, locals := 157 } : Room) (cP D tk N0 sa [.ref mo] sz (fun H => MI D tk sa P mo tt bb eT eB oT oB pk ca rf vs kn n9 th H)) (kQr (fun r H => ∃ th1, MI D tk sa P mo tt bb eT eB oT oB pk ca rf vs kn n9 th1 H) (P)) (7) (210) (P) := by
  refine mStart RX5 rfl (by decide +kernel) (Nat.le_of_ble_eq_true rfl) ?_
  intro p e s m args below meth c E hr hlk hnm hsz hC hF ls hl
  subst hsz
  obtain ⟨hx, hb, -⟩ := id E
  have hA : ∀ q, (P) q → N0 ≤ q := hPN
  have hn : ∀ q, s.heap.size ≤ q → (P) q := hPs
  have hS : va_S (P) s.heap s.heap [] := va_S.rf
  have hl : lv_has ls 1 [(0, .ref mo)] := hl
  have hM : MI D tk sa P mo tt bb eT eB oT oB pk ca rf vs kn n9 th s.heap := hF
  obtain ⟨ra, rl, ex, ro, rt, fo, fj, fk, fe, fr, fw, ⟨hPm, hPa, hPl, hPe, hPr, hPk⟩, hFk, hFe, hFr, hpk, hn9⟩ := hM
  have g_fo := hPm
  have g_fj := hPa
  refine lv_aload_n (pc := 0) hx hb dX5_exact_0 rfl (lv_at hl 0 rfl) ?_
  refine lv_iconst (pc := 1) (v := 0) hx hb dX5_exact_1 (by decide) ?_
  refine r_put (pc := 2) E hC fo hS g_fo 8 tyX5 tyX5_ok nmX5 rfl (by decide) (Nat.le_of_ble_eq_true rfl) uX5 (List.mem_cons_of_mem _ kw_1217) (fun _ h => h) rfl rfl rfl dX5_exact_2 (fun H locs n_ ho hz hS => ?_)
  have fw := fw.put ho (fun q9 h9 => clA.ne h9 fo.cl (hC.oo 7 13 rfl rfl (by decide))) (fun q9 h9 => clA.ne h9 fo.cl (hC.ao 13 4 rfl rfl)) (fun q9 h9 => clA.ne h9 fo.cl (hC.ceo (Or.inr rfl) 13 rfl (by decide)))
  have nW_fo : ∀ k, k < 6 → rt k ≠ mo := fun k hk9 => clA.ne (fk k hk9).cla fo.cl (hC.ao 13 0 rfl rfl)
  have fj := fj.kept (ho _ (clA.ne fj.cla fo.cl (hC.ao 13 3 rfl rfl)))
  have fk := fk.kept (fun k hk9 => ho _ (nW_fo k hk9))
  have fe := fe.kept (ho _ (clA.ne fe.cla fo.cl (hC.ao 13 0 rfl rfl)))
  have fr := fr.kept (ho _ (clA.ne fr.cla fo.cl (hC.ao 13 0 rfl rfl)))
  have fo : c1 D mo (.inr (13, [.ref ra, .ref rl, .ref ex, .ref ro, .int (nI pk), .int ca, .int rf, .int kn, .int 0])) H := n_
  refine lv_aload_n (pc := 5) hx hb dX5_exact_5 rfl (lv_at hl 0 rfl) ?_
  refine r_get (pc := 6) E hC fo 2 (v := .ref ex) rfl rfl (by decide) uX5 (List.mem_cons_of_mem _ kw_1211) (fun _ h => h) dX5_exact_6 ?_
  have hZ0_ := hS.1
  have t_fo := fo.lt
  have t_fj := fj.lt
  have t_fk := fun k (hk9 : k < 6) => (fk k hk9).lt
  have t_fe := fe.lt
  have t_fr := fr.lt
  refine k_r (pc := 9) (k_S E hC hS hA hl.1 (c_X5_text l D tk N0 sa H.size ex eT eB) kw_1348 kw_1349 kw_5 kw_1350 (n := 1) (by decide +kernel) rfl ⟨⟨rfl, rfl⟩, ⟨Nat.le_of_ble_eq_true rfl, Nat.le_of_ble_eq_true rfl⟩, (by dsimp only; omega), (by dsimp only; omega)⟩ rfl (Nat.le_of_ble_eq_true rfl) fe dX5_exact_9) hS (fun q z w => absurd w (Nat.not_le.mpr z)) hn (fun r_1 H locs hR hz hk hS => ?_)
  have fw := fw.new hk
  have fo := fo.kept (hk _ fo.lt (Nat.not_le.mpr fo.lt))
  have fj := fj.kept (hk _ fj.lt (Nat.not_le.mpr fj.lt))
  have fk := fk.new hk
  have fe := fe.kept (hk _ fe.lt (Nat.not_le.mpr fe.lt))
  have fr := fr.kept (hk _ fr.lt (Nat.not_le.mpr fr.lt))
  obtain ⟨n_f2, hn_f2, z9_, f2⟩ := hR
  refine r_aret (pc := 12) E hr (Or.inl ⟨_, rfl⟩) hlk hS (by omega) (by omega) ?_ dX5_exact_12
  exact ⟨_, ⟨_, _, _, _, _, fo, fj, fk, fe, fr, fw, ⟨hPm, hPa, hPl, hPe, hPr, hPk⟩, hFk, hFe, hFr, hpk, hn9⟩⟩
set_option maxHeartbeats 4000000 in
set_option maxRecDepth 100000 in
/-- BestratiosModel.roundedNow()Ljava/lang/String; -/
theorem c_X5_roundedNow (l : Launch) (D : va_G) (tk : Nat → ClassId) (N0 : Nat) (sa : Nat → Nat)  (sz : Nat) (P : Nat → Prop) (hPN : ∀ q, P q → N0 ≤ q) (mo n9 : Nat) (kn th : Int32) (tt bb : Nat → Int64) (eT eB oT oB : Int64) (pk : Nat) (ca rf : Int32) (vs : Nat → Value)  : Met l yX5_roundedNow (wsy yX5_roundedNow cX5_roundedNow 1 (some (.object "java/lang/String"))) ({ frames := 7, cells := 16 + 4 * 4, slots := 83 + 3 * 14 + 36 * 4, locals := 163 } : Room) (cP D tk N0 sa [.ref mo] sz (fun H => MI D tk sa P mo tt bb eT eB oT oB pk ca rf vs kn n9 th H)) (kQr (fun r H => ∃ n1, n1 ≤ 16 ∧ SX D tk r n1 H) (nwA sz)) (16 + 4 * 4) (83 + 3 * 14 + 36 * 4) (nwA sz) := by
  refine mStart RX5 rfl (by decide +kernel) (Nat.le_of_ble_eq_true rfl) ?_
  intro p e s m args below meth c E hr hlk hnm hsz hC hF ls hl
  subst hsz
  obtain ⟨hx, hb, -⟩ := id E
  have hA : ∀ q, (nwA s.heap.size) q → N0 ≤ q := fun q h => Nat.le_trans hC.2.1 h
  have hn : ∀ q, s.heap.size ≤ q → (nwA s.heap.size) q := fun q h => h
  have hS : va_S (nwA s.heap.size) s.heap s.heap [] := va_S.rf
  have hl : lv_has ls 1 [(0, .ref mo)] := hl
  have hM : MI D tk sa P mo tt bb eT eB oT oB pk ca rf vs kn n9 th s.heap := hF
  obtain ⟨ra, rl, ex, ro, rt, fo, fj, fk, fe, fr, fw, ⟨hPm, hPa, hPl, hPe, hPr, hPk⟩, hFk, hFe, hFr, hpk, hn9⟩ := hM
  refine lv_aload_n (pc := 0) hx hb dX5_roundedNow_0 rfl (lv_at hl 0 rfl) ?_
  refine r_get (pc := 1) E hC fo 3 (v := .ref ro) rfl rfl (by decide) uX5 (List.mem_cons_of_mem _ kw_1212) (fun _ h => h) dX5_roundedNow_1 ?_
  refine lv_iconst (pc := 4) (v := 0) hx hb dX5_roundedNow_4 (by decide) ?_
  refine r_l0 (pc := 5) E hC fr dX5_roundedNow_5 ?_
  refine lv_aload_n (pc := 6) hx hb dX5_roundedNow_6 rfl (lv_at hl 0 rfl) ?_
  refine r_get (pc := 7) E hC fo 4 (v := .int (nI pk)) rfl rfl (by decide) uX5 (List.mem_cons_of_mem _ kw_1213) (fun _ h => h) dX5_roundedNow_7 ?_
  refine k_l (pc := 10) (k_S E hC hS hA hl.1 (c_X5_power l D tk N0 sa s.heap.size (nI pk) ) kw_1278 kw_1279 kw_5 kw_1280 (n := 1) (by decide +kernel) rfl ⟨⟨rfl, rfl⟩, ⟨Nat.le_of_ble_eq_true rfl, Nat.le_of_ble_eq_true rfl⟩, (by dsimp only; omega), (by dsimp only; omega)⟩ rfl (Nat.le_of_ble_eq_true rfl) trivial dX5_roundedNow_10) hS (fun q z w => absurd w (Nat.not_le.mpr z)) hn (fun r_1 H locs hR hz hk hS => ?_)
  have er_1 := hR
  have fw := fw.new hk
  have fo := fo.kept (hk _ fo.lt (Nat.not_le.mpr fo.lt))
  have fj := fj.kept (hk _ fj.lt (Nat.not_le.mpr fj.lt))
  have fk := fk.new hk
  have fe := fe.kept (hk _ fe.lt (Nat.not_le.mpr fe.lt))
  have fr := fr.kept (hk _ fr.lt (Nat.not_le.mpr fr.lt))
  refine lv_aload_n (pc := 13) hx hb dX5_roundedNow_13 rfl (lv_at hl 0 rfl) ?_
  refine r_get (pc := 14) E hC fo 3 (v := .ref ro) rfl rfl (by decide) uX5 (List.mem_cons_of_mem _ kw_1212) (fun _ h => h) dX5_roundedNow_14 ?_
  refine lv_iconst (pc := 17) (v := 1) hx hb dX5_roundedNow_17 (by decide) ?_
  refine r_l1 (pc := 18) E hC fr dX5_roundedNow_18 ?_
  refine lv_ldiv (pc := 19) hx hb dX5_roundedNow_19 ((m_ne0 hFr.1.2.1)) ?_
  refine lv_lmul (pc := 20) hx hb dX5_roundedNow_20 ?_
  refine lv_aload_n (pc := 21) hx hb dX5_roundedNow_21 rfl (lv_at hl 0 rfl) ?_
  refine r_get (pc := 22) E hC fo 4 (v := .int (nI pk)) rfl rfl (by decide) uX5 (List.mem_cons_of_mem _ kw_1213) (fun _ h => h) dX5_roundedNow_22 ?_
  have hdG := (m_dG1 14).1 (by decide)
  have hZ0_ := hS.1
  have t_fo := fo.lt
  have t_fj := fj.lt
  have t_fk := fun k (hk9 : k < 6) => (fk k hk9).lt
  have t_fe := fe.lt
  have t_fr := fr.lt
  refine k_r (pc := 25) (k_S E hC hS hA hl.1 (c_X5_decimal l D tk N0 sa H.size (oT * (r_1 / oB)) (nI pk) pk 14 rfl (by omega) (by omega) (by decide) (m_rndB hFr.1 er_1 hpk rfl)) kw_1707 kw_1708 kw_5 kw_1709 (n := 2) (by decide +kernel) rfl ⟨⟨rfl, rfl⟩, ⟨Nat.le_of_ble_eq_true rfl, Nat.le_of_ble_eq_true rfl⟩, (by dsimp only; omega), (by dsimp only; omega)⟩ rfl (Nat.le_of_ble_eq_true rfl) trivial dX5_roundedNow_25) hS (fun q z w => absurd w (Nat.not_le.mpr z)) hn (fun r_3 H locs hR hz hk hS => ?_)
  have fw := fw.new hk
  have fo := fo.kept (hk _ fo.lt (Nat.not_le.mpr fo.lt))
  have fj := fj.kept (hk _ fj.lt (Nat.not_le.mpr fj.lt))
  have fk := fk.new hk
  have fe := fe.kept (hk _ fe.lt (Nat.not_le.mpr fe.lt))
  have fr := fr.kept (hk _ fr.lt (Nat.not_le.mpr fr.lt))
  obtain ⟨n_f4, hn_f4, z9_, f4⟩ := hR
  refine r_aret (pc := 28) E hr (Or.inl ⟨_, rfl⟩) hlk hS (by omega) (by omega) ?_ dX5_roundedNow_28
  exact ⟨_, by omega, f4⟩
set_option maxHeartbeats 4000000 in
set_option maxRecDepth 100000 in
/-- BestratiosModel.rounded()Ljava/lang/String; -/
theorem c_X5_rounded (l : Launch) (D : va_G) (tk : Nat → ClassId) (N0 : Nat) (sa : Nat → Nat)  (sz : Nat) (P : Nat → Prop) (hPN : ∀ q, P q → N0 ≤ q) (hPs : ∀ q, sz ≤ q → P q) (mo n9 : Nat) (kn th : Int32) (tt bb : Nat → Int64) (eT eB oT oB : Int64) (pk : Nat) (ca rf : Int32) (vs : Nat → Value)  : Met l yX5_rounded (wsy yX5_rounded cX5_rounded 1 (some (.object "java/lang/String"))) ({ frames := 8, cells := 32, slots := 269, locals := 183 } : Room) (cP D tk N0 sa [.ref mo] sz (fun H => MI D tk sa P mo tt bb eT eB oT oB pk ca rf vs kn n9 th H)) (kQr (fun r H => ∃ th1, MI D tk sa P mo tt bb eT eB oT oB pk ca rf vs kn n9 th1 H) (P)) (32) (269) (P) := by
  refine mStart RX5 rfl (by decide +kernel) (Nat.le_of_ble_eq_true rfl) ?_
  intro p e s m args below meth c E hr hlk hnm hsz hC hF ls hl
  subst hsz
  obtain ⟨hx, hb, -⟩ := id E
  have hA : ∀ q, (P) q → N0 ≤ q := hPN
  have hn : ∀ q, s.heap.size ≤ q → (P) q := hPs
  have hS : va_S (P) s.heap s.heap [] := va_S.rf
  have hl : lv_has ls 1 [(0, .ref mo)] := hl
  have hM : MI D tk sa P mo tt bb eT eB oT oB pk ca rf vs kn n9 th s.heap := hF
  obtain ⟨ra, rl, ex, ro, rt, fo, fj, fk, fe, fr, fw, ⟨hPm, hPa, hPl, hPe, hPr, hPk⟩, hFk, hFe, hFr, hpk, hn9⟩ := hM
  have g_fo := hPm
  have g_fj := hPa
  refine lv_aload_n (pc := 0) hx hb dX5_rounded_0 rfl (lv_at hl 0 rfl) ?_
  refine lv_iconst (pc := 1) (v := 0) hx hb dX5_rounded_1 (by decide) ?_
  refine r_put (pc := 2) E hC fo hS g_fo 8 tyX5 tyX5_ok nmX5 rfl (by decide) (Nat.le_of_ble_eq_true rfl) uX5 (List.mem_cons_of_mem _ kw_1217) (fun _ h => h) rfl rfl rfl dX5_rounded_2 (fun H locs n_ ho hz hS => ?_)
  have fw := fw.put ho (fun q9 h9 => clA.ne h9 fo.cl (hC.oo 7 13 rfl rfl (by decide))) (fun q9 h9 => clA.ne h9 fo.cl (hC.ao 13 4 rfl rfl)) (fun q9 h9 => clA.ne h9 fo.cl (hC.ceo (Or.inr rfl) 13 rfl (by decide)))
  have nW_fo : ∀ k, k < 6 → rt k ≠ mo := fun k hk9 => clA.ne (fk k hk9).cla fo.cl (hC.ao 13 0 rfl rfl)
  have fj := fj.kept (ho _ (clA.ne fj.cla fo.cl (hC.ao 13 3 rfl rfl)))
  have fk := fk.kept (fun k hk9 => ho _ (nW_fo k hk9))
  have fe := fe.kept (ho _ (clA.ne fe.cla fo.cl (hC.ao 13 0 rfl rfl)))
  have fr := fr.kept (ho _ (clA.ne fr.cla fo.cl (hC.ao 13 0 rfl rfl)))
  have fo : c1 D mo (.inr (13, [.ref ra, .ref rl, .ref ex, .ref ro, .int (nI pk), .int ca, .int rf, .int kn, .int 0])) H := n_
  refine lv_aload_n (pc := 5) hx hb dX5_rounded_5 rfl (lv_at hl 0 rfl) ?_
  have hZ0_ := hS.1
  have t_fo := fo.lt
  have t_fj := fj.lt
  have t_fk := fun k (hk9 : k < 6) => (fk k hk9).lt
  have t_fe := fe.lt
  have t_fr := fr.lt
  refine k_r (pc := 6) (k_V E hC hS hA hl.1 (c1.recv hC fo rfl) rfl (c_X5_roundedNow l D tk N0 sa H.size P hPN mo n9 kn 0 tt bb eT eB oT oB pk ca rf vs  ) kw_1771 kw_1773 kp_33 kw_5 kw_1774 (n := 0) (by decide +kernel) rfl ⟨⟨rfl, rfl⟩, ⟨Nat.le_of_ble_eq_true rfl, Nat.le_of_ble_eq_true rfl⟩, (by dsimp only; omega), (by dsimp only; omega)⟩ rfl (Nat.le_of_ble_eq_true rfl) ⟨_, _, _, _, _, fo, fj, fk, fe, fr, fw, ⟨hPm, hPa, hPl, hPe, hPr, hPk⟩, hFk, hFe, hFr, hpk, hn9⟩ dX5_rounded_6) hS (fun q z w => absurd w (Nat.not_le.mpr z)) hn (fun r_1 H locs hR hz hk hS => ?_)
  have fw := fw.new hk
  have fo := fo.kept (hk _ fo.lt (Nat.not_le.mpr fo.lt))
  have fj := fj.kept (hk _ fj.lt (Nat.not_le.mpr fj.lt))
  have fk := fk.new hk
  have fe := fe.kept (hk _ fe.lt (Nat.not_le.mpr fe.lt))
  have fr := fr.kept (hk _ fr.lt (Nat.not_le.mpr fr.lt))
  obtain ⟨n_f2, hn_f2, f2⟩ := hR
  refine r_aret (pc := 9) E hr (Or.inl ⟨_, rfl⟩) hlk hS (by omega) (by omega) ?_ dX5_rounded_9
  exact ⟨_, ⟨_, _, _, _, _, fo, fj, fk, fe, fr, fw, ⟨hPm, hPa, hPl, hPe, hPr, hPk⟩, hFk, hFe, hFr, hpk, hn9⟩⟩
set_option maxHeartbeats 4000000 in
set_option maxRecDepth 100000 in
/-- BestratiosModel.errorNow()Ljava/lang/String; -/
theorem c_X5_errorNow (l : Launch) (D : va_G) (tk : Nat → ClassId) (N0 : Nat) (sa : Nat → Nat)  (sz : Nat) (P : Nat → Prop) (hPN : ∀ q, P q → N0 ≤ q) (mo n9 : Nat) (kn th : Int32) (tt bb : Nat → Int64) (eT eB oT oB : Int64) (pk : Nat) (ca rf : Int32) (vs : Nat → Value)  : Met l yX5_errorNow (wsy yX5_errorNow cX5_errorNow 1 (some (.object "java/lang/String"))) ({ frames := 7, cells := 8, slots := 212, locals := 157 } : Room) (cP D tk N0 sa [.ref mo] sz (fun H => MI D tk sa P mo tt bb eT eB oT oB pk ca rf vs kn n9 th H)) (kQr (fun r H => ∃ n1, n1 ≤ 43 ∧ SX D tk r n1 H) (nwA sz)) (8) (212) (nwA sz) := by
  refine mStart RX5 rfl (by decide +kernel) (Nat.le_of_ble_eq_true rfl) ?_
  intro p e s m args below meth c E hr hlk hnm hsz hC hF ls hl
  subst hsz
  obtain ⟨hx, hb, -⟩ := id E
  have hA : ∀ q, (nwA s.heap.size) q → N0 ≤ q := fun q h => Nat.le_trans hC.2.1 h
  have hn : ∀ q, s.heap.size ≤ q → (nwA s.heap.size) q := fun q h => h
  have hS : va_S (nwA s.heap.size) s.heap s.heap [] := va_S.rf
  have hl : lv_has ls 1 [(0, .ref mo)] := hl
  have hM : MI D tk sa P mo tt bb eT eB oT oB pk ca rf vs kn n9 th s.heap := hF
  obtain ⟨ra, rl, ex, ro, rt, fo, fj, fk, fe, fr, fw, ⟨hPm, hPa, hPl, hPe, hPr, hPk⟩, hFk, hFe, hFr, hpk, hn9⟩ := hM
  refine lv_aload_n (pc := 0) hx hb dX5_errorNow_0 rfl (lv_at hl 0 rfl) ?_
  refine r_get (pc := 1) E hC fo 2 (v := .ref ex) rfl rfl (by decide) uX5 (List.mem_cons_of_mem _ kw_1211) (fun _ h => h) dX5_errorNow_1 ?_
  refine lv_aload_n (pc := 4) hx hb dX5_errorNow_4 rfl (lv_at hl 0 rfl) ?_
  refine r_get (pc := 5) E hC fo 3 (v := .ref ro) rfl rfl (by decide) uX5 (List.mem_cons_of_mem _ kw_1212) (fun _ h => h) dX5_errorNow_5 ?_
  refine lv_iconst (pc := 8) (v := (-1)) hx hb dX5_errorNow_8 (by decide) ?_
  have hP9 := m_sumP (-1) hFe hFr.1 (by decide)
  have hZ0_ := hS.1
  have t_fo := fo.lt
  have t_fj := fj.lt
  have t_fk := fun k (hk9 : k < 6) => (fk k hk9).lt
  have t_fe := fe.lt
  have t_fr := fr.lt
  refine k_r (pc := 9) (k_S E hC hS hA hl.1 (c_X5_sum l D tk N0 sa s.heap.size ex eT eB ro oT oB ((-1)) hP9.1) kw_1297 kw_1298 kw_5 kw_1299 (n := 3) (by decide +kernel) rfl ⟨⟨rfl, rfl⟩, ⟨Nat.le_of_ble_eq_true rfl, Nat.le_of_ble_eq_true rfl⟩, (by dsimp only; omega), (by dsimp only; omega)⟩ rfl (Nat.le_of_ble_eq_true rfl) ⟨fe, fr⟩ dX5_errorNow_9) hS (fun q z w => absurd w (Nat.not_le.mpr z)) hn (fun r_1 H locs hR hz hk hS => ?_)
  have fw := fw.new hk
  have fo := fo.kept (hk _ fo.lt (Nat.not_le.mpr fo.lt))
  have fj := fj.kept (hk _ fj.lt (Nat.not_le.mpr fj.lt))
  have fk := fk.new hk
  have fe := fe.kept (hk _ fe.lt (Nat.not_le.mpr fe.lt))
  have fr := fr.kept (hk _ fr.lt (Nat.not_le.mpr fr.lt))
  obtain ⟨z9_, f2⟩ := hR
  have s_f2 : s.heap.size ≤ r_1 := Nat.le_trans hZ0_ z9_
  have g_f2 := hn _ s_f2
  have l_fo_f2 : mo < r_1 := Nat.lt_of_lt_of_le t_fo z9_
  have l_fj_f2 : ra < r_1 := Nat.lt_of_lt_of_le t_fj z9_
  have nW_f2 : ∀ k, k < 6 → rt k ≠ r_1 := fun k hk9 => Nat.ne_of_lt (Nat.lt_of_lt_of_le (t_fk k hk9) z9_)
  have l_fe_f2 : ex < r_1 := Nat.lt_of_lt_of_le t_fe z9_
  have l_fr_f2 : ro < r_1 := Nat.lt_of_lt_of_le t_fr z9_
  have hZ0_ := hS.1
  have t_fo := fo.lt
  have t_fj := fj.lt
  have t_fk := fun k (hk9 : k < 6) => (fk k hk9).lt
  have t_fe := fe.lt
  have t_fr := fr.lt
  have t_f2 := f2.lt
  refine k_r (pc := 12) (k_S E hC hS hA hl.1 (c_X5_text l D tk N0 sa H.size r_1 (m_loT (eT * oB + (((-1) : Int32)).toInt64 * (oT * eB)) (eB * oB)) (m_loB (eT * oB + (((-1) : Int32)).toInt64 * (oT * eB)) (eB * oB))) kw_1348 kw_1349 kw_5 kw_1350 (n := 1) (by decide +kernel) rfl ⟨⟨rfl, rfl⟩, ⟨Nat.le_of_ble_eq_true rfl, Nat.le_of_ble_eq_true rfl⟩, (by dsimp only; omega), (by dsimp only; omega)⟩ rfl (Nat.le_of_ble_eq_true rfl) f2 dX5_errorNow_12) hS (fun q z w => absurd w (Nat.not_le.mpr z)) hn (fun r_3 H locs hR hz hk hS => ?_)
  have fw := fw.new hk
  have fo := fo.kept (hk _ fo.lt (Nat.not_le.mpr fo.lt))
  have fj := fj.kept (hk _ fj.lt (Nat.not_le.mpr fj.lt))
  have fk := fk.new hk
  have fe := fe.kept (hk _ fe.lt (Nat.not_le.mpr fe.lt))
  have fr := fr.kept (hk _ fr.lt (Nat.not_le.mpr fr.lt))
  have f2 := f2.kept (hk _ f2.lt (Nat.not_le.mpr f2.lt))
  obtain ⟨n_f4, hn_f4, z9_, f4⟩ := hR
  refine r_aret (pc := 15) E hr (Or.inl ⟨_, rfl⟩) hlk hS (by omega) (by omega) ?_ dX5_errorNow_15
  exact ⟨_, by omega, f4⟩
set_option maxHeartbeats 4000000 in
set_option maxRecDepth 100000 in
/-- BestratiosModel.error()Ljava/lang/String; -/
theorem c_X5_error (l : Launch) (D : va_G) (tk : Nat → ClassId) (N0 : Nat) (sa : Nat → Nat)  (sz : Nat) (P : Nat → Prop) (hPN : ∀ q, P q → N0 ≤ q) (hPs : ∀ q, sz ≤ q → P q) (mo n9 : Nat) (kn th : Int32) (tt bb : Nat → Int64) (eT eB oT oB : Int64) (pk : Nat) (ca rf : Int32) (vs : Nat → Value)  : Met l yX5_error (wsy yX5_error cX5_error 1 (some (.object "java/lang/String"))) ({ frames := 8, cells := 8, slots := 212, locals := 177 } : Room) (cP D tk N0 sa [.ref mo] sz (fun H => MI D tk sa P mo tt bb eT eB oT oB pk ca rf vs kn n9 th H)) (kQr (fun r H => ∃ th1, MI D tk sa P mo tt bb eT eB oT oB pk ca rf vs kn n9 th1 H) (P)) (8) (212) (P) := by
  refine mStart RX5 rfl (by decide +kernel) (Nat.le_of_ble_eq_true rfl) ?_
  intro p e s m args below meth c E hr hlk hnm hsz hC hF ls hl
  subst hsz
  obtain ⟨hx, hb, -⟩ := id E
  have hA : ∀ q, (P) q → N0 ≤ q := hPN
  have hn : ∀ q, s.heap.size ≤ q → (P) q := hPs
  have hS : va_S (P) s.heap s.heap [] := va_S.rf
  have hl : lv_has ls 1 [(0, .ref mo)] := hl
  have hM : MI D tk sa P mo tt bb eT eB oT oB pk ca rf vs kn n9 th s.heap := hF
  obtain ⟨ra, rl, ex, ro, rt, fo, fj, fk, fe, fr, fw, ⟨hPm, hPa, hPl, hPe, hPr, hPk⟩, hFk, hFe, hFr, hpk, hn9⟩ := hM
  have g_fo := hPm
  have g_fj := hPa
  refine lv_aload_n (pc := 0) hx hb dX5_error_0 rfl (lv_at hl 0 rfl) ?_
  refine lv_iconst (pc := 1) (v := 0) hx hb dX5_error_1 (by decide) ?_
  refine r_put (pc := 2) E hC fo hS g_fo 8 tyX5 tyX5_ok nmX5 rfl (by decide) (Nat.le_of_ble_eq_true rfl) uX5 (List.mem_cons_of_mem _ kw_1217) (fun _ h => h) rfl rfl rfl dX5_error_2 (fun H locs n_ ho hz hS => ?_)
  have fw := fw.put ho (fun q9 h9 => clA.ne h9 fo.cl (hC.oo 7 13 rfl rfl (by decide))) (fun q9 h9 => clA.ne h9 fo.cl (hC.ao 13 4 rfl rfl)) (fun q9 h9 => clA.ne h9 fo.cl (hC.ceo (Or.inr rfl) 13 rfl (by decide)))
  have nW_fo : ∀ k, k < 6 → rt k ≠ mo := fun k hk9 => clA.ne (fk k hk9).cla fo.cl (hC.ao 13 0 rfl rfl)
  have fj := fj.kept (ho _ (clA.ne fj.cla fo.cl (hC.ao 13 3 rfl rfl)))
  have fk := fk.kept (fun k hk9 => ho _ (nW_fo k hk9))
  have fe := fe.kept (ho _ (clA.ne fe.cla fo.cl (hC.ao 13 0 rfl rfl)))
  have fr := fr.kept (ho _ (clA.ne fr.cla fo.cl (hC.ao 13 0 rfl rfl)))
  have fo : c1 D mo (.inr (13, [.ref ra, .ref rl, .ref ex, .ref ro, .int (nI pk), .int ca, .int rf, .int kn, .int 0])) H := n_
  refine lv_aload_n (pc := 5) hx hb dX5_error_5 rfl (lv_at hl 0 rfl) ?_
  have hZ0_ := hS.1
  have t_fo := fo.lt
  have t_fj := fj.lt
  have t_fk := fun k (hk9 : k < 6) => (fk k hk9).lt
  have t_fe := fe.lt
  have t_fr := fr.lt
  refine k_r (pc := 6) (k_V E hC hS hA hl.1 (c1.recv hC fo rfl) rfl (c_X5_errorNow l D tk N0 sa H.size P hPN mo n9 kn 0 tt bb eT eB oT oB pk ca rf vs  ) kw_1779 kw_1781 kp_34 kw_5 kw_1782 (n := 0) (by decide +kernel) rfl ⟨⟨rfl, rfl⟩, ⟨Nat.le_of_ble_eq_true rfl, Nat.le_of_ble_eq_true rfl⟩, (by dsimp only; omega), (by dsimp only; omega)⟩ rfl (Nat.le_of_ble_eq_true rfl) ⟨_, _, _, _, _, fo, fj, fk, fe, fr, fw, ⟨hPm, hPa, hPl, hPe, hPr, hPk⟩, hFk, hFe, hFr, hpk, hn9⟩ dX5_error_6) hS (fun q z w => absurd w (Nat.not_le.mpr z)) hn (fun r_1 H locs hR hz hk hS => ?_)
  have fw := fw.new hk
  have fo := fo.kept (hk _ fo.lt (Nat.not_le.mpr fo.lt))
  have fj := fj.kept (hk _ fj.lt (Nat.not_le.mpr fj.lt))
  have fk := fk.new hk
  have fe := fe.kept (hk _ fe.lt (Nat.not_le.mpr fe.lt))
  have fr := fr.kept (hk _ fr.lt (Nat.not_le.mpr fr.lt))
  obtain ⟨n_f2, hn_f2, f2⟩ := hR
  refine r_aret (pc := 9) E hr (Or.inl ⟨_, rfl⟩) hlk hS (by omega) (by omega) ?_ dX5_error_9
  exact ⟨_, ⟨_, _, _, _, _, fo, fj, fk, fe, fr, fw, ⟨hPm, hPa, hPl, hPe, hPr, hPk⟩, hFk, hFe, hFr, hpk, hn9⟩⟩
set_option maxHeartbeats 4000000 in
set_option maxRecDepth 100000 in
/-- BestratiosModel.knock()I -/
theorem c_X5_knock (l : Launch) (D : va_G) (tk : Nat → ClassId) (N0 : Nat) (sa : Nat → Nat)  (sz : Nat) (P : Nat → Prop) (hPN : ∀ q, P q → N0 ≤ q) (hPs : ∀ q, sz ≤ q → P q) (mo n9 : Nat) (kn th : Int32) (tt bb : Nat → Int64) (eT eB oT oB : Int64) (pk : Nat) (ca rf : Int32) (vs : Nat → Value)  : Met l yX5_knock (wsy yX5_knock cX5_knock 1 (some .int)) ({ frames := 0, cells := 0, slots := 0, locals := 0 } : Room) (cP D tk N0 sa [.ref mo] sz (fun H => MI D tk sa P mo tt bb eT eB oT oB pk ca rf vs kn n9 th H)) (kQi (fun r H => r = kn + 1 ∧ MI D tk sa P mo tt bb eT eB oT oB pk ca rf vs ((kn + 1)) n9 0 H) (P)) (0) (0) (P) := by
  refine mStart RX5 rfl (by decide +kernel) (Nat.le_of_ble_eq_true rfl) ?_
  intro p e s m args below meth c E hr hlk hnm hsz hC hF ls hl
  subst hsz
  obtain ⟨hx, hb, -⟩ := id E
  have hA : ∀ q, (P) q → N0 ≤ q := hPN
  have hn : ∀ q, s.heap.size ≤ q → (P) q := hPs
  have hS : va_S (P) s.heap s.heap [] := va_S.rf
  have hl : lv_has ls 1 [(0, .ref mo)] := hl
  have hM : MI D tk sa P mo tt bb eT eB oT oB pk ca rf vs kn n9 th s.heap := hF
  obtain ⟨ra, rl, ex, ro, rt, fo, fj, fk, fe, fr, fw, ⟨hPm, hPa, hPl, hPe, hPr, hPk⟩, hFk, hFe, hFr, hpk, hn9⟩ := hM
  have g_fo := hPm
  have g_fj := hPa
  refine lv_aload_n (pc := 0) hx hb dX5_knock_0 rfl (lv_at hl 0 rfl) ?_
  refine lv_iconst (pc := 1) (v := 0) hx hb dX5_knock_1 (by decide) ?_
  refine r_put (pc := 2) E hC fo hS g_fo 8 tyX5 tyX5_ok nmX5 rfl (by decide) (Nat.le_of_ble_eq_true rfl) uX5 (List.mem_cons_of_mem _ kw_1217) (fun _ h => h) rfl rfl rfl dX5_knock_2 (fun H locs n_ ho hz hS => ?_)
  have fw := fw.put ho (fun q9 h9 => clA.ne h9 fo.cl (hC.oo 7 13 rfl rfl (by decide))) (fun q9 h9 => clA.ne h9 fo.cl (hC.ao 13 4 rfl rfl)) (fun q9 h9 => clA.ne h9 fo.cl (hC.ceo (Or.inr rfl) 13 rfl (by decide)))
  have nW_fo : ∀ k, k < 6 → rt k ≠ mo := fun k hk9 => clA.ne (fk k hk9).cla fo.cl (hC.ao 13 0 rfl rfl)
  have fj := fj.kept (ho _ (clA.ne fj.cla fo.cl (hC.ao 13 3 rfl rfl)))
  have fk := fk.kept (fun k hk9 => ho _ (nW_fo k hk9))
  have fe := fe.kept (ho _ (clA.ne fe.cla fo.cl (hC.ao 13 0 rfl rfl)))
  have fr := fr.kept (ho _ (clA.ne fr.cla fo.cl (hC.ao 13 0 rfl rfl)))
  have fo : c1 D mo (.inr (13, [.ref ra, .ref rl, .ref ex, .ref ro, .int (nI pk), .int ca, .int rf, .int kn, .int 0])) H := n_
  refine lv_aload_n (pc := 5) hx hb dX5_knock_5 rfl (lv_at hl 0 rfl) ?_
  refine lv_dup (pc := 6) hx hb dX5_knock_6 rfl ?_
  refine r_get (pc := 7) E hC fo 7 (v := .int kn) rfl rfl (by decide) uX5 (List.mem_cons_of_mem _ kw_1216) (fun _ h => h) dX5_knock_7 ?_
  refine lv_iconst (pc := 10) (v := 1) hx hb dX5_knock_10 (by decide) ?_
  refine lv_iadd (pc := 11) hx hb dX5_knock_11 ?_
  refine r_put (pc := 12) E hC fo hS g_fo 7 tyX5 tyX5_ok nmX5 rfl (by decide) (Nat.le_of_ble_eq_true rfl) uX5 (List.mem_cons_of_mem _ kw_1216) (fun _ h => h) rfl rfl rfl dX5_knock_12 (fun H locs n_ ho hz hS => ?_)
  have fw := fw.put ho (fun q9 h9 => clA.ne h9 fo.cl (hC.oo 7 13 rfl rfl (by decide))) (fun q9 h9 => clA.ne h9 fo.cl (hC.ao 13 4 rfl rfl)) (fun q9 h9 => clA.ne h9 fo.cl (hC.ceo (Or.inr rfl) 13 rfl (by decide)))
  have fj := fj.kept (ho _ (clA.ne fj.cla fo.cl (hC.ao 13 3 rfl rfl)))
  have fk := fk.kept (fun k hk9 => ho _ (nW_fo k hk9))
  have fe := fe.kept (ho _ (clA.ne fe.cla fo.cl (hC.ao 13 0 rfl rfl)))
  have fr := fr.kept (ho _ (clA.ne fr.cla fo.cl (hC.ao 13 0 rfl rfl)))
  have fo : c1 D mo (.inr (13, [.ref ra, .ref rl, .ref ex, .ref ro, .int (nI pk), .int ca, .int rf, .int (kn + 1), .int 0])) H := n_
  refine lv_aload_n (pc := 15) hx hb dX5_knock_15 rfl (lv_at hl 0 rfl) ?_
  refine r_get (pc := 16) E hC fo 7 (v := .int (kn + 1)) rfl rfl (by decide) uX5 (List.mem_cons_of_mem _ kw_1216) (fun _ h => h) dX5_knock_16 ?_
  refine r_iret (pc := 19) E hr hlk hS (by omega) (by omega) ?_ dX5_knock_19
  exact ⟨rfl, ⟨_, _, _, _, _, fo, fj, fk, fe, fr, fw, ⟨hPm, hPa, hPl, hPe, hPr, hPk⟩, hFk, hFe, hFr, hpk, hn9⟩⟩
set_option maxHeartbeats 4000000 in
set_option maxRecDepth 100000 in
/-- BestratiosModel.houseNow(I)I -/
theorem c_X5_houseNow (l : Launch) (D : va_G) (tk : Nat → ClassId) (N0 : Nat) (sa : Nat → Nat)  (sz : Nat) (P : Nat → Prop) (hPN : ∀ q, P q → N0 ≤ q) (mo n9 : Nat) (kn th : Int32) (tt bb : Nat → Int64) (eT eB oT oB : Int64) (pk : Nat) (ca rf : Int32) (vs : Nat → Value) (w_ : Int32) (kw : Nat) (hw1 : w_ = nI kw) (hw2 : kw ≤ 4) : Met l yX5_houseNow (wsy yX5_houseNow cX5_houseNow 7 (some .int)) ({ frames := 1, cells := 1, slots := 5, locals := 20 } : Room) (cP D tk N0 sa [.ref mo, .int w_] sz (fun H => MI D tk sa P mo tt bb eT eB oT oB pk ca rf vs kn n9 th H)) (kQi (fun r H => r = m_HS bb rf kn n9 ca kw) (nwA sz)) (1) (5) (nwA sz) := by
  refine mStart RX5 rfl (by decide +kernel) (Nat.le_of_ble_eq_true rfl) ?_
  intro p e s m args below meth c E hr hlk hnm hsz hC hF ls hl
  subst hsz
  obtain ⟨hx, hb, -⟩ := id E
  have hA : ∀ q, (nwA s.heap.size) q → N0 ≤ q := fun q h => Nat.le_trans hC.2.1 h
  have hn : ∀ q, s.heap.size ≤ q → (nwA s.heap.size) q := fun q h => h
  have hS : va_S (nwA s.heap.size) s.heap s.heap [] := va_S.rf
  have hl : lv_has ls 7 [(0, .ref mo), (1, .int w_)] := hl
  obtain ⟨Q, hQ⟩ : ∃ Q, Q = MQ below (kQi (fun r H => r = m_HS bb rf kn n9 ca kw) (nwA s.heap.size)) args s (1) (5) (nwA s.heap.size) := ⟨_, rfl⟩
  rw [← hQ]
  have hM : MI D tk sa P mo tt bb eT eB oT oB pk ca rf vs kn n9 th s.heap := hF
  obtain ⟨ra, rl, ex, ro, rt, fo, fj, fk, fe, fr, fw, ⟨hPm, hPa, hPl, hPe, hPr, hPk⟩, hFk, hFe, hFr, hpk, hn9⟩ := hM
  refine lv_iconst (pc := 0) (v := 0) hx hb dX5_houseNow_0 (by decide) ?_
  refine lv_istore_n (pc := 1) (lv' := [(2, .int 0), (0, .ref mo), (1, .int w_)]) hx hb dX5_houseNow_1 rfl hl (by decide) rfl (fun ls hl => ?_)
  refine lv_aload_n (pc := 2) hx hb dX5_houseNow_2 rfl (lv_at hl 1 rfl) ?_
  refine r_get (pc := 3) E hC fo 0 (v := .ref ra) rfl rfl (by decide) uX5 (List.mem_cons_of_mem _ kw_1209) (fun _ h => h) dX5_houseNow_3 ?_
  refine lv_astore_n (pc := 6) (lv' := [(3, .ref ra), (2, .int 0), (0, .ref mo), (1, .int w_)]) hx hb dX5_houseNow_6 rfl hl (by decide) rfl (fun ls hl => ?_)
  refine lv_aload_n (pc := 7) hx hb dX5_houseNow_7 rfl (lv_at hl 0 rfl) ?_
  refine r_alen (pc := 8) E hC fj 3 rfl (v := 6) rfl dX5_houseNow_8 ?_
  refine lv_istore (pc := 9) (lv' := [(4, .int 6), (3, .ref ra), (2, .int 0), (0, .ref mo), (1, .int w_)]) hx hb dX5_houseNow_9 hl (by decide) rfl (fun ls hl => ?_)
  refine lv_iconst (pc := 11) (v := 0) hx hb dX5_houseNow_11 (by decide) ?_
  refine lv_istore (pc := 12) (lv' := [(5, .int 0), (4, .int 6), (3, .ref ra), (2, .int 0), (0, .ref mo), (1, .int w_)]) hx hb dX5_houseNow_12 hl (by decide) rfl (fun ls hl => ?_)
  have loop_14 : ∀ (n : Nat) (k : Nat)(c9 : Int32) (y9 : Int32), 7 - k < n → k ≤ 6 → y9 = nI k → m_whL bb (6 - k) k c9 = m_whL bb 6 0 0 → ∀ (H : Heap) (locs : List Loc) (ls : Array Slot), va_S (nwA s.heap.size) s.heap H locs → c1 D mo (.inr (13, [.ref ra, .ref rl, .ref ex, .ref ro, .int (nI pk), .int ca, .int rf, .int kn, .int th])) H → c1 D ra (.inl (tk 3, 6, .inr (.inr (.inr (.inr (fun k => some (rt k))))))) H → MK D tk rt tt bb H → L2 D tk ex eT eB H → L2 D tk ro oT oB H → RW D tk sa P rl n9 vs H → lv_has ls 7 [(0, .ref mo), (1, .int w_), (2, .int c9), (3, .ref ra), (4, .int 6), (5, .int y9)] → W p l e ({ frames := 1, cells := 1, slots := 5, locals := 20 } : Room) s m args below meth c H locs (0) (0) Q (F0 m 14 ls []) := by
    intro n
    induction n with
    | zero =>
      intro k c9 y9 hf9 hk9 hx9 hg9 H locs ls hS fo fj fk fe fr fw hl
      omega
    | succ n ih_14 =>
      intro k c9 y9 hf9 hk9 hx9 hg9 H locs ls hS fo fj fk fe fr fw hl
      refine lv_iload (pc := 14) hx hb dX5_houseNow_14 (lv_at hl 5 rfl) ?_
      refine lv_iload (pc := 16) hx hb dX5_houseNow_16 (lv_at hl 4 rfl) ?_
      refine lv_icmp_ge (pc := 18) (tgt := 53) hx hb dX5_houseNow_18 (by decide) (fun c_1 => ?_) (fun c_1 => ?_)
      · refine lv_iconst (pc := 53) (v := 5) hx hb dX5_houseNow_53 (by decide) ?_
        have hS0_ := hS
        refine r_newi (pc := 54) E hC hS (N := 5) (by decide) (by decide) (by decide) (by dsimp only; omega) (by dsimp only; omega) dX5_houseNow_54 (fun qf2 H zq_ n_ ho_ hS => ?_)
        have fw := fw.old ho_
        have l_fo_f2 : mo < qf2 := zq_ ▸ fo.lt
        have fo := fo.kept (ho_ _ fo.lt)
        have l_fj_f2 : ra < qf2 := zq_ ▸ fj.lt
        have fj := fj.kept (ho_ _ fj.lt)
        have nW_f2 : ∀ k, k < 6 → rt k ≠ qf2 := fun k hk9 => Nat.ne_of_lt (zq_ ▸ (fk k hk9).lt)
        have fk := fk.kept (fun k hk9 => ho_ _ (fk k hk9).lt)
        have l_fe_f2 : ex < qf2 := zq_ ▸ fe.lt
        have fe := fe.kept (ho_ _ fe.lt)
        have l_fr_f2 : ro < qf2 := zq_ ▸ fr.lt
        have fr := fr.kept (ho_ _ fr.lt)
        have f2 := n_
        have s_f2 : s.heap.size ≤ qf2 := zq_ ▸ hS0_.1
        have g_f2 := hn _ s_f2
        refine lv_dup (pc := 56) hx hb dX5_houseNow_56 rfl ?_
        refine lv_iconst (pc := 57) (v := 0) hx hb dX5_houseNow_57 (by decide) ?_
        refine lv_iload_n (pc := 58) hx hb dX5_houseNow_58 rfl (lv_at hl 2 rfl) ?_
        refine r_iast (pc := 59) E hC f2 hS g_f2 (by unfold vp_in; decide) dX5_houseNow_59 (fun H locs n_ ho hz hS => ?_)
        have fw := fw.put ho (fun q9 h9 => clA.ne h9 f2.cla (hC.oa 7 5 rfl rfl)) (fun q9 h9 => clA.ne h9 f2.cla (hC.aa 4 5 rfl rfl (by dsimp only; decide))) (fun q9 h9 => clA.ne h9 f2.cla (hC.cea (Or.inr rfl) 5 rfl))
        have fo := fo.kept (ho _ (clA.ne fo.cl f2.cla (hC.oa 13 5 rfl rfl)))
        have fj := fj.kept (ho _ (clA.ne fj.cla f2.cla (hC.aa 3 5 rfl rfl (by dsimp only; decide))))
        have fk := fk.kept (fun k hk9 => ho _ (nW_f2 k hk9))
        have fe := fe.kept (ho _ (clA.ne fe.cla f2.cla (hC.aa 0 5 rfl rfl (by dsimp only; decide))))
        have fr := fr.kept (ho _ (clA.ne fr.cla f2.cla (hC.aa 0 5 rfl rfl (by dsimp only; decide))))
        have f2 : c1 D qf2 (.inl (tk 5, 5, .inl (va_up (fun _ => 0) 0 (c9)))) H := n_
        refine lv_dup (pc := 60) hx hb dX5_houseNow_60 rfl ?_
        refine lv_iconst (pc := 61) (v := 1) hx hb dX5_houseNow_61 (by decide) ?_
        refine lv_aload_n (pc := 62) hx hb dX5_houseNow_62 rfl (lv_at hl 0 rfl) ?_
        refine r_get (pc := 63) E hC fo 6 (v := .int rf) rfl rfl (by decide) uX5 (List.mem_cons_of_mem _ kw_1215) (fun _ h => h) dX5_houseNow_63 ?_
        refine r_iast (pc := 66) E hC f2 hS g_f2 (by unfold vp_in; decide) dX5_houseNow_66 (fun H locs n_ ho hz hS => ?_)
        have fw := fw.put ho (fun q9 h9 => clA.ne h9 f2.cla (hC.oa 7 5 rfl rfl)) (fun q9 h9 => clA.ne h9 f2.cla (hC.aa 4 5 rfl rfl (by dsimp only; decide))) (fun q9 h9 => clA.ne h9 f2.cla (hC.cea (Or.inr rfl) 5 rfl))
        have fo := fo.kept (ho _ (clA.ne fo.cl f2.cla (hC.oa 13 5 rfl rfl)))
        have fj := fj.kept (ho _ (clA.ne fj.cla f2.cla (hC.aa 3 5 rfl rfl (by dsimp only; decide))))
        have fk := fk.kept (fun k hk9 => ho _ (nW_f2 k hk9))
        have fe := fe.kept (ho _ (clA.ne fe.cla f2.cla (hC.aa 0 5 rfl rfl (by dsimp only; decide))))
        have fr := fr.kept (ho _ (clA.ne fr.cla f2.cla (hC.aa 0 5 rfl rfl (by dsimp only; decide))))
        have f2 : c1 D qf2 (.inl (tk 5, 5, .inl (va_up (va_up (fun _ => 0) 0 (c9)) 1 (rf)))) H := n_
        refine lv_dup (pc := 67) hx hb dX5_houseNow_67 rfl ?_
        refine lv_iconst (pc := 68) (v := 2) hx hb dX5_houseNow_68 (by decide) ?_
        refine lv_aload_n (pc := 69) hx hb dX5_houseNow_69 rfl (lv_at hl 0 rfl) ?_
        refine r_get (pc := 70) E hC fo 7 (v := .int kn) rfl rfl (by decide) uX5 (List.mem_cons_of_mem _ kw_1216) (fun _ h => h) dX5_houseNow_70 ?_
        refine r_iast (pc := 73) E hC f2 hS g_f2 (by unfold vp_in; decide) dX5_houseNow_73 (fun H locs n_ ho hz hS => ?_)
        have fw := fw.put ho (fun q9 h9 => clA.ne h9 f2.cla (hC.oa 7 5 rfl rfl)) (fun q9 h9 => clA.ne h9 f2.cla (hC.aa 4 5 rfl rfl (by dsimp only; decide))) (fun q9 h9 => clA.ne h9 f2.cla (hC.cea (Or.inr rfl) 5 rfl))
        have fo := fo.kept (ho _ (clA.ne fo.cl f2.cla (hC.oa 13 5 rfl rfl)))
        have fj := fj.kept (ho _ (clA.ne fj.cla f2.cla (hC.aa 3 5 rfl rfl (by dsimp only; decide))))
        have fk := fk.kept (fun k hk9 => ho _ (nW_f2 k hk9))
        have fe := fe.kept (ho _ (clA.ne fe.cla f2.cla (hC.aa 0 5 rfl rfl (by dsimp only; decide))))
        have fr := fr.kept (ho _ (clA.ne fr.cla f2.cla (hC.aa 0 5 rfl rfl (by dsimp only; decide))))
        have f2 : c1 D qf2 (.inl (tk 5, 5, .inl (va_up (va_up (va_up (fun _ => 0) 0 (c9)) 1 (rf)) 2 (kn)))) H := n_
        refine lv_dup (pc := 74) hx hb dX5_houseNow_74 rfl ?_
        refine lv_iconst (pc := 75) (v := 3) hx hb dX5_houseNow_75 (by decide) ?_
        refine lv_aload_n (pc := 76) hx hb dX5_houseNow_76 rfl (lv_at hl 0 rfl) ?_
        refine r_get (pc := 77) E hC fo 1 (v := .ref rl) rfl rfl (by decide) uX5 (List.mem_cons_of_mem _ kw_1210) (fun _ h => h) dX5_houseNow_77 ?_
        obtain ⟨md_3, b_3, fz3⟩ := fw.obj
        refine k_i (pc := 80) (k_V E hC hS hA hl.1 (c1.recv hC fz3 rfl) rfl (c_Jx4a65c_size_8abf5 l D tk N0 sa H.size rl b_3 n9 md_3) kw_1546 kw_1547 kw_1548 kw_8 kw_1549 (n := 0) (by decide +kernel) rfl ⟨⟨rfl, rfl⟩, ⟨Nat.le_of_ble_eq_true rfl, Nat.le_of_ble_eq_true rfl⟩, (by dsimp only; omega), (by dsimp only; omega)⟩ rfl (Nat.le_of_ble_eq_true rfl) fz3 dX5_houseNow_80) hS (fun q z w => absurd w (Nat.not_le.mpr z)) hn (fun r_4 H locs hR hz hk hS => ?_)
        have fw := fw.new hk
        have fo := fo.kept (hk _ fo.lt (Nat.not_le.mpr fo.lt))
        have fj := fj.kept (hk _ fj.lt (Nat.not_le.mpr fj.lt))
        have fk := fk.new hk
        have fe := fe.kept (hk _ fe.lt (Nat.not_le.mpr fe.lt))
        have fr := fr.kept (hk _ fr.lt (Nat.not_le.mpr fr.lt))
        have f2 := f2.kept (hk _ f2.lt (Nat.not_le.mpr f2.lt))
        have fz3 := fz3.kept (hk _ fz3.lt (Nat.not_le.mpr fz3.lt))
        rw [show r_4 = nI n9 from hR]
        refine r_iast (pc := 83) E hC f2 hS g_f2 (by unfold vp_in; decide) dX5_houseNow_83 (fun H locs n_ ho hz hS => ?_)
        have fw := fw.put ho (fun q9 h9 => clA.ne h9 f2.cla (hC.oa 7 5 rfl rfl)) (fun q9 h9 => clA.ne h9 f2.cla (hC.aa 4 5 rfl rfl (by dsimp only; decide))) (fun q9 h9 => clA.ne h9 f2.cla (hC.cea (Or.inr rfl) 5 rfl))
        have fo := fo.kept (ho _ (clA.ne fo.cl f2.cla (hC.oa 13 5 rfl rfl)))
        have fj := fj.kept (ho _ (clA.ne fj.cla f2.cla (hC.aa 3 5 rfl rfl (by dsimp only; decide))))
        have fk := fk.kept (fun k hk9 => ho _ (nW_f2 k hk9))
        have fe := fe.kept (ho _ (clA.ne fe.cla f2.cla (hC.aa 0 5 rfl rfl (by dsimp only; decide))))
        have fr := fr.kept (ho _ (clA.ne fr.cla f2.cla (hC.aa 0 5 rfl rfl (by dsimp only; decide))))
        have fz3 := fz3.kept (ho _ (clA.ne fz3.cl f2.cla (hC.oa 7 5 rfl rfl)))
        have f2 : c1 D qf2 (.inl (tk 5, 5, .inl (va_up (va_up (va_up (va_up (fun _ => 0) 0 (c9)) 1 (rf)) 2 (kn)) 3 (nI n9)))) H := n_
        refine lv_dup (pc := 84) hx hb dX5_houseNow_84 rfl ?_
        refine lv_iconst (pc := 85) (v := 4) hx hb dX5_houseNow_85 (by decide) ?_
        refine lv_aload_n (pc := 86) hx hb dX5_houseNow_86 rfl (lv_at hl 0 rfl) ?_
        refine r_get (pc := 87) E hC fo 5 (v := .int ca) rfl rfl (by decide) uX5 (List.mem_cons_of_mem _ kw_1214) (fun _ h => h) dX5_houseNow_87 ?_
        refine r_iast (pc := 90) E hC f2 hS g_f2 (by unfold vp_in; decide) dX5_houseNow_90 (fun H locs n_ ho hz hS => ?_)
        have fw := fw.put ho (fun q9 h9 => clA.ne h9 f2.cla (hC.oa 7 5 rfl rfl)) (fun q9 h9 => clA.ne h9 f2.cla (hC.aa 4 5 rfl rfl (by dsimp only; decide))) (fun q9 h9 => clA.ne h9 f2.cla (hC.cea (Or.inr rfl) 5 rfl))
        have fo := fo.kept (ho _ (clA.ne fo.cl f2.cla (hC.oa 13 5 rfl rfl)))
        have fj := fj.kept (ho _ (clA.ne fj.cla f2.cla (hC.aa 3 5 rfl rfl (by dsimp only; decide))))
        have fk := fk.kept (fun k hk9 => ho _ (nW_f2 k hk9))
        have fe := fe.kept (ho _ (clA.ne fe.cla f2.cla (hC.aa 0 5 rfl rfl (by dsimp only; decide))))
        have fr := fr.kept (ho _ (clA.ne fr.cla f2.cla (hC.aa 0 5 rfl rfl (by dsimp only; decide))))
        have fz3 := fz3.kept (ho _ (clA.ne fz3.cl f2.cla (hC.oa 7 5 rfl rfl)))
        have f2 : c1 D qf2 (.inl (tk 5, 5, .inl (va_up (va_up (va_up (va_up (va_up (fun _ => 0) 0 (c9)) 1 (rf)) 2 (kn)) 3 (nI n9)) 4 (ca)))) H := n_
        refine lv_astore_n (pc := 91) (lv' := [(3, .ref qf2), (0, .ref mo), (1, .int w_), (2, .int c9), (4, .int 6), (5, .int y9)]) hx hb dX5_houseNow_91 rfl hl (by decide) rfl (fun ls hl => ?_)
        refine lv_aload_n (pc := 92) hx hb dX5_houseNow_92 rfl (lv_at hl 0 rfl) ?_
        refine lv_iload_n (pc := 93) hx hb dX5_houseNow_93 rfl (lv_at hl 2 rfl) ?_
        refine r_iald (pc := 94) E hC f2 (by rw [hw1]; exact vp_in_nI (by omega) (by decide)) dX5_houseNow_94 ?_
        try rw [hQ]
        refine r_iret (pc := 95) E hr hlk hS (by omega) (by omega) ?_ dX5_houseNow_95
        have hk6 : 6 ≤ k := by
          have h7 := c_1
          rw [hx9] at h7
          exact (nI_leI (a := 6) (by decide) (by omega)).mp h7
        rw [show 6 - k = 0 by omega] at hg9
        have hg8 : c9 = m_whL bb 6 0 0 := hg9
        have hk4 : kw = 0 ∨ kw = 1 ∨ kw = 2 ∨ kw = 3 ∨ kw = 4 := by omega
        subst hw1
        rw [nI_clamp (by omega), hg8]
        rcases hk4 with rfl | rfl | rfl | rfl | rfl <;> (simp [m_HS, va_up])
      · have hkn : k < 6 := Nat.not_le.mp (fun z9 => c_1 (by rw [hx9]; exact nI_le (a := 6) z9 (by omega)))
        refine lv_aload_n (pc := 21) hx hb dX5_houseNow_21 rfl (lv_at hl 3 rfl) ?_
        refine lv_iload (pc := 22) hx hb dX5_houseNow_22 (lv_at hl 5 rfl) ?_
        refine r_aaldJ (pc := 24) E hC fj k hx9 hkn (by decide) rfl dX5_houseNow_24 ?_
        have fL6 := fk k hkn
        have mF_fL6 := hFk k hkn
        have Pq_fL6 := hPk k hkn
        refine lv_astore (pc := 25) (lv' := [(6, .ref (rt k)), (0, .ref mo), (1, .int w_), (2, .int c9), (3, .ref ra), (4, .int 6), (5, .int y9)]) hx hb dX5_houseNow_25 hl (by decide) rfl (fun ls hl => ?_)
        refine lv_iload_n (pc := 27) hx hb dX5_houseNow_27 rfl (lv_at hl 3 rfl) ?_
        refine lv_aload (pc := 28) hx hb dX5_houseNow_28 (lv_at hl 0 rfl) ?_
        refine lv_iconst (pc := 30) (v := 1) hx hb dX5_houseNow_30 (by decide) ?_
        refine r_l1 (pc := 31) E hC fL6 dX5_houseNow_31 ?_
        refine lv_lconst (pc := 32) (v := 1) hx hb dX5_houseNow_32 (by decide) ?_
        refine r_lcne (pc := 33) (tgt := 41) E dX5_houseNow_33 dX5_houseNow_34 (by decide) (fun c_7 => ?_) (fun c_7 => ?_)
        · refine lv_iconst (pc := 41) (v := 0) hx hb dX5_houseNow_41 (by decide) ?_
          refine k_i (pc := 42) (k_S E hC hS hA hl.1 (c_X5_bit l D tk N0 sa H.size 0 ) kw_1271 kw_1272 kw_5 kw_1273 (n := 1) (by decide +kernel) rfl ⟨⟨rfl, rfl⟩, ⟨Nat.le_of_ble_eq_true rfl, Nat.le_of_ble_eq_true rfl⟩, (by dsimp only; omega), (by dsimp only; omega)⟩ rfl (Nat.le_of_ble_eq_true rfl) trivial dX5_houseNow_42) hS (fun q z w => absurd w (Nat.not_le.mpr z)) hn (fun r_8 H locs hR hz hk hS => ?_)
          have er_8 := hR
          have fw := fw.new hk
          have fo := fo.kept (hk _ fo.lt (Nat.not_le.mpr fo.lt))
          have fj := fj.kept (hk _ fj.lt (Nat.not_le.mpr fj.lt))
          have fk := fk.new hk
          have fe := fe.kept (hk _ fe.lt (Nat.not_le.mpr fe.lt))
          have fr := fr.kept (hk _ fr.lt (Nat.not_le.mpr fr.lt))
          have fL6 := fL6.kept (hk _ fL6.lt (Nat.not_le.mpr fL6.lt))
          refine lv_iadd (pc := 45) hx hb dX5_houseNow_45 ?_
          obtain ⟨x_10, ex_10⟩ : ∃ z9 : Int32, z9 = c9 + r_8 := ⟨_, rfl⟩
          rw [← ex_10]
          refine lv_istore_n (pc := 46) (lv' := [(2, .int x_10), (6, .ref (rt k)), (0, .ref mo), (1, .int w_), (3, .ref ra), (4, .int 6), (5, .int y9)]) hx hb dX5_houseNow_46 rfl hl (by decide) rfl (fun ls hl => ?_)
          obtain ⟨x_11, ex_11⟩ : ∃ z9 : Int32, z9 = y9 + 1 := ⟨_, rfl⟩
          refine lv_iinc (pc := 47) (v := x_11) (lv' := [(5, .int x_11), (2, .int x_10), (6, .ref (rt k)), (0, .ref mo), (1, .int w_), (3, .ref ra), (4, .int 6)]) hx hb dX5_houseNow_47 hl (k := 6) rfl (by rw [ex_11]; rfl) (by decide) rfl (fun ls hl => ?_)
          refine lv_goto (pc := 50) (tgt := 14) hx hb dX5_houseNow_50 (by decide) ?_
          refine W.widen (k := 0) (n := 0) (by omega) (by omega) ?_
          exact ih_14  (k + 1)  x_10 x_11 (by omega) (by omega) (i_up hx9 ex_11) (m_whS (show 6 - k = (6 - (k + 1)) + 1 by omega) hg9 (by rw [er_8, if_neg c_7]; rfl) ex_10) _ _ _ hS fo fj fk fe fr fw (lv_sub hl [3, 4, 1, 5, 6, 0] rfl)
        · refine lv_iconst (pc := 37) (v := 1) hx hb dX5_houseNow_37 (by decide) ?_
          refine lv_goto (pc := 38) (tgt := 42) hx hb dX5_houseNow_38 (by decide) ?_
          refine k_i (pc := 42) (k_S E hC hS hA hl.1 (c_X5_bit l D tk N0 sa H.size 1 ) kw_1271 kw_1272 kw_5 kw_1273 (n := 1) (by decide +kernel) rfl ⟨⟨rfl, rfl⟩, ⟨Nat.le_of_ble_eq_true rfl, Nat.le_of_ble_eq_true rfl⟩, (by dsimp only; omega), (by dsimp only; omega)⟩ rfl (Nat.le_of_ble_eq_true rfl) trivial dX5_houseNow_42) hS (fun q z w => absurd w (Nat.not_le.mpr z)) hn (fun r_12 H locs hR hz hk hS => ?_)
          have er_12 := hR
          have fw := fw.new hk
          have fo := fo.kept (hk _ fo.lt (Nat.not_le.mpr fo.lt))
          have fj := fj.kept (hk _ fj.lt (Nat.not_le.mpr fj.lt))
          have fk := fk.new hk
          have fe := fe.kept (hk _ fe.lt (Nat.not_le.mpr fe.lt))
          have fr := fr.kept (hk _ fr.lt (Nat.not_le.mpr fr.lt))
          have fL6 := fL6.kept (hk _ fL6.lt (Nat.not_le.mpr fL6.lt))
          refine lv_iadd (pc := 45) hx hb dX5_houseNow_45 ?_
          obtain ⟨x_14, ex_14⟩ : ∃ z9 : Int32, z9 = c9 + r_12 := ⟨_, rfl⟩
          rw [← ex_14]
          refine lv_istore_n (pc := 46) (lv' := [(2, .int x_14), (6, .ref (rt k)), (0, .ref mo), (1, .int w_), (3, .ref ra), (4, .int 6), (5, .int y9)]) hx hb dX5_houseNow_46 rfl hl (by decide) rfl (fun ls hl => ?_)
          obtain ⟨x_15, ex_15⟩ : ∃ z9 : Int32, z9 = y9 + 1 := ⟨_, rfl⟩
          refine lv_iinc (pc := 47) (v := x_15) (lv' := [(5, .int x_15), (2, .int x_14), (6, .ref (rt k)), (0, .ref mo), (1, .int w_), (3, .ref ra), (4, .int 6)]) hx hb dX5_houseNow_47 hl (k := 6) rfl (by rw [ex_15]; rfl) (by decide) rfl (fun ls hl => ?_)
          refine lv_goto (pc := 50) (tgt := 14) hx hb dX5_houseNow_50 (by decide) ?_
          refine W.widen (k := 0) (n := 0) (by omega) (by omega) ?_
          exact ih_14  (k + 1)  x_14 x_15 (by omega) (by omega) (i_up hx9 ex_15) (m_whS (show 6 - k = (6 - (k + 1)) + 1 by omega) hg9 (by rw [er_12, if_pos c_7]; rfl) ex_14) _ _ _ hS fo fj fk fe fr fw (lv_sub hl [3, 4, 1, 5, 6, 0] rfl)
  refine W.widen (k := 0) (n := 0) (by omega) (by omega) ?_
  exact loop_14 8 0  0 0 (by omega) (Nat.zero_le _) nI_0.symm rfl _ _ _ hS fo fj fk fe fr fw (lv_sub hl [4, 5, 3, 2, 1, 0] rfl)
set_option maxHeartbeats 4000000 in
set_option maxRecDepth 100000 in
/-- BestratiosModel.house(I)I -/
theorem c_X5_house (l : Launch) (D : va_G) (tk : Nat → ClassId) (N0 : Nat) (sa : Nat → Nat)  (sz : Nat) (P : Nat → Prop) (hPN : ∀ q, P q → N0 ≤ q) (hPs : ∀ q, sz ≤ q → P q) (mo n9 : Nat) (kn th : Int32) (tt bb : Nat → Int64) (eT eB oT oB : Int64) (pk : Nat) (ca rf : Int32) (vs : Nat → Value) (x1 : Int32) : Met l yX5_house (wsy yX5_house cX5_house 2 (some .int)) ({ frames := 2, cells := 1, slots := 5, locals := 46 } : Room) (cP D tk N0 sa [.ref mo, .int x1] sz (fun H => MI D tk sa P mo tt bb eT eB oT oB pk ca rf vs kn n9 th H)) (kQi (fun r H => ∃ th1, MI D tk sa P mo tt bb eT eB oT oB pk ca rf vs kn n9 th1 H ∧ QU (m_not (m_isIn x1 0 4)) 0 (m_HS bb rf kn n9 ca (nn x1)) r th1) (P)) (1) (5) (P) := by
  refine mStart RX5 rfl (by decide +kernel) (Nat.le_of_ble_eq_true rfl) ?_
  intro p e s m args below meth c E hr hlk hnm hsz hC hF ls hl
  subst hsz
  obtain ⟨hx, hb, -⟩ := id E
  have hA : ∀ q, (P) q → N0 ≤ q := hPN
  have hn : ∀ q, s.heap.size ≤ q → (P) q := hPs
  have hS : va_S (P) s.heap s.heap [] := va_S.rf
  have hl : lv_has ls 2 [(0, .ref mo), (1, .int x1)] := hl
  have hM : MI D tk sa P mo tt bb eT eB oT oB pk ca rf vs kn n9 th s.heap := hF
  obtain ⟨ra, rl, ex, ro, rt, fo, fj, fk, fe, fr, fw, ⟨hPm, hPa, hPl, hPe, hPr, hPk⟩, hFk, hFe, hFr, hpk, hn9⟩ := hM
  have g_fo := hPm
  have g_fj := hPa
  refine lv_aload_n (pc := 0) hx hb dX5_house_0 rfl (lv_at hl 0 rfl) ?_
  refine lv_iload_n (pc := 1) hx hb dX5_house_1 rfl (lv_at hl 1 rfl) ?_
  refine lv_iconst (pc := 2) (v := 0) hx hb dX5_house_2 (by decide) ?_
  refine lv_iconst (pc := 3) (v := 4) hx hb dX5_house_3 (by decide) ?_
  refine k_i (pc := 4) (k_S E hC hS hA hl.1 (c_X5_isIn l D tk N0 sa s.heap.size x1 0 4 ) kw_1248 kw_1249 kw_5 kw_1250 (n := 3) (by decide +kernel) rfl ⟨⟨rfl, rfl⟩, ⟨Nat.le_of_ble_eq_true rfl, Nat.le_of_ble_eq_true rfl⟩, (by dsimp only; omega), (by dsimp only; omega)⟩ rfl (Nat.le_of_ble_eq_true rfl) trivial dX5_house_4) hS (fun q z w => absurd w (Nat.not_le.mpr z)) hn (fun r_1 H locs hR hz hk hS => ?_)
  have er_1 := hR
  have fw := fw.new hk
  have fo := fo.kept (hk _ fo.lt (Nat.not_le.mpr fo.lt))
  have fj := fj.kept (hk _ fj.lt (Nat.not_le.mpr fj.lt))
  have fk := fk.new hk
  have fe := fe.kept (hk _ fe.lt (Nat.not_le.mpr fe.lt))
  have fr := fr.kept (hk _ fr.lt (Nat.not_le.mpr fr.lt))
  refine lv_if_ne (pc := 7) (tgt := 14) hx hb dX5_house_7 (by decide) (fun c_3 => ?_) (fun c_3 => ?_)
  · refine lv_iconst (pc := 14) (v := 0) hx hb dX5_house_14 (by decide) ?_
    refine lv_iconst (pc := 15) (v := 0) hx hb dX5_house_15 (by decide) ?_
    have hZ0_ := hS.1
    have t_fo := fo.lt
    have t_fj := fj.lt
    have t_fk := fun k (hk9 : k < 6) => (fk k hk9).lt
    have t_fe := fe.lt
    have t_fr := fr.lt
    refine k_i (pc := 16) (k_V E hC hS hA hl.1 (c1.recv hC fo rfl) rfl (c_X5_fails l D tk N0 sa H.size P hPN (fun q h9 => hPs q (Nat.le_trans hS.1 h9)) mo n9 kn th tt bb eT eB oT oB pk ca rf vs 0 0 ) kw_1251 kw_1253 kp_20 kw_5 kw_1254 (n := 2) (by decide +kernel) rfl ⟨⟨rfl, rfl⟩, ⟨Nat.le_of_ble_eq_true rfl, Nat.le_of_ble_eq_true rfl⟩, (by dsimp only; omega), (by dsimp only; omega)⟩ rfl (Nat.le_of_ble_eq_true rfl) ⟨_, _, _, _, _, fo, fj, fk, fe, fr, fw, ⟨hPm, hPa, hPl, hPe, hPr, hPk⟩, hFk, hFe, hFr, hpk, hn9⟩ dX5_house_16) hS (fun q _ h => h) hn (fun r_4 H locs hR hz hk hS => ?_)
    obtain ⟨er_4, hM⟩ := hR
    obtain ⟨ra, rl, ex, ro, rt, fo, fj, fk, fe, fr, fw, ⟨hPm, hPa, hPl, hPe, hPr, hPk⟩, hFk, hFe, hFr, hpk, hn9⟩ := hM
    have g_fo := hPm
    have g_fj := hPa
    have ef_r_4 : r_4 = 0 := er_4.trans rfl
    rw [ef_r_4]
    refine lv_if_eq (pc := 19) (tgt := 26) hx hb dX5_house_19 (by decide) (fun c_5 => ?_) (fun c_5 => ?_)
    rotate_left
    · exact absurd (by decide) c_5
    refine lv_aload_n (pc := 26) hx hb dX5_house_26 rfl (lv_at hl 0 rfl) ?_
    refine lv_iload_n (pc := 27) hx hb dX5_house_27 rfl (lv_at hl 1 rfl) ?_
    obtain ⟨kw, hw1, hw2⟩ := m_in (x := x1) (hi_ := 4) (by decide) (fun z9 => c_3 (er_1.trans z9))
    have hZ0_ := hS.1
    have t_fo := fo.lt
    have t_fj := fj.lt
    have t_fk := fun k (hk9 : k < 6) => (fk k hk9).lt
    have t_fe := fe.lt
    have t_fr := fr.lt
    refine k_i (pc := 28) (k_V E hC hS hA hl.1 (c1.recv hC fo rfl) rfl (c_X5_houseNow l D tk N0 sa H.size P hPN mo n9 kn ((m_th 0 0)) tt bb eT eB oT oB pk ca rf vs x1 kw hw1 hw2) kw_1791 kw_1793 kp_35 kw_5 kw_1794 (n := 1) (by decide +kernel) rfl ⟨⟨rfl, rfl⟩, ⟨Nat.le_of_ble_eq_true rfl, Nat.le_of_ble_eq_true rfl⟩, (by dsimp only; omega), (by dsimp only; omega)⟩ rfl (Nat.le_of_ble_eq_true rfl) ⟨_, _, _, _, _, fo, fj, fk, fe, fr, fw, ⟨hPm, hPa, hPl, hPe, hPr, hPk⟩, hFk, hFe, hFr, hpk, hn9⟩ dX5_house_28) hS (fun q z w => absurd w (Nat.not_le.mpr z)) hn (fun r_6 H locs hR hz hk hS => ?_)
    have fw := fw.new hk
    have fo := fo.kept (hk _ fo.lt (Nat.not_le.mpr fo.lt))
    have fj := fj.kept (hk _ fj.lt (Nat.not_le.mpr fj.lt))
    have fk := fk.new hk
    have fe := fe.kept (hk _ fe.lt (Nat.not_le.mpr fe.lt))
    have fr := fr.kept (hk _ fr.lt (Nat.not_le.mpr fr.lt))
    have er_6 := hR
    refine r_iret (pc := 31) E hr hlk hS (by omega) (by omega) ?_ dX5_house_31
    exact ⟨_, ⟨_, _, _, _, _, fo, fj, fk, fe, fr, fw, ⟨hPm, hPa, hPl, hPe, hPr, hPk⟩, hFk, hFe, hFr, hpk, hn9⟩, QU.ok (by subst er_1 er_6; first | rfl | (simp [m_or, m_not, m_is0, m_lt0, m_fl, c_3]; done)) (by subst er_1 er_6; first | rfl | (simp [m_or, m_not, m_is0, m_lt0, m_fl, c_3]; done)) (er_4.symm.trans ef_r_4) (by rw [er_6, show nn x1 = kw from by rw [hw1]; exact nI_clamp (by omega)])⟩
  · refine lv_iconst (pc := 10) (v := 1) hx hb dX5_house_10 (by decide) ?_
    refine lv_goto (pc := 11) (tgt := 15) hx hb dX5_house_11 (by decide) ?_
    refine lv_iconst (pc := 15) (v := 0) hx hb dX5_house_15 (by decide) ?_
    have hZ0_ := hS.1
    have t_fo := fo.lt
    have t_fj := fj.lt
    have t_fk := fun k (hk9 : k < 6) => (fk k hk9).lt
    have t_fe := fe.lt
    have t_fr := fr.lt
    refine k_i (pc := 16) (k_V E hC hS hA hl.1 (c1.recv hC fo rfl) rfl (c_X5_fails l D tk N0 sa H.size P hPN (fun q h9 => hPs q (Nat.le_trans hS.1 h9)) mo n9 kn th tt bb eT eB oT oB pk ca rf vs 1 0 ) kw_1251 kw_1253 kp_20 kw_5 kw_1254 (n := 2) (by decide +kernel) rfl ⟨⟨rfl, rfl⟩, ⟨Nat.le_of_ble_eq_true rfl, Nat.le_of_ble_eq_true rfl⟩, (by dsimp only; omega), (by dsimp only; omega)⟩ rfl (Nat.le_of_ble_eq_true rfl) ⟨_, _, _, _, _, fo, fj, fk, fe, fr, fw, ⟨hPm, hPa, hPl, hPe, hPr, hPk⟩, hFk, hFe, hFr, hpk, hn9⟩ dX5_house_16) hS (fun q _ h => h) hn (fun r_7 H locs hR hz hk hS => ?_)
    obtain ⟨er_7, hM⟩ := hR
    obtain ⟨ra, rl, ex, ro, rt, fo, fj, fk, fe, fr, fw, ⟨hPm, hPa, hPl, hPe, hPr, hPk⟩, hFk, hFe, hFr, hpk, hn9⟩ := hM
    have g_fo := hPm
    have g_fj := hPa
    have ef_r_7 : r_7 = 1 := er_7.trans (if_neg (by decide))
    rw [ef_r_7]
    refine lv_if_eq (pc := 19) (tgt := 26) hx hb dX5_house_19 (by decide) (fun c_8 => ?_) (fun c_8 => ?_)
    · exact absurd c_8 (by decide)
    refine lv_iconst (pc := 22) (v := 0) hx hb dX5_house_22 (by decide) ?_
    refine lv_goto (pc := 23) (tgt := 31) hx hb dX5_house_23 (by decide) ?_
    refine r_iret (pc := 31) E hr hlk hS (by omega) (by omega) ?_ dX5_house_31
    exact ⟨_, ⟨_, _, _, _, _, fo, fj, fk, fe, fr, fw, ⟨hPm, hPa, hPl, hPe, hPr, hPk⟩, hFk, hFe, hFr, hpk, hn9⟩, QU.fail (by subst er_1; first | rfl | (simp [m_or, m_not, m_is0, m_lt0, m_fl, c_3]; done)) (by subst er_1; first | rfl | (simp [m_or, m_not, m_is0, m_lt0, m_fl, c_3]; done)) (fun z9 => absurd (ef_r_7.symm.trans (er_7.trans z9)) (by decide))⟩
set_option maxHeartbeats 4000000 in
set_option maxRecDepth 100000 in
/-- BestratiosModel.isSound()Z -/
theorem c_X5_isSound (l : Launch) (D : va_G) (tk : Nat → ClassId) (N0 : Nat) (sa : Nat → Nat)  (sz : Nat) (P : Nat → Prop) (hPN : ∀ q, P q → N0 ≤ q) (hPs : ∀ q, sz ≤ q → P q) (mo n9 : Nat) (kn th : Int32) (tt bb : Nat → Int64) (eT eB oT oB : Int64) (pk : Nat) (ca rf : Int32) (vs : Nat → Value)  : Met l yX5_isSound (wsy yX5_isSound cX5_isSound 1 (some .boolean)) ({ frames := 0, cells := 0, slots := 0, locals := 0 } : Room) (cP D tk N0 sa [.ref mo] sz (fun H => MI D tk sa P mo tt bb eT eB oT oB pk ca rf vs kn n9 th H)) (kQi (fun r H => r = 1 ∧ MI D tk sa P mo tt bb eT eB oT oB pk ca rf vs kn n9 0 H) (P)) (0) (0) (P) := by
  refine mStart RX5 rfl (by decide +kernel) (Nat.le_of_ble_eq_true rfl) ?_
  intro p e s m args below meth c E hr hlk hnm hsz hC hF ls hl
  subst hsz
  obtain ⟨hx, hb, -⟩ := id E
  have hA : ∀ q, (P) q → N0 ≤ q := hPN
  have hn : ∀ q, s.heap.size ≤ q → (P) q := hPs
  have hS : va_S (P) s.heap s.heap [] := va_S.rf
  have hl : lv_has ls 1 [(0, .ref mo)] := hl
  have hM : MI D tk sa P mo tt bb eT eB oT oB pk ca rf vs kn n9 th s.heap := hF
  obtain ⟨ra, rl, ex, ro, rt, fo, fj, fk, fe, fr, fw, ⟨hPm, hPa, hPl, hPe, hPr, hPk⟩, hFk, hFe, hFr, hpk, hn9⟩ := hM
  have g_fo := hPm
  have g_fj := hPa
  refine lv_aload_n (pc := 0) hx hb dX5_isSound_0 rfl (lv_at hl 0 rfl) ?_
  refine lv_iconst (pc := 1) (v := 0) hx hb dX5_isSound_1 (by decide) ?_
  refine r_put (pc := 2) E hC fo hS g_fo 8 tyX5 tyX5_ok nmX5 rfl (by decide) (Nat.le_of_ble_eq_true rfl) uX5 (List.mem_cons_of_mem _ kw_1217) (fun _ h => h) rfl rfl rfl dX5_isSound_2 (fun H locs n_ ho hz hS => ?_)
  have fw := fw.put ho (fun q9 h9 => clA.ne h9 fo.cl (hC.oo 7 13 rfl rfl (by decide))) (fun q9 h9 => clA.ne h9 fo.cl (hC.ao 13 4 rfl rfl)) (fun q9 h9 => clA.ne h9 fo.cl (hC.ceo (Or.inr rfl) 13 rfl (by decide)))
  have nW_fo : ∀ k, k < 6 → rt k ≠ mo := fun k hk9 => clA.ne (fk k hk9).cla fo.cl (hC.ao 13 0 rfl rfl)
  have fj := fj.kept (ho _ (clA.ne fj.cla fo.cl (hC.ao 13 3 rfl rfl)))
  have fk := fk.kept (fun k hk9 => ho _ (nW_fo k hk9))
  have fe := fe.kept (ho _ (clA.ne fe.cla fo.cl (hC.ao 13 0 rfl rfl)))
  have fr := fr.kept (ho _ (clA.ne fr.cla fo.cl (hC.ao 13 0 rfl rfl)))
  have fo : c1 D mo (.inr (13, [.ref ra, .ref rl, .ref ex, .ref ro, .int (nI pk), .int ca, .int rf, .int kn, .int 0])) H := n_
  refine lv_iconst (pc := 5) (v := 1) hx hb dX5_isSound_5 (by decide) ?_
  refine r_zret (pc := 6) E hr hlk hS (by omega) (by omega) rfl ?_ dX5_isSound_6
  exact ⟨rfl, ⟨_, _, _, _, _, fo, fj, fk, fe, fr, fw, ⟨hPm, hPa, hPl, hPe, hPr, hPk⟩, hFk, hFe, hFr, hpk, hn9⟩⟩
