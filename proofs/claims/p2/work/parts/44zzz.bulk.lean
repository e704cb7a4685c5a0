set_option maxHeartbeats 4000000 in
set_option maxRecDepth 100000 in
/-- BestratiosModel.become(I[J)I -/
theorem c_X5_become_N (l : Launch) (D : va_G) (tk : Nat → ClassId) (N0 : Nat) (sa : Nat → Nat)  (sz : Nat) (P : Nat → Prop) (hPN : ∀ q, P q → N0 ≤ q) (hPs : ∀ q, sz ≤ q → P q) (mo n9 : Nat) (kn th : Int32) (tt bb : Nat → Int64) (eT eB oT oB : Int64) (pk : Nat) (ca rf : Int32) (vs : Nat → Value) (x : Int32) (k_x : Nat) (hx_x : x = nI k_x) (hk_x : k_x < 6) : Met l yX5_become (wsy yX5_become cX5_become 4 (some .int)) ({ frames := 1, cells := 0, slots := 0, locals := 20 } : Room) (cP D tk N0 sa [.ref mo, .int x, .null] sz (fun H => MI D tk sa P mo tt bb eT eB oT oB pk ca rf vs kn n9 th H)) (kQi (fun r H => ∃ tt1 bb1 rf1, MI D tk sa P mo tt1 bb1 eT eB oT oB pk ca rf1 vs kn n9 th H ∧ BE tt bb rf k_x none r tt1 bb1 rf1) (P)) (0) (0) (P) := by
  refine mStart RX5 rfl (by decide +kernel) (Nat.le_of_ble_eq_true rfl) ?_
  intro p e s m args below meth c E hr hlk hnm hsz hC hF ls hl
  subst hsz
  obtain ⟨hx, hb, -⟩ := id E
  have hA : ∀ q, (P) q → N0 ≤ q := hPN
  have hn : ∀ q, s.heap.size ≤ q → (P) q := hPs
  have hS : va_S (P) s.heap s.heap [] := va_S.rf
  have hl : lv_has ls 4 [(0, .ref mo), (1, .int x), (2, .null)] := hl
  have hM : MI D tk sa P mo tt bb eT eB oT oB pk ca rf vs kn n9 th s.heap := hF
  obtain ⟨ra, rl, ex, ro, rt, fo, fj, fk, fe, fr, fw, ⟨hPm, hPa, hPl, hPe, hPr, hPk⟩, hFk, hFe, hFr, hpk, hn9⟩ := hM
  have g_fo := hPm
  have g_fj := hPa
  refine lv_aload_nN (pc := 0) hx hb dX5_become_0 rfl (lv_at hl 2 rfl) ?_
  have hZ0_ := hS.1
  have t_fo := fo.lt
  have t_fj := fj.lt
  have t_fk := fun k (hk9 : k < 6) => (fk k hk9).lt
  have t_fe := fe.lt
  have t_fr := fr.lt
  refine k_i (pc := 1) (k_S E hC hS hA hl.1 (c_X5_isFit_N l D tk N0 sa s.heap.size  ) kw_1259 kw_1260 kw_5 kw_1261 (n := 1) (by decide +kernel) rfl ⟨⟨rfl, rfl⟩, ⟨Nat.le_of_ble_eq_true rfl, Nat.le_of_ble_eq_true rfl⟩, (by dsimp only; omega), (by dsimp only; omega)⟩ rfl (Nat.le_of_ble_eq_true rfl) trivial dX5_become_1) hS (fun q z w => absurd w (Nat.not_le.mpr z)) hn (fun r_1 H locs hR hz hk hS => ?_)
  have fw := fw.new hk
  have fo := fo.kept (hk _ fo.lt (Nat.not_le.mpr fo.lt))
  have fj := fj.kept (hk _ fj.lt (Nat.not_le.mpr fj.lt))
  have fk := fk.new hk
  have fe := fe.kept (hk _ fe.lt (Nat.not_le.mpr fe.lt))
  have fr := fr.kept (hk _ fr.lt (Nat.not_le.mpr fr.lt))
  rw [show r_1 = 0 from hR]
  refine lv_if_ne (pc := 4) (tgt := 12) hx hb dX5_become_4 (by decide) (fun c_2 => ?_) (fun c_2 => ?_)
  · exact absurd (by decide) c_2
  refine lv_aload_n (pc := 7) hx hb dX5_become_7 rfl (lv_at hl 0 rfl) ?_
  have hZ0_ := hS.1
  have t_fo := fo.lt
  have t_fj := fj.lt
  have t_fk := fun k (hk9 : k < 6) => (fk k hk9).lt
  have t_fe := fe.lt
  have t_fr := fr.lt
  refine k_i (pc := 8) (k_V E hC hS hA hl.1 (c1.recv hC fo rfl) rfl (c_X5_no l D tk N0 sa H.size P hPN (fun q h9 => hPs q (Nat.le_trans hS.1 h9)) mo n9 kn th tt bb eT eB oT oB pk ca rf vs  ) kw_1264 kw_1266 kp_22 kw_5 kw_1267 (n := 0) (by decide +kernel) rfl ⟨⟨rfl, rfl⟩, ⟨Nat.le_of_ble_eq_true rfl, Nat.le_of_ble_eq_true rfl⟩, (by dsimp only; omega), (by dsimp only; omega)⟩ rfl (Nat.le_of_ble_eq_true rfl) ⟨_, _, _, _, _, fo, fj, fk, fe, fr, fw, ⟨hPm, hPa, hPl, hPe, hPr, hPk⟩, hFk, hFe, hFr, hpk, hn9⟩ dX5_become_8) hS (fun q _ h => h) hn (fun r_3 H locs hR hz hk hS => ?_)
  obtain ⟨er_3, hM⟩ := hR
  obtain ⟨ra, rl, ex, ro, rt, fo, fj, fk, fe, fr, fw, ⟨hPm, hPa, hPl, hPe, hPr, hPk⟩, hFk, hFe, hFr, hpk, hn9⟩ := hM
  have g_fo := hPm
  have g_fj := hPa
  refine r_iret (pc := 11) E hr hlk hS (by omega) (by omega) ?_ dX5_become_11
  exact ⟨_, _, _, ⟨_, _, _, _, _, fo, fj, fk, fe, fr, fw, ⟨hPm, hPa, hPl, hPe, hPr, hPk⟩, hFk, hFe, hFr, hpk, hn9⟩, ⟨er_3, rfl, rfl, rfl⟩⟩
set_option maxHeartbeats 4000000 in
set_option maxRecDepth 100000 in
/-- BestratiosModel.put(III)I -/
theorem c_X5_put (l : Launch) (D : va_G) (tk : Nat → ClassId) (N0 : Nat) (sa : Nat → Nat)  (sz : Nat) (P : Nat → Prop) (hPN : ∀ q, P q → N0 ≤ q) (hPs : ∀ q, sz ≤ q → P q) (mo n9 : Nat) (kn th : Int32) (tt bb : Nat → Int64) (eT eB oT oB : Int64) (pk : Nat) (ca rf : Int32) (vs : Nat → Value) (x1 : Int32) (x2 : Int32) (x3 : Int32) : Met l yX5_put (wsy yX5_put cX5_put 4 (some .int)) ({ frames := 3, cells := 1, slots := 2, locals := 77 } : Room) (cP D tk N0 sa [.ref mo, .int x1, .int x2, .int x3] sz (fun H => MI D tk sa P mo tt bb eT eB oT oB pk ca rf vs kn n9 th H)) (kQi (fun r H => ∃ th1 tt1 bb1 rf1, MI D tk sa P mo tt1 bb1 eT eB oT oB pk ca rf1 vs kn n9 th1 H ∧ AC (m_isNo x1) (m_is0 x3) tt bb rf (nn x1) (LO x2.toInt64 x3.toInt64) r th1 tt1 bb1 rf1) (P)) (1) (2) (P) := by
  refine mStart RX5 rfl (by decide +kernel) (Nat.le_of_ble_eq_true rfl) ?_
  intro p e s m args below meth c E hr hlk hnm hsz hC hF ls hl
  subst hsz
  obtain ⟨hx, hb, -⟩ := id E
  have hA : ∀ q, (P) q → N0 ≤ q := hPN
  have hn : ∀ q, s.heap.size ≤ q → (P) q := hPs
  have hS : va_S (P) s.heap s.heap [] := va_S.rf
  have hl : lv_has ls 4 [(0, .ref mo), (1, .int x1), (2, .int x2), (3, .int x3)] := hl
  have hM : MI D tk sa P mo tt bb eT eB oT oB pk ca rf vs kn n9 th s.heap := hF
  obtain ⟨ra, rl, ex, ro, rt, fo, fj, fk, fe, fr, fw, ⟨hPm, hPa, hPl, hPe, hPr, hPk⟩, hFk, hFe, hFr, hpk, hn9⟩ := hM
  have g_fo := hPm
  have g_fj := hPa
  refine lv_aload_n (pc := 0) hx hb dX5_put_0 rfl (lv_at hl 0 rfl) ?_
  refine lv_iload_n (pc := 1) hx hb dX5_put_1 rfl (lv_at hl 1 rfl) ?_
  refine k_i (pc := 2) (k_S E hC hS hA hl.1 (c_X5_isNo l D tk N0 sa s.heap.size x1 ) kw_1245 kw_1246 kw_5 kw_1247 (n := 1) (by decide +kernel) rfl ⟨⟨rfl, rfl⟩, ⟨Nat.le_of_ble_eq_true rfl, Nat.le_of_ble_eq_true rfl⟩, (by dsimp only; omega), (by dsimp only; omega)⟩ rfl (Nat.le_of_ble_eq_true rfl) trivial dX5_put_2) hS (fun q z w => absurd w (Nat.not_le.mpr z)) hn (fun r_1 H locs hR hz hk hS => ?_)
  have er_1 := hR
  have fw := fw.new hk
  have fo := fo.kept (hk _ fo.lt (Nat.not_le.mpr fo.lt))
  have fj := fj.kept (hk _ fj.lt (Nat.not_le.mpr fj.lt))
  have fk := fk.new hk
  have fe := fe.kept (hk _ fe.lt (Nat.not_le.mpr fe.lt))
  have fr := fr.kept (hk _ fr.lt (Nat.not_le.mpr fr.lt))
  refine lv_iload_n (pc := 5) hx hb dX5_put_5 rfl (lv_at hl 3 rfl) ?_
  refine lv_if_ne (pc := 6) (tgt := 13) hx hb dX5_put_6 (by decide) (fun c_3 => ?_) (fun c_3 => ?_)
  · refine lv_iconst (pc := 13) (v := 0) hx hb dX5_put_13 (by decide) ?_
    have hZ0_ := hS.1
    have t_fo := fo.lt
    have t_fj := fj.lt
    have t_fk := fun k (hk9 : k < 6) => (fk k hk9).lt
    have t_fe := fe.lt
    have t_fr := fr.lt
    refine k_i (pc := 14) (k_V E hC hS hA hl.1 (c1.recv hC fo rfl) rfl (c_X5_fails l D tk N0 sa H.size P hPN (fun q h9 => hPs q (Nat.le_trans hS.1 h9)) mo n9 kn th tt bb eT eB oT oB pk ca rf vs r_1 0 ) kw_1251 kw_1253 kp_20 kw_5 kw_1254 (n := 2) (by decide +kernel) rfl ⟨⟨rfl, rfl⟩, ⟨Nat.le_of_ble_eq_true rfl, Nat.le_of_ble_eq_true rfl⟩, (by dsimp only; omega), (by dsimp only; omega)⟩ rfl (Nat.le_of_ble_eq_true rfl) ⟨_, _, _, _, _, fo, fj, fk, fe, fr, fw, ⟨hPm, hPa, hPl, hPe, hPr, hPk⟩, hFk, hFe, hFr, hpk, hn9⟩ dX5_put_14) hS (fun q _ h => h) hn (fun r_4 H locs hR hz hk hS => ?_)
    obtain ⟨er_4, hM⟩ := hR
    obtain ⟨ra, rl, ex, ro, rt, fo, fj, fk, fe, fr, fw, ⟨hPm, hPa, hPl, hPe, hPr, hPk⟩, hFk, hFe, hFr, hpk, hn9⟩ := hM
    have g_fo := hPm
    have g_fj := hPa
    refine lv_if_eq (pc := 17) (tgt := 24) hx hb dX5_put_17 (by decide) (fun c_5 => ?_) (fun c_5 => ?_)
    · refine lv_aload_n (pc := 24) hx hb dX5_put_24 rfl (lv_at hl 0 rfl) ?_
      refine lv_iload_n (pc := 25) hx hb dX5_put_25 rfl (lv_at hl 1 rfl) ?_
      refine lv_iload_n (pc := 26) hx hb dX5_put_26 rfl (lv_at hl 2 rfl) ?_
      refine lv_i2l (pc := 27) (v := x2.toInt64) hx hb dX5_put_27 rfl ?_
      refine lv_iload_n (pc := 28) hx hb dX5_put_28 rfl (lv_at hl 3 rfl) ?_
      refine lv_i2l (pc := 29) (v := x3.toInt64) hx hb dX5_put_29 rfl ?_
      have hP9 := m_lo32 (t := x2) (b := x3) c_3
      have hZ0_ := hS.1
      have t_fo := fo.lt
      have t_fj := fj.lt
      have t_fk := fun k (hk9 : k < 6) => (fk k hk9).lt
      have t_fe := fe.lt
      have t_fr := fr.lt
      refine k_r (pc := 30) (k_S E hC hS hA hl.1 (c_X5_lowest l D tk N0 sa H.size x2.toInt64 x3.toInt64 hP9.1) kw_1199 kw_1200 kw_5 kw_1201 (n := 2) (by decide +kernel) rfl ⟨⟨rfl, rfl⟩, ⟨Nat.le_of_ble_eq_true rfl, Nat.le_of_ble_eq_true rfl⟩, (by dsimp only; omega), (by dsimp only; omega)⟩ rfl (Nat.le_of_ble_eq_true rfl) trivial dX5_put_30) hS (fun q z w => absurd w (Nat.not_le.mpr z)) hn (fun r_6 H locs hR hz hk hS => ?_)
      have fw := fw.new hk
      have fo := fo.kept (hk _ fo.lt (Nat.not_le.mpr fo.lt))
      have fj := fj.kept (hk _ fj.lt (Nat.not_le.mpr fj.lt))
      have fk := fk.new hk
      have fe := fe.kept (hk _ fe.lt (Nat.not_le.mpr fe.lt))
      have fr := fr.kept (hk _ fr.lt (Nat.not_le.mpr fr.lt))
      obtain ⟨z9_, f7⟩ := hR
      have s_f7 : s.heap.size ≤ r_6 := Nat.le_trans hZ0_ z9_
      have g_f7 := hn _ s_f7
      have l_fo_f7 : mo < r_6 := Nat.lt_of_lt_of_le t_fo z9_
      have l_fj_f7 : ra < r_6 := Nat.lt_of_lt_of_le t_fj z9_
      have nW_f7 : ∀ k, k < 6 → rt k ≠ r_6 := fun k hk9 => Nat.ne_of_lt (Nat.lt_of_lt_of_le (t_fk k hk9) z9_)
      have l_fe_f7 : ex < r_6 := Nat.lt_of_lt_of_le t_fe z9_
      have l_fr_f7 : ro < r_6 := Nat.lt_of_lt_of_le t_fr z9_
      have hZ0_ := hS.1
      have t_fo := fo.lt
      have t_fj := fj.lt
      have t_fk := fun k (hk9 : k < 6) => (fk k hk9).lt
      have t_fe := fe.lt
      have t_fr := fr.lt
      have t_f7 := f7.lt
      obtain ⟨hx_8, hk_8⟩ := m_noN (er_1.symm.trans (m_fl0 (er_4.symm.trans c_5)).1)
      refine k_i (pc := 33) (k_V E hC hS hA hl.1 (c1.recv hC fo rfl) rfl (c_X5_become l D tk N0 sa H.size P hPN (fun q h9 => hPs q (Nat.le_trans hS.1 h9)) mo n9 kn ((m_th r_1 0)) tt bb eT eB oT oB pk ca rf vs x1 (nn x1) hx_8 hk_8 r_6 (m_loT x2.toInt64 x3.toInt64) (m_loB x2.toInt64 x3.toInt64) (hPs _ s_f7) hP9.2) kw_1255 kw_1257 kp_21 kw_5 kw_1258 (n := 2) (by decide +kernel) rfl ⟨⟨rfl, rfl⟩, ⟨Nat.le_of_ble_eq_true rfl, Nat.le_of_ble_eq_true rfl⟩, (by dsimp only; omega), (by dsimp only; omega)⟩ rfl (Nat.le_of_ble_eq_true rfl) ⟨⟨_, _, _, _, _, fo, fj, fk, fe, fr, fw, ⟨hPm, hPa, hPl, hPe, hPr, hPk⟩, hFk, hFe, hFr, hpk, hn9⟩, f7⟩ dX5_put_33) hS (fun q _ h => h) hn (fun r_9 H locs hR hz hk hS => ?_)
      obtain ⟨tt_10, bb_10, rf_10, hM, hBE_10⟩ := hR
      obtain ⟨ra, rl, ex, ro, rt, fo, fj, fk, fe, fr, fw, ⟨hPm, hPa, hPl, hPe, hPr, hPk⟩, hFk, hFe, hFr, hpk, hn9⟩ := hM
      have g_fo := hPm
      have g_fj := hPa
      refine r_iret (pc := 36) E hr hlk hS (by omega) (by omega) ?_ dX5_put_36
      exact ⟨_, _, _, _, ⟨_, _, _, _, _, fo, fj, fk, fe, fr, fw, ⟨hPm, hPa, hPl, hPe, hPr, hPk⟩, hFk, hFe, hFr, hpk, hn9⟩, AC.ok (by subst er_1 er_4; first | rfl | (simp [m_or, m_not, m_is0, m_lt0, m_fl, c_3, c_5]; done)) (by subst er_1 er_4; first | rfl | (simp [m_or, m_not, m_is0, m_lt0, m_fl, c_3, c_5]; done)) (er_4.symm.trans c_5) (hBE_10.cast (by subst er_1 er_4; first | rfl | (simp [LO, c_3, c_5]; done)))⟩
    · refine lv_iconst (pc := 20) (v := 0) hx hb dX5_put_20 (by decide) ?_
      refine lv_goto (pc := 21) (tgt := 36) hx hb dX5_put_21 (by decide) ?_
      refine r_iret (pc := 36) E hr hlk hS (by omega) (by omega) ?_ dX5_put_36
      exact ⟨_, _, _, _, ⟨_, _, _, _, _, fo, fj, fk, fe, fr, fw, ⟨hPm, hPa, hPl, hPe, hPr, hPk⟩, hFk, hFe, hFr, hpk, hn9⟩, AC.fail (by subst er_1 er_4; first | rfl | (simp [m_or, m_not, m_is0, m_lt0, m_fl, c_3, c_5]; done)) (by subst er_1 er_4; first | rfl | (simp [m_or, m_not, m_is0, m_lt0, m_fl, c_3, c_5]; done)) (fun z9 => c_5 (er_4.trans z9))⟩
  · refine lv_iconst (pc := 9) (v := 1) hx hb dX5_put_9 (by decide) ?_
    refine lv_goto (pc := 10) (tgt := 14) hx hb dX5_put_10 (by decide) ?_
    have hZ0_ := hS.1
    have t_fo := fo.lt
    have t_fj := fj.lt
    have t_fk := fun k (hk9 : k < 6) => (fk k hk9).lt
    have t_fe := fe.lt
    have t_fr := fr.lt
    refine k_i (pc := 14) (k_V E hC hS hA hl.1 (c1.recv hC fo rfl) rfl (c_X5_fails l D tk N0 sa H.size P hPN (fun q h9 => hPs q (Nat.le_trans hS.1 h9)) mo n9 kn th tt bb eT eB oT oB pk ca rf vs r_1 1 ) kw_1251 kw_1253 kp_20 kw_5 kw_1254 (n := 2) (by decide +kernel) rfl ⟨⟨rfl, rfl⟩, ⟨Nat.le_of_ble_eq_true rfl, Nat.le_of_ble_eq_true rfl⟩, (by dsimp only; omega), (by dsimp only; omega)⟩ rfl (Nat.le_of_ble_eq_true rfl) ⟨_, _, _, _, _, fo, fj, fk, fe, fr, fw, ⟨hPm, hPa, hPl, hPe, hPr, hPk⟩, hFk, hFe, hFr, hpk, hn9⟩ dX5_put_14) hS (fun q _ h => h) hn (fun r_11 H locs hR hz hk hS => ?_)
    obtain ⟨er_11, hM⟩ := hR
    obtain ⟨ra, rl, ex, ro, rt, fo, fj, fk, fe, fr, fw, ⟨hPm, hPa, hPl, hPe, hPr, hPk⟩, hFk, hFe, hFr, hpk, hn9⟩ := hM
    have g_fo := hPm
    have g_fj := hPa
    have ef_r_11 : r_11 = 1 := er_11.trans (m_fl1 _)
    rw [ef_r_11]
    refine lv_if_eq (pc := 17) (tgt := 24) hx hb dX5_put_17 (by decide) (fun c_12 => ?_) (fun c_12 => ?_)
    · exact absurd c_12 (by decide)
    refine lv_iconst (pc := 20) (v := 0) hx hb dX5_put_20 (by decide) ?_
    refine lv_goto (pc := 21) (tgt := 36) hx hb dX5_put_21 (by decide) ?_
    refine r_iret (pc := 36) E hr hlk hS (by omega) (by omega) ?_ dX5_put_36
    exact ⟨_, _, _, _, ⟨_, _, _, _, _, fo, fj, fk, fe, fr, fw, ⟨hPm, hPa, hPl, hPe, hPr, hPk⟩, hFk, hFe, hFr, hpk, hn9⟩, AC.fail (by subst er_1; first | rfl | (simp [m_or, m_not, m_is0, m_lt0, m_fl, c_3]; done)) (by subst er_1; first | rfl | (simp [m_or, m_not, m_is0, m_lt0, m_fl, c_3]; done)) (fun z9 => absurd (ef_r_11.symm.trans (er_11.trans z9)) (by decide))⟩
set_option maxHeartbeats 4000000 in
set_option maxRecDepth 100000 in
/-- BestratiosModel.putDecimal(III)I -/
theorem c_X5_putDecimal (l : Launch) (D : va_G) (tk : Nat → ClassId) (N0 : Nat) (sa : Nat → Nat)  (sz : Nat) (P : Nat → Prop) (hPN : ∀ q, P q → N0 ≤ q) (hPs : ∀ q, sz ≤ q → P q) (mo n9 : Nat) (kn th : Int32) (tt bb : Nat → Int64) (eT eB oT oB : Int64) (pk : Nat) (ca rf : Int32) (vs : Nat → Value) (x1 : Int32) (x2 : Int32) (x3 : Int32) : Met l yX5_putDecimal (wsy yX5_putDecimal cX5_putDecimal 4 (some .int)) ({ frames := 3, cells := 1, slots := 2, locals := 77 } : Room) (cP D tk N0 sa [.ref mo, .int x1, .int x2, .int x3] sz (fun H => MI D tk sa P mo tt bb eT eB oT oB pk ca rf vs kn n9 th H)) (kQi (fun r H => ∃ th1 tt1 bb1 rf1, MI D tk sa P mo tt1 bb1 eT eB oT oB pk ca rf1 vs kn n9 th1 H ∧ AC (m_isNo x1) (m_not (m_isIn x3 0 9)) tt bb rf (nn x1) (LO x2.toInt64 (m_pow x3)) r th1 tt1 bb1 rf1) (P)) (1) (2) (P) := by
  refine mStart RX5 rfl (by decide +kernel) (Nat.le_of_ble_eq_true rfl) ?_
  intro p e s m args below meth c E hr hlk hnm hsz hC hF ls hl
  subst hsz
  obtain ⟨hx, hb, -⟩ := id E
  have hA : ∀ q, (P) q → N0 ≤ q := hPN
  have hn : ∀ q, s.heap.size ≤ q → (P) q := hPs
  have hS : va_S (P) s.heap s.heap [] := va_S.rf
  have hl : lv_has ls 4 [(0, .ref mo), (1, .int x1), (2, .int x2), (3, .int x3)] := hl
  have hM : MI D tk sa P mo tt bb eT eB oT oB pk ca rf vs kn n9 th s.heap := hF
  obtain ⟨ra, rl, ex, ro, rt, fo, fj, fk, fe, fr, fw, ⟨hPm, hPa, hPl, hPe, hPr, hPk⟩, hFk, hFe, hFr, hpk, hn9⟩ := hM
  have g_fo := hPm
  have g_fj := hPa
  refine lv_aload_n (pc := 0) hx hb dX5_putDecimal_0 rfl (lv_at hl 0 rfl) ?_
  refine lv_iload_n (pc := 1) hx hb dX5_putDecimal_1 rfl (lv_at hl 1 rfl) ?_
  refine k_i (pc := 2) (k_S E hC hS hA hl.1 (c_X5_isNo l D tk N0 sa s.heap.size x1 ) kw_1245 kw_1246 kw_5 kw_1247 (n := 1) (by decide +kernel) rfl ⟨⟨rfl, rfl⟩, ⟨Nat.le_of_ble_eq_true rfl, Nat.le_of_ble_eq_true rfl⟩, (by dsimp only; omega), (by dsimp only; omega)⟩ rfl (Nat.le_of_ble_eq_true rfl) trivial dX5_putDecimal_2) hS (fun q z w => absurd w (Nat.not_le.mpr z)) hn (fun r_1 H locs hR hz hk hS => ?_)
  have er_1 := hR
  have fw := fw.new hk
  have fo := fo.kept (hk _ fo.lt (Nat.not_le.mpr fo.lt))
  have fj := fj.kept (hk _ fj.lt (Nat.not_le.mpr fj.lt))
  have fk := fk.new hk
  have fe := fe.kept (hk _ fe.lt (Nat.not_le.mpr fe.lt))
  have fr := fr.kept (hk _ fr.lt (Nat.not_le.mpr fr.lt))
  refine lv_iload_n (pc := 5) hx hb dX5_putDecimal_5 rfl (lv_at hl 3 rfl) ?_
  refine lv_iconst (pc := 6) (v := 0) hx hb dX5_putDecimal_6 (by decide) ?_
  refine lv_bipush (pc := 7) (v := 9) hx hb dX5_putDecimal_7 (by decide) ?_
  refine k_i (pc := 9) (k_S E hC hS hA hl.1 (c_X5_isIn l D tk N0 sa H.size x3 0 9 ) kw_1248 kw_1249 kw_5 kw_1250 (n := 3) (by decide +kernel) rfl ⟨⟨rfl, rfl⟩, ⟨Nat.le_of_ble_eq_true rfl, Nat.le_of_ble_eq_true rfl⟩, (by dsimp only; omega), (by dsimp only; omega)⟩ rfl (Nat.le_of_ble_eq_true rfl) trivial dX5_putDecimal_9) hS (fun q z w => absurd w (Nat.not_le.mpr z)) hn (fun r_3 H locs hR hz hk hS => ?_)
  have er_3 := hR
  have fw := fw.new hk
  have fo := fo.kept (hk _ fo.lt (Nat.not_le.mpr fo.lt))
  have fj := fj.kept (hk _ fj.lt (Nat.not_le.mpr fj.lt))
  have fk := fk.new hk
  have fe := fe.kept (hk _ fe.lt (Nat.not_le.mpr fe.lt))
  have fr := fr.kept (hk _ fr.lt (Nat.not_le.mpr fr.lt))
  refine lv_if_ne (pc := 12) (tgt := 19) hx hb dX5_putDecimal_12 (by decide) (fun c_5 => ?_) (fun c_5 => ?_)
  · refine lv_iconst (pc := 19) (v := 0) hx hb dX5_putDecimal_19 (by decide) ?_
    have hZ0_ := hS.1
    have t_fo := fo.lt
    have t_fj := fj.lt
    have t_fk := fun k (hk9 : k < 6) => (fk k hk9).lt
    have t_fe := fe.lt
    have t_fr := fr.lt
    refine k_i (pc := 20) (k_V E hC hS hA hl.1 (c1.recv hC fo rfl) rfl (c_X5_fails l D tk N0 sa H.size P hPN (fun q h9 => hPs q (Nat.le_trans hS.1 h9)) mo n9 kn th tt bb eT eB oT oB pk ca rf vs r_1 0 ) kw_1251 kw_1253 kp_20 kw_5 kw_1254 (n := 2) (by decide +kernel) rfl ⟨⟨rfl, rfl⟩, ⟨Nat.le_of_ble_eq_true rfl, Nat.le_of_ble_eq_true rfl⟩, (by dsimp only; omega), (by dsimp only; omega)⟩ rfl (Nat.le_of_ble_eq_true rfl) ⟨_, _, _, _, _, fo, fj, fk, fe, fr, fw, ⟨hPm, hPa, hPl, hPe, hPr, hPk⟩, hFk, hFe, hFr, hpk, hn9⟩ dX5_putDecimal_20) hS (fun q _ h => h) hn (fun r_6 H locs hR hz hk hS => ?_)
    obtain ⟨er_6, hM⟩ := hR
    obtain ⟨ra, rl, ex, ro, rt, fo, fj, fk, fe, fr, fw, ⟨hPm, hPa, hPl, hPe, hPr, hPk⟩, hFk, hFe, hFr, hpk, hn9⟩ := hM
    have g_fo := hPm
    have g_fj := hPa
    refine lv_if_eq (pc := 23) (tgt := 30) hx hb dX5_putDecimal_23 (by decide) (fun c_7 => ?_) (fun c_7 => ?_)
    · refine lv_aload_n (pc := 30) hx hb dX5_putDecimal_30 rfl (lv_at hl 0 rfl) ?_
      refine lv_iload_n (pc := 31) hx hb dX5_putDecimal_31 rfl (lv_at hl 1 rfl) ?_
      refine lv_iload_n (pc := 32) hx hb dX5_putDecimal_32 rfl (lv_at hl 2 rfl) ?_
      refine lv_i2l (pc := 33) (v := x2.toInt64) hx hb dX5_putDecimal_33 rfl ?_
      refine lv_iload_n (pc := 34) hx hb dX5_putDecimal_34 rfl (lv_at hl 3 rfl) ?_
      refine k_l (pc := 35) (k_S E hC hS hA hl.1 (c_X5_power l D tk N0 sa H.size x3 ) kw_1278 kw_1279 kw_5 kw_1280 (n := 1) (by decide +kernel) rfl ⟨⟨rfl, rfl⟩, ⟨Nat.le_of_ble_eq_true rfl, Nat.le_of_ble_eq_true rfl⟩, (by dsimp only; omega), (by dsimp only; omega)⟩ rfl (Nat.le_of_ble_eq_true rfl) trivial dX5_putDecimal_35) hS (fun q z w => absurd w (Nat.not_le.mpr z)) hn (fun r_8 H locs hR hz hk hS => ?_)
      have er_8 := hR
      have fw := fw.new hk
      have fo := fo.kept (hk _ fo.lt (Nat.not_le.mpr fo.lt))
      have fj := fj.kept (hk _ fj.lt (Nat.not_le.mpr fj.lt))
      have fk := fk.new hk
      have fe := fe.kept (hk _ fe.lt (Nat.not_le.mpr fe.lt))
      have fr := fr.kept (hk _ fr.lt (Nat.not_le.mpr fr.lt))
      obtain ⟨kp, hkp1, hkp2⟩ := m_in (x := x3) (hi_ := 9) (by decide) (fun z9 => c_5 (er_3.trans z9))
      have hpw := m_powB hkp2
      rw [← hkp1, ← er_8] at hpw
      have hP9 := m_loP (t := x2.toInt64) (b := r_8) (B := 2147483648) (C := 1000000000) (m_i32 x2) (by decide) hpw.1 (by omega)
      have hZ0_ := hS.1
      have t_fo := fo.lt
      have t_fj := fj.lt
      have t_fk := fun k (hk9 : k < 6) => (fk k hk9).lt
      have t_fe := fe.lt
      have t_fr := fr.lt
      refine k_r (pc := 38) (k_S E hC hS hA hl.1 (c_X5_lowest l D tk N0 sa H.size x2.toInt64 r_8 hP9.1) kw_1199 kw_1200 kw_5 kw_1201 (n := 2) (by decide +kernel) rfl ⟨⟨rfl, rfl⟩, ⟨Nat.le_of_ble_eq_true rfl, Nat.le_of_ble_eq_true rfl⟩, (by dsimp only; omega), (by dsimp only; omega)⟩ rfl (Nat.le_of_ble_eq_true rfl) trivial dX5_putDecimal_38) hS (fun q z w => absurd w (Nat.not_le.mpr z)) hn (fun r_10 H locs hR hz hk hS => ?_)
      have fw := fw.new hk
      have fo := fo.kept (hk _ fo.lt (Nat.not_le.mpr fo.lt))
      have fj := fj.kept (hk _ fj.lt (Nat.not_le.mpr fj.lt))
      have fk := fk.new hk
      have fe := fe.kept (hk _ fe.lt (Nat.not_le.mpr fe.lt))
      have fr := fr.kept (hk _ fr.lt (Nat.not_le.mpr fr.lt))
      obtain ⟨z9_, f11⟩ := hR
      have s_f11 : s.heap.size ≤ r_10 := Nat.le_trans hZ0_ z9_
      have g_f11 := hn _ s_f11
      have l_fo_f11 : mo < r_10 := Nat.lt_of_lt_of_le t_fo z9_
      have l_fj_f11 : ra < r_10 := Nat.lt_of_lt_of_le t_fj z9_
      have nW_f11 : ∀ k, k < 6 → rt k ≠ r_10 := fun k hk9 => Nat.ne_of_lt (Nat.lt_of_lt_of_le (t_fk k hk9) z9_)
      have l_fe_f11 : ex < r_10 := Nat.lt_of_lt_of_le t_fe z9_
      have l_fr_f11 : ro < r_10 := Nat.lt_of_lt_of_le t_fr z9_
      have hZ0_ := hS.1
      have t_fo := fo.lt
      have t_fj := fj.lt
      have t_fk := fun k (hk9 : k < 6) => (fk k hk9).lt
      have t_fe := fe.lt
      have t_fr := fr.lt
      have t_f11 := f11.lt
      obtain ⟨hx_12, hk_12⟩ := m_noN (er_1.symm.trans (m_fl0 (er_6.symm.trans c_7)).1)
      refine k_i (pc := 41) (k_V E hC hS hA hl.1 (c1.recv hC fo rfl) rfl (c_X5_become l D tk N0 sa H.size P hPN (fun q h9 => hPs q (Nat.le_trans hS.1 h9)) mo n9 kn ((m_th r_1 0)) tt bb eT eB oT oB pk ca rf vs x1 (nn x1) hx_12 hk_12 r_10 (m_loT x2.toInt64 r_8) (m_loB x2.toInt64 r_8) (hPs _ s_f11) hP9.2.1) kw_1255 kw_1257 kp_21 kw_5 kw_1258 (n := 2) (by decide +kernel) rfl ⟨⟨rfl, rfl⟩, ⟨Nat.le_of_ble_eq_true rfl, Nat.le_of_ble_eq_true rfl⟩, (by dsimp only; omega), (by dsimp only; omega)⟩ rfl (Nat.le_of_ble_eq_true rfl) ⟨⟨_, _, _, _, _, fo, fj, fk, fe, fr, fw, ⟨hPm, hPa, hPl, hPe, hPr, hPk⟩, hFk, hFe, hFr, hpk, hn9⟩, f11⟩ dX5_putDecimal_41) hS (fun q _ h => h) hn (fun r_13 H locs hR hz hk hS => ?_)
      obtain ⟨tt_14, bb_14, rf_14, hM, hBE_14⟩ := hR
      obtain ⟨ra, rl, ex, ro, rt, fo, fj, fk, fe, fr, fw, ⟨hPm, hPa, hPl, hPe, hPr, hPk⟩, hFk, hFe, hFr, hpk, hn9⟩ := hM
      have g_fo := hPm
      have g_fj := hPa
      refine r_iret (pc := 44) E hr hlk hS (by omega) (by omega) ?_ dX5_putDecimal_44
      exact ⟨_, _, _, _, ⟨_, _, _, _, _, fo, fj, fk, fe, fr, fw, ⟨hPm, hPa, hPl, hPe, hPr, hPk⟩, hFk, hFe, hFr, hpk, hn9⟩, AC.ok (by subst er_1 er_3 er_6 er_8; first | rfl | (simp [m_or, m_not, m_is0, m_lt0, m_fl, c_5, c_7]; done)) (by subst er_1 er_3 er_6 er_8; first | rfl | (simp [m_or, m_not, m_is0, m_lt0, m_fl, c_5, c_7]; done)) (er_6.symm.trans c_7) (hBE_14.cast (by subst er_1 er_3 er_6 er_8; first | rfl | (simp [LO, c_5, c_7]; done)))⟩
    · refine lv_iconst (pc := 26) (v := 0) hx hb dX5_putDecimal_26 (by decide) ?_
      refine lv_goto (pc := 27) (tgt := 44) hx hb dX5_putDecimal_27 (by decide) ?_
      refine r_iret (pc := 44) E hr hlk hS (by omega) (by omega) ?_ dX5_putDecimal_44
      exact ⟨_, _, _, _, ⟨_, _, _, _, _, fo, fj, fk, fe, fr, fw, ⟨hPm, hPa, hPl, hPe, hPr, hPk⟩, hFk, hFe, hFr, hpk, hn9⟩, AC.fail (by subst er_1 er_3 er_6; first | rfl | (simp [m_or, m_not, m_is0, m_lt0, m_fl, c_5, c_7]; done)) (by subst er_1 er_3 er_6; first | rfl | (simp [m_or, m_not, m_is0, m_lt0, m_fl, c_5, c_7]; done)) (fun z9 => c_7 (er_6.trans z9))⟩
  · refine lv_iconst (pc := 15) (v := 1) hx hb dX5_putDecimal_15 (by decide) ?_
    refine lv_goto (pc := 16) (tgt := 20) hx hb dX5_putDecimal_16 (by decide) ?_
    have hZ0_ := hS.1
    have t_fo := fo.lt
    have t_fj := fj.lt
    have t_fk := fun k (hk9 : k < 6) => (fk k hk9).lt
    have t_fe := fe.lt
    have t_fr := fr.lt
    refine k_i (pc := 20) (k_V E hC hS hA hl.1 (c1.recv hC fo rfl) rfl (c_X5_fails l D tk N0 sa H.size P hPN (fun q h9 => hPs q (Nat.le_trans hS.1 h9)) mo n9 kn th tt bb eT eB oT oB pk ca rf vs r_1 1 ) kw_1251 kw_1253 kp_20 kw_5 kw_1254 (n := 2) (by decide +kernel) rfl ⟨⟨rfl, rfl⟩, ⟨Nat.le_of_ble_eq_true rfl, Nat.le_of_ble_eq_true rfl⟩, (by dsimp only; omega), (by dsimp only; omega)⟩ rfl (Nat.le_of_ble_eq_true rfl) ⟨_, _, _, _, _, fo, fj, fk, fe, fr, fw, ⟨hPm, hPa, hPl, hPe, hPr, hPk⟩, hFk, hFe, hFr, hpk, hn9⟩ dX5_putDecimal_20) hS (fun q _ h => h) hn (fun r_15 H locs hR hz hk hS => ?_)
    obtain ⟨er_15, hM⟩ := hR
    obtain ⟨ra, rl, ex, ro, rt, fo, fj, fk, fe, fr, fw, ⟨hPm, hPa, hPl, hPe, hPr, hPk⟩, hFk, hFe, hFr, hpk, hn9⟩ := hM
    have g_fo := hPm
    have g_fj := hPa
    have ef_r_15 : r_15 = 1 := er_15.trans (m_fl1 _)
    rw [ef_r_15]
    refine lv_if_eq (pc := 23) (tgt := 30) hx hb dX5_putDecimal_23 (by decide) (fun c_16 => ?_) (fun c_16 => ?_)
    · exact absurd c_16 (by decide)
    refine lv_iconst (pc := 26) (v := 0) hx hb dX5_putDecimal_26 (by decide) ?_
    refine lv_goto (pc := 27) (tgt := 44) hx hb dX5_putDecimal_27 (by decide) ?_
    refine r_iret (pc := 44) E hr hlk hS (by omega) (by omega) ?_ dX5_putDecimal_44
    exact ⟨_, _, _, _, ⟨_, _, _, _, _, fo, fj, fk, fe, fr, fw, ⟨hPm, hPa, hPl, hPe, hPr, hPk⟩, hFk, hFe, hFr, hpk, hn9⟩, AC.fail (by subst er_1 er_3; first | rfl | (simp [m_or, m_not, m_is0, m_lt0, m_fl, c_5]; done)) (by subst er_1 er_3; first | rfl | (simp [m_or, m_not, m_is0, m_lt0, m_fl, c_5]; done)) (fun z9 => absurd (ef_r_15.symm.trans (er_15.trans z9)) (by decide))⟩
set_option maxHeartbeats 4000000 in
set_option maxRecDepth 100000 in
/-- BestratiosModel.copy(II)I -/
theorem c_X5_copy (l : Launch) (D : va_G) (tk : Nat → ClassId) (N0 : Nat) (sa : Nat → Nat)  (sz : Nat) (P : Nat → Prop) (hPN : ∀ q, P q → N0 ≤ q) (hPs : ∀ q, sz ≤ q → P q) (mo n9 : Nat) (kn th : Int32) (tt bb : Nat → Int64) (eT eB oT oB : Int64) (pk : Nat) (ca rf : Int32) (vs : Nat → Value) (x1 : Int32) (x2 : Int32) : Met l yX5_copy (wsy yX5_copy cX5_copy 3 (some .int)) ({ frames := 3, cells := 0, slots := 0, locals := 68 } : Room) (cP D tk N0 sa [.ref mo, .int x1, .int x2] sz (fun H => MI D tk sa P mo tt bb eT eB oT oB pk ca rf vs kn n9 th H)) (kQi (fun r H => ∃ th1 tt1 bb1 rf1, MI D tk sa P mo tt1 bb1 eT eB oT oB pk ca rf1 vs kn n9 th1 H ∧ AC (m_areNo x1 x2) 0 tt bb rf (nn x1) (some (tt (nn x2), bb (nn x2))) r th1 tt1 bb1 rf1) (P)) (0) (0) (P) := by
  refine mStart RX5 rfl (by decide +kernel) (Nat.le_of_ble_eq_true rfl) ?_
  intro p e s m args below meth c E hr hlk hnm hsz hC hF ls hl
  subst hsz
  obtain ⟨hx, hb, -⟩ := id E
  have hA : ∀ q, (P) q → N0 ≤ q := hPN
  have hn : ∀ q, s.heap.size ≤ q → (P) q := hPs
  have hS : va_S (P) s.heap s.heap [] := va_S.rf
  have hl : lv_has ls 3 [(0, .ref mo), (1, .int x1), (2, .int x2)] := hl
  have hM : MI D tk sa P mo tt bb eT eB oT oB pk ca rf vs kn n9 th s.heap := hF
  obtain ⟨ra, rl, ex, ro, rt, fo, fj, fk, fe, fr, fw, ⟨hPm, hPa, hPl, hPe, hPr, hPk⟩, hFk, hFe, hFr, hpk, hn9⟩ := hM
  have g_fo := hPm
  have g_fj := hPa
  refine lv_aload_n (pc := 0) hx hb dX5_copy_0 rfl (lv_at hl 0 rfl) ?_
  refine lv_iload_n (pc := 1) hx hb dX5_copy_1 rfl (lv_at hl 1 rfl) ?_
  refine lv_iload_n (pc := 2) hx hb dX5_copy_2 rfl (lv_at hl 2 rfl) ?_
  refine k_i (pc := 3) (k_S E hC hS hA hl.1 (c_X5_areNo l D tk N0 sa s.heap.size x1 x2 ) kw_1286 kw_1287 kw_5 kw_1288 (n := 2) (by decide +kernel) rfl ⟨⟨rfl, rfl⟩, ⟨Nat.le_of_ble_eq_true rfl, Nat.le_of_ble_eq_true rfl⟩, (by dsimp only; omega), (by dsimp only; omega)⟩ rfl (Nat.le_of_ble_eq_true rfl) trivial dX5_copy_3) hS (fun q z w => absurd w (Nat.not_le.mpr z)) hn (fun r_1 H locs hR hz hk hS => ?_)
  have er_1 := hR
  have fw := fw.new hk
  have fo := fo.kept (hk _ fo.lt (Nat.not_le.mpr fo.lt))
  have fj := fj.kept (hk _ fj.lt (Nat.not_le.mpr fj.lt))
  have fk := fk.new hk
  have fe := fe.kept (hk _ fe.lt (Nat.not_le.mpr fe.lt))
  have fr := fr.kept (hk _ fr.lt (Nat.not_le.mpr fr.lt))
  refine lv_iconst (pc := 6) (v := 0) hx hb dX5_copy_6 (by decide) ?_
  have hZ0_ := hS.1
  have t_fo := fo.lt
  have t_fj := fj.lt
  have t_fk := fun k (hk9 : k < 6) => (fk k hk9).lt
  have t_fe := fe.lt
  have t_fr := fr.lt
  refine k_i (pc := 7) (k_V E hC hS hA hl.1 (c1.recv hC fo rfl) rfl (c_X5_fails l D tk N0 sa H.size P hPN (fun q h9 => hPs q (Nat.le_trans hS.1 h9)) mo n9 kn th tt bb eT eB oT oB pk ca rf vs r_1 0 ) kw_1251 kw_1253 kp_20 kw_5 kw_1254 (n := 2) (by decide +kernel) rfl ⟨⟨rfl, rfl⟩, ⟨Nat.le_of_ble_eq_true rfl, Nat.le_of_ble_eq_true rfl⟩, (by dsimp only; omega), (by dsimp only; omega)⟩ rfl (Nat.le_of_ble_eq_true rfl) ⟨_, _, _, _, _, fo, fj, fk, fe, fr, fw, ⟨hPm, hPa, hPl, hPe, hPr, hPk⟩, hFk, hFe, hFr, hpk, hn9⟩ dX5_copy_7) hS (fun q _ h => h) hn (fun r_3 H locs hR hz hk hS => ?_)
  obtain ⟨er_3, hM⟩ := hR
  obtain ⟨ra, rl, ex, ro, rt, fo, fj, fk, fe, fr, fw, ⟨hPm, hPa, hPl, hPe, hPr, hPk⟩, hFk, hFe, hFr, hpk, hn9⟩ := hM
  have g_fo := hPm
  have g_fj := hPa
  refine lv_if_eq (pc := 10) (tgt := 17) hx hb dX5_copy_10 (by decide) (fun c_4 => ?_) (fun c_4 => ?_)
  · refine lv_aload_n (pc := 17) hx hb dX5_copy_17 rfl (lv_at hl 0 rfl) ?_
    refine lv_iload_n (pc := 18) hx hb dX5_copy_18 rfl (lv_at hl 1 rfl) ?_
    refine lv_aload_n (pc := 19) hx hb dX5_copy_19 rfl (lv_at hl 0 rfl) ?_
    refine r_get (pc := 20) E hC fo 0 (v := .ref ra) rfl rfl (by decide) uX5 (List.mem_cons_of_mem _ kw_1209) (fun _ h => h) dX5_copy_20 ?_
    refine lv_iload_n (pc := 23) hx hb dX5_copy_23 rfl (lv_at hl 2 rfl) ?_
    obtain ⟨hx_5, hk_5⟩ := m_noN (m_ano (er_1.symm.trans (m_fl0 (er_3.symm.trans c_4)).1)).2
    refine r_aaldJ (pc := 24) E hC fj (nn x2) hx_5 hk_5 (by decide) rfl dX5_copy_24 ?_
    have fL6 := fk (nn x2) hk_5
    have mF_fL6 := hFk (nn x2) hk_5
    have Pq_fL6 := hPk (nn x2) hk_5
    have hZ0_ := hS.1
    have t_fo := fo.lt
    have t_fj := fj.lt
    have t_fk := fun k (hk9 : k < 6) => (fk k hk9).lt
    have t_fe := fe.lt
    have t_fr := fr.lt
    have t_fL6 := fL6.lt
    obtain ⟨hx_7, hk_7⟩ := m_noN (m_ano (er_1.symm.trans (m_fl0 (er_3.symm.trans c_4)).1)).1
    refine k_i (pc := 25) (k_V E hC hS hA hl.1 (c1.recv hC fo rfl) rfl (c_X5_become l D tk N0 sa H.size P hPN (fun q h9 => hPs q (Nat.le_trans hS.1 h9)) mo n9 kn ((m_th r_1 0)) tt bb eT eB oT oB pk ca rf vs x1 (nn x1) hx_7 hk_7 (rt (nn x2)) (tt (nn x2)) (bb (nn x2)) Pq_fL6 mF_fL6.2.1) kw_1255 kw_1257 kp_21 kw_5 kw_1258 (n := 2) (by decide +kernel) rfl ⟨⟨rfl, rfl⟩, ⟨Nat.le_of_ble_eq_true rfl, Nat.le_of_ble_eq_true rfl⟩, (by dsimp only; omega), (by dsimp only; omega)⟩ rfl (Nat.le_of_ble_eq_true rfl) ⟨⟨_, _, _, _, _, fo, fj, fk, fe, fr, fw, ⟨hPm, hPa, hPl, hPe, hPr, hPk⟩, hFk, hFe, hFr, hpk, hn9⟩, fL6⟩ dX5_copy_25) hS (fun q _ h => h) hn (fun r_8 H locs hR hz hk hS => ?_)
    obtain ⟨tt_9, bb_9, rf_9, hM, hBE_9⟩ := hR
    obtain ⟨ra, rl, ex, ro, rt, fo, fj, fk, fe, fr, fw, ⟨hPm, hPa, hPl, hPe, hPr, hPk⟩, hFk, hFe, hFr, hpk, hn9⟩ := hM
    have g_fo := hPm
    have g_fj := hPa
    refine r_iret (pc := 28) E hr hlk hS (by omega) (by omega) ?_ dX5_copy_28
    exact ⟨_, _, _, _, ⟨_, _, _, _, _, fo, fj, fk, fe, fr, fw, ⟨hPm, hPa, hPl, hPe, hPr, hPk⟩, hFk, hFe, hFr, hpk, hn9⟩, AC.ok (by subst er_1 er_3; first | rfl | (simp [m_or, m_not, m_is0, m_lt0, m_fl, c_4]; done)) (by subst er_1 er_3; first | rfl | (simp [m_or, m_not, m_is0, m_lt0, m_fl, c_4]; done)) (er_3.symm.trans c_4) (hBE_9.cast (by subst er_1 er_3; first | rfl | (simp [LO, c_4]; done)))⟩
  · refine lv_iconst (pc := 13) (v := 0) hx hb dX5_copy_13 (by decide) ?_
    refine lv_goto (pc := 14) (tgt := 28) hx hb dX5_copy_14 (by decide) ?_
    refine r_iret (pc := 28) E hr hlk hS (by omega) (by omega) ?_ dX5_copy_28
    exact ⟨_, _, _, _, ⟨_, _, _, _, _, fo, fj, fk, fe, fr, fw, ⟨hPm, hPa, hPl, hPe, hPr, hPk⟩, hFk, hFe, hFr, hpk, hn9⟩, AC.fail (by subst er_1 er_3; first | rfl | (simp [m_or, m_not, m_is0, m_lt0, m_fl, c_4]; done)) (by subst er_1 er_3; first | rfl | (simp [m_or, m_not, m_is0, m_lt0, m_fl, c_4]; done)) (fun z9 => c_4 (er_3.trans z9))⟩
set_option maxHeartbeats 4000000 in
set_option maxRecDepth 100000 in
/-- BestratiosModel.swap(II)I -/
theorem c_X5_swap (l : Launch) (D : va_G) (tk : Nat → ClassId) (N0 : Nat) (sa : Nat → Nat)  (sz : Nat) (P : Nat → Prop) (hPN : ∀ q, P q → N0 ≤ q) (hPs : ∀ q, sz ≤ q → P q) (mo n9 : Nat) (kn th : Int32) (tt bb : Nat → Int64) (eT eB oT oB : Int64) (pk : Nat) (ca rf : Int32) (vs : Nat → Value) (x1 : Int32) (x2 : Int32) : Met l yX5_swap (wsy yX5_swap cX5_swap 4 (some .int)) ({ frames := 3, cells := 0, slots := 0, locals := 63 } : Room) (cP D tk N0 sa [.ref mo, .int x1, .int x2] sz (fun H => MI D tk sa P mo tt bb eT eB oT oB pk ca rf vs kn n9 th H)) (kQi (fun r H => ∃ th1 tt1 bb1, MI D tk sa P mo tt1 bb1 eT eB oT oB pk ca rf vs kn n9 th1 H ∧ SW (m_areNo x1 x2) 0 tt bb (nn x1) (nn x2) r th1 tt1 bb1) (P)) (0) (0) (P) := by
  refine mStart RX5 rfl (by decide +kernel) (Nat.le_of_ble_eq_true rfl) ?_
  intro p e s m args below meth c E hr hlk hnm hsz hC hF ls hl
  subst hsz
  obtain ⟨hx, hb, -⟩ := id E
  have hA : ∀ q, (P) q → N0 ≤ q := hPN
  have hn : ∀ q, s.heap.size ≤ q → (P) q := hPs
  have hS : va_S (P) s.heap s.heap [] := va_S.rf
  have hl : lv_has ls 4 [(0, .ref mo), (1, .int x1), (2, .int x2)] := hl
  have hM : MI D tk sa P mo tt bb eT eB oT oB pk ca rf vs kn n9 th s.heap := hF
  obtain ⟨ra, rl, ex, ro, rt, fo, fj, fk, fe, fr, fw, ⟨hPm, hPa, hPl, hPe, hPr, hPk⟩, hFk, hFe, hFr, hpk, hn9⟩ := hM
  have g_fo := hPm
  have g_fj := hPa
  refine lv_aload_n (pc := 0) hx hb dX5_swap_0 rfl (lv_at hl 0 rfl) ?_
  refine lv_iload_n (pc := 1) hx hb dX5_swap_1 rfl (lv_at hl 1 rfl) ?_
  refine lv_iload_n (pc := 2) hx hb dX5_swap_2 rfl (lv_at hl 2 rfl) ?_
  refine k_i (pc := 3) (k_S E hC hS hA hl.1 (c_X5_areNo l D tk N0 sa s.heap.size x1 x2 ) kw_1286 kw_1287 kw_5 kw_1288 (n := 2) (by decide +kernel) rfl ⟨⟨rfl, rfl⟩, ⟨Nat.le_of_ble_eq_true rfl, Nat.le_of_ble_eq_true rfl⟩, (by dsimp only; omega), (by dsimp only; omega)⟩ rfl (Nat.le_of_ble_eq_true rfl) trivial dX5_swap_3) hS (fun q z w => absurd w (Nat.not_le.mpr z)) hn (fun r_1 H locs hR hz hk hS => ?_)
  have er_1 := hR
  have fw := fw.new hk
  have fo := fo.kept (hk _ fo.lt (Nat.not_le.mpr fo.lt))
  have fj := fj.kept (hk _ fj.lt (Nat.not_le.mpr fj.lt))
  have fk := fk.new hk
  have fe := fe.kept (hk _ fe.lt (Nat.not_le.mpr fe.lt))
  have fr := fr.kept (hk _ fr.lt (Nat.not_le.mpr fr.lt))
  refine lv_iconst (pc := 6) (v := 0) hx hb dX5_swap_6 (by decide) ?_
  have hZ0_ := hS.1
  have t_fo := fo.lt
  have t_fj := fj.lt
  have t_fk := fun k (hk9 : k < 6) => (fk k hk9).lt
  have t_fe := fe.lt
  have t_fr := fr.lt
  refine k_i (pc := 7) (k_V E hC hS hA hl.1 (c1.recv hC fo rfl) rfl (c_X5_fails l D tk N0 sa H.size P hPN (fun q h9 => hPs q (Nat.le_trans hS.1 h9)) mo n9 kn th tt bb eT eB oT oB pk ca rf vs r_1 0 ) kw_1251 kw_1253 kp_20 kw_5 kw_1254 (n := 2) (by decide +kernel) rfl ⟨⟨rfl, rfl⟩, ⟨Nat.le_of_ble_eq_true rfl, Nat.le_of_ble_eq_true rfl⟩, (by dsimp only; omega), (by dsimp only; omega)⟩ rfl (Nat.le_of_ble_eq_true rfl) ⟨_, _, _, _, _, fo, fj, fk, fe, fr, fw, ⟨hPm, hPa, hPl, hPe, hPr, hPk⟩, hFk, hFe, hFr, hpk, hn9⟩ dX5_swap_7) hS (fun q _ h => h) hn (fun r_3 H locs hR hz hk hS => ?_)
  obtain ⟨er_3, hM⟩ := hR
  obtain ⟨ra, rl, ex, ro, rt, fo, fj, fk, fe, fr, fw, ⟨hPm, hPa, hPl, hPe, hPr, hPk⟩, hFk, hFe, hFr, hpk, hn9⟩ := hM
  have g_fo := hPm
  have g_fj := hPa
  refine lv_if_eq (pc := 10) (tgt := 15) hx hb dX5_swap_10 (by decide) (fun c_4 => ?_) (fun c_4 => ?_)
  · refine lv_aload_n (pc := 15) hx hb dX5_swap_15 rfl (lv_at hl 0 rfl) ?_
    refine r_get (pc := 16) E hC fo 0 (v := .ref ra) rfl rfl (by decide) uX5 (List.mem_cons_of_mem _ kw_1209) (fun _ h => h) dX5_swap_16 ?_
    refine lv_iload_n (pc := 19) hx hb dX5_swap_19 rfl (lv_at hl 1 rfl) ?_
    obtain ⟨hx_5, hk_5⟩ := m_noN (m_ano (er_1.symm.trans (m_fl0 (er_3.symm.trans c_4)).1)).1
    refine r_aaldJ (pc := 20) E hC fj (nn x1) hx_5 hk_5 (by decide) rfl dX5_swap_20 ?_
    have fL6 := fk (nn x1) hk_5
    have mF_fL6 := hFk (nn x1) hk_5
    have Pq_fL6 := hPk (nn x1) hk_5
    refine lv_astore_n (pc := 21) (lv' := [(3, .ref (rt (nn x1))), (0, .ref mo), (1, .int x1), (2, .int x2)]) hx hb dX5_swap_21 rfl hl (by decide) rfl (fun ls hl => ?_)
    refine lv_aload_n (pc := 22) hx hb dX5_swap_22 rfl (lv_at hl 1 rfl) ?_
    refine r_get (pc := 23) E hC fo 0 (v := .ref ra) rfl rfl (by decide) uX5 (List.mem_cons_of_mem _ kw_1209) (fun _ h => h) dX5_swap_23 ?_
    refine lv_iload_n (pc := 26) hx hb dX5_swap_26 rfl (lv_at hl 2 rfl) ?_
    refine lv_aload_n (pc := 27) hx hb dX5_swap_27 rfl (lv_at hl 1 rfl) ?_
    refine r_get (pc := 28) E hC fo 0 (v := .ref ra) rfl rfl (by decide) uX5 (List.mem_cons_of_mem _ kw_1209) (fun _ h => h) dX5_swap_28 ?_
    refine lv_iload_n (pc := 31) hx hb dX5_swap_31 rfl (lv_at hl 3 rfl) ?_
    obtain ⟨hx_7, hk_7⟩ := m_noN (m_ano (er_1.symm.trans (m_fl0 (er_3.symm.trans c_4)).1)).2
    refine r_aaldJ (pc := 32) E hC fj (nn x2) hx_7 hk_7 (by decide) rfl dX5_swap_32 ?_
    have fL8 := fk (nn x2) hk_7
    have mF_fL8 := hFk (nn x2) hk_7
    have Pq_fL8 := hPk (nn x2) hk_7
    refine r_aastJ (pc := 33) E hC fj fL8 hS g_fj (nn x1) hx_5 hk_5 (by decide) dX5_swap_33 (fun H locs n_ ho hz hS => ?_)
    have fw := fw.put ho (fun q9 h9 => clA.ne h9 fj.cla (hC.oa 7 3 rfl rfl)) (fun q9 h9 => clA.ne h9 fj.cla (hC.aa 4 3 rfl rfl (by dsimp only; decide))) (fun q9 h9 => clA.ne h9 fj.cla (hC.cea (Or.inr rfl) 3 rfl))
    have nW_fj : ∀ k, k < 6 → rt k ≠ ra := fun k hk9 => clA.ne (fk k hk9).cla fj.cla (hC.aa 0 3 rfl rfl (by dsimp only; decide))
    have fo := fo.kept (ho _ (clA.ne fo.cl fj.cla (hC.oa 13 3 rfl rfl)))
    have fk := fk.kept (fun k hk9 => ho _ (nW_fj k hk9))
    have fe := fe.kept (ho _ (clA.ne fe.cla fj.cla (hC.aa 0 3 rfl rfl (by dsimp only; decide))))
    have fr := fr.kept (ho _ (clA.ne fr.cla fj.cla (hC.aa 0 3 rfl rfl (by dsimp only; decide))))
    have fL6 := fL6.kept (ho _ (clA.ne fL6.cla fj.cla (hC.aa 0 3 rfl rfl (by dsimp only; decide))))
    have fL8 := fL8.kept (ho _ (clA.ne fL8.cla fj.cla (hC.aa 0 3 rfl rfl (by dsimp only; decide))))
    have fk := fk.upd fL8 (nn x1)
    have fj := n_.upJ
    have hPk := m_upP hPk Pq_fL8 (nn x1)
    have hFk := m_upF hFk mF_fL8 (nn x1)
    refine lv_aload_n (pc := 34) hx hb dX5_swap_34 rfl (lv_at hl 1 rfl) ?_
    refine r_get (pc := 35) E hC fo 0 (v := .ref ra) rfl rfl (by decide) uX5 (List.mem_cons_of_mem _ kw_1209) (fun _ h => h) dX5_swap_35 ?_
    refine lv_iload_n (pc := 38) hx hb dX5_swap_38 rfl (lv_at hl 3 rfl) ?_
    refine lv_aload_n (pc := 39) hx hb dX5_swap_39 rfl (lv_at hl 0 rfl) ?_
    refine r_aastJ (pc := 40) E hC fj fL6 hS g_fj (nn x2) hx_7 hk_7 (by decide) dX5_swap_40 (fun H locs n_ ho hz hS => ?_)
    have fw := fw.put ho (fun q9 h9 => clA.ne h9 fj.cla (hC.oa 7 3 rfl rfl)) (fun q9 h9 => clA.ne h9 fj.cla (hC.aa 4 3 rfl rfl (by dsimp only; decide))) (fun q9 h9 => clA.ne h9 fj.cla (hC.cea (Or.inr rfl) 3 rfl))
    have nW_fj : ∀ k, k < 6 → (va_up rt (nn x1) (rt (nn x2))) k ≠ ra := fun k hk9 => clA.ne (fk k hk9).cla fj.cla (hC.aa 0 3 rfl rfl (by dsimp only; decide))
    have fo := fo.kept (ho _ (clA.ne fo.cl fj.cla (hC.oa 13 3 rfl rfl)))
    have fk := fk.kept (fun k hk9 => ho _ (nW_fj k hk9))
    have fe := fe.kept (ho _ (clA.ne fe.cla fj.cla (hC.aa 0 3 rfl rfl (by dsimp only; decide))))
    have fr := fr.kept (ho _ (clA.ne fr.cla fj.cla (hC.aa 0 3 rfl rfl (by dsimp only; decide))))
    have fL6 := fL6.kept (ho _ (clA.ne fL6.cla fj.cla (hC.aa 0 3 rfl rfl (by dsimp only; decide))))
    have fL8 := fL8.kept (ho _ (clA.ne fL8.cla fj.cla (hC.aa 0 3 rfl rfl (by dsimp only; decide))))
    have fk := fk.upd fL6 (nn x2)
    have fj := n_.upJ
    have hPk := m_upP hPk Pq_fL6 (nn x2)
    have hFk := m_upF hFk mF_fL6 (nn x2)
    refine lv_aload_n (pc := 41) hx hb dX5_swap_41 rfl (lv_at hl 1 rfl) ?_
    refine r_get (pc := 42) E hC fo 0 (v := .ref ra) rfl rfl (by decide) uX5 (List.mem_cons_of_mem _ kw_1209) (fun _ h => h) dX5_swap_42 ?_
    refine lv_iload_n (pc := 45) hx hb dX5_swap_45 rfl (lv_at hl 2 rfl) ?_
    refine r_aaldJ (pc := 46) E hC fj (nn x1) hx_5 hk_5 (by decide) rfl dX5_swap_46 ?_
    have fL9 := fk (nn x1) hk_5
    have mF_fL9 := hFk (nn x1) hk_5
    have Pq_fL9 := hPk (nn x1) hk_5
    refine lv_aload_n (pc := 47) hx hb dX5_swap_47 rfl (lv_at hl 0 rfl) ?_
    have hZ0_ := hS.1
    have t_fo := fo.lt
    have t_fj := fj.lt
    have t_fk := fun k (hk9 : k < 6) => (fk k hk9).lt
    have t_fe := fe.lt
    have t_fr := fr.lt
    have t_fL6 := fL6.lt
    have t_fL8 := fL8.lt
    have t_fL9 := fL9.lt
    refine k_i (pc := 48) (k_S E hC hS hA hl.1 (c_X5_order l D tk N0 sa H.size (((va_up ((va_up rt (nn x1) (rt (nn x2)))) (nn x2) (rt (nn x1)))) (nn x1)) ((va_up (va_up tt (nn x1) (tt (nn x2))) (nn x2) (tt (nn x1))) (nn x1)) ((va_up (va_up bb (nn x1) (bb (nn x2))) (nn x2) (bb (nn x1))) (nn x1)) (rt (nn x1)) (tt (nn x1)) (bb (nn x1)) ) kw_1268 kw_1269 kw_5 kw_1270 (n := 2) (by decide +kernel) rfl ⟨⟨rfl, rfl⟩, ⟨Nat.le_of_ble_eq_true rfl, Nat.le_of_ble_eq_true rfl⟩, (by dsimp only; omega), (by dsimp only; omega)⟩ rfl (Nat.le_of_ble_eq_true rfl) ⟨fL9, fL6⟩ dX5_swap_48) hS (fun q z w => absurd w (Nat.not_le.mpr z)) hn (fun r_10 H locs hR hz hk hS => ?_)
    have fw := fw.new hk
    have fo := fo.kept (hk _ fo.lt (Nat.not_le.mpr fo.lt))
    have fj := fj.kept (hk _ fj.lt (Nat.not_le.mpr fj.lt))
    have fk := fk.new hk
    have fe := fe.kept (hk _ fe.lt (Nat.not_le.mpr fe.lt))
    have fr := fr.kept (hk _ fr.lt (Nat.not_le.mpr fr.lt))
    have fL6 := fL6.kept (hk _ fL6.lt (Nat.not_le.mpr fL6.lt))
    have fL8 := fL8.kept (hk _ fL8.lt (Nat.not_le.mpr fL8.lt))
    have fL9 := fL9.kept (hk _ fL9.lt (Nat.not_le.mpr fL9.lt))
    have er_10 := hR
    refine lv_if_eq (pc := 51) (tgt := 58) hx hb dX5_swap_51 (by decide) (fun c_11 => ?_) (fun c_11 => ?_)
    · refine lv_iconst (pc := 58) (v := 0) hx hb dX5_swap_58 (by decide) ?_
      refine k_i (pc := 59) (k_S E hC hS hA hl.1 (c_X5_bit l D tk N0 sa H.size 0 ) kw_1271 kw_1272 kw_5 kw_1273 (n := 1) (by decide +kernel) rfl ⟨⟨rfl, rfl⟩, ⟨Nat.le_of_ble_eq_true rfl, Nat.le_of_ble_eq_true rfl⟩, (by dsimp only; omega), (by dsimp only; omega)⟩ rfl (Nat.le_of_ble_eq_true rfl) trivial dX5_swap_59) hS (fun q z w => absurd w (Nat.not_le.mpr z)) hn (fun r_12 H locs hR hz hk hS => ?_)
      have er_12 := hR
      have fw := fw.new hk
      have fo := fo.kept (hk _ fo.lt (Nat.not_le.mpr fo.lt))
      have fj := fj.kept (hk _ fj.lt (Nat.not_le.mpr fj.lt))
      have fk := fk.new hk
      have fe := fe.kept (hk _ fe.lt (Nat.not_le.mpr fe.lt))
      have fr := fr.kept (hk _ fr.lt (Nat.not_le.mpr fr.lt))
      have fL6 := fL6.kept (hk _ fL6.lt (Nat.not_le.mpr fL6.lt))
      have fL8 := fL8.kept (hk _ fL8.lt (Nat.not_le.mpr fL8.lt))
      have fL9 := fL9.kept (hk _ fL9.lt (Nat.not_le.mpr fL9.lt))
      refine r_iret (pc := 62) E hr hlk hS (by omega) (by omega) ?_ dX5_swap_62
      exact ⟨_, _, _, ⟨_, _, _, _, _, fo, fj, fk, fe, fr, fw, ⟨hPm, hPa, hPl, hPe, hPr, hPk⟩, hFk, hFe, hFr, hpk, hn9⟩, SW.ok (by subst er_1 er_3 er_10 er_12; first | rfl | (simp [m_or, m_not, m_is0, m_lt0, m_fl, c_4, c_11]; done)) rfl (er_3.symm.trans c_4) (by subst er_1 er_3 er_10 er_12; first | rfl | (simp [m_bit, m_sw, c_4, c_11]; done))⟩
    · refine lv_iconst (pc := 54) (v := 1) hx hb dX5_swap_54 (by decide) ?_
      refine lv_goto (pc := 55) (tgt := 59) hx hb dX5_swap_55 (by decide) ?_
      refine k_i (pc := 59) (k_S E hC hS hA hl.1 (c_X5_bit l D tk N0 sa H.size 1 ) kw_1271 kw_1272 kw_5 kw_1273 (n := 1) (by decide +kernel) rfl ⟨⟨rfl, rfl⟩, ⟨Nat.le_of_ble_eq_true rfl, Nat.le_of_ble_eq_true rfl⟩, (by dsimp only; omega), (by dsimp only; omega)⟩ rfl (Nat.le_of_ble_eq_true rfl) trivial dX5_swap_59) hS (fun q z w => absurd w (Nat.not_le.mpr z)) hn (fun r_14 H locs hR hz hk hS => ?_)
      have er_14 := hR
      have fw := fw.new hk
      have fo := fo.kept (hk _ fo.lt (Nat.not_le.mpr fo.lt))
      have fj := fj.kept (hk _ fj.lt (Nat.not_le.mpr fj.lt))
      have fk := fk.new hk
      have fe := fe.kept (hk _ fe.lt (Nat.not_le.mpr fe.lt))
      have fr := fr.kept (hk _ fr.lt (Nat.not_le.mpr fr.lt))
      have fL6 := fL6.kept (hk _ fL6.lt (Nat.not_le.mpr fL6.lt))
      have fL8 := fL8.kept (hk _ fL8.lt (Nat.not_le.mpr fL8.lt))
      have fL9 := fL9.kept (hk _ fL9.lt (Nat.not_le.mpr fL9.lt))
      refine r_iret (pc := 62) E hr hlk hS (by omega) (by omega) ?_ dX5_swap_62
      exact ⟨_, _, _, ⟨_, _, _, _, _, fo, fj, fk, fe, fr, fw, ⟨hPm, hPa, hPl, hPe, hPr, hPk⟩, hFk, hFe, hFr, hpk, hn9⟩, SW.ok (by subst er_1 er_3 er_10 er_14; first | rfl | (simp [m_or, m_not, m_is0, m_lt0, m_fl, c_4, c_11]; done)) rfl (er_3.symm.trans c_4) (by subst er_1 er_3 er_10 er_14; first | rfl | (simp [m_bit, m_sw, c_4, c_11]; done))⟩
  · refine lv_iconst (pc := 13) (v := 0) hx hb dX5_swap_13 (by decide) ?_
    refine r_iret (pc := 14) E hr hlk hS (by omega) (by omega) ?_ dX5_swap_14
    exact ⟨_, _, _, ⟨_, _, _, _, _, fo, fj, fk, fe, fr, fw, ⟨hPm, hPa, hPl, hPe, hPr, hPk⟩, hFk, hFe, hFr, hpk, hn9⟩, SW.fail (by subst er_1 er_3; first | rfl | (simp [m_or, m_not, m_is0, m_lt0, m_fl, c_4]; done)) rfl (fun z9 => c_4 (er_3.trans z9))⟩
set_option maxHeartbeats 4000000 in
set_option maxRecDepth 100000 in
/-- BestratiosModel.plus(III)I -/
theorem c_X5_plus (l : Launch) (D : va_G) (tk : Nat → ClassId) (N0 : Nat) (sa : Nat → Nat)  (sz : Nat) (P : Nat → Prop) (hPN : ∀ q, P q → N0 ≤ q) (hPs : ∀ q, sz ≤ q → P q) (mo n9 : Nat) (kn th : Int32) (tt bb : Nat → Int64) (eT eB oT oB : Int64) (pk : Nat) (ca rf : Int32) (vs : Nat → Value) (x1 : Int32) (x2 : Int32) (x3 : Int32) : Met l yX5_plus (wsy yX5_plus cX5_plus 4 (some .int)) ({ frames := 4, cells := 1, slots := 2, locals := 99 } : Room) (cP D tk N0 sa [.ref mo, .int x1, .int x2, .int x3] sz (fun H => MI D tk sa P mo tt bb eT eB oT oB pk ca rf vs kn n9 th H)) (kQi (fun r H => ∃ th1 tt1 bb1 rf1, MI D tk sa P mo tt1 bb1 eT eB oT oB pk ca rf1 vs kn n9 th1 H ∧ AC (m_or (m_isNo x1) (m_areNo x2 x3)) 0 tt bb rf (nn x1) (LO (tt (nn x2) * bb (nn x3) + (1 : Int32).toInt64 * (tt (nn x3) * bb (nn x2))) (bb (nn x2) * bb (nn x3))) r th1 tt1 bb1 rf1) (P)) (1) (2) (P) := by
  refine mStart RX5 rfl (by decide +kernel) (Nat.le_of_ble_eq_true rfl) ?_
  intro p e s m args below meth c E hr hlk hnm hsz hC hF ls hl
  subst hsz
  obtain ⟨hx, hb, -⟩ := id E
  have hA : ∀ q, (P) q → N0 ≤ q := hPN
  have hn : ∀ q, s.heap.size ≤ q → (P) q := hPs
  have hS : va_S (P) s.heap s.heap [] := va_S.rf
  have hl : lv_has ls 4 [(0, .ref mo), (1, .int x1), (2, .int x2), (3, .int x3)] := hl
  have hM : MI D tk sa P mo tt bb eT eB oT oB pk ca rf vs kn n9 th s.heap := hF
  obtain ⟨ra, rl, ex, ro, rt, fo, fj, fk, fe, fr, fw, ⟨hPm, hPa, hPl, hPe, hPr, hPk⟩, hFk, hFe, hFr, hpk, hn9⟩ := hM
  have g_fo := hPm
  have g_fj := hPa
  refine lv_aload_n (pc := 0) hx hb dX5_plus_0 rfl (lv_at hl 0 rfl) ?_
  refine lv_iload_n (pc := 1) hx hb dX5_plus_1 rfl (lv_at hl 1 rfl) ?_
  refine k_i (pc := 2) (k_S E hC hS hA hl.1 (c_X5_isNo l D tk N0 sa s.heap.size x1 ) kw_1245 kw_1246 kw_5 kw_1247 (n := 1) (by decide +kernel) rfl ⟨⟨rfl, rfl⟩, ⟨Nat.le_of_ble_eq_true rfl, Nat.le_of_ble_eq_true rfl⟩, (by dsimp only; omega), (by dsimp only; omega)⟩ rfl (Nat.le_of_ble_eq_true rfl) trivial dX5_plus_2) hS (fun q z w => absurd w (Nat.not_le.mpr z)) hn (fun r_1 H locs hR hz hk hS => ?_)
  have er_1 := hR
  have fw := fw.new hk
  have fo := fo.kept (hk _ fo.lt (Nat.not_le.mpr fo.lt))
  have fj := fj.kept (hk _ fj.lt (Nat.not_le.mpr fj.lt))
  have fk := fk.new hk
  have fe := fe.kept (hk _ fe.lt (Nat.not_le.mpr fe.lt))
  have fr := fr.kept (hk _ fr.lt (Nat.not_le.mpr fr.lt))
  refine lv_if_ne (pc := 5) (tgt := 16) hx hb dX5_plus_5 (by decide) (fun c_3 => ?_) (fun c_3 => ?_)
  · refine lv_iconst (pc := 16) (v := 1) hx hb dX5_plus_16 (by decide) ?_
    refine lv_goto (pc := 17) (tgt := 21) hx hb dX5_plus_17 (by decide) ?_
    refine lv_iconst (pc := 21) (v := 0) hx hb dX5_plus_21 (by decide) ?_
    have hZ0_ := hS.1
    have t_fo := fo.lt
    have t_fj := fj.lt
    have t_fk := fun k (hk9 : k < 6) => (fk k hk9).lt
    have t_fe := fe.lt
    have t_fr := fr.lt
    refine k_i (pc := 22) (k_V E hC hS hA hl.1 (c1.recv hC fo rfl) rfl (c_X5_fails l D tk N0 sa H.size P hPN (fun q h9 => hPs q (Nat.le_trans hS.1 h9)) mo n9 kn th tt bb eT eB oT oB pk ca rf vs 1 0 ) kw_1251 kw_1253 kp_20 kw_5 kw_1254 (n := 2) (by decide +kernel) rfl ⟨⟨rfl, rfl⟩, ⟨Nat.le_of_ble_eq_true rfl, Nat.le_of_ble_eq_true rfl⟩, (by dsimp only; omega), (by dsimp only; omega)⟩ rfl (Nat.le_of_ble_eq_true rfl) ⟨_, _, _, _, _, fo, fj, fk, fe, fr, fw, ⟨hPm, hPa, hPl, hPe, hPr, hPk⟩, hFk, hFe, hFr, hpk, hn9⟩ dX5_plus_22) hS (fun q _ h => h) hn (fun r_4 H locs hR hz hk hS => ?_)
    obtain ⟨er_4, hM⟩ := hR
    obtain ⟨ra, rl, ex, ro, rt, fo, fj, fk, fe, fr, fw, ⟨hPm, hPa, hPl, hPe, hPr, hPk⟩, hFk, hFe, hFr, hpk, hn9⟩ := hM
    have g_fo := hPm
    have g_fj := hPa
    have ef_r_4 : r_4 = 1 := er_4.trans (if_neg (by decide))
    rw [ef_r_4]
    refine lv_if_eq (pc := 25) (tgt := 32) hx hb dX5_plus_25 (by decide) (fun c_5 => ?_) (fun c_5 => ?_)
    · exact absurd c_5 (by decide)
    refine lv_iconst (pc := 28) (v := 0) hx hb dX5_plus_28 (by decide) ?_
    refine lv_goto (pc := 29) (tgt := 53) hx hb dX5_plus_29 (by decide) ?_
    refine r_iret (pc := 53) E hr hlk hS (by omega) (by omega) ?_ dX5_plus_53
    exact ⟨_, _, _, _, ⟨_, _, _, _, _, fo, fj, fk, fe, fr, fw, ⟨hPm, hPa, hPl, hPe, hPr, hPk⟩, hFk, hFe, hFr, hpk, hn9⟩, AC.fail (by subst er_1; first | rfl | (simp [m_or, m_not, m_is0, m_lt0, m_fl, c_3]; done)) (by subst er_1; first | rfl | (simp [m_or, m_not, m_is0, m_lt0, m_fl, c_3]; done)) (fun z9 => absurd (ef_r_4.symm.trans (er_4.trans z9)) (by decide))⟩
  · refine lv_iload_n (pc := 8) hx hb dX5_plus_8 rfl (lv_at hl 2 rfl) ?_
    refine lv_iload_n (pc := 9) hx hb dX5_plus_9 rfl (lv_at hl 3 rfl) ?_
    refine k_i (pc := 10) (k_S E hC hS hA hl.1 (c_X5_areNo l D tk N0 sa H.size x2 x3 ) kw_1286 kw_1287 kw_5 kw_1288 (n := 2) (by decide +kernel) rfl ⟨⟨rfl, rfl⟩, ⟨Nat.le_of_ble_eq_true rfl, Nat.le_of_ble_eq_true rfl⟩, (by dsimp only; omega), (by dsimp only; omega)⟩ rfl (Nat.le_of_ble_eq_true rfl) trivial dX5_plus_10) hS (fun q z w => absurd w (Nat.not_le.mpr z)) hn (fun r_6 H locs hR hz hk hS => ?_)
    have er_6 := hR
    have fw := fw.new hk
    have fo := fo.kept (hk _ fo.lt (Nat.not_le.mpr fo.lt))
    have fj := fj.kept (hk _ fj.lt (Nat.not_le.mpr fj.lt))
    have fk := fk.new hk
    have fe := fe.kept (hk _ fe.lt (Nat.not_le.mpr fe.lt))
    have fr := fr.kept (hk _ fr.lt (Nat.not_le.mpr fr.lt))
    refine lv_if_eq (pc := 13) (tgt := 20) hx hb dX5_plus_13 (by decide) (fun c_8 => ?_) (fun c_8 => ?_)
    · refine lv_iconst (pc := 20) (v := 0) hx hb dX5_plus_20 (by decide) ?_
      refine lv_iconst (pc := 21) (v := 0) hx hb dX5_plus_21 (by decide) ?_
      have hZ0_ := hS.1
      have t_fo := fo.lt
      have t_fj := fj.lt
      have t_fk := fun k (hk9 : k < 6) => (fk k hk9).lt
      have t_fe := fe.lt
      have t_fr := fr.lt
      refine k_i (pc := 22) (k_V E hC hS hA hl.1 (c1.recv hC fo rfl) rfl (c_X5_fails l D tk N0 sa H.size P hPN (fun q h9 => hPs q (Nat.le_trans hS.1 h9)) mo n9 kn th tt bb eT eB oT oB pk ca rf vs 0 0 ) kw_1251 kw_1253 kp_20 kw_5 kw_1254 (n := 2) (by decide +kernel) rfl ⟨⟨rfl, rfl⟩, ⟨Nat.le_of_ble_eq_true rfl, Nat.le_of_ble_eq_true rfl⟩, (by dsimp only; omega), (by dsimp only; omega)⟩ rfl (Nat.le_of_ble_eq_true rfl) ⟨_, _, _, _, _, fo, fj, fk, fe, fr, fw, ⟨hPm, hPa, hPl, hPe, hPr, hPk⟩, hFk, hFe, hFr, hpk, hn9⟩ dX5_plus_22) hS (fun q _ h => h) hn (fun r_9 H locs hR hz hk hS => ?_)
      obtain ⟨er_9, hM⟩ := hR
      obtain ⟨ra, rl, ex, ro, rt, fo, fj, fk, fe, fr, fw, ⟨hPm, hPa, hPl, hPe, hPr, hPk⟩, hFk, hFe, hFr, hpk, hn9⟩ := hM
      have g_fo := hPm
      have g_fj := hPa
      have ef_r_9 : r_9 = 0 := er_9.trans rfl
      rw [ef_r_9]
      refine lv_if_eq (pc := 25) (tgt := 32) hx hb dX5_plus_25 (by decide) (fun c_10 => ?_) (fun c_10 => ?_)
      rotate_left
      · exact absurd (by decide) c_10
      refine lv_aload_n (pc := 32) hx hb dX5_plus_32 rfl (lv_at hl 0 rfl) ?_
      refine lv_iload_n (pc := 33) hx hb dX5_plus_33 rfl (lv_at hl 1 rfl) ?_
      refine lv_aload_n (pc := 34) hx hb dX5_plus_34 rfl (lv_at hl 0 rfl) ?_
      refine r_get (pc := 35) E hC fo 0 (v := .ref ra) rfl rfl (by decide) uX5 (List.mem_cons_of_mem _ kw_1209) (fun _ h => h) dX5_plus_35 ?_
      refine lv_iload_n (pc := 38) hx hb dX5_plus_38 rfl (lv_at hl 2 rfl) ?_
      obtain ⟨hx_11, hk_11⟩ := m_noN (m_ano (er_6.symm.trans c_8)).1
      refine r_aaldJ (pc := 39) E hC fj (nn x2) hx_11 hk_11 (by decide) rfl dX5_plus_39 ?_
      have fL12 := fk (nn x2) hk_11
      have mF_fL12 := hFk (nn x2) hk_11
      have Pq_fL12 := hPk (nn x2) hk_11
      refine lv_aload_n (pc := 40) hx hb dX5_plus_40 rfl (lv_at hl 0 rfl) ?_
      refine r_get (pc := 41) E hC fo 0 (v := .ref ra) rfl rfl (by decide) uX5 (List.mem_cons_of_mem _ kw_1209) (fun _ h => h) dX5_plus_41 ?_
      refine lv_iload_n (pc := 44) hx hb dX5_plus_44 rfl (lv_at hl 3 rfl) ?_
      obtain ⟨hx_13, hk_13⟩ := m_noN (m_ano (er_6.symm.trans c_8)).2
      refine r_aaldJ (pc := 45) E hC fj (nn x3) hx_13 hk_13 (by decide) rfl dX5_plus_45 ?_
      have fL14 := fk (nn x3) hk_13
      have mF_fL14 := hFk (nn x3) hk_13
      have Pq_fL14 := hPk (nn x3) hk_13
      refine lv_iconst (pc := 46) (v := 1) hx hb dX5_plus_46 (by decide) ?_
      have hP9 := m_sumP 1 mF_fL12 mF_fL14 (by decide)
      have hZ0_ := hS.1
      have t_fo := fo.lt
      have t_fj := fj.lt
      have t_fk := fun k (hk9 : k < 6) => (fk k hk9).lt
      have t_fe := fe.lt
      have t_fr := fr.lt
      have t_fL12 := fL12.lt
      have t_fL14 := fL14.lt
      refine k_r (pc := 47) (k_S E hC hS hA hl.1 (c_X5_sum l D tk N0 sa H.size (rt (nn x2)) (tt (nn x2)) (bb (nn x2)) (rt (nn x3)) (tt (nn x3)) (bb (nn x3)) 1 hP9.1) kw_1297 kw_1298 kw_5 kw_1299 (n := 3) (by decide +kernel) rfl ⟨⟨rfl, rfl⟩, ⟨Nat.le_of_ble_eq_true rfl, Nat.le_of_ble_eq_true rfl⟩, (by dsimp only; omega), (by dsimp only; omega)⟩ rfl (Nat.le_of_ble_eq_true rfl) ⟨fL12, fL14⟩ dX5_plus_47) hS (fun q z w => absurd w (Nat.not_le.mpr z)) hn (fun r_15 H locs hR hz hk hS => ?_)
      have fw := fw.new hk
      have fo := fo.kept (hk _ fo.lt (Nat.not_le.mpr fo.lt))
      have fj := fj.kept (hk _ fj.lt (Nat.not_le.mpr fj.lt))
      have fk := fk.new hk
      have fe := fe.kept (hk _ fe.lt (Nat.not_le.mpr fe.lt))
      have fr := fr.kept (hk _ fr.lt (Nat.not_le.mpr fr.lt))
      have fL12 := fL12.kept (hk _ fL12.lt (Nat.not_le.mpr fL12.lt))
      have fL14 := fL14.kept (hk _ fL14.lt (Nat.not_le.mpr fL14.lt))
      obtain ⟨z9_, f16⟩ := hR
      have s_f16 : s.heap.size ≤ r_15 := Nat.le_trans hZ0_ z9_
      have g_f16 := hn _ s_f16
      have l_fo_f16 : mo < r_15 := Nat.lt_of_lt_of_le t_fo z9_
      have l_fj_f16 : ra < r_15 := Nat.lt_of_lt_of_le t_fj z9_
      have nW_f16 : ∀ k, k < 6 → rt k ≠ r_15 := fun k hk9 => Nat.ne_of_lt (Nat.lt_of_lt_of_le (t_fk k hk9) z9_)
      have l_fe_f16 : ex < r_15 := Nat.lt_of_lt_of_le t_fe z9_
      have l_fr_f16 : ro < r_15 := Nat.lt_of_lt_of_le t_fr z9_
      have l_fL12_f16 : rt (nn x2) < r_15 := Nat.lt_of_lt_of_le t_fL12 z9_
      have l_fL14_f16 : rt (nn x3) < r_15 := Nat.lt_of_lt_of_le t_fL14 z9_
      have hZ0_ := hS.1
      have t_fo := fo.lt
      have t_fj := fj.lt
      have t_fk := fun k (hk9 : k < 6) => (fk k hk9).lt
      have t_fe := fe.lt
      have t_fr := fr.lt
      have t_fL12 := fL12.lt
      have t_fL14 := fL14.lt
      have t_f16 := f16.lt
      obtain ⟨hx_17, hk_17⟩ := m_noN (er_1.symm.trans c_3)
      refine k_i (pc := 50) (k_V E hC hS hA hl.1 (c1.recv hC fo rfl) rfl (c_X5_become l D tk N0 sa H.size P hPN (fun q h9 => hPs q (Nat.le_trans hS.1 h9)) mo n9 kn ((m_th 0 0)) tt bb eT eB oT oB pk ca rf vs x1 (nn x1) hx_17 hk_17 r_15 (m_loT ((tt (nn x2)) * (bb (nn x3)) + ((1 : Int32)).toInt64 * ((tt (nn x3)) * (bb (nn x2)))) ((bb (nn x2)) * (bb (nn x3)))) (m_loB ((tt (nn x2)) * (bb (nn x3)) + ((1 : Int32)).toInt64 * ((tt (nn x3)) * (bb (nn x2)))) ((bb (nn x2)) * (bb (nn x3)))) (hPs _ s_f16) hP9.2.1) kw_1255 kw_1257 kp_21 kw_5 kw_1258 (n := 2) (by decide +kernel) rfl ⟨⟨rfl, rfl⟩, ⟨Nat.le_of_ble_eq_true rfl, Nat.le_of_ble_eq_true rfl⟩, (by dsimp only; omega), (by dsimp only; omega)⟩ rfl (Nat.le_of_ble_eq_true rfl) ⟨⟨_, _, _, _, _, fo, fj, fk, fe, fr, fw, ⟨hPm, hPa, hPl, hPe, hPr, hPk⟩, hFk, hFe, hFr, hpk, hn9⟩, f16⟩ dX5_plus_50) hS (fun q _ h => h) hn (fun r_18 H locs hR hz hk hS => ?_)
      obtain ⟨tt_19, bb_19, rf_19, hM, hBE_19⟩ := hR
      obtain ⟨ra, rl, ex, ro, rt, fo, fj, fk, fe, fr, fw, ⟨hPm, hPa, hPl, hPe, hPr, hPk⟩, hFk, hFe, hFr, hpk, hn9⟩ := hM
      have g_fo := hPm
      have g_fj := hPa
      refine r_iret (pc := 53) E hr hlk hS (by omega) (by omega) ?_ dX5_plus_53
      exact ⟨_, _, _, _, ⟨_, _, _, _, _, fo, fj, fk, fe, fr, fw, ⟨hPm, hPa, hPl, hPe, hPr, hPk⟩, hFk, hFe, hFr, hpk, hn9⟩, AC.ok (by subst er_1 er_6; first | rfl | (simp [m_or, m_not, m_is0, m_lt0, m_fl, c_3, c_8]; done)) (by subst er_1 er_6; first | rfl | (simp [m_or, m_not, m_is0, m_lt0, m_fl, c_3, c_8]; done)) (er_9.symm.trans ef_r_9) (hBE_19.cast (by subst er_1 er_6; first | rfl | (simp [LO, c_3, c_8]; done)))⟩
    · refine lv_iconst (pc := 16) (v := 1) hx hb dX5_plus_16 (by decide) ?_
      refine lv_goto (pc := 17) (tgt := 21) hx hb dX5_plus_17 (by decide) ?_
      refine lv_iconst (pc := 21) (v := 0) hx hb dX5_plus_21 (by decide) ?_
      have hZ0_ := hS.1
      have t_fo := fo.lt
      have t_fj := fj.lt
      have t_fk := fun k (hk9 : k < 6) => (fk k hk9).lt
      have t_fe := fe.lt
      have t_fr := fr.lt
      refine k_i (pc := 22) (k_V E hC hS hA hl.1 (c1.recv hC fo rfl) rfl (c_X5_fails l D tk N0 sa H.size P hPN (fun q h9 => hPs q (Nat.le_trans hS.1 h9)) mo n9 kn th tt bb eT eB oT oB pk ca rf vs 1 0 ) kw_1251 kw_1253 kp_20 kw_5 kw_1254 (n := 2) (by decide +kernel) rfl ⟨⟨rfl, rfl⟩, ⟨Nat.le_of_ble_eq_true rfl, Nat.le_of_ble_eq_true rfl⟩, (by dsimp only; omega), (by dsimp only; omega)⟩ rfl (Nat.le_of_ble_eq_true rfl) ⟨_, _, _, _, _, fo, fj, fk, fe, fr, fw, ⟨hPm, hPa, hPl, hPe, hPr, hPk⟩, hFk, hFe, hFr, hpk, hn9⟩ dX5_plus_22) hS (fun q _ h => h) hn (fun r_20 H locs hR hz hk hS => ?_)
      obtain ⟨er_20, hM⟩ := hR
      obtain ⟨ra, rl, ex, ro, rt, fo, fj, fk, fe, fr, fw, ⟨hPm, hPa, hPl, hPe, hPr, hPk⟩, hFk, hFe, hFr, hpk, hn9⟩ := hM
      have g_fo := hPm
      have g_fj := hPa
      have ef_r_20 : r_20 = 1 := er_20.trans (if_neg (by decide))
      rw [ef_r_20]
      refine lv_if_eq (pc := 25) (tgt := 32) hx hb dX5_plus_25 (by decide) (fun c_21 => ?_) (fun c_21 => ?_)
      · exact absurd c_21 (by decide)
      refine lv_iconst (pc := 28) (v := 0) hx hb dX5_plus_28 (by decide) ?_
      refine lv_goto (pc := 29) (tgt := 53) hx hb dX5_plus_29 (by decide) ?_
      refine r_iret (pc := 53) E hr hlk hS (by omega) (by omega) ?_ dX5_plus_53
      exact ⟨_, _, _, _, ⟨_, _, _, _, _, fo, fj, fk, fe, fr, fw, ⟨hPm, hPa, hPl, hPe, hPr, hPk⟩, hFk, hFe, hFr, hpk, hn9⟩, AC.fail (by subst er_1 er_6; first | rfl | (simp [m_or, m_not, m_is0, m_lt0, m_fl, c_3, c_8]; done)) (by subst er_1 er_6; first | rfl | (simp [m_or, m_not, m_is0, m_lt0, m_fl, c_3, c_8]; done)) (fun z9 => absurd (ef_r_20.symm.trans (er_20.trans z9)) (by decide))⟩
set_option maxHeartbeats 4000000 in
set_option maxRecDepth 100000 in
/-- BestratiosModel.minus(III)I -/
theorem c_X5_minus (l : Launch) (D : va_G) (tk : Nat → ClassId) (N0 : Nat) (sa : Nat → Nat)  (sz : Nat) (P : Nat → Prop) (hPN : ∀ q, P q → N0 ≤ q) (hPs : ∀ q, sz ≤ q → P q) (mo n9 : Nat) (kn th : Int32) (tt bb : Nat → Int64) (eT eB oT oB : Int64) (pk : Nat) (ca rf : Int32) (vs : Nat → Value) (x1 : Int32) (x2 : Int32) (x3 : Int32) : Met l yX5_minus (wsy yX5_minus cX5_minus 4 (some .int)) ({ frames := 4, cells := 1, slots := 2, locals := 99 } : Room) (cP D tk N0 sa [.ref mo, .int x1, .int x2, .int x3] sz (fun H => MI D tk sa P mo tt bb eT eB oT oB pk ca rf vs kn n9 th H)) (kQi (fun r H => ∃ th1 tt1 bb1 rf1, MI D tk sa P mo tt1 bb1 eT eB oT oB pk ca rf1 vs kn n9 th1 H ∧ AC (m_or (m_isNo x1) (m_areNo x2 x3)) 0 tt bb rf (nn x1) (LO (tt (nn x2) * bb (nn x3) + (-1 : Int32).toInt64 * (tt (nn x3) * bb (nn x2))) (bb (nn x2) * bb (nn x3))) r th1 tt1 bb1 rf1) (P)) (1) (2) (P) := by
  refine mStart RX5 rfl (by decide +kernel) (Nat.le_of_ble_eq_true rfl) ?_
  intro p e s m args below meth c E hr hlk hnm hsz hC hF ls hl
  subst hsz
  obtain ⟨hx, hb, -⟩ := id E
  have hA : ∀ q, (P) q → N0 ≤ q := hPN
  have hn : ∀ q, s.heap.size ≤ q → (P) q := hPs
  have hS : va_S (P) s.heap s.heap [] := va_S.rf
  have hl : lv_has ls 4 [(0, .ref mo), (1, .int x1), (2, .int x2), (3, .int x3)] := hl
  have hM : MI D tk sa P mo tt bb eT eB oT oB pk ca rf vs kn n9 th s.heap := hF
  obtain ⟨ra, rl, ex, ro, rt, fo, fj, fk, fe, fr, fw, ⟨hPm, hPa, hPl, hPe, hPr, hPk⟩, hFk, hFe, hFr, hpk, hn9⟩ := hM
  have g_fo := hPm
  have g_fj := hPa
  refine lv_aload_n (pc := 0) hx hb dX5_minus_0 rfl (lv_at hl 0 rfl) ?_
  refine lv_iload_n (pc := 1) hx hb dX5_minus_1 rfl (lv_at hl 1 rfl) ?_
  refine k_i (pc := 2) (k_S E hC hS hA hl.1 (c_X5_isNo l D tk N0 sa s.heap.size x1 ) kw_1245 kw_1246 kw_5 kw_1247 (n := 1) (by decide +kernel) rfl ⟨⟨rfl, rfl⟩, ⟨Nat.le_of_ble_eq_true rfl, Nat.le_of_ble_eq_true rfl⟩, (by dsimp only; omega), (by dsimp only; omega)⟩ rfl (Nat.le_of_ble_eq_true rfl) trivial dX5_minus_2) hS (fun q z w => absurd w (Nat.not_le.mpr z)) hn (fun r_1 H locs hR hz hk hS => ?_)
  have er_1 := hR
  have fw := fw.new hk
  have fo := fo.kept (hk _ fo.lt (Nat.not_le.mpr fo.lt))
  have fj := fj.kept (hk _ fj.lt (Nat.not_le.mpr fj.lt))
  have fk := fk.new hk
  have fe := fe.kept (hk _ fe.lt (Nat.not_le.mpr fe.lt))
  have fr := fr.kept (hk _ fr.lt (Nat.not_le.mpr fr.lt))
  refine lv_if_ne (pc := 5) (tgt := 16) hx hb dX5_minus_5 (by decide) (fun c_3 => ?_) (fun c_3 => ?_)
  · refine lv_iconst (pc := 16) (v := 1) hx hb dX5_minus_16 (by decide) ?_
    refine lv_goto (pc := 17) (tgt := 21) hx hb dX5_minus_17 (by decide) ?_
    refine lv_iconst (pc := 21) (v := 0) hx hb dX5_minus_21 (by decide) ?_
    have hZ0_ := hS.1
    have t_fo := fo.lt
    have t_fj := fj.lt
    have t_fk := fun k (hk9 : k < 6) => (fk k hk9).lt
    have t_fe := fe.lt
    have t_fr := fr.lt
    refine k_i (pc := 22) (k_V E hC hS hA hl.1 (c1.recv hC fo rfl) rfl (c_X5_fails l D tk N0 sa H.size P hPN (fun q h9 => hPs q (Nat.le_trans hS.1 h9)) mo n9 kn th tt bb eT eB oT oB pk ca rf vs 1 0 ) kw_1251 kw_1253 kp_20 kw_5 kw_1254 (n := 2) (by decide +kernel) rfl ⟨⟨rfl, rfl⟩, ⟨Nat.le_of_ble_eq_true rfl, Nat.le_of_ble_eq_true rfl⟩, (by dsimp only; omega), (by dsimp only; omega)⟩ rfl (Nat.le_of_ble_eq_true rfl) ⟨_, _, _, _, _, fo, fj, fk, fe, fr, fw, ⟨hPm, hPa, hPl, hPe, hPr, hPk⟩, hFk, hFe, hFr, hpk, hn9⟩ dX5_minus_22) hS (fun q _ h => h) hn (fun r_4 H locs hR hz hk hS => ?_)
    obtain ⟨er_4, hM⟩ := hR
    obtain ⟨ra, rl, ex, ro, rt, fo, fj, fk, fe, fr, fw, ⟨hPm, hPa, hPl, hPe, hPr, hPk⟩, hFk, hFe, hFr, hpk, hn9⟩ := hM
    have g_fo := hPm
    have g_fj := hPa
    have ef_r_4 : r_4 = 1 := er_4.trans (if_neg (by decide))
    rw [ef_r_4]
    refine lv_if_eq (pc := 25) (tgt := 32) hx hb dX5_minus_25 (by decide) (fun c_5 => ?_) (fun c_5 => ?_)
    · exact absurd c_5 (by decide)
    refine lv_iconst (pc := 28) (v := 0) hx hb dX5_minus_28 (by decide) ?_
    refine lv_goto (pc := 29) (tgt := 53) hx hb dX5_minus_29 (by decide) ?_
    refine r_iret (pc := 53) E hr hlk hS (by omega) (by omega) ?_ dX5_minus_53
    exact ⟨_, _, _, _, ⟨_, _, _, _, _, fo, fj, fk, fe, fr, fw, ⟨hPm, hPa, hPl, hPe, hPr, hPk⟩, hFk, hFe, hFr, hpk, hn9⟩, AC.fail (by subst er_1; first | rfl | (simp [m_or, m_not, m_is0, m_lt0, m_fl, c_3]; done)) (by subst er_1; first | rfl | (simp [m_or, m_not, m_is0, m_lt0, m_fl, c_3]; done)) (fun z9 => absurd (ef_r_4.symm.trans (er_4.trans z9)) (by decide))⟩
  · refine lv_iload_n (pc := 8) hx hb dX5_minus_8 rfl (lv_at hl 2 rfl) ?_
    refine lv_iload_n (pc := 9) hx hb dX5_minus_9 rfl (lv_at hl 3 rfl) ?_
    refine k_i (pc := 10) (k_S E hC hS hA hl.1 (c_X5_areNo l D tk N0 sa H.size x2 x3 ) kw_1286 kw_1287 kw_5 kw_1288 (n := 2) (by decide +kernel) rfl ⟨⟨rfl, rfl⟩, ⟨Nat.le_of_ble_eq_true rfl, Nat.le_of_ble_eq_true rfl⟩, (by dsimp only; omega), (by dsimp only; omega)⟩ rfl (Nat.le_of_ble_eq_true rfl) trivial dX5_minus_10) hS (fun q z w => absurd w (Nat.not_le.mpr z)) hn (fun r_6 H locs hR hz hk hS => ?_)
    have er_6 := hR
    have fw := fw.new hk
    have fo := fo.kept (hk _ fo.lt (Nat.not_le.mpr fo.lt))
    have fj := fj.kept (hk _ fj.lt (Nat.not_le.mpr fj.lt))
    have fk := fk.new hk
    have fe := fe.kept (hk _ fe.lt (Nat.not_le.mpr fe.lt))
    have fr := fr.kept (hk _ fr.lt (Nat.not_le.mpr fr.lt))
    refine lv_if_eq (pc := 13) (tgt := 20) hx hb dX5_minus_13 (by decide) (fun c_8 => ?_) (fun c_8 => ?_)
    · refine lv_iconst (pc := 20) (v := 0) hx hb dX5_minus_20 (by decide) ?_
      refine lv_iconst (pc := 21) (v := 0) hx hb dX5_minus_21 (by decide) ?_
      have hZ0_ := hS.1
      have t_fo := fo.lt
      have t_fj := fj.lt
      have t_fk := fun k (hk9 : k < 6) => (fk k hk9).lt
      have t_fe := fe.lt
      have t_fr := fr.lt
      refine k_i (pc := 22) (k_V E hC hS hA hl.1 (c1.recv hC fo rfl) rfl (c_X5_fails l D tk N0 sa H.size P hPN (fun q h9 => hPs q (Nat.le_trans hS.1 h9)) mo n9 kn th tt bb eT eB oT oB pk ca rf vs 0 0 ) kw_1251 kw_1253 kp_20 kw_5 kw_1254 (n := 2) (by decide +kernel) rfl ⟨⟨rfl, rfl⟩, ⟨Nat.le_of_ble_eq_true rfl, Nat.le_of_ble_eq_true rfl⟩, (by dsimp only; omega), (by dsimp only; omega)⟩ rfl (Nat.le_of_ble_eq_true rfl) ⟨_, _, _, _, _, fo, fj, fk, fe, fr, fw, ⟨hPm, hPa, hPl, hPe, hPr, hPk⟩, hFk, hFe, hFr, hpk, hn9⟩ dX5_minus_22) hS (fun q _ h => h) hn (fun r_9 H locs hR hz hk hS => ?_)
      obtain ⟨er_9, hM⟩ := hR
      obtain ⟨ra, rl, ex, ro, rt, fo, fj, fk, fe, fr, fw, ⟨hPm, hPa, hPl, hPe, hPr, hPk⟩, hFk, hFe, hFr, hpk, hn9⟩ := hM
      have g_fo := hPm
      have g_fj := hPa
      have ef_r_9 : r_9 = 0 := er_9.trans rfl
      rw [ef_r_9]
      refine lv_if_eq (pc := 25) (tgt := 32) hx hb dX5_minus_25 (by decide) (fun c_10 => ?_) (fun c_10 => ?_)
      rotate_left
      · exact absurd (by decide) c_10
      refine lv_aload_n (pc := 32) hx hb dX5_minus_32 rfl (lv_at hl 0 rfl) ?_
      refine lv_iload_n (pc := 33) hx hb dX5_minus_33 rfl (lv_at hl 1 rfl) ?_
      refine lv_aload_n (pc := 34) hx hb dX5_minus_34 rfl (lv_at hl 0 rfl) ?_
      refine r_get (pc := 35) E hC fo 0 (v := .ref ra) rfl rfl (by decide) uX5 (List.mem_cons_of_mem _ kw_1209) (fun _ h => h) dX5_minus_35 ?_
      refine lv_iload_n (pc := 38) hx hb dX5_minus_38 rfl (lv_at hl 2 rfl) ?_
      obtain ⟨hx_11, hk_11⟩ := m_noN (m_ano (er_6.symm.trans c_8)).1
      refine r_aaldJ (pc := 39) E hC fj (nn x2) hx_11 hk_11 (by decide) rfl dX5_minus_39 ?_
      have fL12 := fk (nn x2) hk_11
      have mF_fL12 := hFk (nn x2) hk_11
      have Pq_fL12 := hPk (nn x2) hk_11
      refine lv_aload_n (pc := 40) hx hb dX5_minus_40 rfl (lv_at hl 0 rfl) ?_
      refine r_get (pc := 41) E hC fo 0 (v := .ref ra) rfl rfl (by decide) uX5 (List.mem_cons_of_mem _ kw_1209) (fun _ h => h) dX5_minus_41 ?_
      refine lv_iload_n (pc := 44) hx hb dX5_minus_44 rfl (lv_at hl 3 rfl) ?_
      obtain ⟨hx_13, hk_13⟩ := m_noN (m_ano (er_6.symm.trans c_8)).2
      refine r_aaldJ (pc := 45) E hC fj (nn x3) hx_13 hk_13 (by decide) rfl dX5_minus_45 ?_
      have fL14 := fk (nn x3) hk_13
      have mF_fL14 := hFk (nn x3) hk_13
      have Pq_fL14 := hPk (nn x3) hk_13
      refine lv_iconst (pc := 46) (v := (-1)) hx hb dX5_minus_46 (by decide) ?_
      have hP9 := m_sumP (-1) mF_fL12 mF_fL14 (by decide)
      have hZ0_ := hS.1
      have t_fo := fo.lt
      have t_fj := fj.lt
      have t_fk := fun k (hk9 : k < 6) => (fk k hk9).lt
      have t_fe := fe.lt
      have t_fr := fr.lt
      have t_fL12 := fL12.lt
      have t_fL14 := fL14.lt
      refine k_r (pc := 47) (k_S E hC hS hA hl.1 (c_X5_sum l D tk N0 sa H.size (rt (nn x2)) (tt (nn x2)) (bb (nn x2)) (rt (nn x3)) (tt (nn x3)) (bb (nn x3)) ((-1)) hP9.1) kw_1297 kw_1298 kw_5 kw_1299 (n := 3) (by decide +kernel) rfl ⟨⟨rfl, rfl⟩, ⟨Nat.le_of_ble_eq_true rfl, Nat.le_of_ble_eq_true rfl⟩, (by dsimp only; omega), (by dsimp only; omega)⟩ rfl (Nat.le_of_ble_eq_true rfl) ⟨fL12, fL14⟩ dX5_minus_47) hS (fun q z w => absurd w (Nat.not_le.mpr z)) hn (fun r_15 H locs hR hz hk hS => ?_)
      have fw := fw.new hk
      have fo := fo.kept (hk _ fo.lt (Nat.not_le.mpr fo.lt))
      have fj := fj.kept (hk _ fj.lt (Nat.not_le.mpr fj.lt))
      have fk := fk.new hk
      have fe := fe.kept (hk _ fe.lt (Nat.not_le.mpr fe.lt))
      have fr := fr.kept (hk _ fr.lt (Nat.not_le.mpr fr.lt))
      have fL12 := fL12.kept (hk _ fL12.lt (Nat.not_le.mpr fL12.lt))
      have fL14 := fL14.kept (hk _ fL14.lt (Nat.not_le.mpr fL14.lt))
      obtain ⟨z9_, f16⟩ := hR
      have s_f16 : s.heap.size ≤ r_15 := Nat.le_trans hZ0_ z9_
      have g_f16 := hn _ s_f16
      have l_fo_f16 : mo < r_15 := Nat.lt_of_lt_of_le t_fo z9_
      have l_fj_f16 : ra < r_15 := Nat.lt_of_lt_of_le t_fj z9_
      have nW_f16 : ∀ k, k < 6 → rt k ≠ r_15 := fun k hk9 => Nat.ne_of_lt (Nat.lt_of_lt_of_le (t_fk k hk9) z9_)
      have l_fe_f16 : ex < r_15 := Nat.lt_of_lt_of_le t_fe z9_
      have l_fr_f16 : ro < r_15 := Nat.lt_of_lt_of_le t_fr z9_
      have l_fL12_f16 : rt (nn x2) < r_15 := Nat.lt_of_lt_of_le t_fL12 z9_
      have l_fL14_f16 : rt (nn x3) < r_15 := Nat.lt_of_lt_of_le t_fL14 z9_
      have hZ0_ := hS.1
      have t_fo := fo.lt
      have t_fj := fj.lt
      have t_fk := fun k (hk9 : k < 6) => (fk k hk9).lt
      have t_fe := fe.lt
      have t_fr := fr.lt
      have t_fL12 := fL12.lt
      have t_fL14 := fL14.lt
      have t_f16 := f16.lt
      obtain ⟨hx_17, hk_17⟩ := m_noN (er_1.symm.trans c_3)
      refine k_i (pc := 50) (k_V E hC hS hA hl.1 (c1.recv hC fo rfl) rfl (c_X5_become l D tk N0 sa H.size P hPN (fun q h9 => hPs q (Nat.le_trans hS.1 h9)) mo n9 kn ((m_th 0 0)) tt bb eT eB oT oB pk ca rf vs x1 (nn x1) hx_17 hk_17 r_15 (m_loT ((tt (nn x2)) * (bb (nn x3)) + (((-1) : Int32)).toInt64 * ((tt (nn x3)) * (bb (nn x2)))) ((bb (nn x2)) * (bb (nn x3)))) (m_loB ((tt (nn x2)) * (bb (nn x3)) + (((-1) : Int32)).toInt64 * ((tt (nn x3)) * (bb (nn x2)))) ((bb (nn x2)) * (bb (nn x3)))) (hPs _ s_f16) hP9.2.1) kw_1255 kw_1257 kp_21 kw_5 kw_1258 (n := 2) (by decide +kernel) rfl ⟨⟨rfl, rfl⟩, ⟨Nat.le_of_ble_eq_true rfl, Nat.le_of_ble_eq_true rfl⟩, (by dsimp only; omega), (by dsimp only; omega)⟩ rfl (Nat.le_of_ble_eq_true rfl) ⟨⟨_, _, _, _, _, fo, fj, fk, fe, fr, fw, ⟨hPm, hPa, hPl, hPe, hPr, hPk⟩, hFk, hFe, hFr, hpk, hn9⟩, f16⟩ dX5_minus_50) hS (fun q _ h => h) hn (fun r_18 H locs hR hz hk hS => ?_)
      obtain ⟨tt_19, bb_19, rf_19, hM, hBE_19⟩ := hR
      obtain ⟨ra, rl, ex, ro, rt, fo, fj, fk, fe, fr, fw, ⟨hPm, hPa, hPl, hPe, hPr, hPk⟩, hFk, hFe, hFr, hpk, hn9⟩ := hM
      have g_fo := hPm
      have g_fj := hPa
      refine r_iret (pc := 53) E hr hlk hS (by omega) (by omega) ?_ dX5_minus_53
      exact ⟨_, _, _, _, ⟨_, _, _, _, _, fo, fj, fk, fe, fr, fw, ⟨hPm, hPa, hPl, hPe, hPr, hPk⟩, hFk, hFe, hFr, hpk, hn9⟩, AC.ok (by subst er_1 er_6; first | rfl | (simp [m_or, m_not, m_is0, m_lt0, m_fl, c_3, c_8]; done)) (by subst er_1 er_6; first | rfl | (simp [m_or, m_not, m_is0, m_lt0, m_fl, c_3, c_8]; done)) (er_9.symm.trans ef_r_9) (hBE_19.cast (by subst er_1 er_6; first | rfl | (simp [LO, c_3, c_8]; done)))⟩
    · refine lv_iconst (pc := 16) (v := 1) hx hb dX5_minus_16 (by decide) ?_
      refine lv_goto (pc := 17) (tgt := 21) hx hb dX5_minus_17 (by decide) ?_
      refine lv_iconst (pc := 21) (v := 0) hx hb dX5_minus_21 (by decide) ?_
      have hZ0_ := hS.1
      have t_fo := fo.lt
      have t_fj := fj.lt
      have t_fk := fun k (hk9 : k < 6) => (fk k hk9).lt
      have t_fe := fe.lt
      have t_fr := fr.lt
      refine k_i (pc := 22) (k_V E hC hS hA hl.1 (c1.recv hC fo rfl) rfl (c_X5_fails l D tk N0 sa H.size P hPN (fun q h9 => hPs q (Nat.le_trans hS.1 h9)) mo n9 kn th tt bb eT eB oT oB pk ca rf vs 1 0 ) kw_1251 kw_1253 kp_20 kw_5 kw_1254 (n := 2) (by decide +kernel) rfl ⟨⟨rfl, rfl⟩, ⟨Nat.le_of_ble_eq_true rfl, Nat.le_of_ble_eq_true rfl⟩, (by dsimp only; omega), (by dsimp only; omega)⟩ rfl (Nat.le_of_ble_eq_true rfl) ⟨_, _, _, _, _, fo, fj, fk, fe, fr, fw, ⟨hPm, hPa, hPl, hPe, hPr, hPk⟩, hFk, hFe, hFr, hpk, hn9⟩ dX5_minus_22) hS (fun q _ h => h) hn (fun r_20 H locs hR hz hk hS => ?_)
      obtain ⟨er_20, hM⟩ := hR
      obtain ⟨ra, rl, ex, ro, rt, fo, fj, fk, fe, fr, fw, ⟨hPm, hPa, hPl, hPe, hPr, hPk⟩, hFk, hFe, hFr, hpk, hn9⟩ := hM
      have g_fo := hPm
      have g_fj := hPa
      have ef_r_20 : r_20 = 1 := er_20.trans (if_neg (by decide))
      rw [ef_r_20]
      refine lv_if_eq (pc := 25) (tgt := 32) hx hb dX5_minus_25 (by decide) (fun c_21 => ?_) (fun c_21 => ?_)
      · exact absurd c_21 (by decide)
      refine lv_iconst (pc := 28) (v := 0) hx hb dX5_minus_28 (by decide) ?_
      refine lv_goto (pc := 29) (tgt := 53) hx hb dX5_minus_29 (by decide) ?_
      refine r_iret (pc := 53) E hr hlk hS (by omega) (by omega) ?_ dX5_minus_53
      exact ⟨_, _, _, _, ⟨_, _, _, _, _, fo, fj, fk, fe, fr, fw, ⟨hPm, hPa, hPl, hPe, hPr, hPk⟩, hFk, hFe, hFr, hpk, hn9⟩, AC.fail (by subst er_1 er_6; first | rfl | (simp [m_or, m_not, m_is0, m_lt0, m_fl, c_3, c_8]; done)) (by subst er_1 er_6; first | rfl | (simp [m_or, m_not, m_is0, m_lt0, m_fl, c_3, c_8]; done)) (fun z9 => absurd (ef_r_20.symm.trans (er_20.trans z9)) (by decide))⟩
set_option maxHeartbeats 4000000 in
set_option maxRecDepth 100000 in
/-- BestratiosModel.times(III)I -/
theorem c_X5_times (l : Launch) (D : va_G) (tk : Nat → ClassId) (N0 : Nat) (sa : Nat → Nat)  (sz : Nat) (P : Nat → Prop) (hPN : ∀ q, P q → N0 ≤ q) (hPs : ∀ q, sz ≤ q → P q) (mo n9 : Nat) (kn th : Int32) (tt bb : Nat → Int64) (eT eB oT oB : Int64) (pk : Nat) (ca rf : Int32) (vs : Nat → Value) (x1 : Int32) (x2 : Int32) (x3 : Int32) : Met l yX5_times (wsy yX5_times cX5_times 4 (some .int)) ({ frames := 4, cells := 1, slots := 2, locals := 98 } : Room) (cP D tk N0 sa [.ref mo, .int x1, .int x2, .int x3] sz (fun H => MI D tk sa P mo tt bb eT eB oT oB pk ca rf vs kn n9 th H)) (kQi (fun r H => ∃ th1 tt1 bb1 rf1, MI D tk sa P mo tt1 bb1 eT eB oT oB pk ca rf1 vs kn n9 th1 H ∧ AC (m_or (m_isNo x1) (m_areNo x2 x3)) 0 tt bb rf (nn x1) (LO (tt (nn x2) * tt (nn x3)) (bb (nn x2) * bb (nn x3))) r th1 tt1 bb1 rf1) (P)) (1) (2) (P) := by
  refine mStart RX5 rfl (by decide +kernel) (Nat.le_of_ble_eq_true rfl) ?_
  intro p e s m args below meth c E hr hlk hnm hsz hC hF ls hl
  subst hsz
  obtain ⟨hx, hb, -⟩ := id E
  have hA : ∀ q, (P) q → N0 ≤ q := hPN
  have hn : ∀ q, s.heap.size ≤ q → (P) q := hPs
  have hS : va_S (P) s.heap s.heap [] := va_S.rf
  have hl : lv_has ls 4 [(0, .ref mo), (1, .int x1), (2, .int x2), (3, .int x3)] := hl
  have hM : MI D tk sa P mo tt bb eT eB oT oB pk ca rf vs kn n9 th s.heap := hF
  obtain ⟨ra, rl, ex, ro, rt, fo, fj, fk, fe, fr, fw, ⟨hPm, hPa, hPl, hPe, hPr, hPk⟩, hFk, hFe, hFr, hpk, hn9⟩ := hM
  have g_fo := hPm
  have g_fj := hPa
  refine lv_aload_n (pc := 0) hx hb dX5_times_0 rfl (lv_at hl 0 rfl) ?_
  refine lv_iload_n (pc := 1) hx hb dX5_times_1 rfl (lv_at hl 1 rfl) ?_
  refine k_i (pc := 2) (k_S E hC hS hA hl.1 (c_X5_isNo l D tk N0 sa s.heap.size x1 ) kw_1245 kw_1246 kw_5 kw_1247 (n := 1) (by decide +kernel) rfl ⟨⟨rfl, rfl⟩, ⟨Nat.le_of_ble_eq_true rfl, Nat.le_of_ble_eq_true rfl⟩, (by dsimp only; omega), (by dsimp only; omega)⟩ rfl (Nat.le_of_ble_eq_true rfl) trivial dX5_times_2) hS (fun q z w => absurd w (Nat.not_le.mpr z)) hn (fun r_1 H locs hR hz hk hS => ?_)
  have er_1 := hR
  have fw := fw.new hk
  have fo := fo.kept (hk _ fo.lt (Nat.not_le.mpr fo.lt))
  have fj := fj.kept (hk _ fj.lt (Nat.not_le.mpr fj.lt))
  have fk := fk.new hk
  have fe := fe.kept (hk _ fe.lt (Nat.not_le.mpr fe.lt))
  have fr := fr.kept (hk _ fr.lt (Nat.not_le.mpr fr.lt))
  refine lv_if_ne (pc := 5) (tgt := 16) hx hb dX5_times_5 (by decide) (fun c_3 => ?_) (fun c_3 => ?_)
  · refine lv_iconst (pc := 16) (v := 1) hx hb dX5_times_16 (by decide) ?_
    refine lv_goto (pc := 17) (tgt := 21) hx hb dX5_times_17 (by decide) ?_
    refine lv_iconst (pc := 21) (v := 0) hx hb dX5_times_21 (by decide) ?_
    have hZ0_ := hS.1
    have t_fo := fo.lt
    have t_fj := fj.lt
    have t_fk := fun k (hk9 : k < 6) => (fk k hk9).lt
    have t_fe := fe.lt
    have t_fr := fr.lt
    refine k_i (pc := 22) (k_V E hC hS hA hl.1 (c1.recv hC fo rfl) rfl (c_X5_fails l D tk N0 sa H.size P hPN (fun q h9 => hPs q (Nat.le_trans hS.1 h9)) mo n9 kn th tt bb eT eB oT oB pk ca rf vs 1 0 ) kw_1251 kw_1253 kp_20 kw_5 kw_1254 (n := 2) (by decide +kernel) rfl ⟨⟨rfl, rfl⟩, ⟨Nat.le_of_ble_eq_true rfl, Nat.le_of_ble_eq_true rfl⟩, (by dsimp only; omega), (by dsimp only; omega)⟩ rfl (Nat.le_of_ble_eq_true rfl) ⟨_, _, _, _, _, fo, fj, fk, fe, fr, fw, ⟨hPm, hPa, hPl, hPe, hPr, hPk⟩, hFk, hFe, hFr, hpk, hn9⟩ dX5_times_22) hS (fun q _ h => h) hn (fun r_4 H locs hR hz hk hS => ?_)
    obtain ⟨er_4, hM⟩ := hR
    obtain ⟨ra, rl, ex, ro, rt, fo, fj, fk, fe, fr, fw, ⟨hPm, hPa, hPl, hPe, hPr, hPk⟩, hFk, hFe, hFr, hpk, hn9⟩ := hM
    have g_fo := hPm
    have g_fj := hPa
    have ef_r_4 : r_4 = 1 := er_4.trans (if_neg (by decide))
    rw [ef_r_4]
    refine lv_if_eq (pc := 25) (tgt := 32) hx hb dX5_times_25 (by decide) (fun c_5 => ?_) (fun c_5 => ?_)
    · exact absurd c_5 (by decide)
    refine lv_iconst (pc := 28) (v := 0) hx hb dX5_times_28 (by decide) ?_
    refine lv_goto (pc := 29) (tgt := 52) hx hb dX5_times_29 (by decide) ?_
    refine r_iret (pc := 52) E hr hlk hS (by omega) (by omega) ?_ dX5_times_52
    exact ⟨_, _, _, _, ⟨_, _, _, _, _, fo, fj, fk, fe, fr, fw, ⟨hPm, hPa, hPl, hPe, hPr, hPk⟩, hFk, hFe, hFr, hpk, hn9⟩, AC.fail (by subst er_1; first | rfl | (simp [m_or, m_not, m_is0, m_lt0, m_fl, c_3]; done)) (by subst er_1; first | rfl | (simp [m_or, m_not, m_is0, m_lt0, m_fl, c_3]; done)) (fun z9 => absurd (ef_r_4.symm.trans (er_4.trans z9)) (by decide))⟩
  · refine lv_iload_n (pc := 8) hx hb dX5_times_8 rfl (lv_at hl 2 rfl) ?_
    refine lv_iload_n (pc := 9) hx hb dX5_times_9 rfl (lv_at hl 3 rfl) ?_
    refine k_i (pc := 10) (k_S E hC hS hA hl.1 (c_X5_areNo l D tk N0 sa H.size x2 x3 ) kw_1286 kw_1287 kw_5 kw_1288 (n := 2) (by decide +kernel) rfl ⟨⟨rfl, rfl⟩, ⟨Nat.le_of_ble_eq_true rfl, Nat.le_of_ble_eq_true rfl⟩, (by dsimp only; omega), (by dsimp only; omega)⟩ rfl (Nat.le_of_ble_eq_true rfl) trivial dX5_times_10) hS (fun q z w => absurd w (Nat.not_le.mpr z)) hn (fun r_6 H locs hR hz hk hS => ?_)
    have er_6 := hR
    have fw := fw.new hk
    have fo := fo.kept (hk _ fo.lt (Nat.not_le.mpr fo.lt))
    have fj := fj.kept (hk _ fj.lt (Nat.not_le.mpr fj.lt))
    have fk := fk.new hk
    have fe := fe.kept (hk _ fe.lt (Nat.not_le.mpr fe.lt))
    have fr := fr.kept (hk _ fr.lt (Nat.not_le.mpr fr.lt))
    refine lv_if_eq (pc := 13) (tgt := 20) hx hb dX5_times_13 (by decide) (fun c_8 => ?_) (fun c_8 => ?_)
    · refine lv_iconst (pc := 20) (v := 0) hx hb dX5_times_20 (by decide) ?_
      refine lv_iconst (pc := 21) (v := 0) hx hb dX5_times_21 (by decide) ?_
      have hZ0_ := hS.1
      have t_fo := fo.lt
      have t_fj := fj.lt
      have t_fk := fun k (hk9 : k < 6) => (fk k hk9).lt
      have t_fe := fe.lt
      have t_fr := fr.lt
      refine k_i (pc := 22) (k_V E hC hS hA hl.1 (c1.recv hC fo rfl) rfl (c_X5_fails l D tk N0 sa H.size P hPN (fun q h9 => hPs q (Nat.le_trans hS.1 h9)) mo n9 kn th tt bb eT eB oT oB pk ca rf vs 0 0 ) kw_1251 kw_1253 kp_20 kw_5 kw_1254 (n := 2) (by decide +kernel) rfl ⟨⟨rfl, rfl⟩, ⟨Nat.le_of_ble_eq_true rfl, Nat.le_of_ble_eq_true rfl⟩, (by dsimp only; omega), (by dsimp only; omega)⟩ rfl (Nat.le_of_ble_eq_true rfl) ⟨_, _, _, _, _, fo, fj, fk, fe, fr, fw, ⟨hPm, hPa, hPl, hPe, hPr, hPk⟩, hFk, hFe, hFr, hpk, hn9⟩ dX5_times_22) hS (fun q _ h => h) hn (fun r_9 H locs hR hz hk hS => ?_)
      obtain ⟨er_9, hM⟩ := hR
      obtain ⟨ra, rl, ex, ro, rt, fo, fj, fk, fe, fr, fw, ⟨hPm, hPa, hPl, hPe, hPr, hPk⟩, hFk, hFe, hFr, hpk, hn9⟩ := hM
      have g_fo := hPm
      have g_fj := hPa
      have ef_r_9 : r_9 = 0 := er_9.trans rfl
      rw [ef_r_9]
      refine lv_if_eq (pc := 25) (tgt := 32) hx hb dX5_times_25 (by decide) (fun c_10 => ?_) (fun c_10 => ?_)
      rotate_left
      · exact absurd (by decide) c_10
      refine lv_aload_n (pc := 32) hx hb dX5_times_32 rfl (lv_at hl 0 rfl) ?_
      refine lv_iload_n (pc := 33) hx hb dX5_times_33 rfl (lv_at hl 1 rfl) ?_
      refine lv_aload_n (pc := 34) hx hb dX5_times_34 rfl (lv_at hl 0 rfl) ?_
      refine r_get (pc := 35) E hC fo 0 (v := .ref ra) rfl rfl (by decide) uX5 (List.mem_cons_of_mem _ kw_1209) (fun _ h => h) dX5_times_35 ?_
      refine lv_iload_n (pc := 38) hx hb dX5_times_38 rfl (lv_at hl 2 rfl) ?_
      obtain ⟨hx_11, hk_11⟩ := m_noN (m_ano (er_6.symm.trans c_8)).1
      refine r_aaldJ (pc := 39) E hC fj (nn x2) hx_11 hk_11 (by decide) rfl dX5_times_39 ?_
      have fL12 := fk (nn x2) hk_11
      have mF_fL12 := hFk (nn x2) hk_11
      have Pq_fL12 := hPk (nn x2) hk_11
      refine lv_aload_n (pc := 40) hx hb dX5_times_40 rfl (lv_at hl 0 rfl) ?_
      refine r_get (pc := 41) E hC fo 0 (v := .ref ra) rfl rfl (by decide) uX5 (List.mem_cons_of_mem _ kw_1209) (fun _ h => h) dX5_times_41 ?_
      refine lv_iload_n (pc := 44) hx hb dX5_times_44 rfl (lv_at hl 3 rfl) ?_
      obtain ⟨hx_13, hk_13⟩ := m_noN (m_ano (er_6.symm.trans c_8)).2
      refine r_aaldJ (pc := 45) E hC fj (nn x3) hx_13 hk_13 (by decide) rfl dX5_times_45 ?_
      have fL14 := fk (nn x3) hk_13
      have mF_fL14 := hFk (nn x3) hk_13
      have Pq_fL14 := hPk (nn x3) hk_13
      have hP9 := m_prod mF_fL12 mF_fL14
      have hZ0_ := hS.1
      have t_fo := fo.lt
      have t_fj := fj.lt
      have t_fk := fun k (hk9 : k < 6) => (fk k hk9).lt
      have t_fe := fe.lt
      have t_fr := fr.lt
      have t_fL12 := fL12.lt
      have t_fL14 := fL14.lt
      refine k_r (pc := 46) (k_S E hC hS hA hl.1 (c_X5_product l D tk N0 sa H.size (rt (nn x2)) (tt (nn x2)) (bb (nn x2)) (rt (nn x3)) (tt (nn x3)) (bb (nn x3)) hP9.1) kw_1308 kw_1309 kw_5 kw_1310 (n := 2) (by decide +kernel) rfl ⟨⟨rfl, rfl⟩, ⟨Nat.le_of_ble_eq_true rfl, Nat.le_of_ble_eq_true rfl⟩, (by dsimp only; omega), (by dsimp only; omega)⟩ rfl (Nat.le_of_ble_eq_true rfl) ⟨fL12, fL14⟩ dX5_times_46) hS (fun q z w => absurd w (Nat.not_le.mpr z)) hn (fun r_15 H locs hR hz hk hS => ?_)
      have fw := fw.new hk
      have fo := fo.kept (hk _ fo.lt (Nat.not_le.mpr fo.lt))
      have fj := fj.kept (hk _ fj.lt (Nat.not_le.mpr fj.lt))
      have fk := fk.new hk
      have fe := fe.kept (hk _ fe.lt (Nat.not_le.mpr fe.lt))
      have fr := fr.kept (hk _ fr.lt (Nat.not_le.mpr fr.lt))
      have fL12 := fL12.kept (hk _ fL12.lt (Nat.not_le.mpr fL12.lt))
      have fL14 := fL14.kept (hk _ fL14.lt (Nat.not_le.mpr fL14.lt))
      obtain ⟨z9_, f16⟩ := hR
      have s_f16 : s.heap.size ≤ r_15 := Nat.le_trans hZ0_ z9_
      have g_f16 := hn _ s_f16
      have l_fo_f16 : mo < r_15 := Nat.lt_of_lt_of_le t_fo z9_
      have l_fj_f16 : ra < r_15 := Nat.lt_of_lt_of_le t_fj z9_
      have nW_f16 : ∀ k, k < 6 → rt k ≠ r_15 := fun k hk9 => Nat.ne_of_lt (Nat.lt_of_lt_of_le (t_fk k hk9) z9_)
      have l_fe_f16 : ex < r_15 := Nat.lt_of_lt_of_le t_fe z9_
      have l_fr_f16 : ro < r_15 := Nat.lt_of_lt_of_le t_fr z9_
      have l_fL12_f16 : rt (nn x2) < r_15 := Nat.lt_of_lt_of_le t_fL12 z9_
      have l_fL14_f16 : rt (nn x3) < r_15 := Nat.lt_of_lt_of_le t_fL14 z9_
      have hZ0_ := hS.1
      have t_fo := fo.lt
      have t_fj := fj.lt
      have t_fk := fun k (hk9 : k < 6) => (fk k hk9).lt
      have t_fe := fe.lt
      have t_fr := fr.lt
      have t_fL12 := fL12.lt
      have t_fL14 := fL14.lt
      have t_f16 := f16.lt
      obtain ⟨hx_17, hk_17⟩ := m_noN (er_1.symm.trans c_3)
      refine k_i (pc := 49) (k_V E hC hS hA hl.1 (c1.recv hC fo rfl) rfl (c_X5_become l D tk N0 sa H.size P hPN (fun q h9 => hPs q (Nat.le_trans hS.1 h9)) mo n9 kn ((m_th 0 0)) tt bb eT eB oT oB pk ca rf vs x1 (nn x1) hx_17 hk_17 r_15 (m_loT ((tt (nn x2)) * (tt (nn x3))) ((bb (nn x2)) * (bb (nn x3)))) (m_loB ((tt (nn x2)) * (tt (nn x3))) ((bb (nn x2)) * (bb (nn x3)))) (hPs _ s_f16) hP9.2.1) kw_1255 kw_1257 kp_21 kw_5 kw_1258 (n := 2) (by decide +kernel) rfl ⟨⟨rfl, rfl⟩, ⟨Nat.le_of_ble_eq_true rfl, Nat.le_of_ble_eq_true rfl⟩, (by dsimp only; omega), (by dsimp only; omega)⟩ rfl (Nat.le_of_ble_eq_true rfl) ⟨⟨_, _, _, _, _, fo, fj, fk, fe, fr, fw, ⟨hPm, hPa, hPl, hPe, hPr, hPk⟩, hFk, hFe, hFr, hpk, hn9⟩, f16⟩ dX5_times_49) hS (fun q _ h => h) hn (fun r_18 H locs hR hz hk hS => ?_)
      obtain ⟨tt_19, bb_19, rf_19, hM, hBE_19⟩ := hR
      obtain ⟨ra, rl, ex, ro, rt, fo, fj, fk, fe, fr, fw, ⟨hPm, hPa, hPl, hPe, hPr, hPk⟩, hFk, hFe, hFr, hpk, hn9⟩ := hM
      have g_fo := hPm
      have g_fj := hPa
      refine r_iret (pc := 52) E hr hlk hS (by omega) (by omega) ?_ dX5_times_52
      exact ⟨_, _, _, _, ⟨_, _, _, _, _, fo, fj, fk, fe, fr, fw, ⟨hPm, hPa, hPl, hPe, hPr, hPk⟩, hFk, hFe, hFr, hpk, hn9⟩, AC.ok (by subst er_1 er_6; first | rfl | (simp [m_or, m_not, m_is0, m_lt0, m_fl, c_3, c_8]; done)) (by subst er_1 er_6; first | rfl | (simp [m_or, m_not, m_is0, m_lt0, m_fl, c_3, c_8]; done)) (er_9.symm.trans ef_r_9) (hBE_19.cast (by subst er_1 er_6; first | rfl | (simp [LO, c_3, c_8]; done)))⟩
    · refine lv_iconst (pc := 16) (v := 1) hx hb dX5_times_16 (by decide) ?_
      refine lv_goto (pc := 17) (tgt := 21) hx hb dX5_times_17 (by decide) ?_
      refine lv_iconst (pc := 21) (v := 0) hx hb dX5_times_21 (by decide) ?_
      have hZ0_ := hS.1
      have t_fo := fo.lt
      have t_fj := fj.lt
      have t_fk := fun k (hk9 : k < 6) => (fk k hk9).lt
      have t_fe := fe.lt
      have t_fr := fr.lt
      refine k_i (pc := 22) (k_V E hC hS hA hl.1 (c1.recv hC fo rfl) rfl (c_X5_fails l D tk N0 sa H.size P hPN (fun q h9 => hPs q (Nat.le_trans hS.1 h9)) mo n9 kn th tt bb eT eB oT oB pk ca rf vs 1 0 ) kw_1251 kw_1253 kp_20 kw_5 kw_1254 (n := 2) (by decide +kernel) rfl ⟨⟨rfl, rfl⟩, ⟨Nat.le_of_ble_eq_true rfl, Nat.le_of_ble_eq_true rfl⟩, (by dsimp only; omega), (by dsimp only; omega)⟩ rfl (Nat.le_of_ble_eq_true rfl) ⟨_, _, _, _, _, fo, fj, fk, fe, fr, fw, ⟨hPm, hPa, hPl, hPe, hPr, hPk⟩, hFk, hFe, hFr, hpk, hn9⟩ dX5_times_22) hS (fun q _ h => h) hn (fun r_20 H locs hR hz hk hS => ?_)
      obtain ⟨er_20, hM⟩ := hR
      obtain ⟨ra, rl, ex, ro, rt, fo, fj, fk, fe, fr, fw, ⟨hPm, hPa, hPl, hPe, hPr, hPk⟩, hFk, hFe, hFr, hpk, hn9⟩ := hM
      have g_fo := hPm
      have g_fj := hPa
      have ef_r_20 : r_20 = 1 := er_20.trans (if_neg (by decide))
      rw [ef_r_20]
      refine lv_if_eq (pc := 25) (tgt := 32) hx hb dX5_times_25 (by decide) (fun c_21 => ?_) (fun c_21 => ?_)
      · exact absurd c_21 (by decide)
      refine lv_iconst (pc := 28) (v := 0) hx hb dX5_times_28 (by decide) ?_
      refine lv_goto (pc := 29) (tgt := 52) hx hb dX5_times_29 (by decide) ?_
      refine r_iret (pc := 52) E hr hlk hS (by omega) (by omega) ?_ dX5_times_52
      exact ⟨_, _, _, _, ⟨_, _, _, _, _, fo, fj, fk, fe, fr, fw, ⟨hPm, hPa, hPl, hPe, hPr, hPk⟩, hFk, hFe, hFr, hpk, hn9⟩, AC.fail (by subst er_1 er_6; first | rfl | (simp [m_or, m_not, m_is0, m_lt0, m_fl, c_3, c_8]; done)) (by subst er_1 er_6; first | rfl | (simp [m_or, m_not, m_is0, m_lt0, m_fl, c_3, c_8]; done)) (fun z9 => absurd (ef_r_20.symm.trans (er_20.trans z9)) (by decide))⟩
set_option maxHeartbeats 4000000 in
set_option maxRecDepth 100000 in
/-- BestratiosModel.mediant(III)I -/
theorem c_X5_mediant (l : Launch) (D : va_G) (tk : Nat → ClassId) (N0 : Nat) (sa : Nat → Nat)  (sz : Nat) (P : Nat → Prop) (hPN : ∀ q, P q → N0 ≤ q) (hPs : ∀ q, sz ≤ q → P q) (mo n9 : Nat) (kn th : Int32) (tt bb : Nat → Int64) (eT eB oT oB : Int64) (pk : Nat) (ca rf : Int32) (vs : Nat → Value) (x1 : Int32) (x2 : Int32) (x3 : Int32) : Met l yX5_mediant (wsy yX5_mediant cX5_mediant 4 (some .int)) ({ frames := 4, cells := 1, slots := 2, locals := 98 } : Room) (cP D tk N0 sa [.ref mo, .int x1, .int x2, .int x3] sz (fun H => MI D tk sa P mo tt bb eT eB oT oB pk ca rf vs kn n9 th H)) (kQi (fun r H => ∃ th1 tt1 bb1 rf1, MI D tk sa P mo tt1 bb1 eT eB oT oB pk ca rf1 vs kn n9 th1 H ∧ AC (m_or (m_isNo x1) (m_areNo x2 x3)) 0 tt bb rf (nn x1) (LO (tt (nn x2) + tt (nn x3)) (bb (nn x2) + bb (nn x3))) r th1 tt1 bb1 rf1) (P)) (1) (2) (P) := by
  refine mStart RX5 rfl (by decide +kernel) (Nat.le_of_ble_eq_true rfl) ?_
  intro p e s m args below meth c E hr hlk hnm hsz hC hF ls hl
  subst hsz
  obtain ⟨hx, hb, -⟩ := id E
  have hA : ∀ q, (P) q → N0 ≤ q := hPN
  have hn : ∀ q, s.heap.size ≤ q → (P) q := hPs
  have hS : va_S (P) s.heap s.heap [] := va_S.rf
  have hl : lv_has ls 4 [(0, .ref mo), (1, .int x1), (2, .int x2), (3, .int x3)] := hl
  have hM : MI D tk sa P mo tt bb eT eB oT oB pk ca rf vs kn n9 th s.heap := hF
  obtain ⟨ra, rl, ex, ro, rt, fo, fj, fk, fe, fr, fw, ⟨hPm, hPa, hPl, hPe, hPr, hPk⟩, hFk, hFe, hFr, hpk, hn9⟩ := hM
  have g_fo := hPm
  have g_fj := hPa
  refine lv_aload_n (pc := 0) hx hb dX5_mediant_0 rfl (lv_at hl 0 rfl) ?_
  refine lv_iload_n (pc := 1) hx hb dX5_mediant_1 rfl (lv_at hl 1 rfl) ?_
  refine k_i (pc := 2) (k_S E hC hS hA hl.1 (c_X5_isNo l D tk N0 sa s.heap.size x1 ) kw_1245 kw_1246 kw_5 kw_1247 (n := 1) (by decide +kernel) rfl ⟨⟨rfl, rfl⟩, ⟨Nat.le_of_ble_eq_true rfl, Nat.le_of_ble_eq_true rfl⟩, (by dsimp only; omega), (by dsimp only; omega)⟩ rfl (Nat.le_of_ble_eq_true rfl) trivial dX5_mediant_2) hS (fun q z w => absurd w (Nat.not_le.mpr z)) hn (fun r_1 H locs hR hz hk hS => ?_)
  have er_1 := hR
  have fw := fw.new hk
  have fo := fo.kept (hk _ fo.lt (Nat.not_le.mpr fo.lt))
  have fj := fj.kept (hk _ fj.lt (Nat.not_le.mpr fj.lt))
  have fk := fk.new hk
  have fe := fe.kept (hk _ fe.lt (Nat.not_le.mpr fe.lt))
  have fr := fr.kept (hk _ fr.lt (Nat.not_le.mpr fr.lt))
  refine lv_if_ne (pc := 5) (tgt := 16) hx hb dX5_mediant_5 (by decide) (fun c_3 => ?_) (fun c_3 => ?_)
  · refine lv_iconst (pc := 16) (v := 1) hx hb dX5_mediant_16 (by decide) ?_
    refine lv_goto (pc := 17) (tgt := 21) hx hb dX5_mediant_17 (by decide) ?_
    refine lv_iconst (pc := 21) (v := 0) hx hb dX5_mediant_21 (by decide) ?_
    have hZ0_ := hS.1
    have t_fo := fo.lt
    have t_fj := fj.lt
    have t_fk := fun k (hk9 : k < 6) => (fk k hk9).lt
    have t_fe := fe.lt
    have t_fr := fr.lt
    refine k_i (pc := 22) (k_V E hC hS hA hl.1 (c1.recv hC fo rfl) rfl (c_X5_fails l D tk N0 sa H.size P hPN (fun q h9 => hPs q (Nat.le_trans hS.1 h9)) mo n9 kn th tt bb eT eB oT oB pk ca rf vs 1 0 ) kw_1251 kw_1253 kp_20 kw_5 kw_1254 (n := 2) (by decide +kernel) rfl ⟨⟨rfl, rfl⟩, ⟨Nat.le_of_ble_eq_true rfl, Nat.le_of_ble_eq_true rfl⟩, (by dsimp only; omega), (by dsimp only; omega)⟩ rfl (Nat.le_of_ble_eq_true rfl) ⟨_, _, _, _, _, fo, fj, fk, fe, fr, fw, ⟨hPm, hPa, hPl, hPe, hPr, hPk⟩, hFk, hFe, hFr, hpk, hn9⟩ dX5_mediant_22) hS (fun q _ h => h) hn (fun r_4 H locs hR hz hk hS => ?_)
    obtain ⟨er_4, hM⟩ := hR
    obtain ⟨ra, rl, ex, ro, rt, fo, fj, fk, fe, fr, fw, ⟨hPm, hPa, hPl, hPe, hPr, hPk⟩, hFk, hFe, hFr, hpk, hn9⟩ := hM
    have g_fo := hPm
    have g_fj := hPa
    have ef_r_4 : r_4 = 1 := er_4.trans (if_neg (by decide))
    rw [ef_r_4]
    refine lv_if_eq (pc := 25) (tgt := 32) hx hb dX5_mediant_25 (by decide) (fun c_5 => ?_) (fun c_5 => ?_)
    · exact absurd c_5 (by decide)
    refine lv_iconst (pc := 28) (v := 0) hx hb dX5_mediant_28 (by decide) ?_
    refine lv_goto (pc := 29) (tgt := 52) hx hb dX5_mediant_29 (by decide) ?_
    refine r_iret (pc := 52) E hr hlk hS (by omega) (by omega) ?_ dX5_mediant_52
    exact ⟨_, _, _, _, ⟨_, _, _, _, _, fo, fj, fk, fe, fr, fw, ⟨hPm, hPa, hPl, hPe, hPr, hPk⟩, hFk, hFe, hFr, hpk, hn9⟩, AC.fail (by subst er_1; first | rfl | (simp [m_or, m_not, m_is0, m_lt0, m_fl, c_3]; done)) (by subst er_1; first | rfl | (simp [m_or, m_not, m_is0, m_lt0, m_fl, c_3]; done)) (fun z9 => absurd (ef_r_4.symm.trans (er_4.trans z9)) (by decide))⟩
  · refine lv_iload_n (pc := 8) hx hb dX5_mediant_8 rfl (lv_at hl 2 rfl) ?_
    refine lv_iload_n (pc := 9) hx hb dX5_mediant_9 rfl (lv_at hl 3 rfl) ?_
    refine k_i (pc := 10) (k_S E hC hS hA hl.1 (c_X5_areNo l D tk N0 sa H.size x2 x3 ) kw_1286 kw_1287 kw_5 kw_1288 (n := 2) (by decide +kernel) rfl ⟨⟨rfl, rfl⟩, ⟨Nat.le_of_ble_eq_true rfl, Nat.le_of_ble_eq_true rfl⟩, (by dsimp only; omega), (by dsimp only; omega)⟩ rfl (Nat.le_of_ble_eq_true rfl) trivial dX5_mediant_10) hS (fun q z w => absurd w (Nat.not_le.mpr z)) hn (fun r_6 H locs hR hz hk hS => ?_)
    have er_6 := hR
    have fw := fw.new hk
    have fo := fo.kept (hk _ fo.lt (Nat.not_le.mpr fo.lt))
    have fj := fj.kept (hk _ fj.lt (Nat.not_le.mpr fj.lt))
    have fk := fk.new hk
    have fe := fe.kept (hk _ fe.lt (Nat.not_le.mpr fe.lt))
    have fr := fr.kept (hk _ fr.lt (Nat.not_le.mpr fr.lt))
    refine lv_if_eq (pc := 13) (tgt := 20) hx hb dX5_mediant_13 (by decide) (fun c_8 => ?_) (fun c_8 => ?_)
    · refine lv_iconst (pc := 20) (v := 0) hx hb dX5_mediant_20 (by decide) ?_
      refine lv_iconst (pc := 21) (v := 0) hx hb dX5_mediant_21 (by decide) ?_
      have hZ0_ := hS.1
      have t_fo := fo.lt
      have t_fj := fj.lt
      have t_fk := fun k (hk9 : k < 6) => (fk k hk9).lt
      have t_fe := fe.lt
      have t_fr := fr.lt
      refine k_i (pc := 22) (k_V E hC hS hA hl.1 (c1.recv hC fo rfl) rfl (c_X5_fails l D tk N0 sa H.size P hPN (fun q h9 => hPs q (Nat.le_trans hS.1 h9)) mo n9 kn th tt bb eT eB oT oB pk ca rf vs 0 0 ) kw_1251 kw_1253 kp_20 kw_5 kw_1254 (n := 2) (by decide +kernel) rfl ⟨⟨rfl, rfl⟩, ⟨Nat.le_of_ble_eq_true rfl, Nat.le_of_ble_eq_true rfl⟩, (by dsimp only; omega), (by dsimp only; omega)⟩ rfl (Nat.le_of_ble_eq_true rfl) ⟨_, _, _, _, _, fo, fj, fk, fe, fr, fw, ⟨hPm, hPa, hPl, hPe, hPr, hPk⟩, hFk, hFe, hFr, hpk, hn9⟩ dX5_mediant_22) hS (fun q _ h => h) hn (fun r_9 H locs hR hz hk hS => ?_)
      obtain ⟨er_9, hM⟩ := hR
      obtain ⟨ra, rl, ex, ro, rt, fo, fj, fk, fe, fr, fw, ⟨hPm, hPa, hPl, hPe, hPr, hPk⟩, hFk, hFe, hFr, hpk, hn9⟩ := hM
      have g_fo := hPm
      have g_fj := hPa
      have ef_r_9 : r_9 = 0 := er_9.trans rfl
      rw [ef_r_9]
      refine lv_if_eq (pc := 25) (tgt := 32) hx hb dX5_mediant_25 (by decide) (fun c_10 => ?_) (fun c_10 => ?_)
      rotate_left
      · exact absurd (by decide) c_10
      refine lv_aload_n (pc := 32) hx hb dX5_mediant_32 rfl (lv_at hl 0 rfl) ?_
      refine lv_iload_n (pc := 33) hx hb dX5_mediant_33 rfl (lv_at hl 1 rfl) ?_
      refine lv_aload_n (pc := 34) hx hb dX5_mediant_34 rfl (lv_at hl 0 rfl) ?_
      refine r_get (pc := 35) E hC fo 0 (v := .ref ra) rfl rfl (by decide) uX5 (List.mem_cons_of_mem _ kw_1209) (fun _ h => h) dX5_mediant_35 ?_
      refine lv_iload_n (pc := 38) hx hb dX5_mediant_38 rfl (lv_at hl 2 rfl) ?_
      obtain ⟨hx_11, hk_11⟩ := m_noN (m_ano (er_6.symm.trans c_8)).1
      refine r_aaldJ (pc := 39) E hC fj (nn x2) hx_11 hk_11 (by decide) rfl dX5_mediant_39 ?_
      have fL12 := fk (nn x2) hk_11
      have mF_fL12 := hFk (nn x2) hk_11
      have Pq_fL12 := hPk (nn x2) hk_11
      refine lv_aload_n (pc := 40) hx hb dX5_mediant_40 rfl (lv_at hl 0 rfl) ?_
      refine r_get (pc := 41) E hC fo 0 (v := .ref ra) rfl rfl (by decide) uX5 (List.mem_cons_of_mem _ kw_1209) (fun _ h => h) dX5_mediant_41 ?_
      refine lv_iload_n (pc := 44) hx hb dX5_mediant_44 rfl (lv_at hl 3 rfl) ?_
      obtain ⟨hx_13, hk_13⟩ := m_noN (m_ano (er_6.symm.trans c_8)).2
      refine r_aaldJ (pc := 45) E hC fj (nn x3) hx_13 hk_13 (by decide) rfl dX5_mediant_45 ?_
      have fL14 := fk (nn x3) hk_13
      have mF_fL14 := hFk (nn x3) hk_13
      have Pq_fL14 := hPk (nn x3) hk_13
      have hP9 := m_btwP mF_fL12 mF_fL14
      have hZ0_ := hS.1
      have t_fo := fo.lt
      have t_fj := fj.lt
      have t_fk := fun k (hk9 : k < 6) => (fk k hk9).lt
      have t_fe := fe.lt
      have t_fr := fr.lt
      have t_fL12 := fL12.lt
      have t_fL14 := fL14.lt
      refine k_r (pc := 46) (k_S E hC hS hA hl.1 (c_X5_between l D tk N0 sa H.size (rt (nn x2)) (tt (nn x2)) (bb (nn x2)) (rt (nn x3)) (tt (nn x3)) (bb (nn x3)) hP9.1) kw_1340 kw_1341 kw_5 kw_1342 (n := 2) (by decide +kernel) rfl ⟨⟨rfl, rfl⟩, ⟨Nat.le_of_ble_eq_true rfl, Nat.le_of_ble_eq_true rfl⟩, (by dsimp only; omega), (by dsimp only; omega)⟩ rfl (Nat.le_of_ble_eq_true rfl) ⟨fL12, fL14⟩ dX5_mediant_46) hS (fun q z w => absurd w (Nat.not_le.mpr z)) hn (fun r_15 H locs hR hz hk hS => ?_)
      have fw := fw.new hk
      have fo := fo.kept (hk _ fo.lt (Nat.not_le.mpr fo.lt))
      have fj := fj.kept (hk _ fj.lt (Nat.not_le.mpr fj.lt))
      have fk := fk.new hk
      have fe := fe.kept (hk _ fe.lt (Nat.not_le.mpr fe.lt))
      have fr := fr.kept (hk _ fr.lt (Nat.not_le.mpr fr.lt))
      have fL12 := fL12.kept (hk _ fL12.lt (Nat.not_le.mpr fL12.lt))
      have fL14 := fL14.kept (hk _ fL14.lt (Nat.not_le.mpr fL14.lt))
      obtain ⟨z9_, f16⟩ := hR
      have s_f16 : s.heap.size ≤ r_15 := Nat.le_trans hZ0_ z9_
      have g_f16 := hn _ s_f16
      have l_fo_f16 : mo < r_15 := Nat.lt_of_lt_of_le t_fo z9_
      have l_fj_f16 : ra < r_15 := Nat.lt_of_lt_of_le t_fj z9_
      have nW_f16 : ∀ k, k < 6 → rt k ≠ r_15 := fun k hk9 => Nat.ne_of_lt (Nat.lt_of_lt_of_le (t_fk k hk9) z9_)
      have l_fe_f16 : ex < r_15 := Nat.lt_of_lt_of_le t_fe z9_
      have l_fr_f16 : ro < r_15 := Nat.lt_of_lt_of_le t_fr z9_
      have l_fL12_f16 : rt (nn x2) < r_15 := Nat.lt_of_lt_of_le t_fL12 z9_
      have l_fL14_f16 : rt (nn x3) < r_15 := Nat.lt_of_lt_of_le t_fL14 z9_
      have hZ0_ := hS.1
      have t_fo := fo.lt
      have t_fj := fj.lt
      have t_fk := fun k (hk9 : k < 6) => (fk k hk9).lt
      have t_fe := fe.lt
      have t_fr := fr.lt
      have t_fL12 := fL12.lt
      have t_fL14 := fL14.lt
      have t_f16 := f16.lt
      obtain ⟨hx_17, hk_17⟩ := m_noN (er_1.symm.trans c_3)
      refine k_i (pc := 49) (k_V E hC hS hA hl.1 (c1.recv hC fo rfl) rfl (c_X5_become l D tk N0 sa H.size P hPN (fun q h9 => hPs q (Nat.le_trans hS.1 h9)) mo n9 kn ((m_th 0 0)) tt bb eT eB oT oB pk ca rf vs x1 (nn x1) hx_17 hk_17 r_15 (m_loT ((tt (nn x2)) + (tt (nn x3))) ((bb (nn x2)) + (bb (nn x3)))) (m_loB ((tt (nn x2)) + (tt (nn x3))) ((bb (nn x2)) + (bb (nn x3)))) (hPs _ s_f16) hP9.2) kw_1255 kw_1257 kp_21 kw_5 kw_1258 (n := 2) (by decide +kernel) rfl ⟨⟨rfl, rfl⟩, ⟨Nat.le_of_ble_eq_true rfl, Nat.le_of_ble_eq_true rfl⟩, (by dsimp only; omega), (by dsimp only; omega)⟩ rfl (Nat.le_of_ble_eq_true rfl) ⟨⟨_, _, _, _, _, fo, fj, fk, fe, fr, fw, ⟨hPm, hPa, hPl, hPe, hPr, hPk⟩, hFk, hFe, hFr, hpk, hn9⟩, f16⟩ dX5_mediant_49) hS (fun q _ h => h) hn (fun r_18 H locs hR hz hk hS => ?_)
      obtain ⟨tt_19, bb_19, rf_19, hM, hBE_19⟩ := hR
      obtain ⟨ra, rl, ex, ro, rt, fo, fj, fk, fe, fr, fw, ⟨hPm, hPa, hPl, hPe, hPr, hPk⟩, hFk, hFe, hFr, hpk, hn9⟩ := hM
      have g_fo := hPm
      have g_fj := hPa
      refine r_iret (pc := 52) E hr hlk hS (by omega) (by omega) ?_ dX5_mediant_52
      exact ⟨_, _, _, _, ⟨_, _, _, _, _, fo, fj, fk, fe, fr, fw, ⟨hPm, hPa, hPl, hPe, hPr, hPk⟩, hFk, hFe, hFr, hpk, hn9⟩, AC.ok (by subst er_1 er_6; first | rfl | (simp [m_or, m_not, m_is0, m_lt0, m_fl, c_3, c_8]; done)) (by subst er_1 er_6; first | rfl | (simp [m_or, m_not, m_is0, m_lt0, m_fl, c_3, c_8]; done)) (er_9.symm.trans ef_r_9) (hBE_19.cast (by subst er_1 er_6; first | rfl | (simp [LO, c_3, c_8]; done)))⟩
    · refine lv_iconst (pc := 16) (v := 1) hx hb dX5_mediant_16 (by decide) ?_
      refine lv_goto (pc := 17) (tgt := 21) hx hb dX5_mediant_17 (by decide) ?_
      refine lv_iconst (pc := 21) (v := 0) hx hb dX5_mediant_21 (by decide) ?_
      have hZ0_ := hS.1
      have t_fo := fo.lt
      have t_fj := fj.lt
      have t_fk := fun k (hk9 : k < 6) => (fk k hk9).lt
      have t_fe := fe.lt
      have t_fr := fr.lt
      refine k_i (pc := 22) (k_V E hC hS hA hl.1 (c1.recv hC fo rfl) rfl (c_X5_fails l D tk N0 sa H.size P hPN (fun q h9 => hPs q (Nat.le_trans hS.1 h9)) mo n9 kn th tt bb eT eB oT oB pk ca rf vs 1 0 ) kw_1251 kw_1253 kp_20 kw_5 kw_1254 (n := 2) (by decide +kernel) rfl ⟨⟨rfl, rfl⟩, ⟨Nat.le_of_ble_eq_true rfl, Nat.le_of_ble_eq_true rfl⟩, (by dsimp only; omega), (by dsimp only; omega)⟩ rfl (Nat.le_of_ble_eq_true rfl) ⟨_, _, _, _, _, fo, fj, fk, fe, fr, fw, ⟨hPm, hPa, hPl, hPe, hPr, hPk⟩, hFk, hFe, hFr, hpk, hn9⟩ dX5_mediant_22) hS (fun q _ h => h) hn (fun r_20 H locs hR hz hk hS => ?_)
      obtain ⟨er_20, hM⟩ := hR
      obtain ⟨ra, rl, ex, ro, rt, fo, fj, fk, fe, fr, fw, ⟨hPm, hPa, hPl, hPe, hPr, hPk⟩, hFk, hFe, hFr, hpk, hn9⟩ := hM
      have g_fo := hPm
      have g_fj := hPa
      have ef_r_20 : r_20 = 1 := er_20.trans (if_neg (by decide))
      rw [ef_r_20]
      refine lv_if_eq (pc := 25) (tgt := 32) hx hb dX5_mediant_25 (by decide) (fun c_21 => ?_) (fun c_21 => ?_)
      · exact absurd c_21 (by decide)
      refine lv_iconst (pc := 28) (v := 0) hx hb dX5_mediant_28 (by decide) ?_
      refine lv_goto (pc := 29) (tgt := 52) hx hb dX5_mediant_29 (by decide) ?_
      refine r_iret (pc := 52) E hr hlk hS (by omega) (by omega) ?_ dX5_mediant_52
      exact ⟨_, _, _, _, ⟨_, _, _, _, _, fo, fj, fk, fe, fr, fw, ⟨hPm, hPa, hPl, hPe, hPr, hPk⟩, hFk, hFe, hFr, hpk, hn9⟩, AC.fail (by subst er_1 er_6; first | rfl | (simp [m_or, m_not, m_is0, m_lt0, m_fl, c_3, c_8]; done)) (by subst er_1 er_6; first | rfl | (simp [m_or, m_not, m_is0, m_lt0, m_fl, c_3, c_8]; done)) (fun z9 => absurd (ef_r_20.symm.trans (er_20.trans z9)) (by decide))⟩
set_option maxHeartbeats 4000000 in
set_option maxRecDepth 100000 in
/-- BestratiosModel.over(III)I -/
theorem c_X5_over (l : Launch) (D : va_G) (tk : Nat → ClassId) (N0 : Nat) (sa : Nat → Nat)  (sz : Nat) (P : Nat → Prop) (hPN : ∀ q, P q → N0 ≤ q) (hPs : ∀ q, sz ≤ q → P q) (mo n9 : Nat) (kn th : Int32) (tt bb : Nat → Int64) (eT eB oT oB : Int64) (pk : Nat) (ca rf : Int32) (vs : Nat → Value) (x1 : Int32) (x2 : Int32) (x3 : Int32) : Met l yX5_over (wsy yX5_over cX5_over 5 (some .int)) ({ frames := 4, cells := 2, slots := 4, locals := 98 } : Room) (cP D tk N0 sa [.ref mo, .int x1, .int x2, .int x3] sz (fun H => MI D tk sa P mo tt bb eT eB oT oB pk ca rf vs kn n9 th H)) (kQi (fun r H => ∃ th1 tt1 bb1 rf1, MI D tk sa P mo tt1 bb1 eT eB oT oB pk ca rf1 vs kn n9 th1 H ∧ AC (m_or (m_isNo x1) (m_areNo x2 x3)) 0 tt bb rf (nn x1) (m_OV (tt (nn x2)) (bb (nn x2)) (tt (nn x3)) (bb (nn x3))) r th1 tt1 bb1 rf1) (P)) (2) (4) (P) := by
  refine mStart RX5 rfl (by decide +kernel) (Nat.le_of_ble_eq_true rfl) ?_
  intro p e s m args below meth c E hr hlk hnm hsz hC hF ls hl
  subst hsz
  obtain ⟨hx, hb, -⟩ := id E
  have hA : ∀ q, (P) q → N0 ≤ q := hPN
  have hn : ∀ q, s.heap.size ≤ q → (P) q := hPs
  have hS : va_S (P) s.heap s.heap [] := va_S.rf
  have hl : lv_has ls 5 [(0, .ref mo), (1, .int x1), (2, .int x2), (3, .int x3)] := hl
  have hM : MI D tk sa P mo tt bb eT eB oT oB pk ca rf vs kn n9 th s.heap := hF
  obtain ⟨ra, rl, ex, ro, rt, fo, fj, fk, fe, fr, fw, ⟨hPm, hPa, hPl, hPe, hPr, hPk⟩, hFk, hFe, hFr, hpk, hn9⟩ := hM
  have g_fo := hPm
  have g_fj := hPa
  refine lv_aload_n (pc := 0) hx hb dX5_over_0 rfl (lv_at hl 0 rfl) ?_
  refine lv_iload_n (pc := 1) hx hb dX5_over_1 rfl (lv_at hl 1 rfl) ?_
  refine k_i (pc := 2) (k_S E hC hS hA hl.1 (c_X5_isNo l D tk N0 sa s.heap.size x1 ) kw_1245 kw_1246 kw_5 kw_1247 (n := 1) (by decide +kernel) rfl ⟨⟨rfl, rfl⟩, ⟨Nat.le_of_ble_eq_true rfl, Nat.le_of_ble_eq_true rfl⟩, (by dsimp only; omega), (by dsimp only; omega)⟩ rfl (Nat.le_of_ble_eq_true rfl) trivial dX5_over_2) hS (fun q z w => absurd w (Nat.not_le.mpr z)) hn (fun r_1 H locs hR hz hk hS => ?_)
  have er_1 := hR
  have fw := fw.new hk
  have fo := fo.kept (hk _ fo.lt (Nat.not_le.mpr fo.lt))
  have fj := fj.kept (hk _ fj.lt (Nat.not_le.mpr fj.lt))
  have fk := fk.new hk
  have fe := fe.kept (hk _ fe.lt (Nat.not_le.mpr fe.lt))
  have fr := fr.kept (hk _ fr.lt (Nat.not_le.mpr fr.lt))
  refine lv_if_ne (pc := 5) (tgt := 16) hx hb dX5_over_5 (by decide) (fun c_3 => ?_) (fun c_3 => ?_)
  · refine lv_iconst (pc := 16) (v := 1) hx hb dX5_over_16 (by decide) ?_
    refine lv_goto (pc := 17) (tgt := 21) hx hb dX5_over_17 (by decide) ?_
    refine lv_iconst (pc := 21) (v := 0) hx hb dX5_over_21 (by decide) ?_
    have hZ0_ := hS.1
    have t_fo := fo.lt
    have t_fj := fj.lt
    have t_fk := fun k (hk9 : k < 6) => (fk k hk9).lt
    have t_fe := fe.lt
    have t_fr := fr.lt
    refine k_i (pc := 22) (k_V E hC hS hA hl.1 (c1.recv hC fo rfl) rfl (c_X5_fails l D tk N0 sa H.size P hPN (fun q h9 => hPs q (Nat.le_trans hS.1 h9)) mo n9 kn th tt bb eT eB oT oB pk ca rf vs 1 0 ) kw_1251 kw_1253 kp_20 kw_5 kw_1254 (n := 2) (by decide +kernel) rfl ⟨⟨rfl, rfl⟩, ⟨Nat.le_of_ble_eq_true rfl, Nat.le_of_ble_eq_true rfl⟩, (by dsimp only; omega), (by dsimp only; omega)⟩ rfl (Nat.le_of_ble_eq_true rfl) ⟨_, _, _, _, _, fo, fj, fk, fe, fr, fw, ⟨hPm, hPa, hPl, hPe, hPr, hPk⟩, hFk, hFe, hFr, hpk, hn9⟩ dX5_over_22) hS (fun q _ h => h) hn (fun r_4 H locs hR hz hk hS => ?_)
    obtain ⟨er_4, hM⟩ := hR
    obtain ⟨ra, rl, ex, ro, rt, fo, fj, fk, fe, fr, fw, ⟨hPm, hPa, hPl, hPe, hPr, hPk⟩, hFk, hFe, hFr, hpk, hn9⟩ := hM
    have g_fo := hPm
    have g_fj := hPa
    have ef_r_4 : r_4 = 1 := er_4.trans (if_neg (by decide))
    rw [ef_r_4]
    refine lv_if_eq (pc := 25) (tgt := 30) hx hb dX5_over_25 (by decide) (fun c_5 => ?_) (fun c_5 => ?_)
    · exact absurd c_5 (by decide)
    refine lv_iconst (pc := 28) (v := 0) hx hb dX5_over_28 (by decide) ?_
    refine r_iret (pc := 29) E hr hlk hS (by omega) (by omega) ?_ dX5_over_29
    exact ⟨_, _, _, _, ⟨_, _, _, _, _, fo, fj, fk, fe, fr, fw, ⟨hPm, hPa, hPl, hPe, hPr, hPk⟩, hFk, hFe, hFr, hpk, hn9⟩, AC.fail (by subst er_1; first | rfl | (simp [m_or, m_not, m_is0, m_lt0, m_fl, c_3]; done)) (by subst er_1; first | rfl | (simp [m_or, m_not, m_is0, m_lt0, m_fl, c_3]; done)) (fun z9 => absurd (ef_r_4.symm.trans (er_4.trans z9)) (by decide))⟩
  · refine lv_iload_n (pc := 8) hx hb dX5_over_8 rfl (lv_at hl 2 rfl) ?_
    refine lv_iload_n (pc := 9) hx hb dX5_over_9 rfl (lv_at hl 3 rfl) ?_
    refine k_i (pc := 10) (k_S E hC hS hA hl.1 (c_X5_areNo l D tk N0 sa H.size x2 x3 ) kw_1286 kw_1287 kw_5 kw_1288 (n := 2) (by decide +kernel) rfl ⟨⟨rfl, rfl⟩, ⟨Nat.le_of_ble_eq_true rfl, Nat.le_of_ble_eq_true rfl⟩, (by dsimp only; omega), (by dsimp only; omega)⟩ rfl (Nat.le_of_ble_eq_true rfl) trivial dX5_over_10) hS (fun q z w => absurd w (Nat.not_le.mpr z)) hn (fun r_6 H locs hR hz hk hS => ?_)
    have er_6 := hR
    have fw := fw.new hk
    have fo := fo.kept (hk _ fo.lt (Nat.not_le.mpr fo.lt))
    have fj := fj.kept (hk _ fj.lt (Nat.not_le.mpr fj.lt))
    have fk := fk.new hk
    have fe := fe.kept (hk _ fe.lt (Nat.not_le.mpr fe.lt))
    have fr := fr.kept (hk _ fr.lt (Nat.not_le.mpr fr.lt))
    refine lv_if_eq (pc := 13) (tgt := 20) hx hb dX5_over_13 (by decide) (fun c_8 => ?_) (fun c_8 => ?_)
    · refine lv_iconst (pc := 20) (v := 0) hx hb dX5_over_20 (by decide) ?_
      refine lv_iconst (pc := 21) (v := 0) hx hb dX5_over_21 (by decide) ?_
      have hZ0_ := hS.1
      have t_fo := fo.lt
      have t_fj := fj.lt
      have t_fk := fun k (hk9 : k < 6) => (fk k hk9).lt
      have t_fe := fe.lt
      have t_fr := fr.lt
      refine k_i (pc := 22) (k_V E hC hS hA hl.1 (c1.recv hC fo rfl) rfl (c_X5_fails l D tk N0 sa H.size P hPN (fun q h9 => hPs q (Nat.le_trans hS.1 h9)) mo n9 kn th tt bb eT eB oT oB pk ca rf vs 0 0 ) kw_1251 kw_1253 kp_20 kw_5 kw_1254 (n := 2) (by decide +kernel) rfl ⟨⟨rfl, rfl⟩, ⟨Nat.le_of_ble_eq_true rfl, Nat.le_of_ble_eq_true rfl⟩, (by dsimp only; omega), (by dsimp only; omega)⟩ rfl (Nat.le_of_ble_eq_true rfl) ⟨_, _, _, _, _, fo, fj, fk, fe, fr, fw, ⟨hPm, hPa, hPl, hPe, hPr, hPk⟩, hFk, hFe, hFr, hpk, hn9⟩ dX5_over_22) hS (fun q _ h => h) hn (fun r_9 H locs hR hz hk hS => ?_)
      obtain ⟨er_9, hM⟩ := hR
      obtain ⟨ra, rl, ex, ro, rt, fo, fj, fk, fe, fr, fw, ⟨hPm, hPa, hPl, hPe, hPr, hPk⟩, hFk, hFe, hFr, hpk, hn9⟩ := hM
      have g_fo := hPm
      have g_fj := hPa
      have ef_r_9 : r_9 = 0 := er_9.trans rfl
      rw [ef_r_9]
      refine lv_if_eq (pc := 25) (tgt := 30) hx hb dX5_over_25 (by decide) (fun c_10 => ?_) (fun c_10 => ?_)
      rotate_left
      · exact absurd (by decide) c_10
      refine lv_aload_n (pc := 30) hx hb dX5_over_30 rfl (lv_at hl 0 rfl) ?_
      refine r_get (pc := 31) E hC fo 0 (v := .ref ra) rfl rfl (by decide) uX5 (List.mem_cons_of_mem _ kw_1209) (fun _ h => h) dX5_over_31 ?_
      refine lv_iload_n (pc := 34) hx hb dX5_over_34 rfl (lv_at hl 3 rfl) ?_
      obtain ⟨hx_11, hk_11⟩ := m_noN (m_ano (er_6.symm.trans c_8)).2
      refine r_aaldJ (pc := 35) E hC fj (nn x3) hx_11 hk_11 (by decide) rfl dX5_over_35 ?_
      have fL12 := fk (nn x3) hk_11
      have mF_fL12 := hFk (nn x3) hk_11
      have Pq_fL12 := hPk (nn x3) hk_11
      have hZ0_ := hS.1
      have t_fo := fo.lt
      have t_fj := fj.lt
      have t_fk := fun k (hk9 : k < 6) => (fk k hk9).lt
      have t_fe := fe.lt
      have t_fr := fr.lt
      have t_fL12 := fL12.lt
      refine k_o (pc := 36) (k_S E hC hS hA hl.1 (c_X5_inverse l D tk N0 sa H.size (rt (nn x3)) (tt (nn x3)) (bb (nn x3)) (fun z9 => (m_inv mF_fL12 z9).1)) kw_1315 kw_1316 kw_5 kw_1317 (n := 1) (by decide +kernel) rfl ⟨⟨rfl, rfl⟩, ⟨Nat.le_of_ble_eq_true rfl, Nat.le_of_ble_eq_true rfl⟩, (by dsimp only; omega), (by dsimp only; omega)⟩ rfl (Nat.le_of_ble_eq_true rfl) fL12 dX5_over_36) hS (fun q z w => absurd w (Nat.not_le.mpr z)) hn (fun r_13 H locs hR hz hk hS => ?_)
      have fw := fw.new hk
      have fo := fo.kept (hk _ fo.lt (Nat.not_le.mpr fo.lt))
      have fj := fj.kept (hk _ fj.lt (Nat.not_le.mpr fj.lt))
      have fk := fk.new hk
      have fe := fe.kept (hk _ fe.lt (Nat.not_le.mpr fe.lt))
      have fr := fr.kept (hk _ fr.lt (Nat.not_le.mpr fr.lt))
      have fL12 := fL12.kept (hk _ fL12.lt (Nat.not_le.mpr fL12.lt))
      rcases hR with ⟨rfl, hn_14⟩ | ⟨q_f14, rfl, hn_14, z9_, f14⟩
      · refine lv_astoreN (pc := 39) (lv' := [(4, .null), (0, .ref mo), (1, .int x1), (2, .int x2), (3, .int x3)]) hx hb dX5_over_39 hl (by decide) rfl (fun ls hl => ?_)
        refine lv_aload_n (pc := 41) hx hb dX5_over_41 rfl (lv_at hl 1 rfl) ?_
        refine lv_iload_n (pc := 42) hx hb dX5_over_42 rfl (lv_at hl 2 rfl) ?_
        refine lv_aloadN (pc := 43) hx hb dX5_over_43 (lv_at hl 0 rfl) ?_
        refine lv_ifnonnullN (pc := 45) hx hb dX5_over_45 ?_
        refine lv_null (pc := 48) hx hb dX5_over_48 ?_
        refine lv_goto (pc := 49) (tgt := 63) hx hb dX5_over_49 (by decide) ?_
        have hZ0_ := hS.1
        have t_fo := fo.lt
        have t_fj := fj.lt
        have t_fk := fun k (hk9 : k < 6) => (fk k hk9).lt
        have t_fe := fe.lt
        have t_fr := fr.lt
        have t_fL12 := fL12.lt
        obtain ⟨hx_15, hk_15⟩ := m_noN (er_1.symm.trans c_3)
        refine k_i (pc := 63) (k_V E hC hS hA hl.1 (c1.recv hC fo rfl) rfl (c_X5_become_N l D tk N0 sa H.size P hPN (fun q h9 => hPs q (Nat.le_trans hS.1 h9)) mo n9 kn ((m_th 0 0)) tt bb eT eB oT oB pk ca rf vs x1 (nn x1) hx_15 hk_15 ) kw_1255 kw_1257 kp_21 kw_5 kw_1258 (n := 2) (by decide +kernel) rfl ⟨⟨rfl, rfl⟩, ⟨Nat.le_of_ble_eq_true rfl, Nat.le_of_ble_eq_true rfl⟩, (by dsimp only; omega), (by dsimp only; omega)⟩ rfl (Nat.le_of_ble_eq_true rfl) ⟨_, _, _, _, _, fo, fj, fk, fe, fr, fw, ⟨hPm, hPa, hPl, hPe, hPr, hPk⟩, hFk, hFe, hFr, hpk, hn9⟩ dX5_over_63) hS (fun q _ h => h) hn (fun r_16 H locs hR hz hk hS => ?_)
        obtain ⟨tt_17, bb_17, rf_17, hM, hBE_17⟩ := hR
        obtain ⟨ra, rl, ex, ro, rt, fo, fj, fk, fe, fr, fw, ⟨hPm, hPa, hPl, hPe, hPr, hPk⟩, hFk, hFe, hFr, hpk, hn9⟩ := hM
        have g_fo := hPm
        have g_fj := hPa
        refine r_iret (pc := 66) E hr hlk hS (by omega) (by omega) ?_ dX5_over_66
        exact ⟨_, _, _, _, ⟨_, _, _, _, _, fo, fj, fk, fe, fr, fw, ⟨hPm, hPa, hPl, hPe, hPr, hPk⟩, hFk, hFe, hFr, hpk, hn9⟩, AC.ok (by subst er_1 er_6; first | rfl | (simp [m_or, m_not, m_is0, m_lt0, m_fl, c_3, c_8]; done)) (by subst er_1 er_6; first | rfl | (simp [m_or, m_not, m_is0, m_lt0, m_fl, c_3, c_8]; done)) (er_9.symm.trans ef_r_9) (hBE_17.cast (by unfold m_OV; rw [if_pos hn_14]))⟩
      · have s_f14 : s.heap.size ≤ q_f14 := Nat.le_trans hZ0_ z9_
        have g_f14 := hn _ s_f14
        have l_fo_f14 : mo < q_f14 := Nat.lt_of_lt_of_le t_fo z9_
        have l_fj_f14 : ra < q_f14 := Nat.lt_of_lt_of_le t_fj z9_
        have nW_f14 : ∀ k, k < 6 → rt k ≠ q_f14 := fun k hk9 => Nat.ne_of_lt (Nat.lt_of_lt_of_le (t_fk k hk9) z9_)
        have l_fe_f14 : ex < q_f14 := Nat.lt_of_lt_of_le t_fe z9_
        have l_fr_f14 : ro < q_f14 := Nat.lt_of_lt_of_le t_fr z9_
        have l_fL12_f14 : rt (nn x3) < q_f14 := Nat.lt_of_lt_of_le t_fL12 z9_
        refine lv_astore (pc := 39) (lv' := [(4, .ref q_f14), (0, .ref mo), (1, .int x1), (2, .int x2), (3, .int x3)]) hx hb dX5_over_39 hl (by decide) rfl (fun ls hl => ?_)
        refine lv_aload_n (pc := 41) hx hb dX5_over_41 rfl (lv_at hl 1 rfl) ?_
        refine lv_iload_n (pc := 42) hx hb dX5_over_42 rfl (lv_at hl 2 rfl) ?_
        refine lv_aload (pc := 43) hx hb dX5_over_43 (lv_at hl 0 rfl) ?_
        refine lv_ifnonnull (pc := 45) (tgt := 52) hx hb dX5_over_45 (by decide) ?_
        refine lv_aload_n (pc := 52) hx hb dX5_over_52 rfl (lv_at hl 1 rfl) ?_
        refine r_get (pc := 53) E hC fo 0 (v := .ref ra) rfl rfl (by decide) uX5 (List.mem_cons_of_mem _ kw_1209) (fun _ h => h) dX5_over_53 ?_
        refine lv_iload_n (pc := 56) hx hb dX5_over_56 rfl (lv_at hl 3 rfl) ?_
        obtain ⟨hx_18, hk_18⟩ := m_noN (m_ano (er_6.symm.trans c_8)).1
        refine r_aaldJ (pc := 57) E hC fj (nn x2) hx_18 hk_18 (by decide) rfl dX5_over_57 ?_
        have fL19 := fk (nn x2) hk_18
        have mF_fL19 := hFk (nn x2) hk_18
        have Pq_fL19 := hPk (nn x2) hk_18
        refine lv_aload (pc := 58) hx hb dX5_over_58 (lv_at hl 0 rfl) ?_
        have hP9 := m_prod mF_fL19 (m_invP mF_fL12 hn_14)
        have hZ0_ := hS.1
        have t_fo := fo.lt
        have t_fj := fj.lt
        have t_fk := fun k (hk9 : k < 6) => (fk k hk9).lt
        have t_fe := fe.lt
        have t_fr := fr.lt
        have t_fL12 := fL12.lt
        have t_f14 := f14.lt
        have t_fL19 := fL19.lt
        refine k_r (pc := 60) (k_S E hC hS hA hl.1 (c_X5_product l D tk N0 sa H.size (rt (nn x2)) (tt (nn x2)) (bb (nn x2)) q_f14 (m_loT (bb (nn x3)) (tt (nn x3))) (m_loB (bb (nn x3)) (tt (nn x3))) hP9.1) kw_1308 kw_1309 kw_5 kw_1310 (n := 2) (by decide +kernel) rfl ⟨⟨rfl, rfl⟩, ⟨Nat.le_of_ble_eq_true rfl, Nat.le_of_ble_eq_true rfl⟩, (by dsimp only; omega), (by dsimp only; omega)⟩ rfl (Nat.le_of_ble_eq_true rfl) ⟨fL19, f14⟩ dX5_over_60) hS (fun q z w => absurd w (Nat.not_le.mpr z)) hn (fun r_20 H locs hR hz hk hS => ?_)
        have fw := fw.new hk
        have fo := fo.kept (hk _ fo.lt (Nat.not_le.mpr fo.lt))
        have fj := fj.kept (hk _ fj.lt (Nat.not_le.mpr fj.lt))
        have fk := fk.new hk
        have fe := fe.kept (hk _ fe.lt (Nat.not_le.mpr fe.lt))
        have fr := fr.kept (hk _ fr.lt (Nat.not_le.mpr fr.lt))
        have fL12 := fL12.kept (hk _ fL12.lt (Nat.not_le.mpr fL12.lt))
        have f14 := f14.kept (hk _ f14.lt (Nat.not_le.mpr f14.lt))
        have fL19 := fL19.kept (hk _ fL19.lt (Nat.not_le.mpr fL19.lt))
        obtain ⟨z9_, f21⟩ := hR
        have s_f21 : s.heap.size ≤ r_20 := Nat.le_trans hZ0_ z9_
        have g_f21 := hn _ s_f21
        have l_fo_f21 : mo < r_20 := Nat.lt_of_lt_of_le t_fo z9_
        have l_fj_f21 : ra < r_20 := Nat.lt_of_lt_of_le t_fj z9_
        have nW_f21 : ∀ k, k < 6 → rt k ≠ r_20 := fun k hk9 => Nat.ne_of_lt (Nat.lt_of_lt_of_le (t_fk k hk9) z9_)
        have l_fe_f21 : ex < r_20 := Nat.lt_of_lt_of_le t_fe z9_
        have l_fr_f21 : ro < r_20 := Nat.lt_of_lt_of_le t_fr z9_
        have l_fL12_f21 : rt (nn x3) < r_20 := Nat.lt_of_lt_of_le t_fL12 z9_
        have l_f14_f21 : q_f14 < r_20 := Nat.lt_of_lt_of_le t_f14 z9_
        have l_fL19_f21 : rt (nn x2) < r_20 := Nat.lt_of_lt_of_le t_fL19 z9_
        have hZ0_ := hS.1
        have t_fo := fo.lt
        have t_fj := fj.lt
        have t_fk := fun k (hk9 : k < 6) => (fk k hk9).lt
        have t_fe := fe.lt
        have t_fr := fr.lt
        have t_fL12 := fL12.lt
        have t_f14 := f14.lt
        have t_fL19 := fL19.lt
        have t_f21 := f21.lt
        obtain ⟨hx_22, hk_22⟩ := m_noN (er_1.symm.trans c_3)
        refine k_i (pc := 63) (k_V E hC hS hA hl.1 (c1.recv hC fo rfl) rfl (c_X5_become l D tk N0 sa H.size P hPN (fun q h9 => hPs q (Nat.le_trans hS.1 h9)) mo n9 kn ((m_th 0 0)) tt bb eT eB oT oB pk ca rf vs x1 (nn x1) hx_22 hk_22 r_20 (m_loT ((tt (nn x2)) * (m_loT (bb (nn x3)) (tt (nn x3)))) ((bb (nn x2)) * (m_loB (bb (nn x3)) (tt (nn x3))))) (m_loB ((tt (nn x2)) * (m_loT (bb (nn x3)) (tt (nn x3)))) ((bb (nn x2)) * (m_loB (bb (nn x3)) (tt (nn x3))))) (hPs _ s_f21) hP9.2.1) kw_1255 kw_1257 kp_21 kw_5 kw_1258 (n := 2) (by decide +kernel) rfl ⟨⟨rfl, rfl⟩, ⟨Nat.le_of_ble_eq_true rfl, Nat.le_of_ble_eq_true rfl⟩, (by dsimp only; omega), (by dsimp only; omega)⟩ rfl (Nat.le_of_ble_eq_true rfl) ⟨⟨_, _, _, _, _, fo, fj, fk, fe, fr, fw, ⟨hPm, hPa, hPl, hPe, hPr, hPk⟩, hFk, hFe, hFr, hpk, hn9⟩, f21⟩ dX5_over_63) hS (fun q _ h => h) hn (fun r_23 H locs hR hz hk hS => ?_)
        obtain ⟨tt_24, bb_24, rf_24, hM, hBE_24⟩ := hR
        obtain ⟨ra, rl, ex, ro, rt, fo, fj, fk, fe, fr, fw, ⟨hPm, hPa, hPl, hPe, hPr, hPk⟩, hFk, hFe, hFr, hpk, hn9⟩ := hM
        have g_fo := hPm
        have g_fj := hPa
        refine r_iret (pc := 66) E hr hlk hS (by omega) (by omega) ?_ dX5_over_66
        exact ⟨_, _, _, _, ⟨_, _, _, _, _, fo, fj, fk, fe, fr, fw, ⟨hPm, hPa, hPl, hPe, hPr, hPk⟩, hFk, hFe, hFr, hpk, hn9⟩, AC.ok (by subst er_1 er_6; first | rfl | (simp [m_or, m_not, m_is0, m_lt0, m_fl, c_3, c_8]; done)) (by subst er_1 er_6; first | rfl | (simp [m_or, m_not, m_is0, m_lt0, m_fl, c_3, c_8]; done)) (er_9.symm.trans ef_r_9) (hBE_24.cast (by unfold m_OV; rw [if_neg hn_14]; rfl))⟩
    · refine lv_iconst (pc := 16) (v := 1) hx hb dX5_over_16 (by decide) ?_
      refine lv_goto (pc := 17) (tgt := 21) hx hb dX5_over_17 (by decide) ?_
      refine lv_iconst (pc := 21) (v := 0) hx hb dX5_over_21 (by decide) ?_
      have hZ0_ := hS.1
      have t_fo := fo.lt
      have t_fj := fj.lt
      have t_fk := fun k (hk9 : k < 6) => (fk k hk9).lt
      have t_fe := fe.lt
      have t_fr := fr.lt
      refine k_i (pc := 22) (k_V E hC hS hA hl.1 (c1.recv hC fo rfl) rfl (c_X5_fails l D tk N0 sa H.size P hPN (fun q h9 => hPs q (Nat.le_trans hS.1 h9)) mo n9 kn th tt bb eT eB oT oB pk ca rf vs 1 0 ) kw_1251 kw_1253 kp_20 kw_5 kw_1254 (n := 2) (by decide +kernel) rfl ⟨⟨rfl, rfl⟩, ⟨Nat.le_of_ble_eq_true rfl, Nat.le_of_ble_eq_true rfl⟩, (by dsimp only; omega), (by dsimp only; omega)⟩ rfl (Nat.le_of_ble_eq_true rfl) ⟨_, _, _, _, _, fo, fj, fk, fe, fr, fw, ⟨hPm, hPa, hPl, hPe, hPr, hPk⟩, hFk, hFe, hFr, hpk, hn9⟩ dX5_over_22) hS (fun q _ h => h) hn (fun r_25 H locs hR hz hk hS => ?_)
      obtain ⟨er_25, hM⟩ := hR
      obtain ⟨ra, rl, ex, ro, rt, fo, fj, fk, fe, fr, fw, ⟨hPm, hPa, hPl, hPe, hPr, hPk⟩, hFk, hFe, hFr, hpk, hn9⟩ := hM
      have g_fo := hPm
      have g_fj := hPa
      have ef_r_25 : r_25 = 1 := er_25.trans (if_neg (by decide))
      rw [ef_r_25]
      refine lv_if_eq (pc := 25) (tgt := 30) hx hb dX5_over_25 (by decide) (fun c_26 => ?_) (fun c_26 => ?_)
      · exact absurd c_26 (by decide)
      refine lv_iconst (pc := 28) (v := 0) hx hb dX5_over_28 (by decide) ?_
      refine r_iret (pc := 29) E hr hlk hS (by omega) (by omega) ?_ dX5_over_29
      exact ⟨_, _, _, _, ⟨_, _, _, _, _, fo, fj, fk, fe, fr, fw, ⟨hPm, hPa, hPl, hPe, hPr, hPk⟩, hFk, hFe, hFr, hpk, hn9⟩, AC.fail (by subst er_1 er_6; first | rfl | (simp [m_or, m_not, m_is0, m_lt0, m_fl, c_3, c_8]; done)) (by subst er_1 er_6; first | rfl | (simp [m_or, m_not, m_is0, m_lt0, m_fl, c_3, c_8]; done)) (fun z9 => absurd (ef_r_25.symm.trans (er_25.trans z9)) (by decide))⟩
set_option maxHeartbeats 4000000 in
set_option maxRecDepth 100000 in
/-- BestratiosModel.negate(I)I -/
theorem c_X5_negate (l : Launch) (D : va_G) (tk : Nat → ClassId) (N0 : Nat) (sa : Nat → Nat)  (sz : Nat) (P : Nat → Prop) (hPN : ∀ q, P q → N0 ≤ q) (hPs : ∀ q, sz ≤ q → P q) (mo n9 : Nat) (kn th : Int32) (tt bb : Nat → Int64) (eT eB oT oB : Int64) (pk : Nat) (ca rf : Int32) (vs : Nat → Value) (x1 : Int32) : Met l yX5_negate (wsy yX5_negate cX5_negate 2 (some .int)) ({ frames := 3, cells := 1, slots := 2, locals := 77 } : Room) (cP D tk N0 sa [.ref mo, .int x1] sz (fun H => MI D tk sa P mo tt bb eT eB oT oB pk ca rf vs kn n9 th H)) (kQi (fun r H => ∃ th1 tt1 bb1 rf1, MI D tk sa P mo tt1 bb1 eT eB oT oB pk ca rf1 vs kn n9 th1 H ∧ AC (m_isNo x1) 0 tt bb rf (nn x1) (LO (-tt (nn x1)) (bb (nn x1))) r th1 tt1 bb1 rf1) (P)) (1) (2) (P) := by
  refine mStart RX5 rfl (by decide +kernel) (Nat.le_of_ble_eq_true rfl) ?_
  intro p e s m args below meth c E hr hlk hnm hsz hC hF ls hl
  subst hsz
  obtain ⟨hx, hb, -⟩ := id E
  have hA : ∀ q, (P) q → N0 ≤ q := hPN
  have hn : ∀ q, s.heap.size ≤ q → (P) q := hPs
  have hS : va_S (P) s.heap s.heap [] := va_S.rf
  have hl : lv_has ls 2 [(0, .ref mo), (1, .int x1)] := hl
  have hM : MI D tk sa P mo tt bb eT eB oT oB pk ca rf vs kn n9 th s.heap := hF
  obtain ⟨ra, rl, ex, ro, rt, fo, fj, fk, fe, fr, fw, ⟨hPm, hPa, hPl, hPe, hPr, hPk⟩, hFk, hFe, hFr, hpk, hn9⟩ := hM
  have g_fo := hPm
  have g_fj := hPa
  refine lv_aload_n (pc := 0) hx hb dX5_negate_0 rfl (lv_at hl 0 rfl) ?_
  refine lv_iload_n (pc := 1) hx hb dX5_negate_1 rfl (lv_at hl 1 rfl) ?_
  refine k_i (pc := 2) (k_S E hC hS hA hl.1 (c_X5_isNo l D tk N0 sa s.heap.size x1 ) kw_1245 kw_1246 kw_5 kw_1247 (n := 1) (by decide +kernel) rfl ⟨⟨rfl, rfl⟩, ⟨Nat.le_of_ble_eq_true rfl, Nat.le_of_ble_eq_true rfl⟩, (by dsimp only; omega), (by dsimp only; omega)⟩ rfl (Nat.le_of_ble_eq_true rfl) trivial dX5_negate_2) hS (fun q z w => absurd w (Nat.not_le.mpr z)) hn (fun r_1 H locs hR hz hk hS => ?_)
  have er_1 := hR
  have fw := fw.new hk
  have fo := fo.kept (hk _ fo.lt (Nat.not_le.mpr fo.lt))
  have fj := fj.kept (hk _ fj.lt (Nat.not_le.mpr fj.lt))
  have fk := fk.new hk
  have fe := fe.kept (hk _ fe.lt (Nat.not_le.mpr fe.lt))
  have fr := fr.kept (hk _ fr.lt (Nat.not_le.mpr fr.lt))
  refine lv_iconst (pc := 5) (v := 0) hx hb dX5_negate_5 (by decide) ?_
  have hZ0_ := hS.1
  have t_fo := fo.lt
  have t_fj := fj.lt
  have t_fk := fun k (hk9 : k < 6) => (fk k hk9).lt
  have t_fe := fe.lt
  have t_fr := fr.lt
  refine k_i (pc := 6) (k_V E hC hS hA hl.1 (c1.recv hC fo rfl) rfl (c_X5_fails l D tk N0 sa H.size P hPN (fun q h9 => hPs q (Nat.le_trans hS.1 h9)) mo n9 kn th tt bb eT eB oT oB pk ca rf vs r_1 0 ) kw_1251 kw_1253 kp_20 kw_5 kw_1254 (n := 2) (by decide +kernel) rfl ⟨⟨rfl, rfl⟩, ⟨Nat.le_of_ble_eq_true rfl, Nat.le_of_ble_eq_true rfl⟩, (by dsimp only; omega), (by dsimp only; omega)⟩ rfl (Nat.le_of_ble_eq_true rfl) ⟨_, _, _, _, _, fo, fj, fk, fe, fr, fw, ⟨hPm, hPa, hPl, hPe, hPr, hPk⟩, hFk, hFe, hFr, hpk, hn9⟩ dX5_negate_6) hS (fun q _ h => h) hn (fun r_3 H locs hR hz hk hS => ?_)
  obtain ⟨er_3, hM⟩ := hR
  obtain ⟨ra, rl, ex, ro, rt, fo, fj, fk, fe, fr, fw, ⟨hPm, hPa, hPl, hPe, hPr, hPk⟩, hFk, hFe, hFr, hpk, hn9⟩ := hM
  have g_fo := hPm
  have g_fj := hPa
  refine lv_if_eq (pc := 9) (tgt := 16) hx hb dX5_negate_9 (by decide) (fun c_4 => ?_) (fun c_4 => ?_)
  · refine lv_aload_n (pc := 16) hx hb dX5_negate_16 rfl (lv_at hl 0 rfl) ?_
    refine lv_iload_n (pc := 17) hx hb dX5_negate_17 rfl (lv_at hl 1 rfl) ?_
    refine lv_aload_n (pc := 18) hx hb dX5_negate_18 rfl (lv_at hl 0 rfl) ?_
    refine r_get (pc := 19) E hC fo 0 (v := .ref ra) rfl rfl (by decide) uX5 (List.mem_cons_of_mem _ kw_1209) (fun _ h => h) dX5_negate_19 ?_
    refine lv_iload_n (pc := 22) hx hb dX5_negate_22 rfl (lv_at hl 1 rfl) ?_
    obtain ⟨hx_5, hk_5⟩ := m_noN (er_1.symm.trans (m_fl0 (er_3.symm.trans c_4)).1)
    refine r_aaldJ (pc := 23) E hC fj (nn x1) hx_5 hk_5 (by decide) rfl dX5_negate_23 ?_
    have fL6 := fk (nn x1) hk_5
    have mF_fL6 := hFk (nn x1) hk_5
    have Pq_fL6 := hPk (nn x1) hk_5
    refine lv_iconst (pc := 24) (v := 0) hx hb dX5_negate_24 (by decide) ?_
    refine r_l0 (pc := 25) E hC fL6 dX5_negate_25 ?_
    refine lv_lneg (pc := 26) hx hb dX5_negate_26 ?_
    refine lv_aload_n (pc := 27) hx hb dX5_negate_27 rfl (lv_at hl 0 rfl) ?_
    refine r_get (pc := 28) E hC fo 0 (v := .ref ra) rfl rfl (by decide) uX5 (List.mem_cons_of_mem _ kw_1209) (fun _ h => h) dX5_negate_28 ?_
    refine lv_iload_n (pc := 31) hx hb dX5_negate_31 rfl (lv_at hl 1 rfl) ?_
    refine r_aaldJ (pc := 32) E hC fj (nn x1) hx_5 hk_5 (by decide) rfl dX5_negate_32 ?_
    have fL7 := fk (nn x1) hk_5
    have mF_fL7 := hFk (nn x1) hk_5
    have Pq_fL7 := hPk (nn x1) hk_5
    refine lv_iconst (pc := 33) (v := 1) hx hb dX5_negate_33 (by decide) ?_
    refine r_l1 (pc := 34) E hC fL7 dX5_negate_34 ?_
    have hP9 := m_negP mF_fL7
    have hZ0_ := hS.1
    have t_fo := fo.lt
    have t_fj := fj.lt
    have t_fk := fun k (hk9 : k < 6) => (fk k hk9).lt
    have t_fe := fe.lt
    have t_fr := fr.lt
    have t_fL6 := fL6.lt
    have t_fL7 := fL7.lt
    refine k_r (pc := 35) (k_S E hC hS hA hl.1 (c_X5_lowest l D tk N0 sa H.size (-(tt (nn x1))) (bb (nn x1)) hP9.1) kw_1199 kw_1200 kw_5 kw_1201 (n := 2) (by decide +kernel) rfl ⟨⟨rfl, rfl⟩, ⟨Nat.le_of_ble_eq_true rfl, Nat.le_of_ble_eq_true rfl⟩, (by dsimp only; omega), (by dsimp only; omega)⟩ rfl (Nat.le_of_ble_eq_true rfl) trivial dX5_negate_35) hS (fun q z w => absurd w (Nat.not_le.mpr z)) hn (fun r_8 H locs hR hz hk hS => ?_)
    have fw := fw.new hk
    have fo := fo.kept (hk _ fo.lt (Nat.not_le.mpr fo.lt))
    have fj := fj.kept (hk _ fj.lt (Nat.not_le.mpr fj.lt))
    have fk := fk.new hk
    have fe := fe.kept (hk _ fe.lt (Nat.not_le.mpr fe.lt))
    have fr := fr.kept (hk _ fr.lt (Nat.not_le.mpr fr.lt))
    have fL6 := fL6.kept (hk _ fL6.lt (Nat.not_le.mpr fL6.lt))
    have fL7 := fL7.kept (hk _ fL7.lt (Nat.not_le.mpr fL7.lt))
    obtain ⟨z9_, f9⟩ := hR
    have s_f9 : s.heap.size ≤ r_8 := Nat.le_trans hZ0_ z9_
    have g_f9 := hn _ s_f9
    have l_fo_f9 : mo < r_8 := Nat.lt_of_lt_of_le t_fo z9_
    have l_fj_f9 : ra < r_8 := Nat.lt_of_lt_of_le t_fj z9_
    have nW_f9 : ∀ k, k < 6 → rt k ≠ r_8 := fun k hk9 => Nat.ne_of_lt (Nat.lt_of_lt_of_le (t_fk k hk9) z9_)
    have l_fe_f9 : ex < r_8 := Nat.lt_of_lt_of_le t_fe z9_
    have l_fr_f9 : ro < r_8 := Nat.lt_of_lt_of_le t_fr z9_
    have l_fL6_f9 : rt (nn x1) < r_8 := Nat.lt_of_lt_of_le t_fL6 z9_
    have l_fL7_f9 : rt (nn x1) < r_8 := Nat.lt_of_lt_of_le t_fL7 z9_
    have hZ0_ := hS.1
    have t_fo := fo.lt
    have t_fj := fj.lt
    have t_fk := fun k (hk9 : k < 6) => (fk k hk9).lt
    have t_fe := fe.lt
    have t_fr := fr.lt
    have t_fL6 := fL6.lt
    have t_fL7 := fL7.lt
    have t_f9 := f9.lt
    refine k_i (pc := 38) (k_V E hC hS hA hl.1 (c1.recv hC fo rfl) rfl (c_X5_become l D tk N0 sa H.size P hPN (fun q h9 => hPs q (Nat.le_trans hS.1 h9)) mo n9 kn ((m_th r_1 0)) tt bb eT eB oT oB pk ca rf vs x1 (nn x1) hx_5 hk_5 r_8 (m_loT (-(tt (nn x1))) (bb (nn x1))) (m_loB (-(tt (nn x1))) (bb (nn x1))) (hPs _ s_f9) hP9.2) kw_1255 kw_1257 kp_21 kw_5 kw_1258 (n := 2) (by decide +kernel) rfl ⟨⟨rfl, rfl⟩, ⟨Nat.le_of_ble_eq_true rfl, Nat.le_of_ble_eq_true rfl⟩, (by dsimp only; omega), (by dsimp only; omega)⟩ rfl (Nat.le_of_ble_eq_true rfl) ⟨⟨_, _, _, _, _, fo, fj, fk, fe, fr, fw, ⟨hPm, hPa, hPl, hPe, hPr, hPk⟩, hFk, hFe, hFr, hpk, hn9⟩, f9⟩ dX5_negate_38) hS (fun q _ h => h) hn (fun r_10 H locs hR hz hk hS => ?_)
    obtain ⟨tt_11, bb_11, rf_11, hM, hBE_11⟩ := hR
    obtain ⟨ra, rl, ex, ro, rt, fo, fj, fk, fe, fr, fw, ⟨hPm, hPa, hPl, hPe, hPr, hPk⟩, hFk, hFe, hFr, hpk, hn9⟩ := hM
    have g_fo := hPm
    have g_fj := hPa
    refine r_iret (pc := 41) E hr hlk hS (by omega) (by omega) ?_ dX5_negate_41
    exact ⟨_, _, _, _, ⟨_, _, _, _, _, fo, fj, fk, fe, fr, fw, ⟨hPm, hPa, hPl, hPe, hPr, hPk⟩, hFk, hFe, hFr, hpk, hn9⟩, AC.ok (by subst er_1 er_3; first | rfl | (simp [m_or, m_not, m_is0, m_lt0, m_fl, c_4]; done)) (by subst er_1 er_3; first | rfl | (simp [m_or, m_not, m_is0, m_lt0, m_fl, c_4]; done)) (er_3.symm.trans c_4) (hBE_11.cast (by subst er_1 er_3; first | rfl | (simp [LO, c_4]; done)))⟩
  · refine lv_iconst (pc := 12) (v := 0) hx hb dX5_negate_12 (by decide) ?_
    refine lv_goto (pc := 13) (tgt := 41) hx hb dX5_negate_13 (by decide) ?_
    refine r_iret (pc := 41) E hr hlk hS (by omega) (by omega) ?_ dX5_negate_41
    exact ⟨_, _, _, _, ⟨_, _, _, _, _, fo, fj, fk, fe, fr, fw, ⟨hPm, hPa, hPl, hPe, hPr, hPk⟩, hFk, hFe, hFr, hpk, hn9⟩, AC.fail (by subst er_1 er_3; first | rfl | (simp [m_or, m_not, m_is0, m_lt0, m_fl, c_4]; done)) (by subst er_1 er_3; first | rfl | (simp [m_or, m_not, m_is0, m_lt0, m_fl, c_4]; done)) (fun z9 => c_4 (er_3.trans z9))⟩
set_option maxHeartbeats 4000000 in
set_option maxRecDepth 100000 in
/-- BestratiosModel.invert(I)I -/
theorem c_X5_invert (l : Launch) (D : va_G) (tk : Nat → ClassId) (N0 : Nat) (sa : Nat → Nat)  (sz : Nat) (P : Nat → Prop) (hPN : ∀ q, P q → N0 ≤ q) (hPs : ∀ q, sz ≤ q → P q) (mo n9 : Nat) (kn th : Int32) (tt bb : Nat → Int64) (eT eB oT oB : Int64) (pk : Nat) (ca rf : Int32) (vs : Nat → Value) (x1 : Int32) : Met l yX5_invert (wsy yX5_invert cX5_invert 2 (some .int)) ({ frames := 4, cells := 1, slots := 2, locals := 97 } : Room) (cP D tk N0 sa [.ref mo, .int x1] sz (fun H => MI D tk sa P mo tt bb eT eB oT oB pk ca rf vs kn n9 th H)) (kQi (fun r H => ∃ th1 tt1 bb1 rf1, MI D tk sa P mo tt1 bb1 eT eB oT oB pk ca rf1 vs kn n9 th1 H ∧ AC (m_isNo x1) 0 tt bb rf (nn x1) (m_IV (tt (nn x1)) (bb (nn x1))) r th1 tt1 bb1 rf1) (P)) (1) (2) (P) := by
  refine mStart RX5 rfl (by decide +kernel) (Nat.le_of_ble_eq_true rfl) ?_
  intro p e s m args below meth c E hr hlk hnm hsz hC hF ls hl
  subst hsz
  obtain ⟨hx, hb, -⟩ := id E
  have hA : ∀ q, (P) q → N0 ≤ q := hPN
  have hn : ∀ q, s.heap.size ≤ q → (P) q := hPs
  have hS : va_S (P) s.heap s.heap [] := va_S.rf
  have hl : lv_has ls 2 [(0, .ref mo), (1, .int x1)] := hl
  have hM : MI D tk sa P mo tt bb eT eB oT oB pk ca rf vs kn n9 th s.heap := hF
  obtain ⟨ra, rl, ex, ro, rt, fo, fj, fk, fe, fr, fw, ⟨hPm, hPa, hPl, hPe, hPr, hPk⟩, hFk, hFe, hFr, hpk, hn9⟩ := hM
  have g_fo := hPm
  have g_fj := hPa
  refine lv_aload_n (pc := 0) hx hb dX5_invert_0 rfl (lv_at hl 0 rfl) ?_
  refine lv_iload_n (pc := 1) hx hb dX5_invert_1 rfl (lv_at hl 1 rfl) ?_
  refine k_i (pc := 2) (k_S E hC hS hA hl.1 (c_X5_isNo l D tk N0 sa s.heap.size x1 ) kw_1245 kw_1246 kw_5 kw_1247 (n := 1) (by decide +kernel) rfl ⟨⟨rfl, rfl⟩, ⟨Nat.le_of_ble_eq_true rfl, Nat.le_of_ble_eq_true rfl⟩, (by dsimp only; omega), (by dsimp only; omega)⟩ rfl (Nat.le_of_ble_eq_true rfl) trivial dX5_invert_2) hS (fun q z w => absurd w (Nat.not_le.mpr z)) hn (fun r_1 H locs hR hz hk hS => ?_)
  have er_1 := hR
  have fw := fw.new hk
  have fo := fo.kept (hk _ fo.lt (Nat.not_le.mpr fo.lt))
  have fj := fj.kept (hk _ fj.lt (Nat.not_le.mpr fj.lt))
  have fk := fk.new hk
  have fe := fe.kept (hk _ fe.lt (Nat.not_le.mpr fe.lt))
  have fr := fr.kept (hk _ fr.lt (Nat.not_le.mpr fr.lt))
  refine lv_iconst (pc := 5) (v := 0) hx hb dX5_invert_5 (by decide) ?_
  have hZ0_ := hS.1
  have t_fo := fo.lt
  have t_fj := fj.lt
  have t_fk := fun k (hk9 : k < 6) => (fk k hk9).lt
  have t_fe := fe.lt
  have t_fr := fr.lt
  refine k_i (pc := 6) (k_V E hC hS hA hl.1 (c1.recv hC fo rfl) rfl (c_X5_fails l D tk N0 sa H.size P hPN (fun q h9 => hPs q (Nat.le_trans hS.1 h9)) mo n9 kn th tt bb eT eB oT oB pk ca rf vs r_1 0 ) kw_1251 kw_1253 kp_20 kw_5 kw_1254 (n := 2) (by decide +kernel) rfl ⟨⟨rfl, rfl⟩, ⟨Nat.le_of_ble_eq_true rfl, Nat.le_of_ble_eq_true rfl⟩, (by dsimp only; omega), (by dsimp only; omega)⟩ rfl (Nat.le_of_ble_eq_true rfl) ⟨_, _, _, _, _, fo, fj, fk, fe, fr, fw, ⟨hPm, hPa, hPl, hPe, hPr, hPk⟩, hFk, hFe, hFr, hpk, hn9⟩ dX5_invert_6) hS (fun q _ h => h) hn (fun r_3 H locs hR hz hk hS => ?_)
  obtain ⟨er_3, hM⟩ := hR
  obtain ⟨ra, rl, ex, ro, rt, fo, fj, fk, fe, fr, fw, ⟨hPm, hPa, hPl, hPe, hPr, hPk⟩, hFk, hFe, hFr, hpk, hn9⟩ := hM
  have g_fo := hPm
  have g_fj := hPa
  refine lv_if_eq (pc := 9) (tgt := 16) hx hb dX5_invert_9 (by decide) (fun c_4 => ?_) (fun c_4 => ?_)
  · refine lv_aload_n (pc := 16) hx hb dX5_invert_16 rfl (lv_at hl 0 rfl) ?_
    refine lv_iload_n (pc := 17) hx hb dX5_invert_17 rfl (lv_at hl 1 rfl) ?_
    refine lv_aload_n (pc := 18) hx hb dX5_invert_18 rfl (lv_at hl 0 rfl) ?_
    refine r_get (pc := 19) E hC fo 0 (v := .ref ra) rfl rfl (by decide) uX5 (List.mem_cons_of_mem _ kw_1209) (fun _ h => h) dX5_invert_19 ?_
    refine lv_iload_n (pc := 22) hx hb dX5_invert_22 rfl (lv_at hl 1 rfl) ?_
    obtain ⟨hx_5, hk_5⟩ := m_noN (er_1.symm.trans (m_fl0 (er_3.symm.trans c_4)).1)
    refine r_aaldJ (pc := 23) E hC fj (nn x1) hx_5 hk_5 (by decide) rfl dX5_invert_23 ?_
    have fL6 := fk (nn x1) hk_5
    have mF_fL6 := hFk (nn x1) hk_5
    have Pq_fL6 := hPk (nn x1) hk_5
    have hZ0_ := hS.1
    have t_fo := fo.lt
    have t_fj := fj.lt
    have t_fk := fun k (hk9 : k < 6) => (fk k hk9).lt
    have t_fe := fe.lt
    have t_fr := fr.lt
    have t_fL6 := fL6.lt
    refine k_o (pc := 24) (k_S E hC hS hA hl.1 (c_X5_inverse l D tk N0 sa H.size (rt (nn x1)) (tt (nn x1)) (bb (nn x1)) (fun z9 => (m_inv mF_fL6 z9).1)) kw_1315 kw_1316 kw_5 kw_1317 (n := 1) (by decide +kernel) rfl ⟨⟨rfl, rfl⟩, ⟨Nat.le_of_ble_eq_true rfl, Nat.le_of_ble_eq_true rfl⟩, (by dsimp only; omega), (by dsimp only; omega)⟩ rfl (Nat.le_of_ble_eq_true rfl) fL6 dX5_invert_24) hS (fun q z w => absurd w (Nat.not_le.mpr z)) hn (fun r_7 H locs hR hz hk hS => ?_)
    have fw := fw.new hk
    have fo := fo.kept (hk _ fo.lt (Nat.not_le.mpr fo.lt))
    have fj := fj.kept (hk _ fj.lt (Nat.not_le.mpr fj.lt))
    have fk := fk.new hk
    have fe := fe.kept (hk _ fe.lt (Nat.not_le.mpr fe.lt))
    have fr := fr.kept (hk _ fr.lt (Nat.not_le.mpr fr.lt))
    have fL6 := fL6.kept (hk _ fL6.lt (Nat.not_le.mpr fL6.lt))
    rcases hR with ⟨rfl, hn_8⟩ | ⟨q_f8, rfl, hn_8, z9_, f8⟩
    · have hZ0_ := hS.1
      have t_fo := fo.lt
      have t_fj := fj.lt
      have t_fk := fun k (hk9 : k < 6) => (fk k hk9).lt
      have t_fe := fe.lt
      have t_fr := fr.lt
      have t_fL6 := fL6.lt
      refine k_i (pc := 27) (k_V E hC hS hA hl.1 (c1.recv hC fo rfl) rfl (c_X5_become_N l D tk N0 sa H.size P hPN (fun q h9 => hPs q (Nat.le_trans hS.1 h9)) mo n9 kn ((m_th r_1 0)) tt bb eT eB oT oB pk ca rf vs x1 (nn x1) hx_5 hk_5 ) kw_1255 kw_1257 kp_21 kw_5 kw_1258 (n := 2) (by decide +kernel) rfl ⟨⟨rfl, rfl⟩, ⟨Nat.le_of_ble_eq_true rfl, Nat.le_of_ble_eq_true rfl⟩, (by dsimp only; omega), (by dsimp only; omega)⟩ rfl (Nat.le_of_ble_eq_true rfl) ⟨_, _, _, _, _, fo, fj, fk, fe, fr, fw, ⟨hPm, hPa, hPl, hPe, hPr, hPk⟩, hFk, hFe, hFr, hpk, hn9⟩ dX5_invert_27) hS (fun q _ h => h) hn (fun r_9 H locs hR hz hk hS => ?_)
      obtain ⟨tt_10, bb_10, rf_10, hM, hBE_10⟩ := hR
      obtain ⟨ra, rl, ex, ro, rt, fo, fj, fk, fe, fr, fw, ⟨hPm, hPa, hPl, hPe, hPr, hPk⟩, hFk, hFe, hFr, hpk, hn9⟩ := hM
      have g_fo := hPm
      have g_fj := hPa
      refine r_iret (pc := 30) E hr hlk hS (by omega) (by omega) ?_ dX5_invert_30
      exact ⟨_, _, _, _, ⟨_, _, _, _, _, fo, fj, fk, fe, fr, fw, ⟨hPm, hPa, hPl, hPe, hPr, hPk⟩, hFk, hFe, hFr, hpk, hn9⟩, AC.ok (by subst er_1 er_3; first | rfl | (simp [m_or, m_not, m_is0, m_lt0, m_fl, c_4]; done)) (by subst er_1 er_3; first | rfl | (simp [m_or, m_not, m_is0, m_lt0, m_fl, c_4]; done)) (er_3.symm.trans c_4) (hBE_10.cast (by unfold m_IV; first | (rw [if_pos hn_8]; done) | (rw [if_neg hn_8]; rfl)))⟩
    · have s_f8 : s.heap.size ≤ q_f8 := Nat.le_trans hZ0_ z9_
      have g_f8 := hn _ s_f8
      have l_fo_f8 : mo < q_f8 := Nat.lt_of_lt_of_le t_fo z9_
      have l_fj_f8 : ra < q_f8 := Nat.lt_of_lt_of_le t_fj z9_
      have nW_f8 : ∀ k, k < 6 → rt k ≠ q_f8 := fun k hk9 => Nat.ne_of_lt (Nat.lt_of_lt_of_le (t_fk k hk9) z9_)
      have l_fe_f8 : ex < q_f8 := Nat.lt_of_lt_of_le t_fe z9_
      have l_fr_f8 : ro < q_f8 := Nat.lt_of_lt_of_le t_fr z9_
      have l_fL6_f8 : rt (nn x1) < q_f8 := Nat.lt_of_lt_of_le t_fL6 z9_
      have hZ0_ := hS.1
      have t_fo := fo.lt
      have t_fj := fj.lt
      have t_fk := fun k (hk9 : k < 6) => (fk k hk9).lt
      have t_fe := fe.lt
      have t_fr := fr.lt
      have t_fL6 := fL6.lt
      have t_f8 := f8.lt
      refine k_i (pc := 27) (k_V E hC hS hA hl.1 (c1.recv hC fo rfl) rfl (c_X5_become l D tk N0 sa H.size P hPN (fun q h9 => hPs q (Nat.le_trans hS.1 h9)) mo n9 kn ((m_th r_1 0)) tt bb eT eB oT oB pk ca rf vs x1 (nn x1) hx_5 hk_5 q_f8 (m_loT (bb (nn x1)) (tt (nn x1))) (m_loB (bb (nn x1)) (tt (nn x1))) (hPs _ s_f8) (m_inv mF_fL6 hn_8).2.1) kw_1255 kw_1257 kp_21 kw_5 kw_1258 (n := 2) (by decide +kernel) rfl ⟨⟨rfl, rfl⟩, ⟨Nat.le_of_ble_eq_true rfl, Nat.le_of_ble_eq_true rfl⟩, (by dsimp only; omega), (by dsimp only; omega)⟩ rfl (Nat.le_of_ble_eq_true rfl) ⟨⟨_, _, _, _, _, fo, fj, fk, fe, fr, fw, ⟨hPm, hPa, hPl, hPe, hPr, hPk⟩, hFk, hFe, hFr, hpk, hn9⟩, f8⟩ dX5_invert_27) hS (fun q _ h => h) hn (fun r_11 H locs hR hz hk hS => ?_)
      obtain ⟨tt_12, bb_12, rf_12, hM, hBE_12⟩ := hR
      obtain ⟨ra, rl, ex, ro, rt, fo, fj, fk, fe, fr, fw, ⟨hPm, hPa, hPl, hPe, hPr, hPk⟩, hFk, hFe, hFr, hpk, hn9⟩ := hM
      have g_fo := hPm
      have g_fj := hPa
      refine r_iret (pc := 30) E hr hlk hS (by omega) (by omega) ?_ dX5_invert_30
      exact ⟨_, _, _, _, ⟨_, _, _, _, _, fo, fj, fk, fe, fr, fw, ⟨hPm, hPa, hPl, hPe, hPr, hPk⟩, hFk, hFe, hFr, hpk, hn9⟩, AC.ok (by subst er_1 er_3; first | rfl | (simp [m_or, m_not, m_is0, m_lt0, m_fl, c_4]; done)) (by subst er_1 er_3; first | rfl | (simp [m_or, m_not, m_is0, m_lt0, m_fl, c_4]; done)) (er_3.symm.trans c_4) (hBE_12.cast (by unfold m_IV; first | (rw [if_pos hn_8]; done) | (rw [if_neg hn_8]; rfl)))⟩
  · refine lv_iconst (pc := 12) (v := 0) hx hb dX5_invert_12 (by decide) ?_
    refine lv_goto (pc := 13) (tgt := 30) hx hb dX5_invert_13 (by decide) ?_
    refine r_iret (pc := 30) E hr hlk hS (by omega) (by omega) ?_ dX5_invert_30
    exact ⟨_, _, _, _, ⟨_, _, _, _, _, fo, fj, fk, fe, fr, fw, ⟨hPm, hPa, hPl, hPe, hPr, hPk⟩, hFk, hFe, hFr, hpk, hn9⟩, AC.fail (by subst er_1 er_3; first | rfl | (simp [m_or, m_not, m_is0, m_lt0, m_fl, c_4]; done)) (by subst er_1 er_3; first | rfl | (simp [m_or, m_not, m_is0, m_lt0, m_fl, c_4]; done)) (fun z9 => c_4 (er_3.trans z9))⟩
set_option maxHeartbeats 4000000 in
set_option maxRecDepth 100000 in
/-- BestratiosModel.raise(II)I -/
theorem c_X5_raise (l : Launch) (D : va_G) (tk : Nat → ClassId) (N0 : Nat) (sa : Nat → Nat)  (sz : Nat) (P : Nat → Prop) (hPN : ∀ q, P q → N0 ≤ q) (hPs : ∀ q, sz ≤ q → P q) (mo n9 : Nat) (kn th : Int32) (tt bb : Nat → Int64) (eT eB oT oB : Int64) (pk : Nat) (ca rf : Int32) (vs : Nat → Value) (x1 : Int32) (x2 : Int32) : Met l yX5_raise (wsy yX5_raise cX5_raise 3 (some .int)) ({ frames := 5, cells := 8, slots := 16, locals := 121 } : Room) (cP D tk N0 sa [.ref mo, .int x1, .int x2] sz (fun H => MI D tk sa P mo tt bb eT eB oT oB pk ca rf vs kn n9 th H)) (kQi (fun r H => ∃ th1 tt1 bb1 rf1, MI D tk sa P mo tt1 bb1 eT eB oT oB pk ca rf1 vs kn n9 th1 H ∧ AC (m_isNo x1) (m_not (m_isIn x2 (-6) 6)) tt bb rf (nn x1) (m_RA (tt (nn x1)) (bb (nn x1)) x2) r th1 tt1 bb1 rf1) (P)) (8) (16) (P) := by
  refine mStart RX5 rfl (by decide +kernel) (Nat.le_of_ble_eq_true rfl) ?_
  intro p e s m args below meth c E hr hlk hnm hsz hC hF ls hl
  subst hsz
  obtain ⟨hx, hb, -⟩ := id E
  have hA : ∀ q, (P) q → N0 ≤ q := hPN
  have hn : ∀ q, s.heap.size ≤ q → (P) q := hPs
  have hS : va_S (P) s.heap s.heap [] := va_S.rf
  have hl : lv_has ls 3 [(0, .ref mo), (1, .int x1), (2, .int x2)] := hl
  have hM : MI D tk sa P mo tt bb eT eB oT oB pk ca rf vs kn n9 th s.heap := hF
  obtain ⟨ra, rl, ex, ro, rt, fo, fj, fk, fe, fr, fw, ⟨hPm, hPa, hPl, hPe, hPr, hPk⟩, hFk, hFe, hFr, hpk, hn9⟩ := hM
  have g_fo := hPm
  have g_fj := hPa
  refine lv_aload_n (pc := 0) hx hb dX5_raise_0 rfl (lv_at hl 0 rfl) ?_
  refine lv_iload_n (pc := 1) hx hb dX5_raise_1 rfl (lv_at hl 1 rfl) ?_
  refine k_i (pc := 2) (k_S E hC hS hA hl.1 (c_X5_isNo l D tk N0 sa s.heap.size x1 ) kw_1245 kw_1246 kw_5 kw_1247 (n := 1) (by decide +kernel) rfl ⟨⟨rfl, rfl⟩, ⟨Nat.le_of_ble_eq_true rfl, Nat.le_of_ble_eq_true rfl⟩, (by dsimp only; omega), (by dsimp only; omega)⟩ rfl (Nat.le_of_ble_eq_true rfl) trivial dX5_raise_2) hS (fun q z w => absurd w (Nat.not_le.mpr z)) hn (fun r_1 H locs hR hz hk hS => ?_)
  have er_1 := hR
  have fw := fw.new hk
  have fo := fo.kept (hk _ fo.lt (Nat.not_le.mpr fo.lt))
  have fj := fj.kept (hk _ fj.lt (Nat.not_le.mpr fj.lt))
  have fk := fk.new hk
  have fe := fe.kept (hk _ fe.lt (Nat.not_le.mpr fe.lt))
  have fr := fr.kept (hk _ fr.lt (Nat.not_le.mpr fr.lt))
  refine lv_iload_n (pc := 5) hx hb dX5_raise_5 rfl (lv_at hl 2 rfl) ?_
  refine lv_bipush (pc := 6) (v := (-6)) hx hb dX5_raise_6 (by decide) ?_
  refine lv_bipush (pc := 8) (v := 6) hx hb dX5_raise_8 (by decide) ?_
  refine k_i (pc := 10) (k_S E hC hS hA hl.1 (c_X5_isIn l D tk N0 sa H.size x2 ((-6)) 6 ) kw_1248 kw_1249 kw_5 kw_1250 (n := 3) (by decide +kernel) rfl ⟨⟨rfl, rfl⟩, ⟨Nat.le_of_ble_eq_true rfl, Nat.le_of_ble_eq_true rfl⟩, (by dsimp only; omega), (by dsimp only; omega)⟩ rfl (Nat.le_of_ble_eq_true rfl) trivial dX5_raise_10) hS (fun q z w => absurd w (Nat.not_le.mpr z)) hn (fun r_3 H locs hR hz hk hS => ?_)
  have er_3 := hR
  have fw := fw.new hk
  have fo := fo.kept (hk _ fo.lt (Nat.not_le.mpr fo.lt))
  have fj := fj.kept (hk _ fj.lt (Nat.not_le.mpr fj.lt))
  have fk := fk.new hk
  have fe := fe.kept (hk _ fe.lt (Nat.not_le.mpr fe.lt))
  have fr := fr.kept (hk _ fr.lt (Nat.not_le.mpr fr.lt))
  refine lv_if_ne (pc := 13) (tgt := 20) hx hb dX5_raise_13 (by decide) (fun c_5 => ?_) (fun c_5 => ?_)
  · refine lv_iconst (pc := 20) (v := 0) hx hb dX5_raise_20 (by decide) ?_
    have hZ0_ := hS.1
    have t_fo := fo.lt
    have t_fj := fj.lt
    have t_fk := fun k (hk9 : k < 6) => (fk k hk9).lt
    have t_fe := fe.lt
    have t_fr := fr.lt
    refine k_i (pc := 21) (k_V E hC hS hA hl.1 (c1.recv hC fo rfl) rfl (c_X5_fails l D tk N0 sa H.size P hPN (fun q h9 => hPs q (Nat.le_trans hS.1 h9)) mo n9 kn th tt bb eT eB oT oB pk ca rf vs r_1 0 ) kw_1251 kw_1253 kp_20 kw_5 kw_1254 (n := 2) (by decide +kernel) rfl ⟨⟨rfl, rfl⟩, ⟨Nat.le_of_ble_eq_true rfl, Nat.le_of_ble_eq_true rfl⟩, (by dsimp only; omega), (by dsimp only; omega)⟩ rfl (Nat.le_of_ble_eq_true rfl) ⟨_, _, _, _, _, fo, fj, fk, fe, fr, fw, ⟨hPm, hPa, hPl, hPe, hPr, hPk⟩, hFk, hFe, hFr, hpk, hn9⟩ dX5_raise_21) hS (fun q _ h => h) hn (fun r_6 H locs hR hz hk hS => ?_)
    obtain ⟨er_6, hM⟩ := hR
    obtain ⟨ra, rl, ex, ro, rt, fo, fj, fk, fe, fr, fw, ⟨hPm, hPa, hPl, hPe, hPr, hPk⟩, hFk, hFe, hFr, hpk, hn9⟩ := hM
    have g_fo := hPm
    have g_fj := hPa
    refine lv_if_eq (pc := 24) (tgt := 31) hx hb dX5_raise_24 (by decide) (fun c_7 => ?_) (fun c_7 => ?_)
    · refine lv_aload_n (pc := 31) hx hb dX5_raise_31 rfl (lv_at hl 0 rfl) ?_
      refine lv_iload_n (pc := 32) hx hb dX5_raise_32 rfl (lv_at hl 1 rfl) ?_
      refine lv_aload_n (pc := 33) hx hb dX5_raise_33 rfl (lv_at hl 0 rfl) ?_
      refine r_get (pc := 34) E hC fo 0 (v := .ref ra) rfl rfl (by decide) uX5 (List.mem_cons_of_mem _ kw_1209) (fun _ h => h) dX5_raise_34 ?_
      refine lv_iload_n (pc := 37) hx hb dX5_raise_37 rfl (lv_at hl 1 rfl) ?_
      obtain ⟨hx_8, hk_8⟩ := m_noN (er_1.symm.trans (m_fl0 (er_6.symm.trans c_7)).1)
      refine r_aaldJ (pc := 38) E hC fj (nn x1) hx_8 hk_8 (by decide) rfl dX5_raise_38 ?_
      have fL9 := fk (nn x1) hk_8
      have mF_fL9 := hFk (nn x1) hk_8
      have Pq_fL9 := hPk (nn x1) hk_8
      refine lv_iload_n (pc := 39) hx hb dX5_raise_39 rfl (lv_at hl 2 rfl) ?_
      obtain ⟨kt, hkt1, hkt2⟩ := m_abs6 (x := x2) (fun z9 => c_5 (er_3.trans z9))
      have hZ0_ := hS.1
      have t_fo := fo.lt
      have t_fj := fj.lt
      have t_fk := fun k (hk9 : k < 6) => (fk k hk9).lt
      have t_fe := fe.lt
      have t_fr := fr.lt
      have t_fL9 := fL9.lt
      refine k_o (pc := 40) (k_S E hC hS hA hl.1 (c_X5_raised l D tk N0 sa H.size (rt (nn x1)) (tt (nn x1)) (bb (nn x1)) x2 kt mF_fL9 hkt1 hkt2) kw_1330 kw_1331 kw_5 kw_1332 (n := 2) (by decide +kernel) rfl ⟨⟨rfl, rfl⟩, ⟨Nat.le_of_ble_eq_true rfl, Nat.le_of_ble_eq_true rfl⟩, (by dsimp only; omega), (by dsimp only; omega)⟩ rfl (Nat.le_of_ble_eq_true rfl) fL9 dX5_raise_40) hS (fun q z w => absurd w (Nat.not_le.mpr z)) hn (fun r_10 H locs hR hz hk hS => ?_)
      have fw := fw.new hk
      have fo := fo.kept (hk _ fo.lt (Nat.not_le.mpr fo.lt))
      have fj := fj.kept (hk _ fj.lt (Nat.not_le.mpr fj.lt))
      have fk := fk.new hk
      have fe := fe.kept (hk _ fe.lt (Nat.not_le.mpr fe.lt))
      have fr := fr.kept (hk _ fr.lt (Nat.not_le.mpr fr.lt))
      have fL9 := fL9.kept (hk _ fL9.lt (Nat.not_le.mpr fL9.lt))
      rcases hR with ⟨rfl, hv_f11⟩ | ⟨q_f11, tt_f11, bb_f11, rfl, z9_, f11, hb_f11, hv_f11⟩
      · have hZ0_ := hS.1
        have t_fo := fo.lt
        have t_fj := fj.lt
        have t_fk := fun k (hk9 : k < 6) => (fk k hk9).lt
        have t_fe := fe.lt
        have t_fr := fr.lt
        have t_fL9 := fL9.lt
        refine k_i (pc := 43) (k_V E hC hS hA hl.1 (c1.recv hC fo rfl) rfl (c_X5_become_N l D tk N0 sa H.size P hPN (fun q h9 => hPs q (Nat.le_trans hS.1 h9)) mo n9 kn ((m_th r_1 0)) tt bb eT eB oT oB pk ca rf vs x1 (nn x1) hx_8 hk_8 ) kw_1255 kw_1257 kp_21 kw_5 kw_1258 (n := 2) (by decide +kernel) rfl ⟨⟨rfl, rfl⟩, ⟨Nat.le_of_ble_eq_true rfl, Nat.le_of_ble_eq_true rfl⟩, (by dsimp only; omega), (by dsimp only; omega)⟩ rfl (Nat.le_of_ble_eq_true rfl) ⟨_, _, _, _, _, fo, fj, fk, fe, fr, fw, ⟨hPm, hPa, hPl, hPe, hPr, hPk⟩, hFk, hFe, hFr, hpk, hn9⟩ dX5_raise_43) hS (fun q _ h => h) hn (fun r_12 H locs hR hz hk hS => ?_)
        obtain ⟨tt_13, bb_13, rf_13, hM, hBE_13⟩ := hR
        obtain ⟨ra, rl, ex, ro, rt, fo, fj, fk, fe, fr, fw, ⟨hPm, hPa, hPl, hPe, hPr, hPk⟩, hFk, hFe, hFr, hpk, hn9⟩ := hM
        have g_fo := hPm
        have g_fj := hPa
        refine r_iret (pc := 46) E hr hlk hS (by omega) (by omega) ?_ dX5_raise_46
        exact ⟨_, _, _, _, ⟨_, _, _, _, _, fo, fj, fk, fe, fr, fw, ⟨hPm, hPa, hPl, hPe, hPr, hPk⟩, hFk, hFe, hFr, hpk, hn9⟩, AC.ok (by subst er_1 er_3 er_6; first | rfl | (simp [m_or, m_not, m_is0, m_lt0, m_fl, c_5, c_7]; done)) (by subst er_1 er_3 er_6; first | rfl | (simp [m_or, m_not, m_is0, m_lt0, m_fl, c_5, c_7]; done)) (er_6.symm.trans c_7) (hBE_13.cast hv_f11.symm)⟩
      · have s_f11 : s.heap.size ≤ q_f11 := Nat.le_trans hZ0_ z9_
        have g_f11 := hn _ s_f11
        have l_fo_f11 : mo < q_f11 := Nat.lt_of_lt_of_le t_fo z9_
        have l_fj_f11 : ra < q_f11 := Nat.lt_of_lt_of_le t_fj z9_
        have nW_f11 : ∀ k, k < 6 → rt k ≠ q_f11 := fun k hk9 => Nat.ne_of_lt (Nat.lt_of_lt_of_le (t_fk k hk9) z9_)
        have l_fe_f11 : ex < q_f11 := Nat.lt_of_lt_of_le t_fe z9_
        have l_fr_f11 : ro < q_f11 := Nat.lt_of_lt_of_le t_fr z9_
        have l_fL9_f11 : rt (nn x1) < q_f11 := Nat.lt_of_lt_of_le t_fL9 z9_
        have hZ0_ := hS.1
        have t_fo := fo.lt
        have t_fj := fj.lt
        have t_fk := fun k (hk9 : k < 6) => (fk k hk9).lt
        have t_fe := fe.lt
        have t_fr := fr.lt
        have t_fL9 := fL9.lt
        have t_f11 := f11.lt
        refine k_i (pc := 43) (k_V E hC hS hA hl.1 (c1.recv hC fo rfl) rfl (c_X5_become l D tk N0 sa H.size P hPN (fun q h9 => hPs q (Nat.le_trans hS.1 h9)) mo n9 kn ((m_th r_1 0)) tt bb eT eB oT oB pk ca rf vs x1 (nn x1) hx_8 hk_8 q_f11 tt_f11 bb_f11 (hPs _ s_f11) hb_f11) kw_1255 kw_1257 kp_21 kw_5 kw_1258 (n := 2) (by decide +kernel) rfl ⟨⟨rfl, rfl⟩, ⟨Nat.le_of_ble_eq_true rfl, Nat.le_of_ble_eq_true rfl⟩, (by dsimp only; omega), (by dsimp only; omega)⟩ rfl (Nat.le_of_ble_eq_true rfl) ⟨⟨_, _, _, _, _, fo, fj, fk, fe, fr, fw, ⟨hPm, hPa, hPl, hPe, hPr, hPk⟩, hFk, hFe, hFr, hpk, hn9⟩, f11⟩ dX5_raise_43) hS (fun q _ h => h) hn (fun r_14 H locs hR hz hk hS => ?_)
        obtain ⟨tt_15, bb_15, rf_15, hM, hBE_15⟩ := hR
        obtain ⟨ra, rl, ex, ro, rt, fo, fj, fk, fe, fr, fw, ⟨hPm, hPa, hPl, hPe, hPr, hPk⟩, hFk, hFe, hFr, hpk, hn9⟩ := hM
        have g_fo := hPm
        have g_fj := hPa
        refine r_iret (pc := 46) E hr hlk hS (by omega) (by omega) ?_ dX5_raise_46
        exact ⟨_, _, _, _, ⟨_, _, _, _, _, fo, fj, fk, fe, fr, fw, ⟨hPm, hPa, hPl, hPe, hPr, hPk⟩, hFk, hFe, hFr, hpk, hn9⟩, AC.ok (by subst er_1 er_3 er_6; first | rfl | (simp [m_or, m_not, m_is0, m_lt0, m_fl, c_5, c_7]; done)) (by subst er_1 er_3 er_6; first | rfl | (simp [m_or, m_not, m_is0, m_lt0, m_fl, c_5, c_7]; done)) (er_6.symm.trans c_7) (hBE_15.cast hv_f11.symm)⟩
    · refine lv_iconst (pc := 27) (v := 0) hx hb dX5_raise_27 (by decide) ?_
      refine lv_goto (pc := 28) (tgt := 46) hx hb dX5_raise_28 (by decide) ?_
      refine r_iret (pc := 46) E hr hlk hS (by omega) (by omega) ?_ dX5_raise_46
      exact ⟨_, _, _, _, ⟨_, _, _, _, _, fo, fj, fk, fe, fr, fw, ⟨hPm, hPa, hPl, hPe, hPr, hPk⟩, hFk, hFe, hFr, hpk, hn9⟩, AC.fail (by subst er_1 er_3 er_6; first | rfl | (simp [m_or, m_not, m_is0, m_lt0, m_fl, c_5, c_7]; done)) (by subst er_1 er_3 er_6; first | rfl | (simp [m_or, m_not, m_is0, m_lt0, m_fl, c_5, c_7]; done)) (fun z9 => c_7 (er_6.trans z9))⟩
  · refine lv_iconst (pc := 16) (v := 1) hx hb dX5_raise_16 (by decide) ?_
    refine lv_goto (pc := 17) (tgt := 21) hx hb dX5_raise_17 (by decide) ?_
    have hZ0_ := hS.1
    have t_fo := fo.lt
    have t_fj := fj.lt
    have t_fk := fun k (hk9 : k < 6) => (fk k hk9).lt
    have t_fe := fe.lt
    have t_fr := fr.lt
    refine k_i (pc := 21) (k_V E hC hS hA hl.1 (c1.recv hC fo rfl) rfl (c_X5_fails l D tk N0 sa H.size P hPN (fun q h9 => hPs q (Nat.le_trans hS.1 h9)) mo n9 kn th tt bb eT eB oT oB pk ca rf vs r_1 1 ) kw_1251 kw_1253 kp_20 kw_5 kw_1254 (n := 2) (by decide +kernel) rfl ⟨⟨rfl, rfl⟩, ⟨Nat.le_of_ble_eq_true rfl, Nat.le_of_ble_eq_true rfl⟩, (by dsimp only; omega), (by dsimp only; omega)⟩ rfl (Nat.le_of_ble_eq_true rfl) ⟨_, _, _, _, _, fo, fj, fk, fe, fr, fw, ⟨hPm, hPa, hPl, hPe, hPr, hPk⟩, hFk, hFe, hFr, hpk, hn9⟩ dX5_raise_21) hS (fun q _ h => h) hn (fun r_16 H locs hR hz hk hS => ?_)
    obtain ⟨er_16, hM⟩ := hR
    obtain ⟨ra, rl, ex, ro, rt, fo, fj, fk, fe, fr, fw, ⟨hPm, hPa, hPl, hPe, hPr, hPk⟩, hFk, hFe, hFr, hpk, hn9⟩ := hM
    have g_fo := hPm
    have g_fj := hPa
    have ef_r_16 : r_16 = 1 := er_16.trans (m_fl1 _)
    rw [ef_r_16]
    refine lv_if_eq (pc := 24) (tgt := 31) hx hb dX5_raise_24 (by decide) (fun c_17 => ?_) (fun c_17 => ?_)
    · exact absurd c_17 (by decide)
    refine lv_iconst (pc := 27) (v := 0) hx hb dX5_raise_27 (by decide) ?_
    refine lv_goto (pc := 28) (tgt := 46) hx hb dX5_raise_28 (by decide) ?_
    refine r_iret (pc := 46) E hr hlk hS (by omega) (by omega) ?_ dX5_raise_46
    exact ⟨_, _, _, _, ⟨_, _, _, _, _, fo, fj, fk, fe, fr, fw, ⟨hPm, hPa, hPl, hPe, hPr, hPk⟩, hFk, hFe, hFr, hpk, hn9⟩, AC.fail (by subst er_1 er_3; first | rfl | (simp [m_or, m_not, m_is0, m_lt0, m_fl, c_5]; done)) (by subst er_1 er_3; first | rfl | (simp [m_or, m_not, m_is0, m_lt0, m_fl, c_5]; done)) (fun z9 => absurd (ef_r_16.symm.trans (er_16.trans z9)) (by decide))⟩
set_option maxHeartbeats 4000000 in
set_option maxRecDepth 100000 in
/-- BestratiosModel.text(I)Ljava/lang/String; -/
theorem c_X5_text_ (l : Launch) (D : va_G) (tk : Nat → ClassId) (N0 : Nat) (sa : Nat → Nat)  (sz : Nat) (P : Nat → Prop) (hPN : ∀ q, P q → N0 ≤ q) (hPs : ∀ q, sz ≤ q → P q) (mo n9 : Nat) (kn th : Int32) (tt bb : Nat → Int64) (eT eB oT oB : Int64) (pk : Nat) (ca rf : Int32) (vs : Nat → Value) (x1 : Int32) : Met l yX5_text_ (wsy yX5_text_ cX5_text_ 2 (some (.object "java/lang/String"))) ({ frames := 7, cells := 7, slots := 210, locals := 157 } : Room) (cP D tk N0 sa [.ref mo, .int x1] sz (fun H => MI D tk sa P mo tt bb eT eB oT oB pk ca rf vs kn n9 th H)) (kQr (fun r H => ∃ th1, MI D tk sa P mo tt bb eT eB oT oB pk ca rf vs kn n9 th1 H) (P)) (7) (210) (P) := by
  refine mStart RX5 rfl (by decide +kernel) (Nat.le_of_ble_eq_true rfl) ?_
  intro p e s m args below meth c E hr hlk hnm hsz hC hF ls hl
  subst hsz
  obtain ⟨hx, hb, -⟩ := id E
  have hA : ∀ q, (P) q → N0 ≤ q := hPN
  have hn : ∀ q, s.heap.size ≤ q → (P) q := hPs
  have hS : va_S (P) s.heap s.heap [] := va_S.rf
  have hl : lv_has ls 2 [(0, .ref mo), (1, .int x1)] := hl
  have hM : MI D tk sa P mo tt bb eT eB oT oB pk ca rf vs kn n9 th s.heap := hF
  obtain ⟨ra, rl, ex, ro, rt, fo, fj, fk, fe, fr, fw, ⟨hPm, hPa, hPl, hPe, hPr, hPk⟩, hFk, hFe, hFr, hpk, hn9⟩ := hM
  have g_fo := hPm
  have g_fj := hPa
  refine lv_aload_n (pc := 0) hx hb dX5_text__0 rfl (lv_at hl 0 rfl) ?_
  refine lv_iload_n (pc := 1) hx hb dX5_text__1 rfl (lv_at hl 1 rfl) ?_
  refine k_i (pc := 2) (k_S E hC hS hA hl.1 (c_X5_isNo l D tk N0 sa s.heap.size x1 ) kw_1245 kw_1246 kw_5 kw_1247 (n := 1) (by decide +kernel) rfl ⟨⟨rfl, rfl⟩, ⟨Nat.le_of_ble_eq_true rfl, Nat.le_of_ble_eq_true rfl⟩, (by dsimp only; omega), (by dsimp only; omega)⟩ rfl (Nat.le_of_ble_eq_true rfl) trivial dX5_text__2) hS (fun q z w => absurd w (Nat.not_le.mpr z)) hn (fun r_1 H locs hR hz hk hS => ?_)
  have er_1 := hR
  have fw := fw.new hk
  have fo := fo.kept (hk _ fo.lt (Nat.not_le.mpr fo.lt))
  have fj := fj.kept (hk _ fj.lt (Nat.not_le.mpr fj.lt))
  have fk := fk.new hk
  have fe := fe.kept (hk _ fe.lt (Nat.not_le.mpr fe.lt))
  have fr := fr.kept (hk _ fr.lt (Nat.not_le.mpr fr.lt))
  refine lv_iconst (pc := 5) (v := 0) hx hb dX5_text__5 (by decide) ?_
  have hZ0_ := hS.1
  have t_fo := fo.lt
  have t_fj := fj.lt
  have t_fk := fun k (hk9 : k < 6) => (fk k hk9).lt
  have t_fe := fe.lt
  have t_fr := fr.lt
  refine k_i (pc := 6) (k_V E hC hS hA hl.1 (c1.recv hC fo rfl) rfl (c_X5_fails l D tk N0 sa H.size P hPN (fun q h9 => hPs q (Nat.le_trans hS.1 h9)) mo n9 kn th tt bb eT eB oT oB pk ca rf vs r_1 0 ) kw_1251 kw_1253 kp_20 kw_5 kw_1254 (n := 2) (by decide +kernel) rfl ⟨⟨rfl, rfl⟩, ⟨Nat.le_of_ble_eq_true rfl, Nat.le_of_ble_eq_true rfl⟩, (by dsimp only; omega), (by dsimp only; omega)⟩ rfl (Nat.le_of_ble_eq_true rfl) ⟨_, _, _, _, _, fo, fj, fk, fe, fr, fw, ⟨hPm, hPa, hPl, hPe, hPr, hPk⟩, hFk, hFe, hFr, hpk, hn9⟩ dX5_text__6) hS (fun q _ h => h) hn (fun r_3 H locs hR hz hk hS => ?_)
  obtain ⟨er_3, hM⟩ := hR
  obtain ⟨ra, rl, ex, ro, rt, fo, fj, fk, fe, fr, fw, ⟨hPm, hPa, hPl, hPe, hPr, hPk⟩, hFk, hFe, hFr, hpk, hn9⟩ := hM
  have g_fo := hPm
  have g_fj := hPa
  refine lv_if_eq (pc := 9) (tgt := 17) hx hb dX5_text__9 (by decide) (fun c_4 => ?_) (fun c_4 => ?_)
  · refine lv_aload_n (pc := 17) hx hb dX5_text__17 rfl (lv_at hl 0 rfl) ?_
    refine r_get (pc := 18) E hC fo 0 (v := .ref ra) rfl rfl (by decide) uX5 (List.mem_cons_of_mem _ kw_1209) (fun _ h => h) dX5_text__18 ?_
    refine lv_iload_n (pc := 21) hx hb dX5_text__21 rfl (lv_at hl 1 rfl) ?_
    obtain ⟨hx_5, hk_5⟩ := m_noN (er_1.symm.trans (m_fl0 (er_3.symm.trans c_4)).1)
    refine r_aaldJ (pc := 22) E hC fj (nn x1) hx_5 hk_5 (by decide) rfl dX5_text__22 ?_
    have fL6 := fk (nn x1) hk_5
    have mF_fL6 := hFk (nn x1) hk_5
    have Pq_fL6 := hPk (nn x1) hk_5
    have hZ0_ := hS.1
    have t_fo := fo.lt
    have t_fj := fj.lt
    have t_fk := fun k (hk9 : k < 6) => (fk k hk9).lt
    have t_fe := fe.lt
    have t_fr := fr.lt
    have t_fL6 := fL6.lt
    refine k_r (pc := 23) (k_S E hC hS hA hl.1 (c_X5_text l D tk N0 sa H.size (rt (nn x1)) (tt (nn x1)) (bb (nn x1))) kw_1348 kw_1349 kw_5 kw_1350 (n := 1) (by decide +kernel) rfl ⟨⟨rfl, rfl⟩, ⟨Nat.le_of_ble_eq_true rfl, Nat.le_of_ble_eq_true rfl⟩, (by dsimp only; omega), (by dsimp only; omega)⟩ rfl (Nat.le_of_ble_eq_true rfl) fL6 dX5_text__23) hS (fun q z w => absurd w (Nat.not_le.mpr z)) hn (fun r_7 H locs hR hz hk hS => ?_)
    have fw := fw.new hk
    have fo := fo.kept (hk _ fo.lt (Nat.not_le.mpr fo.lt))
    have fj := fj.kept (hk _ fj.lt (Nat.not_le.mpr fj.lt))
    have fk := fk.new hk
    have fe := fe.kept (hk _ fe.lt (Nat.not_le.mpr fe.lt))
    have fr := fr.kept (hk _ fr.lt (Nat.not_le.mpr fr.lt))
    have fL6 := fL6.kept (hk _ fL6.lt (Nat.not_le.mpr fL6.lt))
    obtain ⟨n_f8, hn_f8, z9_, f8⟩ := hR
    refine r_aret (pc := 26) E hr (Or.inl ⟨_, rfl⟩) hlk hS (by omega) (by omega) ?_ dX5_text__26
    exact ⟨_, ⟨_, _, _, _, _, fo, fj, fk, fe, fr, fw, ⟨hPm, hPa, hPl, hPe, hPr, hPk⟩, hFk, hFe, hFr, hpk, hn9⟩⟩
  · refine va_ldcS (pc := 12) hx hb E.2.2.2.1 (hC.2.2.2.2.1 6 _ rfl).1 dX5_text__12 ?_
    have k9 : SX D tk (sa (10 + 6)) 0 H := hC.str hS hA 6 _ rfl (by decide)
    refine lv_goto (pc := 14) (tgt := 26) hx hb dX5_text__14 (by decide) ?_
    refine r_aret (pc := 26) E hr (Or.inl ⟨_, rfl⟩) hlk hS (by omega) (by omega) ?_ dX5_text__26
    exact ⟨_, ⟨_, _, _, _, _, fo, fj, fk, fe, fr, fw, ⟨hPm, hPa, hPl, hPe, hPr, hPk⟩, hFk, hFe, hFr, hpk, hn9⟩⟩
set_option maxHeartbeats 4000000 in
set_option maxRecDepth 100000 in
/-- BestratiosModel.partNow(II)I -/
theorem c_X5_partNow (l : Launch) (D : va_G) (tk : Nat → ClassId) (N0 : Nat) (sa : Nat → Nat)  (sz : Nat) (P : Nat → Prop) (hPN : ∀ q, P q → N0 ≤ q) (mo n9 : Nat) (kn th : Int32) (tt bb : Nat → Int64) (eT eB oT oB : Int64) (pk : Nat) (ca rf : Int32) (vs : Nat → Value) (x : Int32) (k_x : Nat) (hx_x : x = nI k_x) (hk_x : k_x < 6) (w_ : Int32) (kw : Nat) (hw1 : w_ = nI kw) (hw2 : kw ≤ 3) : Met l yX5_partNow (wsy yX5_partNow cX5_partNow 5 (some .int)) ({ frames := 1, cells := 1, slots := 4, locals := 25 } : Room) (cP D tk N0 sa [.ref mo, .int x, .int w_] sz (fun H => MI D tk sa P mo tt bb eT eB oT oB pk ca rf vs kn n9 th H)) (kQi (fun r H => r = (m_pt (tt k_x) (bb k_x) kw).toInt32) (nwA sz)) (1) (4) (nwA sz) := by
  refine mStart RX5 rfl (by decide +kernel) (Nat.le_of_ble_eq_true rfl) ?_
  intro p e s m args below meth c E hr hlk hnm hsz hC hF ls hl
  subst hsz
  obtain ⟨hx, hb, -⟩ := id E
  have hA : ∀ q, (nwA s.heap.size) q → N0 ≤ q := fun q h => Nat.le_trans hC.2.1 h
  have hn : ∀ q, s.heap.size ≤ q → (nwA s.heap.size) q := fun q h => h
  have hS : va_S (nwA s.heap.size) s.heap s.heap [] := va_S.rf
  have hl : lv_has ls 5 [(0, .ref mo), (1, .int x), (2, .int w_)] := hl
  have hM : MI D tk sa P mo tt bb eT eB oT oB pk ca rf vs kn n9 th s.heap := hF
  obtain ⟨ra, rl, ex, ro, rt, fo, fj, fk, fe, fr, fw, ⟨hPm, hPa, hPl, hPe, hPr, hPk⟩, hFk, hFe, hFr, hpk, hn9⟩ := hM
  refine lv_aload_n (pc := 0) hx hb dX5_partNow_0 rfl (lv_at hl 0 rfl) ?_
  refine r_get (pc := 1) E hC fo 0 (v := .ref ra) rfl rfl (by decide) uX5 (List.mem_cons_of_mem _ kw_1209) (fun _ h => h) dX5_partNow_1 ?_
  refine lv_iload_n (pc := 4) hx hb dX5_partNow_4 rfl (lv_at hl 1 rfl) ?_
  refine r_aaldJ (pc := 5) E hC fj k_x hx_x hk_x (by decide) rfl dX5_partNow_5 ?_
  have fL1 := fk k_x hk_x
  have mF_fL1 := hFk k_x hk_x
  have Pq_fL1 := hPk k_x hk_x
  refine lv_astore_n (pc := 6) (lv' := [(3, .ref (rt k_x)), (0, .ref mo), (1, .int x), (2, .int w_)]) hx hb dX5_partNow_6 rfl hl (by decide) rfl (fun ls hl => ?_)
  refine lv_iconst (pc := 7) (v := 4) hx hb dX5_partNow_7 (by decide) ?_
  have hS0_ := hS
  refine r_newl (pc := 8) E hC hS (N := 4) (by decide) (by decide) (by decide) (by dsimp only; omega) (by dsimp only; omega) dX5_partNow_8 (fun qf2 H zq_ n_ ho_ hS => ?_)
  have fw := fw.old ho_
  have l_fo_f2 : mo < qf2 := zq_ ▸ fo.lt
  have fo := fo.kept (ho_ _ fo.lt)
  have l_fj_f2 : ra < qf2 := zq_ ▸ fj.lt
  have fj := fj.kept (ho_ _ fj.lt)
  have nW_f2 : ∀ k, k < 6 → rt k ≠ qf2 := fun k hk9 => Nat.ne_of_lt (zq_ ▸ (fk k hk9).lt)
  have fk := fk.kept (fun k hk9 => ho_ _ (fk k hk9).lt)
  have l_fe_f2 : ex < qf2 := zq_ ▸ fe.lt
  have fe := fe.kept (ho_ _ fe.lt)
  have l_fr_f2 : ro < qf2 := zq_ ▸ fr.lt
  have fr := fr.kept (ho_ _ fr.lt)
  have l_fL1_f2 : rt k_x < qf2 := zq_ ▸ fL1.lt
  have fL1 := fL1.kept (ho_ _ fL1.lt)
  have f2 := n_
  have s_f2 : s.heap.size ≤ qf2 := zq_ ▸ hS0_.1
  have g_f2 := hn _ s_f2
  refine lv_dup (pc := 10) hx hb dX5_partNow_10 rfl ?_
  refine lv_iconst (pc := 11) (v := 0) hx hb dX5_partNow_11 (by decide) ?_
  refine lv_aload_n (pc := 12) hx hb dX5_partNow_12 rfl (lv_at hl 0 rfl) ?_
  refine lv_iconst (pc := 13) (v := 0) hx hb dX5_partNow_13 (by decide) ?_
  refine r_l0 (pc := 14) E hC fL1 dX5_partNow_14 ?_
  refine r_last (pc := 15) E hC f2 hS g_f2 (by unfold vp_in; decide) dX5_partNow_15 (fun H locs n_ ho hz hS => ?_)
  have fw := fw.put ho (fun q9 h9 => clA.ne h9 f2.cla (hC.oa 7 0 rfl rfl)) (fun q9 h9 => clA.ne h9 f2.cla (hC.aa 4 0 rfl rfl (by dsimp only; decide))) (fun q9 h9 => clA.ne h9 f2.cla (hC.cea (Or.inr rfl) 0 rfl))
  have fo := fo.kept (ho _ (clA.ne fo.cl f2.cla (hC.oa 13 0 rfl rfl)))
  have fj := fj.kept (ho _ (clA.ne fj.cla f2.cla (hC.aa 3 0 rfl rfl (by dsimp only; decide))))
  have fk := fk.kept (fun k hk9 => ho _ (nW_f2 k hk9))
  have fe := fe.kept (ho _ (Nat.ne_of_lt l_fe_f2))
  have fr := fr.kept (ho _ (Nat.ne_of_lt l_fr_f2))
  have fL1 := fL1.kept (ho _ (Nat.ne_of_lt l_fL1_f2))
  have f2 : c1 D qf2 (.inl (tk 0, 4, .inr (.inl (vp_updL (fun _ => 0) 0 (tt k_x))))) H := n_
  refine lv_dup (pc := 16) hx hb dX5_partNow_16 rfl ?_
  refine lv_iconst (pc := 17) (v := 1) hx hb dX5_partNow_17 (by decide) ?_
  refine lv_aload_n (pc := 18) hx hb dX5_partNow_18 rfl (lv_at hl 0 rfl) ?_
  refine lv_iconst (pc := 19) (v := 1) hx hb dX5_partNow_19 (by decide) ?_
  refine r_l1 (pc := 20) E hC fL1 dX5_partNow_20 ?_
  refine r_last (pc := 21) E hC f2 hS g_f2 (by unfold vp_in; decide) dX5_partNow_21 (fun H locs n_ ho hz hS => ?_)
  have fw := fw.put ho (fun q9 h9 => clA.ne h9 f2.cla (hC.oa 7 0 rfl rfl)) (fun q9 h9 => clA.ne h9 f2.cla (hC.aa 4 0 rfl rfl (by dsimp only; decide))) (fun q9 h9 => clA.ne h9 f2.cla (hC.cea (Or.inr rfl) 0 rfl))
  have fo := fo.kept (ho _ (clA.ne fo.cl f2.cla (hC.oa 13 0 rfl rfl)))
  have fj := fj.kept (ho _ (clA.ne fj.cla f2.cla (hC.aa 3 0 rfl rfl (by dsimp only; decide))))
  have fk := fk.kept (fun k hk9 => ho _ (nW_f2 k hk9))
  have fe := fe.kept (ho _ (Nat.ne_of_lt l_fe_f2))
  have fr := fr.kept (ho _ (Nat.ne_of_lt l_fr_f2))
  have fL1 := fL1.kept (ho _ (Nat.ne_of_lt l_fL1_f2))
  have f2 : c1 D qf2 (.inl (tk 0, 4, .inr (.inl (vp_updL (vp_updL (fun _ => 0) 0 (tt k_x)) 1 (bb k_x))))) H := n_
  refine lv_dup (pc := 22) hx hb dX5_partNow_22 rfl ?_
  refine lv_iconst (pc := 23) (v := 2) hx hb dX5_partNow_23 (by decide) ?_
  refine lv_aload_n (pc := 24) hx hb dX5_partNow_24 rfl (lv_at hl 0 rfl) ?_
  refine lv_iconst (pc := 25) (v := 0) hx hb dX5_partNow_25 (by decide) ?_
  refine r_l0 (pc := 26) E hC fL1 dX5_partNow_26 ?_
  refine lv_lconst (pc := 27) (v := 0) hx hb dX5_partNow_27 (by decide) ?_
  refine k_i (pc := 28) (k_S E hC hS hA hl.1 (c_J13_compare_74951 l D tk N0 sa H.size (tt k_x) 0 ) kw_1391 kw_599 kw_17 kw_600 (n := 2) (by decide +kernel) rfl ⟨⟨rfl, rfl⟩, ⟨Nat.le_of_ble_eq_true rfl, Nat.le_of_ble_eq_true rfl⟩, (by dsimp only; omega), (by dsimp only; omega)⟩ rfl (Nat.le_of_ble_eq_true rfl) trivial dX5_partNow_28) hS (fun q z w => absurd w (Nat.not_le.mpr z)) hn (fun r_3 H locs hR hz hk hS => ?_)
  have er_3 := hR
  have fw := fw.new hk
  have fo := fo.kept (hk _ fo.lt (Nat.not_le.mpr fo.lt))
  have fj := fj.kept (hk _ fj.lt (Nat.not_le.mpr fj.lt))
  have fk := fk.new hk
  have fe := fe.kept (hk _ fe.lt (Nat.not_le.mpr fe.lt))
  have fr := fr.kept (hk _ fr.lt (Nat.not_le.mpr fr.lt))
  have fL1 := fL1.kept (hk _ fL1.lt (Nat.not_le.mpr fL1.lt))
  have f2 := f2.kept (hk _ f2.lt (Nat.not_le.mpr f2.lt))
  refine lv_i2l (pc := 31) (v := r_3.toInt64) hx hb dX5_partNow_31 rfl ?_
  refine r_last (pc := 32) E hC f2 hS g_f2 (by unfold vp_in; decide) dX5_partNow_32 (fun H locs n_ ho hz hS => ?_)
  have fw := fw.put ho (fun q9 h9 => clA.ne h9 f2.cla (hC.oa 7 0 rfl rfl)) (fun q9 h9 => clA.ne h9 f2.cla (hC.aa 4 0 rfl rfl (by dsimp only; decide))) (fun q9 h9 => clA.ne h9 f2.cla (hC.cea (Or.inr rfl) 0 rfl))
  have fo := fo.kept (ho _ (clA.ne fo.cl f2.cla (hC.oa 13 0 rfl rfl)))
  have fj := fj.kept (ho _ (clA.ne fj.cla f2.cla (hC.aa 3 0 rfl rfl (by dsimp only; decide))))
  have fk := fk.kept (fun k hk9 => ho _ (nW_f2 k hk9))
  have fe := fe.kept (ho _ (Nat.ne_of_lt l_fe_f2))
  have fr := fr.kept (ho _ (Nat.ne_of_lt l_fr_f2))
  have fL1 := fL1.kept (ho _ (Nat.ne_of_lt l_fL1_f2))
  have f2 : c1 D qf2 (.inl (tk 0, 4, .inr (.inl (vp_updL (vp_updL (vp_updL (fun _ => 0) 0 (tt k_x)) 1 (bb k_x)) 2 (r_3.toInt64))))) H := n_
  refine lv_dup (pc := 33) hx hb dX5_partNow_33 rfl ?_
  refine lv_iconst (pc := 34) (v := 3) hx hb dX5_partNow_34 (by decide) ?_
  refine lv_aload_n (pc := 35) hx hb dX5_partNow_35 rfl (lv_at hl 0 rfl) ?_
  refine lv_iconst (pc := 36) (v := 0) hx hb dX5_partNow_36 (by decide) ?_
  refine r_l0 (pc := 37) E hC fL1 dX5_partNow_37 ?_
  refine lv_aload_n (pc := 38) hx hb dX5_partNow_38 rfl (lv_at hl 0 rfl) ?_
  refine lv_iconst (pc := 39) (v := 1) hx hb dX5_partNow_39 (by decide) ?_
  refine r_l1 (pc := 40) E hC fL1 dX5_partNow_40 ?_
  refine k_l (pc := 41) (k_S E hC hS hA hl.1 (c_X5_floor l D tk N0 sa H.size (tt k_x) (bb k_x) (m_ne0 mF_fL1.2.1)) kw_1392 kw_1393 kw_5 kw_1394 (n := 2) (by decide +kernel) rfl ⟨⟨rfl, rfl⟩, ⟨Nat.le_of_ble_eq_true rfl, Nat.le_of_ble_eq_true rfl⟩, (by dsimp only; omega), (by dsimp only; omega)⟩ rfl (Nat.le_of_ble_eq_true rfl) trivial dX5_partNow_41) hS (fun q z w => absurd w (Nat.not_le.mpr z)) hn (fun r_5 H locs hR hz hk hS => ?_)
  have er_5 := hR
  have fw := fw.new hk
  have fo := fo.kept (hk _ fo.lt (Nat.not_le.mpr fo.lt))
  have fj := fj.kept (hk _ fj.lt (Nat.not_le.mpr fj.lt))
  have fk := fk.new hk
  have fe := fe.kept (hk _ fe.lt (Nat.not_le.mpr fe.lt))
  have fr := fr.kept (hk _ fr.lt (Nat.not_le.mpr fr.lt))
  have fL1 := fL1.kept (hk _ fL1.lt (Nat.not_le.mpr fL1.lt))
  have f2 := f2.kept (hk _ f2.lt (Nat.not_le.mpr f2.lt))
  refine r_last (pc := 44) E hC f2 hS g_f2 (by unfold vp_in; decide) dX5_partNow_44 (fun H locs n_ ho hz hS => ?_)
  have fw := fw.put ho (fun q9 h9 => clA.ne h9 f2.cla (hC.oa 7 0 rfl rfl)) (fun q9 h9 => clA.ne h9 f2.cla (hC.aa 4 0 rfl rfl (by dsimp only; decide))) (fun q9 h9 => clA.ne h9 f2.cla (hC.cea (Or.inr rfl) 0 rfl))
  have fo := fo.kept (ho _ (clA.ne fo.cl f2.cla (hC.oa 13 0 rfl rfl)))
  have fj := fj.kept (ho _ (clA.ne fj.cla f2.cla (hC.aa 3 0 rfl rfl (by dsimp only; decide))))
  have fk := fk.kept (fun k hk9 => ho _ (nW_f2 k hk9))
  have fe := fe.kept (ho _ (Nat.ne_of_lt l_fe_f2))
  have fr := fr.kept (ho _ (Nat.ne_of_lt l_fr_f2))
  have fL1 := fL1.kept (ho _ (Nat.ne_of_lt l_fL1_f2))
  have f2 : c1 D qf2 (.inl (tk 0, 4, .inr (.inl (vp_updL (vp_updL (vp_updL (vp_updL (fun _ => 0) 0 (tt k_x)) 1 (bb k_x)) 2 (r_3.toInt64)) 3 (r_5))))) H := n_
  refine lv_astore (pc := 45) (lv' := [(4, .ref qf2), (3, .ref (rt k_x)), (0, .ref mo), (1, .int x), (2, .int w_)]) hx hb dX5_partNow_45 hl (by decide) rfl (fun ls hl => ?_)
  refine lv_aload (pc := 47) hx hb dX5_partNow_47 (lv_at hl 0 rfl) ?_
  refine lv_iload_n (pc := 49) hx hb dX5_partNow_49 rfl (lv_at hl 4 rfl) ?_
  refine r_lald (pc := 50) E hC f2 (by rw [hw1]; exact vp_in_nI (by omega) (by decide)) dX5_partNow_50 ?_
  refine lv_l2i (pc := 51) (v := ((vp_updL (vp_updL (vp_updL (vp_updL (fun _ => 0) 0 (tt k_x)) 1 (bb k_x)) 2 (r_3.toInt64)) 3 (r_5)) (w_).toNatClampNeg).toInt32) hx hb dX5_partNow_51 rfl ?_
  refine r_iret (pc := 52) E hr hlk hS (by omega) (by omega) ?_ dX5_partNow_52
  have hk4 : kw = 0 ∨ kw = 1 ∨ kw = 2 ∨ kw = 3 := by omega
  subst hw1
  rw [nI_clamp (by omega)]
  rcases hk4 with rfl | rfl | rfl | rfl <;> (subst er_3 er_5; simp [m_pt, vp_updL])
set_option maxHeartbeats 4000000 in
set_option maxRecDepth 100000 in
/-- BestratiosModel.part(II)I -/
theorem c_X5_part (l : Launch) (D : va_G) (tk : Nat → ClassId) (N0 : Nat) (sa : Nat → Nat)  (sz : Nat) (P : Nat → Prop) (hPN : ∀ q, P q → N0 ≤ q) (hPs : ∀ q, sz ≤ q → P q) (mo n9 : Nat) (kn th : Int32) (tt bb : Nat → Int64) (eT eB oT oB : Int64) (pk : Nat) (ca rf : Int32) (vs : Nat → Value) (x1 : Int32) (x2 : Int32) : Met l yX5_part (wsy yX5_part cX5_part 3 (some .int)) ({ frames := 2, cells := 1, slots := 4, locals := 49 } : Room) (cP D tk N0 sa [.ref mo, .int x1, .int x2] sz (fun H => MI D tk sa P mo tt bb eT eB oT oB pk ca rf vs kn n9 th H)) (kQi (fun r H => ∃ th1, MI D tk sa P mo tt bb eT eB oT oB pk ca rf vs kn n9 th1 H ∧ QU (m_isNo x1) (m_not (m_isIn x2 0 3)) ((m_pt (tt (nn x1)) (bb (nn x1)) (nn x2)).toInt32) r th1) (P)) (1) (4) (P) := by
  refine mStart RX5 rfl (by decide +kernel) (Nat.le_of_ble_eq_true rfl) ?_
  intro p e s m args below meth c E hr hlk hnm hsz hC hF ls hl
  subst hsz
  obtain ⟨hx, hb, -⟩ := id E
  have hA : ∀ q, (P) q → N0 ≤ q := hPN
  have hn : ∀ q, s.heap.size ≤ q → (P) q := hPs
  have hS : va_S (P) s.heap s.heap [] := va_S.rf
  have hl : lv_has ls 3 [(0, .ref mo), (1, .int x1), (2, .int x2)] := hl
  have hM : MI D tk sa P mo tt bb eT eB oT oB pk ca rf vs kn n9 th s.heap := hF
  obtain ⟨ra, rl, ex, ro, rt, fo, fj, fk, fe, fr, fw, ⟨hPm, hPa, hPl, hPe, hPr, hPk⟩, hFk, hFe, hFr, hpk, hn9⟩ := hM
  have g_fo := hPm
  have g_fj := hPa
  refine lv_aload_n (pc := 0) hx hb dX5_part_0 rfl (lv_at hl 0 rfl) ?_
  refine lv_iload_n (pc := 1) hx hb dX5_part_1 rfl (lv_at hl 1 rfl) ?_
  refine k_i (pc := 2) (k_S E hC hS hA hl.1 (c_X5_isNo l D tk N0 sa s.heap.size x1 ) kw_1245 kw_1246 kw_5 kw_1247 (n := 1) (by decide +kernel) rfl ⟨⟨rfl, rfl⟩, ⟨Nat.le_of_ble_eq_true rfl, Nat.le_of_ble_eq_true rfl⟩, (by dsimp only; omega), (by dsimp only; omega)⟩ rfl (Nat.le_of_ble_eq_true rfl) trivial dX5_part_2) hS (fun q z w => absurd w (Nat.not_le.mpr z)) hn (fun r_1 H locs hR hz hk hS => ?_)
  have er_1 := hR
  have fw := fw.new hk
  have fo := fo.kept (hk _ fo.lt (Nat.not_le.mpr fo.lt))
  have fj := fj.kept (hk _ fj.lt (Nat.not_le.mpr fj.lt))
  have fk := fk.new hk
  have fe := fe.kept (hk _ fe.lt (Nat.not_le.mpr fe.lt))
  have fr := fr.kept (hk _ fr.lt (Nat.not_le.mpr fr.lt))
  refine lv_iload_n (pc := 5) hx hb dX5_part_5 rfl (lv_at hl 2 rfl) ?_
  refine lv_iconst (pc := 6) (v := 0) hx hb dX5_part_6 (by decide) ?_
  refine lv_iconst (pc := 7) (v := 3) hx hb dX5_part_7 (by decide) ?_
  refine k_i (pc := 8) (k_S E hC hS hA hl.1 (c_X5_isIn l D tk N0 sa H.size x2 0 3 ) kw_1248 kw_1249 kw_5 kw_1250 (n := 3) (by decide +kernel) rfl ⟨⟨rfl, rfl⟩, ⟨Nat.le_of_ble_eq_true rfl, Nat.le_of_ble_eq_true rfl⟩, (by dsimp only; omega), (by dsimp only; omega)⟩ rfl (Nat.le_of_ble_eq_true rfl) trivial dX5_part_8) hS (fun q z w => absurd w (Nat.not_le.mpr z)) hn (fun r_3 H locs hR hz hk hS => ?_)
  have er_3 := hR
  have fw := fw.new hk
  have fo := fo.kept (hk _ fo.lt (Nat.not_le.mpr fo.lt))
  have fj := fj.kept (hk _ fj.lt (Nat.not_le.mpr fj.lt))
  have fk := fk.new hk
  have fe := fe.kept (hk _ fe.lt (Nat.not_le.mpr fe.lt))
  have fr := fr.kept (hk _ fr.lt (Nat.not_le.mpr fr.lt))
  refine lv_if_ne (pc := 11) (tgt := 18) hx hb dX5_part_11 (by decide) (fun c_5 => ?_) (fun c_5 => ?_)
  · refine lv_iconst (pc := 18) (v := 0) hx hb dX5_part_18 (by decide) ?_
    have hZ0_ := hS.1
    have t_fo := fo.lt
    have t_fj := fj.lt
    have t_fk := fun k (hk9 : k < 6) => (fk k hk9).lt
    have t_fe := fe.lt
    have t_fr := fr.lt
    refine k_i (pc := 19) (k_V E hC hS hA hl.1 (c1.recv hC fo rfl) rfl (c_X5_fails l D tk N0 sa H.size P hPN (fun q h9 => hPs q (Nat.le_trans hS.1 h9)) mo n9 kn th tt bb eT eB oT oB pk ca rf vs r_1 0 ) kw_1251 kw_1253 kp_20 kw_5 kw_1254 (n := 2) (by decide +kernel) rfl ⟨⟨rfl, rfl⟩, ⟨Nat.le_of_ble_eq_true rfl, Nat.le_of_ble_eq_true rfl⟩, (by dsimp only; omega), (by dsimp only; omega)⟩ rfl (Nat.le_of_ble_eq_true rfl) ⟨_, _, _, _, _, fo, fj, fk, fe, fr, fw, ⟨hPm, hPa, hPl, hPe, hPr, hPk⟩, hFk, hFe, hFr, hpk, hn9⟩ dX5_part_19) hS (fun q _ h => h) hn (fun r_6 H locs hR hz hk hS => ?_)
    obtain ⟨er_6, hM⟩ := hR
    obtain ⟨ra, rl, ex, ro, rt, fo, fj, fk, fe, fr, fw, ⟨hPm, hPa, hPl, hPe, hPr, hPk⟩, hFk, hFe, hFr, hpk, hn9⟩ := hM
    have g_fo := hPm
    have g_fj := hPa
    refine lv_if_eq (pc := 22) (tgt := 29) hx hb dX5_part_22 (by decide) (fun c_7 => ?_) (fun c_7 => ?_)
    · refine lv_aload_n (pc := 29) hx hb dX5_part_29 rfl (lv_at hl 0 rfl) ?_
      refine lv_iload_n (pc := 30) hx hb dX5_part_30 rfl (lv_at hl 1 rfl) ?_
      refine lv_iload_n (pc := 31) hx hb dX5_part_31 rfl (lv_at hl 2 rfl) ?_
      obtain ⟨kw, hw1, hw2⟩ := m_in (x := x2) (hi_ := 3) (by decide) (fun z9 => c_5 (er_3.trans z9))
      have hZ0_ := hS.1
      have t_fo := fo.lt
      have t_fj := fj.lt
      have t_fk := fun k (hk9 : k < 6) => (fk k hk9).lt
      have t_fe := fe.lt
      have t_fr := fr.lt
      obtain ⟨hx_8, hk_8⟩ := m_noN (er_1.symm.trans (m_fl0 (er_6.symm.trans c_7)).1)
      refine k_i (pc := 32) (k_V E hC hS hA hl.1 (c1.recv hC fo rfl) rfl (c_X5_partNow l D tk N0 sa H.size P hPN mo n9 kn ((m_th r_1 0)) tt bb eT eB oT oB pk ca rf vs x1 (nn x1) hx_8 hk_8 x2 kw hw1 hw2) kw_1387 kw_1389 kp_23 kw_5 kw_1390 (n := 2) (by decide +kernel) rfl ⟨⟨rfl, rfl⟩, ⟨Nat.le_of_ble_eq_true rfl, Nat.le_of_ble_eq_true rfl⟩, (by dsimp only; omega), (by dsimp only; omega)⟩ rfl (Nat.le_of_ble_eq_true rfl) ⟨_, _, _, _, _, fo, fj, fk, fe, fr, fw, ⟨hPm, hPa, hPl, hPe, hPr, hPk⟩, hFk, hFe, hFr, hpk, hn9⟩ dX5_part_32) hS (fun q z w => absurd w (Nat.not_le.mpr z)) hn (fun r_9 H locs hR hz hk hS => ?_)
      have fw := fw.new hk
      have fo := fo.kept (hk _ fo.lt (Nat.not_le.mpr fo.lt))
      have fj := fj.kept (hk _ fj.lt (Nat.not_le.mpr fj.lt))
      have fk := fk.new hk
      have fe := fe.kept (hk _ fe.lt (Nat.not_le.mpr fe.lt))
      have fr := fr.kept (hk _ fr.lt (Nat.not_le.mpr fr.lt))
      have er_9 := hR
      refine r_iret (pc := 35) E hr hlk hS (by omega) (by omega) ?_ dX5_part_35
      exact ⟨_, ⟨_, _, _, _, _, fo, fj, fk, fe, fr, fw, ⟨hPm, hPa, hPl, hPe, hPr, hPk⟩, hFk, hFe, hFr, hpk, hn9⟩, QU.ok (by subst er_1 er_3 er_6; first | rfl | (simp [m_or, m_not, m_is0, m_lt0, m_fl, c_5, c_7]; done)) (by subst er_1 er_3 er_6; first | rfl | (simp [m_or, m_not, m_is0, m_lt0, m_fl, c_5, c_7]; done)) (er_6.symm.trans c_7) (by rw [er_9, hw1, show nn (nI kw) = kw from nI_clamp (by omega)])⟩
    · refine lv_iconst (pc := 25) (v := 0) hx hb dX5_part_25 (by decide) ?_
      refine lv_goto (pc := 26) (tgt := 35) hx hb dX5_part_26 (by decide) ?_
      refine r_iret (pc := 35) E hr hlk hS (by omega) (by omega) ?_ dX5_part_35
      exact ⟨_, ⟨_, _, _, _, _, fo, fj, fk, fe, fr, fw, ⟨hPm, hPa, hPl, hPe, hPr, hPk⟩, hFk, hFe, hFr, hpk, hn9⟩, QU.fail (by subst er_1 er_3 er_6; first | rfl | (simp [m_or, m_not, m_is0, m_lt0, m_fl, c_5, c_7]; done)) (by subst er_1 er_3 er_6; first | rfl | (simp [m_or, m_not, m_is0, m_lt0, m_fl, c_5, c_7]; done)) (fun z9 => c_7 (er_6.trans z9))⟩
  · refine lv_iconst (pc := 14) (v := 1) hx hb dX5_part_14 (by decide) ?_
    refine lv_goto (pc := 15) (tgt := 19) hx hb dX5_part_15 (by decide) ?_
    have hZ0_ := hS.1
    have t_fo := fo.lt
    have t_fj := fj.lt
    have t_fk := fun k (hk9 : k < 6) => (fk k hk9).lt
    have t_fe := fe.lt
    have t_fr := fr.lt
    refine k_i (pc := 19) (k_V E hC hS hA hl.1 (c1.recv hC fo rfl) rfl (c_X5_fails l D tk N0 sa H.size P hPN (fun q h9 => hPs q (Nat.le_trans hS.1 h9)) mo n9 kn th tt bb eT eB oT oB pk ca rf vs r_1 1 ) kw_1251 kw_1253 kp_20 kw_5 kw_1254 (n := 2) (by decide +kernel) rfl ⟨⟨rfl, rfl⟩, ⟨Nat.le_of_ble_eq_true rfl, Nat.le_of_ble_eq_true rfl⟩, (by dsimp only; omega), (by dsimp only; omega)⟩ rfl (Nat.le_of_ble_eq_true rfl) ⟨_, _, _, _, _, fo, fj, fk, fe, fr, fw, ⟨hPm, hPa, hPl, hPe, hPr, hPk⟩, hFk, hFe, hFr, hpk, hn9⟩ dX5_part_19) hS (fun q _ h => h) hn (fun r_10 H locs hR hz hk hS => ?_)
    obtain ⟨er_10, hM⟩ := hR
    obtain ⟨ra, rl, ex, ro, rt, fo, fj, fk, fe, fr, fw, ⟨hPm, hPa, hPl, hPe, hPr, hPk⟩, hFk, hFe, hFr, hpk, hn9⟩ := hM
    have g_fo := hPm
    have g_fj := hPa
    have ef_r_10 : r_10 = 1 := er_10.trans (m_fl1 _)
    rw [ef_r_10]
    refine lv_if_eq (pc := 22) (tgt := 29) hx hb dX5_part_22 (by decide) (fun c_11 => ?_) (fun c_11 => ?_)
    · exact absurd c_11 (by decide)
    refine lv_iconst (pc := 25) (v := 0) hx hb dX5_part_25 (by decide) ?_
    refine lv_goto (pc := 26) (tgt := 35) hx hb dX5_part_26 (by decide) ?_
    refine r_iret (pc := 35) E hr hlk hS (by omega) (by omega) ?_ dX5_part_35
    exact ⟨_, ⟨_, _, _, _, _, fo, fj, fk, fe, fr, fw, ⟨hPm, hPa, hPl, hPe, hPr, hPk⟩, hFk, hFe, hFr, hpk, hn9⟩, QU.fail (by subst er_1 er_3; first | rfl | (simp [m_or, m_not, m_is0, m_lt0, m_fl, c_5]; done)) (by subst er_1 er_3; first | rfl | (simp [m_or, m_not, m_is0, m_lt0, m_fl, c_5]; done)) (fun z9 => absurd (ef_r_10.symm.trans (er_10.trans z9)) (by decide))⟩
set_option maxHeartbeats 4000000 in
set_option maxRecDepth 100000 in
/-- BestratiosModel.compare(II)I -/
theorem c_X5_compare (l : Launch) (D : va_G) (tk : Nat → ClassId) (N0 : Nat) (sa : Nat → Nat)  (sz : Nat) (P : Nat → Prop) (hPN : ∀ q, P q → N0 ≤ q) (hPs : ∀ q, sz ≤ q → P q) (mo n9 : Nat) (kn th : Int32) (tt bb : Nat → Int64) (eT eB oT oB : Int64) (pk : Nat) (ca rf : Int32) (vs : Nat → Value) (x1 : Int32) (x2 : Int32) : Met l yX5_compare (wsy yX5_compare cX5_compare 3 (some .int)) ({ frames := 3, cells := 0, slots := 0, locals := 63 } : Room) (cP D tk N0 sa [.ref mo, .int x1, .int x2] sz (fun H => MI D tk sa P mo tt bb eT eB oT oB pk ca rf vs kn n9 th H)) (kQi (fun r H => ∃ th1, MI D tk sa P mo tt bb eT eB oT oB pk ca rf vs kn n9 th1 H ∧ QU (m_areNo x1 x2) 0 (m_ord (tt (nn x1)) (bb (nn x1)) (tt (nn x2)) (bb (nn x2))) r th1) (P)) (0) (0) (P) := by
  refine mStart RX5 rfl (by decide +kernel) (Nat.le_of_ble_eq_true rfl) ?_
  intro p e s m args below meth c E hr hlk hnm hsz hC hF ls hl
  subst hsz
  obtain ⟨hx, hb, -⟩ := id E
  have hA : ∀ q, (P) q → N0 ≤ q := hPN
  have hn : ∀ q, s.heap.size ≤ q → (P) q := hPs
  have hS : va_S (P) s.heap s.heap [] := va_S.rf
  have hl : lv_has ls 3 [(0, .ref mo), (1, .int x1), (2, .int x2)] := hl
  have hM : MI D tk sa P mo tt bb eT eB oT oB pk ca rf vs kn n9 th s.heap := hF
  obtain ⟨ra, rl, ex, ro, rt, fo, fj, fk, fe, fr, fw, ⟨hPm, hPa, hPl, hPe, hPr, hPk⟩, hFk, hFe, hFr, hpk, hn9⟩ := hM
  have g_fo := hPm
  have g_fj := hPa
  refine lv_aload_n (pc := 0) hx hb dX5_compare_0 rfl (lv_at hl 0 rfl) ?_
  refine lv_iload_n (pc := 1) hx hb dX5_compare_1 rfl (lv_at hl 1 rfl) ?_
  refine lv_iload_n (pc := 2) hx hb dX5_compare_2 rfl (lv_at hl 2 rfl) ?_
  refine k_i (pc := 3) (k_S E hC hS hA hl.1 (c_X5_areNo l D tk N0 sa s.heap.size x1 x2 ) kw_1286 kw_1287 kw_5 kw_1288 (n := 2) (by decide +kernel) rfl ⟨⟨rfl, rfl⟩, ⟨Nat.le_of_ble_eq_true rfl, Nat.le_of_ble_eq_true rfl⟩, (by dsimp only; omega), (by dsimp only; omega)⟩ rfl (Nat.le_of_ble_eq_true rfl) trivial dX5_compare_3) hS (fun q z w => absurd w (Nat.not_le.mpr z)) hn (fun r_1 H locs hR hz hk hS => ?_)
  have er_1 := hR
  have fw := fw.new hk
  have fo := fo.kept (hk _ fo.lt (Nat.not_le.mpr fo.lt))
  have fj := fj.kept (hk _ fj.lt (Nat.not_le.mpr fj.lt))
  have fk := fk.new hk
  have fe := fe.kept (hk _ fe.lt (Nat.not_le.mpr fe.lt))
  have fr := fr.kept (hk _ fr.lt (Nat.not_le.mpr fr.lt))
  refine lv_iconst (pc := 6) (v := 0) hx hb dX5_compare_6 (by decide) ?_
  have hZ0_ := hS.1
  have t_fo := fo.lt
  have t_fj := fj.lt
  have t_fk := fun k (hk9 : k < 6) => (fk k hk9).lt
  have t_fe := fe.lt
  have t_fr := fr.lt
  refine k_i (pc := 7) (k_V E hC hS hA hl.1 (c1.recv hC fo rfl) rfl (c_X5_fails l D tk N0 sa H.size P hPN (fun q h9 => hPs q (Nat.le_trans hS.1 h9)) mo n9 kn th tt bb eT eB oT oB pk ca rf vs r_1 0 ) kw_1251 kw_1253 kp_20 kw_5 kw_1254 (n := 2) (by decide +kernel) rfl ⟨⟨rfl, rfl⟩, ⟨Nat.le_of_ble_eq_true rfl, Nat.le_of_ble_eq_true rfl⟩, (by dsimp only; omega), (by dsimp only; omega)⟩ rfl (Nat.le_of_ble_eq_true rfl) ⟨_, _, _, _, _, fo, fj, fk, fe, fr, fw, ⟨hPm, hPa, hPl, hPe, hPr, hPk⟩, hFk, hFe, hFr, hpk, hn9⟩ dX5_compare_7) hS (fun q _ h => h) hn (fun r_3 H locs hR hz hk hS => ?_)
  obtain ⟨er_3, hM⟩ := hR
  obtain ⟨ra, rl, ex, ro, rt, fo, fj, fk, fe, fr, fw, ⟨hPm, hPa, hPl, hPe, hPr, hPk⟩, hFk, hFe, hFr, hpk, hn9⟩ := hM
  have g_fo := hPm
  have g_fj := hPa
  refine lv_if_eq (pc := 10) (tgt := 17) hx hb dX5_compare_10 (by decide) (fun c_4 => ?_) (fun c_4 => ?_)
  · refine lv_aload_n (pc := 17) hx hb dX5_compare_17 rfl (lv_at hl 0 rfl) ?_
    refine r_get (pc := 18) E hC fo 0 (v := .ref ra) rfl rfl (by decide) uX5 (List.mem_cons_of_mem _ kw_1209) (fun _ h => h) dX5_compare_18 ?_
    refine lv_iload_n (pc := 21) hx hb dX5_compare_21 rfl (lv_at hl 1 rfl) ?_
    obtain ⟨hx_5, hk_5⟩ := m_noN (m_ano (er_1.symm.trans (m_fl0 (er_3.symm.trans c_4)).1)).1
    refine r_aaldJ (pc := 22) E hC fj (nn x1) hx_5 hk_5 (by decide) rfl dX5_compare_22 ?_
    have fL6 := fk (nn x1) hk_5
    have mF_fL6 := hFk (nn x1) hk_5
    have Pq_fL6 := hPk (nn x1) hk_5
    refine lv_aload_n (pc := 23) hx hb dX5_compare_23 rfl (lv_at hl 0 rfl) ?_
    refine r_get (pc := 24) E hC fo 0 (v := .ref ra) rfl rfl (by decide) uX5 (List.mem_cons_of_mem _ kw_1209) (fun _ h => h) dX5_compare_24 ?_
    refine lv_iload_n (pc := 27) hx hb dX5_compare_27 rfl (lv_at hl 2 rfl) ?_
    obtain ⟨hx_7, hk_7⟩ := m_noN (m_ano (er_1.symm.trans (m_fl0 (er_3.symm.trans c_4)).1)).2
    refine r_aaldJ (pc := 28) E hC fj (nn x2) hx_7 hk_7 (by decide) rfl dX5_compare_28 ?_
    have fL8 := fk (nn x2) hk_7
    have mF_fL8 := hFk (nn x2) hk_7
    have Pq_fL8 := hPk (nn x2) hk_7
    have hZ0_ := hS.1
    have t_fo := fo.lt
    have t_fj := fj.lt
    have t_fk := fun k (hk9 : k < 6) => (fk k hk9).lt
    have t_fe := fe.lt
    have t_fr := fr.lt
    have t_fL6 := fL6.lt
    have t_fL8 := fL8.lt
    refine k_i (pc := 29) (k_S E hC hS hA hl.1 (c_X5_order l D tk N0 sa H.size (rt (nn x1)) (tt (nn x1)) (bb (nn x1)) (rt (nn x2)) (tt (nn x2)) (bb (nn x2)) ) kw_1268 kw_1269 kw_5 kw_1270 (n := 2) (by decide +kernel) rfl ⟨⟨rfl, rfl⟩, ⟨Nat.le_of_ble_eq_true rfl, Nat.le_of_ble_eq_true rfl⟩, (by dsimp only; omega), (by dsimp only; omega)⟩ rfl (Nat.le_of_ble_eq_true rfl) ⟨fL6, fL8⟩ dX5_compare_29) hS (fun q z w => absurd w (Nat.not_le.mpr z)) hn (fun r_9 H locs hR hz hk hS => ?_)
    have fw := fw.new hk
    have fo := fo.kept (hk _ fo.lt (Nat.not_le.mpr fo.lt))
    have fj := fj.kept (hk _ fj.lt (Nat.not_le.mpr fj.lt))
    have fk := fk.new hk
    have fe := fe.kept (hk _ fe.lt (Nat.not_le.mpr fe.lt))
    have fr := fr.kept (hk _ fr.lt (Nat.not_le.mpr fr.lt))
    have fL6 := fL6.kept (hk _ fL6.lt (Nat.not_le.mpr fL6.lt))
    have fL8 := fL8.kept (hk _ fL8.lt (Nat.not_le.mpr fL8.lt))
    have er_9 := hR
    refine r_iret (pc := 32) E hr hlk hS (by omega) (by omega) ?_ dX5_compare_32
    exact ⟨_, ⟨_, _, _, _, _, fo, fj, fk, fe, fr, fw, ⟨hPm, hPa, hPl, hPe, hPr, hPk⟩, hFk, hFe, hFr, hpk, hn9⟩, QU.ok (by subst er_1 er_3 er_9; first | rfl | (simp [m_or, m_not, m_is0, m_lt0, m_fl, c_4]; done)) (by subst er_1 er_3 er_9; first | rfl | (simp [m_or, m_not, m_is0, m_lt0, m_fl, c_4]; done)) (er_3.symm.trans c_4) (by subst er_1 er_3 er_9; first | rfl | (simp [c_4]; done))⟩
  · refine lv_iconst (pc := 13) (v := 0) hx hb dX5_compare_13 (by decide) ?_
    refine lv_goto (pc := 14) (tgt := 32) hx hb dX5_compare_14 (by decide) ?_
    refine r_iret (pc := 32) E hr hlk hS (by omega) (by omega) ?_ dX5_compare_32
    exact ⟨_, ⟨_, _, _, _, _, fo, fj, fk, fe, fr, fw, ⟨hPm, hPa, hPl, hPe, hPr, hPk⟩, hFk, hFe, hFr, hpk, hn9⟩, QU.fail (by subst er_1 er_3; first | rfl | (simp [m_or, m_not, m_is0, m_lt0, m_fl, c_4]; done)) (by subst er_1 er_3; first | rfl | (simp [m_or, m_not, m_is0, m_lt0, m_fl, c_4]; done)) (fun z9 => c_4 (er_3.trans z9))⟩
set_option maxHeartbeats 4000000 in
set_option maxRecDepth 100000 in
/-- BestratiosModel.areNextNow(II)Z -/
theorem c_X5_areNextNow (l : Launch) (D : va_G) (tk : Nat → ClassId) (N0 : Nat) (sa : Nat → Nat)  (sz : Nat) (P : Nat → Prop) (hPN : ∀ q, P q → N0 ≤ q) (mo n9 : Nat) (kn th : Int32) (tt bb : Nat → Int64) (eT eB oT oB : Int64) (pk : Nat) (ca rf : Int32) (vs : Nat → Value) (x : Int32) (k_x : Nat) (hx_x : x = nI k_x) (hk_x : k_x < 6) (y : Int32) (k_y : Nat) (hx_y : y = nI k_y) (hk_y : k_y < 6) : Met l yX5_areNextNow (wsy yX5_areNextNow cX5_areNextNow 3 (some .boolean)) ({ frames := 1, cells := 0, slots := 0, locals := 21 } : Room) (cP D tk N0 sa [.ref mo, .int x, .int y] sz (fun H => MI D tk sa P mo tt bb eT eB oT oB pk ca rf vs kn n9 th H)) (kQi (fun r H => r = m_nx1 (tt k_x) (bb k_x) (tt k_y) (bb k_y)) (nwA sz)) (0) (0) (nwA sz) := by
  refine mStart RX5 rfl (by decide +kernel) (Nat.le_of_ble_eq_true rfl) ?_
  intro p e s m args below meth c E hr hlk hnm hsz hC hF ls hl
  subst hsz
  obtain ⟨hx, hb, -⟩ := id E
  have hA : ∀ q, (nwA s.heap.size) q → N0 ≤ q := fun q h => Nat.le_trans hC.2.1 h
  have hn : ∀ q, s.heap.size ≤ q → (nwA s.heap.size) q := fun q h => h
  have hS : va_S (nwA s.heap.size) s.heap s.heap [] := va_S.rf
  have hl : lv_has ls 3 [(0, .ref mo), (1, .int x), (2, .int y)] := hl
  have hM : MI D tk sa P mo tt bb eT eB oT oB pk ca rf vs kn n9 th s.heap := hF
  obtain ⟨ra, rl, ex, ro, rt, fo, fj, fk, fe, fr, fw, ⟨hPm, hPa, hPl, hPe, hPr, hPk⟩, hFk, hFe, hFr, hpk, hn9⟩ := hM
  refine lv_aload_n (pc := 0) hx hb dX5_areNextNow_0 rfl (lv_at hl 0 rfl) ?_
  refine r_get (pc := 1) E hC fo 0 (v := .ref ra) rfl rfl (by decide) uX5 (List.mem_cons_of_mem _ kw_1209) (fun _ h => h) dX5_areNextNow_1 ?_
  refine lv_iload_n (pc := 4) hx hb dX5_areNextNow_4 rfl (lv_at hl 1 rfl) ?_
  refine r_aaldJ (pc := 5) E hC fj k_x hx_x hk_x (by decide) rfl dX5_areNextNow_5 ?_
  have fL1 := fk k_x hk_x
  have mF_fL1 := hFk k_x hk_x
  have Pq_fL1 := hPk k_x hk_x
  refine lv_iconst (pc := 6) (v := 0) hx hb dX5_areNextNow_6 (by decide) ?_
  refine r_l0 (pc := 7) E hC fL1 dX5_areNextNow_7 ?_
  refine lv_aload_n (pc := 8) hx hb dX5_areNextNow_8 rfl (lv_at hl 0 rfl) ?_
  refine r_get (pc := 9) E hC fo 0 (v := .ref ra) rfl rfl (by decide) uX5 (List.mem_cons_of_mem _ kw_1209) (fun _ h => h) dX5_areNextNow_9 ?_
  refine lv_iload_n (pc := 12) hx hb dX5_areNextNow_12 rfl (lv_at hl 2 rfl) ?_
  refine r_aaldJ (pc := 13) E hC fj k_y hx_y hk_y (by decide) rfl dX5_areNextNow_13 ?_
  have fL2 := fk k_y hk_y
  have mF_fL2 := hFk k_y hk_y
  have Pq_fL2 := hPk k_y hk_y
  refine lv_iconst (pc := 14) (v := 1) hx hb dX5_areNextNow_14 (by decide) ?_
  refine r_l1 (pc := 15) E hC fL2 dX5_areNextNow_15 ?_
  refine lv_lmul (pc := 16) hx hb dX5_areNextNow_16 ?_
  refine lv_aload_n (pc := 17) hx hb dX5_areNextNow_17 rfl (lv_at hl 0 rfl) ?_
  refine r_get (pc := 18) E hC fo 0 (v := .ref ra) rfl rfl (by decide) uX5 (List.mem_cons_of_mem _ kw_1209) (fun _ h => h) dX5_areNextNow_18 ?_
  refine lv_iload_n (pc := 21) hx hb dX5_areNextNow_21 rfl (lv_at hl 2 rfl) ?_
  refine r_aaldJ (pc := 22) E hC fj k_y hx_y hk_y (by decide) rfl dX5_areNextNow_22 ?_
  have fL3 := fk k_y hk_y
  have mF_fL3 := hFk k_y hk_y
  have Pq_fL3 := hPk k_y hk_y
  refine lv_iconst (pc := 23) (v := 0) hx hb dX5_areNextNow_23 (by decide) ?_
  refine r_l0 (pc := 24) E hC fL3 dX5_areNextNow_24 ?_
  refine lv_aload_n (pc := 25) hx hb dX5_areNextNow_25 rfl (lv_at hl 0 rfl) ?_
  refine r_get (pc := 26) E hC fo 0 (v := .ref ra) rfl rfl (by decide) uX5 (List.mem_cons_of_mem _ kw_1209) (fun _ h => h) dX5_areNextNow_26 ?_
  refine lv_iload_n (pc := 29) hx hb dX5_areNextNow_29 rfl (lv_at hl 1 rfl) ?_
  refine r_aaldJ (pc := 30) E hC fj k_x hx_x hk_x (by decide) rfl dX5_areNextNow_30 ?_
  have fL4 := fk k_x hk_x
  have mF_fL4 := hFk k_x hk_x
  have Pq_fL4 := hPk k_x hk_x
  refine lv_iconst (pc := 31) (v := 1) hx hb dX5_areNextNow_31 (by decide) ?_
  refine r_l1 (pc := 32) E hC fL4 dX5_areNextNow_32 ?_
  refine lv_lmul (pc := 33) hx hb dX5_areNextNow_33 ?_
  refine lv_lsub (pc := 34) hx hb dX5_areNextNow_34 ?_
  refine k_l (pc := 35) (k_S E hC hS hA hl.1 (c_J9_abs_067f4 l D tk N0 sa s.heap.size (((tt k_x) * (bb k_y)) - ((tt k_y) * (bb k_x))) ) kw_1205 kw_1206 kw_9 kw_1207 (n := 1) (by decide +kernel) rfl ⟨⟨rfl, rfl⟩, ⟨Nat.le_of_ble_eq_true rfl, Nat.le_of_ble_eq_true rfl⟩, (by dsimp only; omega), (by dsimp only; omega)⟩ rfl (Nat.le_of_ble_eq_true rfl) trivial dX5_areNextNow_35) hS (fun q z w => absurd w (Nat.not_le.mpr z)) hn (fun r_5 H locs hR hz hk hS => ?_)
  have er_5 := hR
  have fw := fw.new hk
  have fo := fo.kept (hk _ fo.lt (Nat.not_le.mpr fo.lt))
  have fj := fj.kept (hk _ fj.lt (Nat.not_le.mpr fj.lt))
  have fk := fk.new hk
  have fe := fe.kept (hk _ fe.lt (Nat.not_le.mpr fe.lt))
  have fr := fr.kept (hk _ fr.lt (Nat.not_le.mpr fr.lt))
  have fL1 := fL1.kept (hk _ fL1.lt (Nat.not_le.mpr fL1.lt))
  have fL2 := fL2.kept (hk _ fL2.lt (Nat.not_le.mpr fL2.lt))
  have fL3 := fL3.kept (hk _ fL3.lt (Nat.not_le.mpr fL3.lt))
  have fL4 := fL4.kept (hk _ fL4.lt (Nat.not_le.mpr fL4.lt))
  refine lv_lconst (pc := 38) (v := 1) hx hb dX5_areNextNow_38 (by decide) ?_
  refine r_lcne (pc := 39) (tgt := 47) E dX5_areNextNow_39 dX5_areNextNow_40 (by decide) (fun c_7 => ?_) (fun c_7 => ?_)
  · refine lv_iconst (pc := 47) (v := 0) hx hb dX5_areNextNow_47 (by decide) ?_
    refine r_zret (pc := 48) E hr hlk hS (by omega) (by omega) rfl ?_ dX5_areNextNow_48
    subst er_5; first | with_reducible rfl | (simp [m_nx1, c_7]; done)
  · refine lv_iconst (pc := 43) (v := 1) hx hb dX5_areNextNow_43 (by decide) ?_
    refine lv_goto (pc := 44) (tgt := 48) hx hb dX5_areNextNow_44 (by decide) ?_
    refine r_zret (pc := 48) E hr hlk hS (by omega) (by omega) rfl ?_ dX5_areNextNow_48
    subst er_5; first | with_reducible rfl | (simp [m_nx1, c_7]; done)
set_option maxHeartbeats 4000000 in
set_option maxRecDepth 100000 in
/-- BestratiosModel.areNext(II)Z -/
theorem c_X5_areNext (l : Launch) (D : va_G) (tk : Nat → ClassId) (N0 : Nat) (sa : Nat → Nat)  (sz : Nat) (P : Nat → Prop) (hPN : ∀ q, P q → N0 ≤ q) (hPs : ∀ q, sz ≤ q → P q) (mo n9 : Nat) (kn th : Int32) (tt bb : Nat → Int64) (eT eB oT oB : Int64) (pk : Nat) (ca rf : Int32) (vs : Nat → Value) (x1 : Int32) (x2 : Int32) : Met l yX5_areNext (wsy yX5_areNext cX5_areNext 3 (some .boolean)) ({ frames := 3, cells := 0, slots := 0, locals := 63 } : Room) (cP D tk N0 sa [.ref mo, .int x1, .int x2] sz (fun H => MI D tk sa P mo tt bb eT eB oT oB pk ca rf vs kn n9 th H)) (kQi (fun r H => ∃ th1, MI D tk sa P mo tt bb eT eB oT oB pk ca rf vs kn n9 th1 H ∧ QU (m_areNo x1 x2) 0 (m_nx1 (tt (nn x1)) (bb (nn x1)) (tt (nn x2)) (bb (nn x2))) r th1) (P)) (0) (0) (P) := by
  refine mStart RX5 rfl (by decide +kernel) (Nat.le_of_ble_eq_true rfl) ?_
  intro p e s m args below meth c E hr hlk hnm hsz hC hF ls hl
  subst hsz
  obtain ⟨hx, hb, -⟩ := id E
  have hA : ∀ q, (P) q → N0 ≤ q := hPN
  have hn : ∀ q, s.heap.size ≤ q → (P) q := hPs
  have hS : va_S (P) s.heap s.heap [] := va_S.rf
  have hl : lv_has ls 3 [(0, .ref mo), (1, .int x1), (2, .int x2)] := hl
  have hM : MI D tk sa P mo tt bb eT eB oT oB pk ca rf vs kn n9 th s.heap := hF
  obtain ⟨ra, rl, ex, ro, rt, fo, fj, fk, fe, fr, fw, ⟨hPm, hPa, hPl, hPe, hPr, hPk⟩, hFk, hFe, hFr, hpk, hn9⟩ := hM
  have g_fo := hPm
  have g_fj := hPa
  refine lv_aload_n (pc := 0) hx hb dX5_areNext_0 rfl (lv_at hl 0 rfl) ?_
  refine lv_iload_n (pc := 1) hx hb dX5_areNext_1 rfl (lv_at hl 1 rfl) ?_
  refine lv_iload_n (pc := 2) hx hb dX5_areNext_2 rfl (lv_at hl 2 rfl) ?_
  refine k_i (pc := 3) (k_S E hC hS hA hl.1 (c_X5_areNo l D tk N0 sa s.heap.size x1 x2 ) kw_1286 kw_1287 kw_5 kw_1288 (n := 2) (by decide +kernel) rfl ⟨⟨rfl, rfl⟩, ⟨Nat.le_of_ble_eq_true rfl, Nat.le_of_ble_eq_true rfl⟩, (by dsimp only; omega), (by dsimp only; omega)⟩ rfl (Nat.le_of_ble_eq_true rfl) trivial dX5_areNext_3) hS (fun q z w => absurd w (Nat.not_le.mpr z)) hn (fun r_1 H locs hR hz hk hS => ?_)
  have er_1 := hR
  have fw := fw.new hk
  have fo := fo.kept (hk _ fo.lt (Nat.not_le.mpr fo.lt))
  have fj := fj.kept (hk _ fj.lt (Nat.not_le.mpr fj.lt))
  have fk := fk.new hk
  have fe := fe.kept (hk _ fe.lt (Nat.not_le.mpr fe.lt))
  have fr := fr.kept (hk _ fr.lt (Nat.not_le.mpr fr.lt))
  refine lv_iconst (pc := 6) (v := 0) hx hb dX5_areNext_6 (by decide) ?_
  have hZ0_ := hS.1
  have t_fo := fo.lt
  have t_fj := fj.lt
  have t_fk := fun k (hk9 : k < 6) => (fk k hk9).lt
  have t_fe := fe.lt
  have t_fr := fr.lt
  refine k_i (pc := 7) (k_V E hC hS hA hl.1 (c1.recv hC fo rfl) rfl (c_X5_fails l D tk N0 sa H.size P hPN (fun q h9 => hPs q (Nat.le_trans hS.1 h9)) mo n9 kn th tt bb eT eB oT oB pk ca rf vs r_1 0 ) kw_1251 kw_1253 kp_20 kw_5 kw_1254 (n := 2) (by decide +kernel) rfl ⟨⟨rfl, rfl⟩, ⟨Nat.le_of_ble_eq_true rfl, Nat.le_of_ble_eq_true rfl⟩, (by dsimp only; omega), (by dsimp only; omega)⟩ rfl (Nat.le_of_ble_eq_true rfl) ⟨_, _, _, _, _, fo, fj, fk, fe, fr, fw, ⟨hPm, hPa, hPl, hPe, hPr, hPk⟩, hFk, hFe, hFr, hpk, hn9⟩ dX5_areNext_7) hS (fun q _ h => h) hn (fun r_3 H locs hR hz hk hS => ?_)
  obtain ⟨er_3, hM⟩ := hR
  obtain ⟨ra, rl, ex, ro, rt, fo, fj, fk, fe, fr, fw, ⟨hPm, hPa, hPl, hPe, hPr, hPk⟩, hFk, hFe, hFr, hpk, hn9⟩ := hM
  have g_fo := hPm
  have g_fj := hPa
  refine lv_if_ne (pc := 10) (tgt := 26) hx hb dX5_areNext_10 (by decide) (fun c_4 => ?_) (fun c_4 => ?_)
  · refine lv_iconst (pc := 26) (v := 0) hx hb dX5_areNext_26 (by decide) ?_
    refine r_zret (pc := 27) E hr hlk hS (by omega) (by omega) rfl ?_ dX5_areNext_27
    exact ⟨_, ⟨_, _, _, _, _, fo, fj, fk, fe, fr, fw, ⟨hPm, hPa, hPl, hPe, hPr, hPk⟩, hFk, hFe, hFr, hpk, hn9⟩, QU.fail (by subst er_1 er_3; first | rfl | (simp [m_or, m_not, m_is0, m_lt0, m_fl, c_4]; done)) (by subst er_1 er_3; first | rfl | (simp [m_or, m_not, m_is0, m_lt0, m_fl, c_4]; done)) (fun z9 => c_4 (er_3.trans z9))⟩
  · refine lv_aload_n (pc := 13) hx hb dX5_areNext_13 rfl (lv_at hl 0 rfl) ?_
    refine lv_iload_n (pc := 14) hx hb dX5_areNext_14 rfl (lv_at hl 1 rfl) ?_
    refine lv_iload_n (pc := 15) hx hb dX5_areNext_15 rfl (lv_at hl 2 rfl) ?_
    have hZ0_ := hS.1
    have t_fo := fo.lt
    have t_fj := fj.lt
    have t_fk := fun k (hk9 : k < 6) => (fk k hk9).lt
    have t_fe := fe.lt
    have t_fr := fr.lt
    obtain ⟨hx_5, hk_5⟩ := m_noN (m_ano (er_1.symm.trans (m_fl0 (er_3.symm.trans c_4)).1)).1
    obtain ⟨hx_6, hk_6⟩ := m_noN (m_ano (er_1.symm.trans (m_fl0 (er_3.symm.trans c_4)).1)).2
    refine k_i (pc := 16) (k_V E hC hS hA hl.1 (c1.recv hC fo rfl) rfl (c_X5_areNextNow l D tk N0 sa H.size P hPN mo n9 kn ((m_th r_1 0)) tt bb eT eB oT oB pk ca rf vs x1 (nn x1) hx_5 hk_5 x2 (nn x2) hx_6 hk_6 ) kw_1403 kw_1405 kp_24 kw_5 kw_1406 (n := 2) (by decide +kernel) rfl ⟨⟨rfl, rfl⟩, ⟨Nat.le_of_ble_eq_true rfl, Nat.le_of_ble_eq_true rfl⟩, (by dsimp only; omega), (by dsimp only; omega)⟩ rfl (Nat.le_of_ble_eq_true rfl) ⟨_, _, _, _, _, fo, fj, fk, fe, fr, fw, ⟨hPm, hPa, hPl, hPe, hPr, hPk⟩, hFk, hFe, hFr, hpk, hn9⟩ dX5_areNext_16) hS (fun q z w => absurd w (Nat.not_le.mpr z)) hn (fun r_7 H locs hR hz hk hS => ?_)
    have fw := fw.new hk
    have fo := fo.kept (hk _ fo.lt (Nat.not_le.mpr fo.lt))
    have fj := fj.kept (hk _ fj.lt (Nat.not_le.mpr fj.lt))
    have fk := fk.new hk
    have fe := fe.kept (hk _ fe.lt (Nat.not_le.mpr fe.lt))
    have fr := fr.kept (hk _ fr.lt (Nat.not_le.mpr fr.lt))
    have er_7 := hR
    refine lv_if_eq (pc := 19) (tgt := 26) hx hb dX5_areNext_19 (by decide) (fun c_8 => ?_) (fun c_8 => ?_)
    · refine lv_iconst (pc := 26) (v := 0) hx hb dX5_areNext_26 (by decide) ?_
      refine r_zret (pc := 27) E hr hlk hS (by omega) (by omega) rfl ?_ dX5_areNext_27
      exact ⟨_, ⟨_, _, _, _, _, fo, fj, fk, fe, fr, fw, ⟨hPm, hPa, hPl, hPe, hPr, hPk⟩, hFk, hFe, hFr, hpk, hn9⟩, QU.ok (by subst er_1 er_3 er_7; first | rfl | (simp [m_or, m_not, m_is0, m_lt0, m_fl, c_4, c_8]; done)) (by subst er_1 er_3 er_7; first | rfl | (simp [m_or, m_not, m_is0, m_lt0, m_fl, c_4, c_8]; done)) (er_3.symm.trans c_4) (c_8.symm.trans er_7)⟩
    · refine lv_iconst (pc := 22) (v := 1) hx hb dX5_areNext_22 (by decide) ?_
      refine lv_goto (pc := 23) (tgt := 27) hx hb dX5_areNext_23 (by decide) ?_
      refine r_zret (pc := 27) E hr hlk hS (by omega) (by omega) rfl ?_ dX5_areNext_27
      exact ⟨_, ⟨_, _, _, _, _, fo, fj, fk, fe, fr, fw, ⟨hPm, hPa, hPl, hPe, hPr, hPk⟩, hFk, hFe, hFr, hpk, hn9⟩, QU.ok (by subst er_1 er_3 er_7; first | rfl | (simp [m_or, m_not, m_is0, m_lt0, m_fl, c_4, c_8]; done)) (by subst er_1 er_3 er_7; first | rfl | (simp [m_or, m_not, m_is0, m_lt0, m_fl, c_4, c_8]; done)) (er_3.symm.trans c_4) (m_nx1o er_7 c_8)⟩
set_option maxHeartbeats 4000000 in
set_option maxRecDepth 100000 in
/-- BestratiosModel.terms(I)Ljava/lang/String; -/
theorem c_X5_terms (l : Launch) (D : va_G) (tk : Nat → ClassId) (N0 : Nat) (sa : Nat → Nat)  (sz : Nat) (P : Nat → Prop) (hPN : ∀ q, P q → N0 ≤ q) (hPs : ∀ q, sz ≤ q → P q) (mo n9 : Nat) (kn th : Int32) (tt bb : Nat → Int64) (eT eB oT oB : Int64) (pk : Nat) (ca rf : Int32) (vs : Nat → Value) (x1 : Int32) : Met l yX5_terms (wsy yX5_terms cX5_terms 2 (some (.object "java/lang/String"))) ({ frames := 8, cells := 351, slots := 56939, locals := 186 } : Room) (cP D tk N0 sa [.ref mo, .int x1] sz (fun H => MI D tk sa P mo tt bb eT eB oT oB pk ca rf vs kn n9 th H)) (kQr (fun r H => ∃ th1, MI D tk sa P mo tt bb eT eB oT oB pk ca rf vs kn n9 th1 H) (P)) (351) (56939) (P) := by
  refine mStart RX5 rfl (by decide +kernel) (Nat.le_of_ble_eq_true rfl) ?_
  intro p e s m args below meth c E hr hlk hnm hsz hC hF ls hl
  subst hsz
  obtain ⟨hx, hb, -⟩ := id E
  have hA : ∀ q, (P) q → N0 ≤ q := hPN
  have hn : ∀ q, s.heap.size ≤ q → (P) q := hPs
  have hS : va_S (P) s.heap s.heap [] := va_S.rf
  have hl : lv_has ls 2 [(0, .ref mo), (1, .int x1)] := hl
  have hM : MI D tk sa P mo tt bb eT eB oT oB pk ca rf vs kn n9 th s.heap := hF
  obtain ⟨ra, rl, ex, ro, rt, fo, fj, fk, fe, fr, fw, ⟨hPm, hPa, hPl, hPe, hPr, hPk⟩, hFk, hFe, hFr, hpk, hn9⟩ := hM
  have g_fo := hPm
  have g_fj := hPa
  refine lv_aload_n (pc := 0) hx hb dX5_terms_0 rfl (lv_at hl 0 rfl) ?_
  refine lv_iload_n (pc := 1) hx hb dX5_terms_1 rfl (lv_at hl 1 rfl) ?_
  refine k_i (pc := 2) (k_S E hC hS hA hl.1 (c_X5_isNo l D tk N0 sa s.heap.size x1 ) kw_1245 kw_1246 kw_5 kw_1247 (n := 1) (by decide +kernel) rfl ⟨⟨rfl, rfl⟩, ⟨Nat.le_of_ble_eq_true rfl, Nat.le_of_ble_eq_true rfl⟩, (by dsimp only; omega), (by dsimp only; omega)⟩ rfl (Nat.le_of_ble_eq_true rfl) trivial dX5_terms_2) hS (fun q z w => absurd w (Nat.not_le.mpr z)) hn (fun r_1 H locs hR hz hk hS => ?_)
  have er_1 := hR
  have fw := fw.new hk
  have fo := fo.kept (hk _ fo.lt (Nat.not_le.mpr fo.lt))
  have fj := fj.kept (hk _ fj.lt (Nat.not_le.mpr fj.lt))
  have fk := fk.new hk
  have fe := fe.kept (hk _ fe.lt (Nat.not_le.mpr fe.lt))
  have fr := fr.kept (hk _ fr.lt (Nat.not_le.mpr fr.lt))
  refine lv_iconst (pc := 5) (v := 0) hx hb dX5_terms_5 (by decide) ?_
  have hZ0_ := hS.1
  have t_fo := fo.lt
  have t_fj := fj.lt
  have t_fk := fun k (hk9 : k < 6) => (fk k hk9).lt
  have t_fe := fe.lt
  have t_fr := fr.lt
  refine k_i (pc := 6) (k_V E hC hS hA hl.1 (c1.recv hC fo rfl) rfl (c_X5_fails l D tk N0 sa H.size P hPN (fun q h9 => hPs q (Nat.le_trans hS.1 h9)) mo n9 kn th tt bb eT eB oT oB pk ca rf vs r_1 0 ) kw_1251 kw_1253 kp_20 kw_5 kw_1254 (n := 2) (by decide +kernel) rfl ⟨⟨rfl, rfl⟩, ⟨Nat.le_of_ble_eq_true rfl, Nat.le_of_ble_eq_true rfl⟩, (by dsimp only; omega), (by dsimp only; omega)⟩ rfl (Nat.le_of_ble_eq_true rfl) ⟨_, _, _, _, _, fo, fj, fk, fe, fr, fw, ⟨hPm, hPa, hPl, hPe, hPr, hPk⟩, hFk, hFe, hFr, hpk, hn9⟩ dX5_terms_6) hS (fun q _ h => h) hn (fun r_3 H locs hR hz hk hS => ?_)
  obtain ⟨er_3, hM⟩ := hR
  obtain ⟨ra, rl, ex, ro, rt, fo, fj, fk, fe, fr, fw, ⟨hPm, hPa, hPl, hPe, hPr, hPk⟩, hFk, hFe, hFr, hpk, hn9⟩ := hM
  have g_fo := hPm
  have g_fj := hPa
  refine lv_if_eq (pc := 9) (tgt := 17) hx hb dX5_terms_9 (by decide) (fun c_4 => ?_) (fun c_4 => ?_)
  · refine lv_aload_n (pc := 17) hx hb dX5_terms_17 rfl (lv_at hl 0 rfl) ?_
    refine r_get (pc := 18) E hC fo 0 (v := .ref ra) rfl rfl (by decide) uX5 (List.mem_cons_of_mem _ kw_1209) (fun _ h => h) dX5_terms_18 ?_
    refine lv_iload_n (pc := 21) hx hb dX5_terms_21 rfl (lv_at hl 1 rfl) ?_
    obtain ⟨hx_5, hk_5⟩ := m_noN (er_1.symm.trans (m_fl0 (er_3.symm.trans c_4)).1)
    refine r_aaldJ (pc := 22) E hC fj (nn x1) hx_5 hk_5 (by decide) rfl dX5_terms_22 ?_
    have fL6 := fk (nn x1) hk_5
    have mF_fL6 := hFk (nn x1) hk_5
    have Pq_fL6 := hPk (nn x1) hk_5
    have hZ0_ := hS.1
    have t_fo := fo.lt
    have t_fj := fj.lt
    have t_fk := fun k (hk9 : k < 6) => (fk k hk9).lt
    have t_fe := fe.lt
    have t_fr := fr.lt
    have t_fL6 := fL6.lt
    refine k_r (pc := 23) (k_S E hC hS hA hl.1 (c_X5_termsOf l D tk N0 sa H.size (rt (nn x1)) (tt (nn x1)) (bb (nn x1)) mF_fL6) kw_1411 kw_1412 kw_5 kw_1413 (n := 1) (by decide +kernel) rfl ⟨⟨rfl, rfl⟩, ⟨Nat.le_of_ble_eq_true rfl, Nat.le_of_ble_eq_true rfl⟩, (by dsimp only; omega), (by dsimp only; omega)⟩ rfl (Nat.le_of_ble_eq_true rfl) fL6 dX5_terms_23) hS (fun q z w => absurd w (Nat.not_le.mpr z)) hn (fun r_7 H locs hR hz hk hS => ?_)
    have fw := fw.new hk
    have fo := fo.kept (hk _ fo.lt (Nat.not_le.mpr fo.lt))
    have fj := fj.kept (hk _ fj.lt (Nat.not_le.mpr fj.lt))
    have fk := fk.new hk
    have fe := fe.kept (hk _ fe.lt (Nat.not_le.mpr fe.lt))
    have fr := fr.kept (hk _ fr.lt (Nat.not_le.mpr fr.lt))
    have fL6 := fL6.kept (hk _ fL6.lt (Nat.not_le.mpr fL6.lt))
    obtain ⟨nl8, bb8, cap8, ff8, ww8, md8, zr9_, zb9_, fl8, fR8, el8, hPT8, hln8, hlm8, hlc8, hlp8, ⟨hTL8, hTA8⟩, gg8, hEU8⟩ := hR
    have hcb8 := m_acB hlp8
    have s_fl8 : s.heap.size ≤ r_7 := Nat.le_trans hZ0_ zr9_
    have g_fl8 := hn _ s_fl8
    have l_fo_fl8 : mo < r_7 := Nat.lt_of_lt_of_le t_fo zr9_
    have l_fj_fl8 : ra < r_7 := Nat.lt_of_lt_of_le t_fj zr9_
    have nW_fl8 : ∀ k, k < 6 → rt k ≠ r_7 := fun k hk9 => Nat.ne_of_lt (Nat.lt_of_lt_of_le (t_fk k hk9) zr9_)
    have l_fe_fl8 : ex < r_7 := Nat.lt_of_lt_of_le t_fe zr9_
    have l_fr_fl8 : ro < r_7 := Nat.lt_of_lt_of_le t_fr zr9_
    have l_fL6_fl8 : rt (nn x1) < r_7 := Nat.lt_of_lt_of_le t_fL6 zr9_
    have s_fR8 : s.heap.size ≤ bb8 := Nat.le_trans hZ0_ zb9_
    have g_fR8 := hn _ s_fR8
    have l_fo_fR8 : mo < bb8 := Nat.lt_of_lt_of_le t_fo zb9_
    have l_fj_fR8 : ra < bb8 := Nat.lt_of_lt_of_le t_fj zb9_
    have nW_fR8 : ∀ k, k < 6 → rt k ≠ bb8 := fun k hk9 => Nat.ne_of_lt (Nat.lt_of_lt_of_le (t_fk k hk9) zb9_)
    have l_fe_fR8 : ex < bb8 := Nat.lt_of_lt_of_le t_fe zb9_
    have l_fr_fR8 : ro < bb8 := Nat.lt_of_lt_of_le t_fr zb9_
    have l_fL6_fR8 : rt (nn x1) < bb8 := Nat.lt_of_lt_of_le t_fL6 zb9_
    have hZ0_ := hS.1
    have t_fo := fo.lt
    have t_fj := fj.lt
    have t_fk := fun k (hk9 : k < 6) => (fk k hk9).lt
    have t_fe := fe.lt
    have t_fr := fr.lt
    have t_fL6 := fL6.lt
    have t_fR8 := fR8.lt
    have t_fl8 := fl8.lt
    refine k_r (pc := 26) (k_S E hC hS hA hl.1 (c_X5_told l D tk N0 sa H.size r_7 bb8 nl8 cap8 md8 ff8 ww8 (by omega) (by omega) (by omega) hPT8.pv) kw_1483 kw_1484 kw_5 kw_1485 (n := 1) (by decide +kernel) rfl ⟨⟨rfl, rfl⟩, ⟨Nat.le_of_ble_eq_true rfl, Nat.le_of_ble_eq_true rfl⟩, (by dsimp only; omega), (by dsimp only; omega)⟩ rfl (Nat.le_of_ble_eq_true rfl) ⟨fl8, fR8, el8⟩ dX5_terms_26) hS (fun q z w => absurd w (Nat.not_le.mpr z)) hn (fun r_9 H locs hR hz hk hS => ?_)
    have fw := fw.new hk
    have fo := fo.kept (hk _ fo.lt (Nat.not_le.mpr fo.lt))
    have fj := fj.kept (hk _ fj.lt (Nat.not_le.mpr fj.lt))
    have fk := fk.new hk
    have fe := fe.kept (hk _ fe.lt (Nat.not_le.mpr fe.lt))
    have fr := fr.kept (hk _ fr.lt (Nat.not_le.mpr fr.lt))
    have fL6 := fL6.kept (hk _ fL6.lt (Nat.not_le.mpr fL6.lt))
    have fR8 := fR8.kept (hk _ fR8.lt (Nat.not_le.mpr fR8.lt))
    have fl8 := fl8.kept (hk _ fl8.lt (Nat.not_le.mpr fl8.lt))
    have el8 := el8.new hk
    obtain ⟨n_f10, hn_f10, f10⟩ := hR
    refine r_aret (pc := 29) E hr (Or.inl ⟨_, rfl⟩) hlk hS (by omega) (by omega) ?_ dX5_terms_29
    exact ⟨_, ⟨_, _, _, _, _, fo, fj, fk, fe, fr, fw, ⟨hPm, hPa, hPl, hPe, hPr, hPk⟩, hFk, hFe, hFr, hpk, hn9⟩⟩
  · refine va_ldcS (pc := 12) hx hb E.2.2.2.1 (hC.2.2.2.2.1 6 _ rfl).1 dX5_terms_12 ?_
    have k11 : SX D tk (sa (10 + 6)) 0 H := hC.str hS hA 6 _ rfl (by decide)
    refine lv_goto (pc := 14) (tgt := 29) hx hb dX5_terms_14 (by decide) ?_
    refine r_aret (pc := 29) E hr (Or.inl ⟨_, rfl⟩) hlk hS (by omega) (by omega) ?_ dX5_terms_29
    exact ⟨_, ⟨_, _, _, _, _, fo, fj, fk, fe, fr, fw, ⟨hPm, hPa, hPl, hPe, hPr, hPk⟩, hFk, hFe, hFr, hpk, hn9⟩⟩
set_option maxHeartbeats 4000000 in
set_option maxRecDepth 100000 in
/-- BestratiosModel.term(II)I -/
theorem c_X5_term (l : Launch) (D : va_G) (tk : Nat → ClassId) (N0 : Nat) (sa : Nat → Nat)  (sz : Nat) (P : Nat → Prop) (hPN : ∀ q, P q → N0 ≤ q) (hPs : ∀ q, sz ≤ q → P q) (mo n9 : Nat) (kn th : Int32) (tt bb : Nat → Int64) (eT eB oT oB : Int64) (pk : Nat) (ca rf : Int32) (vs : Nat → Value) (x1 : Int32) (x2 : Int32) : Met l yX5_term (wsy yX5_term cX5_term 4 (some .int)) ({ frames := 8, cells := 49, slots := 175, locals := 186 } : Room) (cP D tk N0 sa [.ref mo, .int x1, .int x2] sz (fun H => MI D tk sa P mo tt bb eT eB oT oB pk ca rf vs kn n9 th H)) (kQi (fun r H => ∃ th1, MI D tk sa P mo tt bb eT eB oT oB pk ca rf vs kn n9 th1 H ∧ QU (m_isNo x1) (m_lt0 x2) (m_TM (tt (nn x1)) (bb (nn x1)) x2) r th1) (P)) (49) (175) (P) := by
  refine mStart RX5 rfl (by decide +kernel) (Nat.le_of_ble_eq_true rfl) ?_
  intro p e s m args below meth c E hr hlk hnm hsz hC hF ls hl
  subst hsz
  obtain ⟨hx, hb, -⟩ := id E
  have hA : ∀ q, (P) q → N0 ≤ q := hPN
  have hn : ∀ q, s.heap.size ≤ q → (P) q := hPs
  have hS : va_S (P) s.heap s.heap [] := va_S.rf
  have hl : lv_has ls 4 [(0, .ref mo), (1, .int x1), (2, .int x2)] := hl
  have hM : MI D tk sa P mo tt bb eT eB oT oB pk ca rf vs kn n9 th s.heap := hF
  obtain ⟨ra, rl, ex, ro, rt, fo, fj, fk, fe, fr, fw, ⟨hPm, hPa, hPl, hPe, hPr, hPk⟩, hFk, hFe, hFr, hpk, hn9⟩ := hM
  have g_fo := hPm
  have g_fj := hPa
  refine lv_aload_n (pc := 0) hx hb dX5_term_0 rfl (lv_at hl 0 rfl) ?_
  refine lv_iload_n (pc := 1) hx hb dX5_term_1 rfl (lv_at hl 1 rfl) ?_
  refine k_i (pc := 2) (k_S E hC hS hA hl.1 (c_X5_isNo l D tk N0 sa s.heap.size x1 ) kw_1245 kw_1246 kw_5 kw_1247 (n := 1) (by decide +kernel) rfl ⟨⟨rfl, rfl⟩, ⟨Nat.le_of_ble_eq_true rfl, Nat.le_of_ble_eq_true rfl⟩, (by dsimp only; omega), (by dsimp only; omega)⟩ rfl (Nat.le_of_ble_eq_true rfl) trivial dX5_term_2) hS (fun q z w => absurd w (Nat.not_le.mpr z)) hn (fun r_1 H locs hR hz hk hS => ?_)
  have er_1 := hR
  have fw := fw.new hk
  have fo := fo.kept (hk _ fo.lt (Nat.not_le.mpr fo.lt))
  have fj := fj.kept (hk _ fj.lt (Nat.not_le.mpr fj.lt))
  have fk := fk.new hk
  have fe := fe.kept (hk _ fe.lt (Nat.not_le.mpr fe.lt))
  have fr := fr.kept (hk _ fr.lt (Nat.not_le.mpr fr.lt))
  refine lv_iload_n (pc := 5) hx hb dX5_term_5 rfl (lv_at hl 2 rfl) ?_
  refine lv_if_ge (pc := 6) (tgt := 13) hx hb dX5_term_6 (by decide) (fun c_3 => ?_) (fun c_3 => ?_)
  · refine lv_iconst (pc := 13) (v := 0) hx hb dX5_term_13 (by decide) ?_
    have hZ0_ := hS.1
    have t_fo := fo.lt
    have t_fj := fj.lt
    have t_fk := fun k (hk9 : k < 6) => (fk k hk9).lt
    have t_fe := fe.lt
    have t_fr := fr.lt
    refine k_i (pc := 14) (k_V E hC hS hA hl.1 (c1.recv hC fo rfl) rfl (c_X5_fails l D tk N0 sa H.size P hPN (fun q h9 => hPs q (Nat.le_trans hS.1 h9)) mo n9 kn th tt bb eT eB oT oB pk ca rf vs r_1 0 ) kw_1251 kw_1253 kp_20 kw_5 kw_1254 (n := 2) (by decide +kernel) rfl ⟨⟨rfl, rfl⟩, ⟨Nat.le_of_ble_eq_true rfl, Nat.le_of_ble_eq_true rfl⟩, (by dsimp only; omega), (by dsimp only; omega)⟩ rfl (Nat.le_of_ble_eq_true rfl) ⟨_, _, _, _, _, fo, fj, fk, fe, fr, fw, ⟨hPm, hPa, hPl, hPe, hPr, hPk⟩, hFk, hFe, hFr, hpk, hn9⟩ dX5_term_14) hS (fun q _ h => h) hn (fun r_4 H locs hR hz hk hS => ?_)
    obtain ⟨er_4, hM⟩ := hR
    obtain ⟨ra, rl, ex, ro, rt, fo, fj, fk, fe, fr, fw, ⟨hPm, hPa, hPl, hPe, hPr, hPk⟩, hFk, hFe, hFr, hpk, hn9⟩ := hM
    have g_fo := hPm
    have g_fj := hPa
    refine lv_if_eq (pc := 17) (tgt := 22) hx hb dX5_term_17 (by decide) (fun c_5 => ?_) (fun c_5 => ?_)
    · refine lv_aload_n (pc := 22) hx hb dX5_term_22 rfl (lv_at hl 0 rfl) ?_
      refine r_get (pc := 23) E hC fo 0 (v := .ref ra) rfl rfl (by decide) uX5 (List.mem_cons_of_mem _ kw_1209) (fun _ h => h) dX5_term_23 ?_
      refine lv_iload_n (pc := 26) hx hb dX5_term_26 rfl (lv_at hl 1 rfl) ?_
      obtain ⟨hx_6, hk_6⟩ := m_noN (er_1.symm.trans (m_fl0 (er_4.symm.trans c_5)).1)
      refine r_aaldJ (pc := 27) E hC fj (nn x1) hx_6 hk_6 (by decide) rfl dX5_term_27 ?_
      have fL7 := fk (nn x1) hk_6
      have mF_fL7 := hFk (nn x1) hk_6
      have Pq_fL7 := hPk (nn x1) hk_6
      have hZ0_ := hS.1
      have t_fo := fo.lt
      have t_fj := fj.lt
      have t_fk := fun k (hk9 : k < 6) => (fk k hk9).lt
      have t_fe := fe.lt
      have t_fr := fr.lt
      have t_fL7 := fL7.lt
      refine k_r (pc := 28) (k_S E hC hS hA hl.1 (c_X5_termsOf l D tk N0 sa H.size (rt (nn x1)) (tt (nn x1)) (bb (nn x1)) mF_fL7) kw_1411 kw_1412 kw_5 kw_1413 (n := 1) (by decide +kernel) rfl ⟨⟨rfl, rfl⟩, ⟨Nat.le_of_ble_eq_true rfl, Nat.le_of_ble_eq_true rfl⟩, (by dsimp only; omega), (by dsimp only; omega)⟩ rfl (Nat.le_of_ble_eq_true rfl) fL7 dX5_term_28) hS (fun q z w => absurd w (Nat.not_le.mpr z)) hn (fun r_8 H locs hR hz hk hS => ?_)
      have fw := fw.new hk
      have fo := fo.kept (hk _ fo.lt (Nat.not_le.mpr fo.lt))
      have fj := fj.kept (hk _ fj.lt (Nat.not_le.mpr fj.lt))
      have fk := fk.new hk
      have fe := fe.kept (hk _ fe.lt (Nat.not_le.mpr fe.lt))
      have fr := fr.kept (hk _ fr.lt (Nat.not_le.mpr fr.lt))
      have fL7 := fL7.kept (hk _ fL7.lt (Nat.not_le.mpr fL7.lt))
      obtain ⟨nl9, bb9, cap9, ff9, ww9, md9, zr9_, zb9_, fl9, fR9, el9, hPT9, hln9, hlm9, hlc9, hlp9, ⟨hTL9, hTA9⟩, gg9, hEU9⟩ := hR
      have hcb9 := m_acB hlp9
      have s_fl9 : s.heap.size ≤ r_8 := Nat.le_trans hZ0_ zr9_
      have g_fl9 := hn _ s_fl9
      have l_fo_fl9 : mo < r_8 := Nat.lt_of_lt_of_le t_fo zr9_
      have l_fj_fl9 : ra < r_8 := Nat.lt_of_lt_of_le t_fj zr9_
      have nW_fl9 : ∀ k, k < 6 → rt k ≠ r_8 := fun k hk9 => Nat.ne_of_lt (Nat.lt_of_lt_of_le (t_fk k hk9) zr9_)
      have l_fe_fl9 : ex < r_8 := Nat.lt_of_lt_of_le t_fe zr9_
      have l_fr_fl9 : ro < r_8 := Nat.lt_of_lt_of_le t_fr zr9_
      have l_fL7_fl9 : rt (nn x1) < r_8 := Nat.lt_of_lt_of_le t_fL7 zr9_
      have s_fR9 : s.heap.size ≤ bb9 := Nat.le_trans hZ0_ zb9_
      have g_fR9 := hn _ s_fR9
      have l_fo_fR9 : mo < bb9 := Nat.lt_of_lt_of_le t_fo zb9_
      have l_fj_fR9 : ra < bb9 := Nat.lt_of_lt_of_le t_fj zb9_
      have nW_fR9 : ∀ k, k < 6 → rt k ≠ bb9 := fun k hk9 => Nat.ne_of_lt (Nat.lt_of_lt_of_le (t_fk k hk9) zb9_)
      have l_fe_fR9 : ex < bb9 := Nat.lt_of_lt_of_le t_fe zb9_
      have l_fr_fR9 : ro < bb9 := Nat.lt_of_lt_of_le t_fr zb9_
      have l_fL7_fR9 : rt (nn x1) < bb9 := Nat.lt_of_lt_of_le t_fL7 zb9_
      refine lv_astore_n (pc := 31) (lv' := [(3, .ref r_8), (0, .ref mo), (1, .int x1), (2, .int x2)]) hx hb dX5_term_31 rfl hl (by decide) rfl (fun ls hl => ?_)
      refine lv_iload_n (pc := 32) hx hb dX5_term_32 rfl (lv_at hl 3 rfl) ?_
      refine lv_aload_n (pc := 33) hx hb dX5_term_33 rfl (lv_at hl 0 rfl) ?_
      refine k_i (pc := 34) (k_V E hC hS hA hl.1 (c1.recv hC fl9 rfl) rfl (c_Jx4a65c_size_8abf5 l D tk N0 sa H.size r_8 bb9 nl9 md9) kw_1546 kw_1547 kw_1548 kw_8 kw_1549 (n := 0) (by decide +kernel) rfl ⟨⟨rfl, rfl⟩, ⟨Nat.le_of_ble_eq_true rfl, Nat.le_of_ble_eq_true rfl⟩, (by dsimp only; omega), (by dsimp only; omega)⟩ rfl (Nat.le_of_ble_eq_true rfl) fl9 dX5_term_34) hS (fun q z w => absurd w (Nat.not_le.mpr z)) hn (fun r_10 H locs hR hz hk hS => ?_)
      have fw := fw.new hk
      have fo := fo.kept (hk _ fo.lt (Nat.not_le.mpr fo.lt))
      have fj := fj.kept (hk _ fj.lt (Nat.not_le.mpr fj.lt))
      have fk := fk.new hk
      have fe := fe.kept (hk _ fe.lt (Nat.not_le.mpr fe.lt))
      have fr := fr.kept (hk _ fr.lt (Nat.not_le.mpr fr.lt))
      have fL7 := fL7.kept (hk _ fL7.lt (Nat.not_le.mpr fL7.lt))
      have fR9 := fR9.kept (hk _ fR9.lt (Nat.not_le.mpr fR9.lt))
      have fl9 := fl9.kept (hk _ fl9.lt (Nat.not_le.mpr fl9.lt))
      have el9 := el9.new hk
      rw [show r_10 = nI nl9 from hR]
      refine lv_icmp_ge (pc := 37) (tgt := 55) hx hb dX5_term_37 (by decide) (fun c_11 => ?_) (fun c_11 => ?_)
      · refine lv_bipush (pc := 55) (v := (-9)) hx hb dX5_term_55 (by decide) ?_
        refine r_iret (pc := 57) E hr hlk hS (by omega) (by omega) ?_ dX5_term_57
        exact ⟨_, ⟨_, _, _, _, _, fo, fj, fk, fe, fr, fw, ⟨hPm, hPa, hPl, hPe, hPr, hPk⟩, hFk, hFe, hFr, hpk, hn9⟩, QU.ok (by subst er_1 er_4; first | rfl | (simp [m_or, m_not, m_is0, m_lt0, m_fl, c_3, Int32.not_lt.mpr c_3, c_5, c_11, Int32.not_lt.mpr c_11]; done)) (by subst er_1 er_4; first | rfl | (simp [m_or, m_not, m_is0, m_lt0, m_fl, c_3, Int32.not_lt.mpr c_3, c_5, c_11, Int32.not_lt.mpr c_11]; done)) (er_4.symm.trans c_5) (by unfold m_TM; rw [← hTL9, if_pos c_11])⟩
      · refine lv_aload_n (pc := 40) hx hb dX5_term_40 rfl (lv_at hl 0 rfl) ?_
        refine lv_iload_n (pc := 41) hx hb dX5_term_41 rfl (lv_at hl 3 rfl) ?_
        obtain ⟨j9, hj1, hj2⟩ := m_ix c_3 c_11 (by omega)
        obtain ⟨qe12, hq12, he12⟩ := el9 j9 hj2
        obtain ⟨xe12, ev12, pv12⟩ := hPT9.pv j9 hj2
        rw [ev12] at he12
        refine k_r (pc := 42) (k_V E hC hS hA hl.1 (c1.recv hC fl9 rfl) rfl (c_Jx4a65c_get_915e3 l D tk N0 sa H.size r_8 bb9 nl9 cap9 j9 qe12 md9 x2 ff9 hj1 hj2 (by omega) (by omega) hq12) kw_1550 kw_1551 kw_1552 kw_8 kw_1553 (n := 1) (by decide +kernel) rfl ⟨⟨rfl, rfl⟩, ⟨Nat.le_of_ble_eq_true rfl, Nat.le_of_ble_eq_true rfl⟩, (by dsimp only; omega), (by dsimp only; omega)⟩ rfl (Nat.le_of_ble_eq_true rfl) ⟨fl9, fR9⟩ dX5_term_42) hS (fun q z w => absurd w (Nat.not_le.mpr z)) hn (fun r_13 H locs hR hz hk hS => ?_)
        have fw := fw.new hk
        have fo := fo.kept (hk _ fo.lt (Nat.not_le.mpr fo.lt))
        have fj := fj.kept (hk _ fj.lt (Nat.not_le.mpr fj.lt))
        have fk := fk.new hk
        have fe := fe.kept (hk _ fe.lt (Nat.not_le.mpr fe.lt))
        have fr := fr.kept (hk _ fr.lt (Nat.not_le.mpr fr.lt))
        have fL7 := fL7.kept (hk _ fL7.lt (Nat.not_le.mpr fL7.lt))
        have fR9 := fR9.kept (hk _ fR9.lt (Nat.not_le.mpr fR9.lt))
        have fl9 := fl9.kept (hk _ fl9.lt (Nat.not_le.mpr fl9.lt))
        have el9 := el9.new hk
        have he12 := he12.kept (hk _ he12.lt (Nat.not_le.mpr he12.lt))
        rw [show r_13 = qe12 from hR]
        refine r_castO (pc := 45) E hC he12 rfl kw_1532 dX5_term_45 ?_
        refine k_l (pc := 48) (k_V E hC hS hA hl.1 (xf.recv hC he12 rfl) rfl (c_J13_longValue_f9912 l D tk N0 sa H.size qe12 xe12) kw_1533 kw_1534 kw_1535 kw_17 kw_1536 (n := 0) (by decide +kernel) rfl ⟨⟨rfl, rfl⟩, ⟨Nat.le_of_ble_eq_true rfl, Nat.le_of_ble_eq_true rfl⟩, (by dsimp only; omega), (by dsimp only; omega)⟩ rfl (Nat.le_of_ble_eq_true rfl) he12 dX5_term_48) hS (fun q z w => absurd w (Nat.not_le.mpr z)) hn (fun r_14 H locs hR hz hk hS => ?_)
        have fw := fw.new hk
        have fo := fo.kept (hk _ fo.lt (Nat.not_le.mpr fo.lt))
        have fj := fj.kept (hk _ fj.lt (Nat.not_le.mpr fj.lt))
        have fk := fk.new hk
        have fe := fe.kept (hk _ fe.lt (Nat.not_le.mpr fe.lt))
        have fr := fr.kept (hk _ fr.lt (Nat.not_le.mpr fr.lt))
        have fL7 := fL7.kept (hk _ fL7.lt (Nat.not_le.mpr fL7.lt))
        have fR9 := fR9.kept (hk _ fR9.lt (Nat.not_le.mpr fR9.lt))
        have fl9 := fl9.kept (hk _ fl9.lt (Nat.not_le.mpr fl9.lt))
        have el9 := el9.new hk
        have he12 := he12.kept (hk _ he12.lt (Nat.not_le.mpr he12.lt))
        have er_14 : r_14 = xe12 := hR
        refine lv_l2i (pc := 51) (v := r_14.toInt32) hx hb dX5_term_51 rfl ?_
        refine lv_goto (pc := 52) (tgt := 57) hx hb dX5_term_52 (by decide) ?_
        refine r_iret (pc := 57) E hr hlk hS (by omega) (by omega) ?_ dX5_term_57
        exact ⟨_, ⟨_, _, _, _, _, fo, fj, fk, fe, fr, fw, ⟨hPm, hPa, hPl, hPe, hPr, hPk⟩, hFk, hFe, hFr, hpk, hn9⟩, QU.ok (by subst er_1 er_4 er_14; first | rfl | (simp [m_or, m_not, m_is0, m_lt0, m_fl, c_3, Int32.not_lt.mpr c_3, c_5, c_11, Int32.not_le.mp c_11]; done)) (by subst er_1 er_4 er_14; first | rfl | (simp [m_or, m_not, m_is0, m_lt0, m_fl, c_3, Int32.not_lt.mpr c_3, c_5, c_11, Int32.not_le.mp c_11]; done)) (er_4.symm.trans c_5) (by unfold m_TM; rw [← hTL9, if_neg c_11, er_14, m_lgI ev12 (hTA9 j9 hj2), show nn x2 = j9 from by rw [hj1]; exact nI_clamp (by omega)])⟩
    · refine lv_iconst (pc := 20) (v := 0) hx hb dX5_term_20 (by decide) ?_
      refine r_iret (pc := 21) E hr hlk hS (by omega) (by omega) ?_ dX5_term_21
      exact ⟨_, ⟨_, _, _, _, _, fo, fj, fk, fe, fr, fw, ⟨hPm, hPa, hPl, hPe, hPr, hPk⟩, hFk, hFe, hFr, hpk, hn9⟩, QU.fail (by subst er_1 er_4; first | rfl | (simp [m_or, m_not, m_is0, m_lt0, m_fl, c_3, Int32.not_lt.mpr c_3, c_5]; done)) (by subst er_1 er_4; first | rfl | (simp [m_or, m_not, m_is0, m_lt0, m_fl, c_3, Int32.not_lt.mpr c_3, c_5]; done)) (fun z9 => c_5 (er_4.trans z9))⟩
  · refine lv_iconst (pc := 9) (v := 1) hx hb dX5_term_9 (by decide) ?_
    refine lv_goto (pc := 10) (tgt := 14) hx hb dX5_term_10 (by decide) ?_
    have hZ0_ := hS.1
    have t_fo := fo.lt
    have t_fj := fj.lt
    have t_fk := fun k (hk9 : k < 6) => (fk k hk9).lt
    have t_fe := fe.lt
    have t_fr := fr.lt
    refine k_i (pc := 14) (k_V E hC hS hA hl.1 (c1.recv hC fo rfl) rfl (c_X5_fails l D tk N0 sa H.size P hPN (fun q h9 => hPs q (Nat.le_trans hS.1 h9)) mo n9 kn th tt bb eT eB oT oB pk ca rf vs r_1 1 ) kw_1251 kw_1253 kp_20 kw_5 kw_1254 (n := 2) (by decide +kernel) rfl ⟨⟨rfl, rfl⟩, ⟨Nat.le_of_ble_eq_true rfl, Nat.le_of_ble_eq_true rfl⟩, (by dsimp only; omega), (by dsimp only; omega)⟩ rfl (Nat.le_of_ble_eq_true rfl) ⟨_, _, _, _, _, fo, fj, fk, fe, fr, fw, ⟨hPm, hPa, hPl, hPe, hPr, hPk⟩, hFk, hFe, hFr, hpk, hn9⟩ dX5_term_14) hS (fun q _ h => h) hn (fun r_15 H locs hR hz hk hS => ?_)
    obtain ⟨er_15, hM⟩ := hR
    obtain ⟨ra, rl, ex, ro, rt, fo, fj, fk, fe, fr, fw, ⟨hPm, hPa, hPl, hPe, hPr, hPk⟩, hFk, hFe, hFr, hpk, hn9⟩ := hM
    have g_fo := hPm
    have g_fj := hPa
    have ef_r_15 : r_15 = 1 := er_15.trans (m_fl1 _)
    rw [ef_r_15]
    refine lv_if_eq (pc := 17) (tgt := 22) hx hb dX5_term_17 (by decide) (fun c_16 => ?_) (fun c_16 => ?_)
    · exact absurd c_16 (by decide)
    refine lv_iconst (pc := 20) (v := 0) hx hb dX5_term_20 (by decide) ?_
    refine r_iret (pc := 21) E hr hlk hS (by omega) (by omega) ?_ dX5_term_21
    exact ⟨_, ⟨_, _, _, _, _, fo, fj, fk, fe, fr, fw, ⟨hPm, hPa, hPl, hPe, hPr, hPk⟩, hFk, hFe, hFr, hpk, hn9⟩, QU.fail (by subst er_1; first | rfl | (simp [m_or, m_not, m_is0, m_lt0, m_fl, c_3, Int32.not_le.mp c_3]; done)) (by subst er_1; first | rfl | (simp [m_or, m_not, m_is0, m_lt0, m_fl, c_3, Int32.not_le.mp c_3]; done)) (fun z9 => absurd (ef_r_15.symm.trans (er_15.trans z9)) (by decide))⟩
set_option maxHeartbeats 4000000 in
set_option maxRecDepth 100000 in
/-- BestratiosModel.convergent(III)I -/
theorem c_X5_convergent (l : Launch) (D : va_G) (tk : Nat → ClassId) (N0 : Nat) (sa : Nat → Nat)  (sz : Nat) (P : Nat → Prop) (hPN : ∀ q, P q → N0 ≤ q) (hPs : ∀ q, sz ≤ q → P q) (mo n9 : Nat) (kn th : Int32) (tt bb : Nat → Int64) (eT eB oT oB : Int64) (pk : Nat) (ca rf : Int32) (vs : Nat → Value) (x1 : Int32) (x2 : Int32) (x3 : Int32) : Met l yX5_convergent (wsy yX5_convergent cX5_convergent 5 (some .int)) ({ frames := 8, cells := 50, slots := 177, locals := 186 } : Room) (cP D tk N0 sa [.ref mo, .int x1, .int x2, .int x3] sz (fun H => MI D tk sa P mo tt bb eT eB oT oB pk ca rf vs kn n9 th H)) (kQi (fun r H => ∃ th1 tt1 bb1 rf1, MI D tk sa P mo tt1 bb1 eT eB oT oB pk ca rf1 vs kn n9 th1 H ∧ AC (m_areNo x1 x2) (m_lt0 x3) tt bb rf (nn x1) (m_CV (tt (nn x2)) (bb (nn x2)) x3) r th1 tt1 bb1 rf1) (P)) (50) (177) (P) := by
  refine mStart RX5 rfl (by decide +kernel) (Nat.le_of_ble_eq_true rfl) ?_
  intro p e s m args below meth c E hr hlk hnm hsz hC hF ls hl
  subst hsz
  obtain ⟨hx, hb, -⟩ := id E
  have hA : ∀ q, (P) q → N0 ≤ q := hPN
  have hn : ∀ q, s.heap.size ≤ q → (P) q := hPs
  have hS : va_S (P) s.heap s.heap [] := va_S.rf
  have hl : lv_has ls 5 [(0, .ref mo), (1, .int x1), (2, .int x2), (3, .int x3)] := hl
  have hM : MI D tk sa P mo tt bb eT eB oT oB pk ca rf vs kn n9 th s.heap := hF
  obtain ⟨ra, rl, ex, ro, rt, fo, fj, fk, fe, fr, fw, ⟨hPm, hPa, hPl, hPe, hPr, hPk⟩, hFk, hFe, hFr, hpk, hn9⟩ := hM
  have g_fo := hPm
  have g_fj := hPa
  refine lv_aload_n (pc := 0) hx hb dX5_convergent_0 rfl (lv_at hl 0 rfl) ?_
  refine lv_iload_n (pc := 1) hx hb dX5_convergent_1 rfl (lv_at hl 1 rfl) ?_
  refine lv_iload_n (pc := 2) hx hb dX5_convergent_2 rfl (lv_at hl 2 rfl) ?_
  refine k_i (pc := 3) (k_S E hC hS hA hl.1 (c_X5_areNo l D tk N0 sa s.heap.size x1 x2 ) kw_1286 kw_1287 kw_5 kw_1288 (n := 2) (by decide +kernel) rfl ⟨⟨rfl, rfl⟩, ⟨Nat.le_of_ble_eq_true rfl, Nat.le_of_ble_eq_true rfl⟩, (by dsimp only; omega), (by dsimp only; omega)⟩ rfl (Nat.le_of_ble_eq_true rfl) trivial dX5_convergent_3) hS (fun q z w => absurd w (Nat.not_le.mpr z)) hn (fun r_1 H locs hR hz hk hS => ?_)
  have er_1 := hR
  have fw := fw.new hk
  have fo := fo.kept (hk _ fo.lt (Nat.not_le.mpr fo.lt))
  have fj := fj.kept (hk _ fj.lt (Nat.not_le.mpr fj.lt))
  have fk := fk.new hk
  have fe := fe.kept (hk _ fe.lt (Nat.not_le.mpr fe.lt))
  have fr := fr.kept (hk _ fr.lt (Nat.not_le.mpr fr.lt))
  refine lv_iload_n (pc := 6) hx hb dX5_convergent_6 rfl (lv_at hl 3 rfl) ?_
  refine lv_if_ge (pc := 7) (tgt := 14) hx hb dX5_convergent_7 (by decide) (fun c_3 => ?_) (fun c_3 => ?_)
  · refine lv_iconst (pc := 14) (v := 0) hx hb dX5_convergent_14 (by decide) ?_
    have hZ0_ := hS.1
    have t_fo := fo.lt
    have t_fj := fj.lt
    have t_fk := fun k (hk9 : k < 6) => (fk k hk9).lt
    have t_fe := fe.lt
    have t_fr := fr.lt
    refine k_i (pc := 15) (k_V E hC hS hA hl.1 (c1.recv hC fo rfl) rfl (c_X5_fails l D tk N0 sa H.size P hPN (fun q h9 => hPs q (Nat.le_trans hS.1 h9)) mo n9 kn th tt bb eT eB oT oB pk ca rf vs r_1 0 ) kw_1251 kw_1253 kp_20 kw_5 kw_1254 (n := 2) (by decide +kernel) rfl ⟨⟨rfl, rfl⟩, ⟨Nat.le_of_ble_eq_true rfl, Nat.le_of_ble_eq_true rfl⟩, (by dsimp only; omega), (by dsimp only; omega)⟩ rfl (Nat.le_of_ble_eq_true rfl) ⟨_, _, _, _, _, fo, fj, fk, fe, fr, fw, ⟨hPm, hPa, hPl, hPe, hPr, hPk⟩, hFk, hFe, hFr, hpk, hn9⟩ dX5_convergent_15) hS (fun q _ h => h) hn (fun r_4 H locs hR hz hk hS => ?_)
    obtain ⟨er_4, hM⟩ := hR
    obtain ⟨ra, rl, ex, ro, rt, fo, fj, fk, fe, fr, fw, ⟨hPm, hPa, hPl, hPe, hPr, hPk⟩, hFk, hFe, hFr, hpk, hn9⟩ := hM
    have g_fo := hPm
    have g_fj := hPa
    refine lv_if_eq (pc := 18) (tgt := 23) hx hb dX5_convergent_18 (by decide) (fun c_5 => ?_) (fun c_5 => ?_)
    · refine lv_aload_n (pc := 23) hx hb dX5_convergent_23 rfl (lv_at hl 0 rfl) ?_
      refine r_get (pc := 24) E hC fo 0 (v := .ref ra) rfl rfl (by decide) uX5 (List.mem_cons_of_mem _ kw_1209) (fun _ h => h) dX5_convergent_24 ?_
      refine lv_iload_n (pc := 27) hx hb dX5_convergent_27 rfl (lv_at hl 2 rfl) ?_
      obtain ⟨hx_6, hk_6⟩ := m_noN (m_ano (er_1.symm.trans (m_fl0 (er_4.symm.trans c_5)).1)).2
      refine r_aaldJ (pc := 28) E hC fj (nn x2) hx_6 hk_6 (by decide) rfl dX5_convergent_28 ?_
      have fL7 := fk (nn x2) hk_6
      have mF_fL7 := hFk (nn x2) hk_6
      have Pq_fL7 := hPk (nn x2) hk_6
      have hZ0_ := hS.1
      have t_fo := fo.lt
      have t_fj := fj.lt
      have t_fk := fun k (hk9 : k < 6) => (fk k hk9).lt
      have t_fe := fe.lt
      have t_fr := fr.lt
      have t_fL7 := fL7.lt
      refine k_r (pc := 29) (k_S E hC hS hA hl.1 (c_X5_termsOf l D tk N0 sa H.size (rt (nn x2)) (tt (nn x2)) (bb (nn x2)) mF_fL7) kw_1411 kw_1412 kw_5 kw_1413 (n := 1) (by decide +kernel) rfl ⟨⟨rfl, rfl⟩, ⟨Nat.le_of_ble_eq_true rfl, Nat.le_of_ble_eq_true rfl⟩, (by dsimp only; omega), (by dsimp only; omega)⟩ rfl (Nat.le_of_ble_eq_true rfl) fL7 dX5_convergent_29) hS (fun q z w => absurd w (Nat.not_le.mpr z)) hn (fun r_8 H locs hR hz hk hS => ?_)
      have fw := fw.new hk
      have fo := fo.kept (hk _ fo.lt (Nat.not_le.mpr fo.lt))
      have fj := fj.kept (hk _ fj.lt (Nat.not_le.mpr fj.lt))
      have fk := fk.new hk
      have fe := fe.kept (hk _ fe.lt (Nat.not_le.mpr fe.lt))
      have fr := fr.kept (hk _ fr.lt (Nat.not_le.mpr fr.lt))
      have fL7 := fL7.kept (hk _ fL7.lt (Nat.not_le.mpr fL7.lt))
      obtain ⟨nl9, bb9, cap9, ff9, ww9, md9, zr9_, zb9_, fl9, fR9, el9, hPT9, hln9, hlm9, hlc9, hlp9, ⟨hTL9, hTA9⟩, gg9, hEU9⟩ := hR
      have hcb9 := m_acB hlp9
      have s_fl9 : s.heap.size ≤ r_8 := Nat.le_trans hZ0_ zr9_
      have g_fl9 := hn _ s_fl9
      have l_fo_fl9 : mo < r_8 := Nat.lt_of_lt_of_le t_fo zr9_
      have l_fj_fl9 : ra < r_8 := Nat.lt_of_lt_of_le t_fj zr9_
      have nW_fl9 : ∀ k, k < 6 → rt k ≠ r_8 := fun k hk9 => Nat.ne_of_lt (Nat.lt_of_lt_of_le (t_fk k hk9) zr9_)
      have l_fe_fl9 : ex < r_8 := Nat.lt_of_lt_of_le t_fe zr9_
      have l_fr_fl9 : ro < r_8 := Nat.lt_of_lt_of_le t_fr zr9_
      have l_fL7_fl9 : rt (nn x2) < r_8 := Nat.lt_of_lt_of_le t_fL7 zr9_
      have s_fR9 : s.heap.size ≤ bb9 := Nat.le_trans hZ0_ zb9_
      have g_fR9 := hn _ s_fR9
      have l_fo_fR9 : mo < bb9 := Nat.lt_of_lt_of_le t_fo zb9_
      have l_fj_fR9 : ra < bb9 := Nat.lt_of_lt_of_le t_fj zb9_
      have nW_fR9 : ∀ k, k < 6 → rt k ≠ bb9 := fun k hk9 => Nat.ne_of_lt (Nat.lt_of_lt_of_le (t_fk k hk9) zb9_)
      have l_fe_fR9 : ex < bb9 := Nat.lt_of_lt_of_le t_fe zb9_
      have l_fr_fR9 : ro < bb9 := Nat.lt_of_lt_of_le t_fr zb9_
      have l_fL7_fR9 : rt (nn x2) < bb9 := Nat.lt_of_lt_of_le t_fL7 zb9_
      refine lv_astore (pc := 32) (lv' := [(4, .ref r_8), (0, .ref mo), (1, .int x1), (2, .int x2), (3, .int x3)]) hx hb dX5_convergent_32 hl (by decide) rfl (fun ls hl => ?_)
      refine lv_aload_n (pc := 34) hx hb dX5_convergent_34 rfl (lv_at hl 1 rfl) ?_
      refine lv_iload_n (pc := 35) hx hb dX5_convergent_35 rfl (lv_at hl 2 rfl) ?_
      refine lv_iload_n (pc := 36) hx hb dX5_convergent_36 rfl (lv_at hl 4 rfl) ?_
      refine lv_aload (pc := 37) hx hb dX5_convergent_37 (lv_at hl 0 rfl) ?_
      refine k_i (pc := 39) (k_V E hC hS hA hl.1 (c1.recv hC fl9 rfl) rfl (c_Jx4a65c_size_8abf5 l D tk N0 sa H.size r_8 bb9 nl9 md9) kw_1546 kw_1547 kw_1548 kw_8 kw_1549 (n := 0) (by decide +kernel) rfl ⟨⟨rfl, rfl⟩, ⟨Nat.le_of_ble_eq_true rfl, Nat.le_of_ble_eq_true rfl⟩, (by dsimp only; omega), (by dsimp only; omega)⟩ rfl (Nat.le_of_ble_eq_true rfl) fl9 dX5_convergent_39) hS (fun q z w => absurd w (Nat.not_le.mpr z)) hn (fun r_10 H locs hR hz hk hS => ?_)
      have fw := fw.new hk
      have fo := fo.kept (hk _ fo.lt (Nat.not_le.mpr fo.lt))
      have fj := fj.kept (hk _ fj.lt (Nat.not_le.mpr fj.lt))
      have fk := fk.new hk
      have fe := fe.kept (hk _ fe.lt (Nat.not_le.mpr fe.lt))
      have fr := fr.kept (hk _ fr.lt (Nat.not_le.mpr fr.lt))
      have fL7 := fL7.kept (hk _ fL7.lt (Nat.not_le.mpr fL7.lt))
      have fR9 := fR9.kept (hk _ fR9.lt (Nat.not_le.mpr fR9.lt))
      have fl9 := fl9.kept (hk _ fl9.lt (Nat.not_le.mpr fl9.lt))
      have el9 := el9.new hk
      rw [show r_10 = nI nl9 from hR]
      refine lv_icmp_ge (pc := 42) (tgt := 56) hx hb dX5_convergent_42 (by decide) (fun c_11 => ?_) (fun c_11 => ?_)
      · refine lv_null (pc := 56) hx hb dX5_convergent_56 ?_
        have hZ0_ := hS.1
        have t_fo := fo.lt
        have t_fj := fj.lt
        have t_fk := fun k (hk9 : k < 6) => (fk k hk9).lt
        have t_fe := fe.lt
        have t_fr := fr.lt
        have t_fL7 := fL7.lt
        have t_fR9 := fR9.lt
        have t_fl9 := fl9.lt
        obtain ⟨hx_12, hk_12⟩ := m_noN (m_ano (er_1.symm.trans (m_fl0 (er_4.symm.trans c_5)).1)).1
        refine k_i (pc := 57) (k_V E hC hS hA hl.1 (c1.recv hC fo rfl) rfl (c_X5_become_N l D tk N0 sa H.size P hPN (fun q h9 => hPs q (Nat.le_trans hS.1 h9)) mo n9 kn ((m_th r_1 0)) tt bb eT eB oT oB pk ca rf vs x1 (nn x1) hx_12 hk_12 ) kw_1255 kw_1257 kp_21 kw_5 kw_1258 (n := 2) (by decide +kernel) rfl ⟨⟨rfl, rfl⟩, ⟨Nat.le_of_ble_eq_true rfl, Nat.le_of_ble_eq_true rfl⟩, (by dsimp only; omega), (by dsimp only; omega)⟩ rfl (Nat.le_of_ble_eq_true rfl) ⟨_, _, _, _, _, fo, fj, fk, fe, fr, fw, ⟨hPm, hPa, hPl, hPe, hPr, hPk⟩, hFk, hFe, hFr, hpk, hn9⟩ dX5_convergent_57) hS (fun q _ h => h) hn (fun r_13 H locs hR hz hk hS => ?_)
        obtain ⟨tt_14, bb_14, rf_14, hM, hBE_14⟩ := hR
        obtain ⟨ra, rl, ex, ro, rt, fo, fj, fk, fe, fr, fw, ⟨hPm, hPa, hPl, hPe, hPr, hPk⟩, hFk, hFe, hFr, hpk, hn9⟩ := hM
        have g_fo := hPm
        have g_fj := hPa
        refine r_iret (pc := 60) E hr hlk hS (by omega) (by omega) ?_ dX5_convergent_60
        exact ⟨_, _, _, _, ⟨_, _, _, _, _, fo, fj, fk, fe, fr, fw, ⟨hPm, hPa, hPl, hPe, hPr, hPk⟩, hFk, hFe, hFr, hpk, hn9⟩, AC.ok (by subst er_1 er_4; first | rfl | (simp [m_or, m_not, m_is0, m_lt0, m_fl, c_3, Int32.not_lt.mpr c_3, c_5, c_11, Int32.not_lt.mpr c_11]; done)) (by subst er_1 er_4; first | rfl | (simp [m_or, m_not, m_is0, m_lt0, m_fl, c_3, Int32.not_lt.mpr c_3, c_5, c_11, Int32.not_lt.mpr c_11]; done)) (er_4.symm.trans c_5) (hBE_14.cast (by unfold m_CV; rw [← hTL9, if_pos c_11]))⟩
      · refine lv_aload (pc := 45) hx hb dX5_convergent_45 (lv_at hl 0 rfl) ?_
        refine lv_iload_n (pc := 47) hx hb dX5_convergent_47 rfl (lv_at hl 4 rfl) ?_
        refine lv_iconst (pc := 48) (v := 1) hx hb dX5_convergent_48 (by decide) ?_
        refine lv_iadd (pc := 49) hx hb dX5_convergent_49 ?_
        obtain ⟨j9, hj1, hj2⟩ := m_ix c_3 c_11 (by omega)
        have hZ0_ := hS.1
        have t_fo := fo.lt
        have t_fj := fj.lt
        have t_fk := fun k (hk9 : k < 6) => (fk k hk9).lt
        have t_fe := fe.lt
        have t_fr := fr.lt
        have t_fL7 := fL7.lt
        have t_fR9 := fR9.lt
        have t_fl9 := fl9.lt
        refine k_o (pc := 50) (k_S E hC hS hA hl.1 (c_X5_folded l D tk N0 sa H.size r_8 bb9 nl9 cap9 md9 (x3 + 1) ff9 ww9 ((j9 + 1)) _ (by omega) (by omega) (by rw [hj1]; exact nI_1 j9) (by omega) (by omega) hPT9.pf hTA9) kw_1566 kw_1567 kw_5 kw_1568 (n := 2) (by decide +kernel) rfl ⟨⟨rfl, rfl⟩, ⟨Nat.le_of_ble_eq_true rfl, Nat.le_of_ble_eq_true rfl⟩, (by dsimp only; omega), (by dsimp only; omega)⟩ rfl (Nat.le_of_ble_eq_true rfl) ⟨fl9, fR9, el9⟩ dX5_convergent_50) hS (fun q z w => absurd w (Nat.not_le.mpr z)) hn (fun r_15 H locs hR hz hk hS => ?_)
        have fw := fw.new hk
        have fo := fo.kept (hk _ fo.lt (Nat.not_le.mpr fo.lt))
        have fj := fj.kept (hk _ fj.lt (Nat.not_le.mpr fj.lt))
        have fk := fk.new hk
        have fe := fe.kept (hk _ fe.lt (Nat.not_le.mpr fe.lt))
        have fr := fr.kept (hk _ fr.lt (Nat.not_le.mpr fr.lt))
        have fL7 := fL7.kept (hk _ fL7.lt (Nat.not_le.mpr fL7.lt))
        have fR9 := fR9.kept (hk _ fR9.lt (Nat.not_le.mpr fR9.lt))
        have fl9 := fl9.kept (hk _ fl9.lt (Nat.not_le.mpr fl9.lt))
        have el9 := el9.new hk
        rcases hR with ⟨rfl, hv_f16⟩ | ⟨q_f16, tt_f16, bb_f16, rfl, z9_, f16, hb_f16, hv_f16⟩
        · refine lv_goto (pc := 53) (tgt := 57) hx hb dX5_convergent_53 (by decide) ?_
          have hZ0_ := hS.1
          have t_fo := fo.lt
          have t_fj := fj.lt
          have t_fk := fun k (hk9 : k < 6) => (fk k hk9).lt
          have t_fe := fe.lt
          have t_fr := fr.lt
          have t_fL7 := fL7.lt
          have t_fR9 := fR9.lt
          have t_fl9 := fl9.lt
          obtain ⟨hx_17, hk_17⟩ := m_noN (m_ano (er_1.symm.trans (m_fl0 (er_4.symm.trans c_5)).1)).1
          refine k_i (pc := 57) (k_V E hC hS hA hl.1 (c1.recv hC fo rfl) rfl (c_X5_become_N l D tk N0 sa H.size P hPN (fun q h9 => hPs q (Nat.le_trans hS.1 h9)) mo n9 kn ((m_th r_1 0)) tt bb eT eB oT oB pk ca rf vs x1 (nn x1) hx_17 hk_17 ) kw_1255 kw_1257 kp_21 kw_5 kw_1258 (n := 2) (by decide +kernel) rfl ⟨⟨rfl, rfl⟩, ⟨Nat.le_of_ble_eq_true rfl, Nat.le_of_ble_eq_true rfl⟩, (by dsimp only; omega), (by dsimp only; omega)⟩ rfl (Nat.le_of_ble_eq_true rfl) ⟨_, _, _, _, _, fo, fj, fk, fe, fr, fw, ⟨hPm, hPa, hPl, hPe, hPr, hPk⟩, hFk, hFe, hFr, hpk, hn9⟩ dX5_convergent_57) hS (fun q _ h => h) hn (fun r_18 H locs hR hz hk hS => ?_)
          obtain ⟨tt_19, bb_19, rf_19, hM, hBE_19⟩ := hR
          obtain ⟨ra, rl, ex, ro, rt, fo, fj, fk, fe, fr, fw, ⟨hPm, hPa, hPl, hPe, hPr, hPk⟩, hFk, hFe, hFr, hpk, hn9⟩ := hM
          have g_fo := hPm
          have g_fj := hPa
          refine r_iret (pc := 60) E hr hlk hS (by omega) (by omega) ?_ dX5_convergent_60
          exact ⟨_, _, _, _, ⟨_, _, _, _, _, fo, fj, fk, fe, fr, fw, ⟨hPm, hPa, hPl, hPe, hPr, hPk⟩, hFk, hFe, hFr, hpk, hn9⟩, AC.ok (by subst er_1 er_4; first | rfl | (simp [m_or, m_not, m_is0, m_lt0, m_fl, c_3, Int32.not_lt.mpr c_3, c_5, c_11, Int32.not_le.mp c_11]; done)) (by subst er_1 er_4; first | rfl | (simp [m_or, m_not, m_is0, m_lt0, m_fl, c_3, Int32.not_lt.mpr c_3, c_5, c_11, Int32.not_le.mp c_11]; done)) (er_4.symm.trans c_5) (hBE_19.cast (by unfold m_CV; rw [← hTL9, if_neg c_11, show nn x3 = j9 from by rw [hj1]; exact nI_clamp (by omega)]; exact hv_f16.symm))⟩
        · have s_f16 : s.heap.size ≤ q_f16 := Nat.le_trans hZ0_ z9_
          have g_f16 := hn _ s_f16
          have l_fo_f16 : mo < q_f16 := Nat.lt_of_lt_of_le t_fo z9_
          have l_fj_f16 : ra < q_f16 := Nat.lt_of_lt_of_le t_fj z9_
          have nW_f16 : ∀ k, k < 6 → rt k ≠ q_f16 := fun k hk9 => Nat.ne_of_lt (Nat.lt_of_lt_of_le (t_fk k hk9) z9_)
          have l_fe_f16 : ex < q_f16 := Nat.lt_of_lt_of_le t_fe z9_
          have l_fr_f16 : ro < q_f16 := Nat.lt_of_lt_of_le t_fr z9_
          have l_fL7_f16 : rt (nn x2) < q_f16 := Nat.lt_of_lt_of_le t_fL7 z9_
          have l_fR9_f16 : bb9 < q_f16 := Nat.lt_of_lt_of_le t_fR9 z9_
          have l_fl9_f16 : r_8 < q_f16 := Nat.lt_of_lt_of_le t_fl9 z9_
          refine lv_goto (pc := 53) (tgt := 57) hx hb dX5_convergent_53 (by decide) ?_
          have hZ0_ := hS.1
          have t_fo := fo.lt
          have t_fj := fj.lt
          have t_fk := fun k (hk9 : k < 6) => (fk k hk9).lt
          have t_fe := fe.lt
          have t_fr := fr.lt
          have t_fL7 := fL7.lt
          have t_fR9 := fR9.lt
          have t_fl9 := fl9.lt
          have t_f16 := f16.lt
          obtain ⟨hx_20, hk_20⟩ := m_noN (m_ano (er_1.symm.trans (m_fl0 (er_4.symm.trans c_5)).1)).1
          refine k_i (pc := 57) (k_V E hC hS hA hl.1 (c1.recv hC fo rfl) rfl (c_X5_become l D tk N0 sa H.size P hPN (fun q h9 => hPs q (Nat.le_trans hS.1 h9)) mo n9 kn ((m_th r_1 0)) tt bb eT eB oT oB pk ca rf vs x1 (nn x1) hx_20 hk_20 q_f16 tt_f16 bb_f16 (hPs _ s_f16) hb_f16) kw_1255 kw_1257 kp_21 kw_5 kw_1258 (n := 2) (by decide +kernel) rfl ⟨⟨rfl, rfl⟩, ⟨Nat.le_of_ble_eq_true rfl, Nat.le_of_ble_eq_true rfl⟩, (by dsimp only; omega), (by dsimp only; omega)⟩ rfl (Nat.le_of_ble_eq_true rfl) ⟨⟨_, _, _, _, _, fo, fj, fk, fe, fr, fw, ⟨hPm, hPa, hPl, hPe, hPr, hPk⟩, hFk, hFe, hFr, hpk, hn9⟩, f16⟩ dX5_convergent_57) hS (fun q _ h => h) hn (fun r_21 H locs hR hz hk hS => ?_)
          obtain ⟨tt_22, bb_22, rf_22, hM, hBE_22⟩ := hR
          obtain ⟨ra, rl, ex, ro, rt, fo, fj, fk, fe, fr, fw, ⟨hPm, hPa, hPl, hPe, hPr, hPk⟩, hFk, hFe, hFr, hpk, hn9⟩ := hM
          have g_fo := hPm
          have g_fj := hPa
          refine r_iret (pc := 60) E hr hlk hS (by omega) (by omega) ?_ dX5_convergent_60
          exact ⟨_, _, _, _, ⟨_, _, _, _, _, fo, fj, fk, fe, fr, fw, ⟨hPm, hPa, hPl, hPe, hPr, hPk⟩, hFk, hFe, hFr, hpk, hn9⟩, AC.ok (by subst er_1 er_4; first | rfl | (simp [m_or, m_not, m_is0, m_lt0, m_fl, c_3, Int32.not_lt.mpr c_3, c_5, c_11, Int32.not_le.mp c_11]; done)) (by subst er_1 er_4; first | rfl | (simp [m_or, m_not, m_is0, m_lt0, m_fl, c_3, Int32.not_lt.mpr c_3, c_5, c_11, Int32.not_le.mp c_11]; done)) (er_4.symm.trans c_5) (hBE_22.cast (by unfold m_CV; rw [← hTL9, if_neg c_11, show nn x3 = j9 from by rw [hj1]; exact nI_clamp (by omega)]; exact hv_f16.symm))⟩
    · refine lv_iconst (pc := 21) (v := 0) hx hb dX5_convergent_21 (by decide) ?_
      refine r_iret (pc := 22) E hr hlk hS (by omega) (by omega) ?_ dX5_convergent_22
      exact ⟨_, _, _, _, ⟨_, _, _, _, _, fo, fj, fk, fe, fr, fw, ⟨hPm, hPa, hPl, hPe, hPr, hPk⟩, hFk, hFe, hFr, hpk, hn9⟩, AC.fail (by subst er_1 er_4; first | rfl | (simp [m_or, m_not, m_is0, m_lt0, m_fl, c_3, Int32.not_lt.mpr c_3, c_5]; done)) (by subst er_1 er_4; first | rfl | (simp [m_or, m_not, m_is0, m_lt0, m_fl, c_3, Int32.not_lt.mpr c_3, c_5]; done)) (fun z9 => c_5 (er_4.trans z9))⟩
  · refine lv_iconst (pc := 10) (v := 1) hx hb dX5_convergent_10 (by decide) ?_
    refine lv_goto (pc := 11) (tgt := 15) hx hb dX5_convergent_11 (by decide) ?_
    have hZ0_ := hS.1
    have t_fo := fo.lt
    have t_fj := fj.lt
    have t_fk := fun k (hk9 : k < 6) => (fk k hk9).lt
    have t_fe := fe.lt
    have t_fr := fr.lt
    refine k_i (pc := 15) (k_V E hC hS hA hl.1 (c1.recv hC fo rfl) rfl (c_X5_fails l D tk N0 sa H.size P hPN (fun q h9 => hPs q (Nat.le_trans hS.1 h9)) mo n9 kn th tt bb eT eB oT oB pk ca rf vs r_1 1 ) kw_1251 kw_1253 kp_20 kw_5 kw_1254 (n := 2) (by decide +kernel) rfl ⟨⟨rfl, rfl⟩, ⟨Nat.le_of_ble_eq_true rfl, Nat.le_of_ble_eq_true rfl⟩, (by dsimp only; omega), (by dsimp only; omega)⟩ rfl (Nat.le_of_ble_eq_true rfl) ⟨_, _, _, _, _, fo, fj, fk, fe, fr, fw, ⟨hPm, hPa, hPl, hPe, hPr, hPk⟩, hFk, hFe, hFr, hpk, hn9⟩ dX5_convergent_15) hS (fun q _ h => h) hn (fun r_23 H locs hR hz hk hS => ?_)
    obtain ⟨er_23, hM⟩ := hR
    obtain ⟨ra, rl, ex, ro, rt, fo, fj, fk, fe, fr, fw, ⟨hPm, hPa, hPl, hPe, hPr, hPk⟩, hFk, hFe, hFr, hpk, hn9⟩ := hM
    have g_fo := hPm
    have g_fj := hPa
    have ef_r_23 : r_23 = 1 := er_23.trans (m_fl1 _)
    rw [ef_r_23]
    refine lv_if_eq (pc := 18) (tgt := 23) hx hb dX5_convergent_18 (by decide) (fun c_24 => ?_) (fun c_24 => ?_)
    · exact absurd c_24 (by decide)
    refine lv_iconst (pc := 21) (v := 0) hx hb dX5_convergent_21 (by decide) ?_
    refine r_iret (pc := 22) E hr hlk hS (by omega) (by omega) ?_ dX5_convergent_22
    exact ⟨_, _, _, _, ⟨_, _, _, _, _, fo, fj, fk, fe, fr, fw, ⟨hPm, hPa, hPl, hPe, hPr, hPk⟩, hFk, hFe, hFr, hpk, hn9⟩, AC.fail (by subst er_1; first | rfl | (simp [m_or, m_not, m_is0, m_lt0, m_fl, c_3, Int32.not_le.mp c_3]; done)) (by subst er_1; first | rfl | (simp [m_or, m_not, m_is0, m_lt0, m_fl, c_3, Int32.not_le.mp c_3]; done)) (fun z9 => absurd (ef_r_23.symm.trans (er_23.trans z9)) (by decide))⟩
set_option maxHeartbeats 4000000 in
set_option maxRecDepth 100000 in
/-- BestratiosModel.lower(III)I -/
theorem c_X5_lower (l : Launch) (D : va_G) (tk : Nat → ClassId) (N0 : Nat) (sa : Nat → Nat)  (sz : Nat) (P : Nat → Prop) (hPN : ∀ q, P q → N0 ≤ q) (hPs : ∀ q, sz ≤ q → P q) (mo n9 : Nat) (kn th : Int32) (tt bb : Nat → Int64) (eT eB oT oB : Int64) (pk : Nat) (ca rf : Int32) (vs : Nat → Value) (x1 : Int32) (x2 : Int32) (x3 : Int32) : Met l yX5_lower (wsy yX5_lower cX5_lower 4 (some .int)) ({ frames := 4, cells := 200, slots := 400, locals := 104 } : Room) (cP D tk N0 sa [.ref mo, .int x1, .int x2, .int x3] sz (fun H => MI D tk sa P mo tt bb eT eB oT oB pk ca rf vs kn n9 th H)) (kQi (fun r H => ∃ th1 tt1 bb1 rf1, MI D tk sa P mo tt1 bb1 eT eB oT oB pk ca rf1 vs kn n9 th1 H ∧ AC (m_areNo x1 x2) (m_not (m_isIn x3 1 200)) tt bb rf (nn x1) (some (m_NB (tt (nn x2)) (bb (nn x2)) (nn x3) 0)) r th1 tt1 bb1 rf1) (P)) (200) (400) (P) := by
  refine mStart RX5 rfl (by decide +kernel) (Nat.le_of_ble_eq_true rfl) ?_
  intro p e s m args below meth c E hr hlk hnm hsz hC hF ls hl
  subst hsz
  obtain ⟨hx, hb, -⟩ := id E
  have hA : ∀ q, (P) q → N0 ≤ q := hPN
  have hn : ∀ q, s.heap.size ≤ q → (P) q := hPs
  have hS : va_S (P) s.heap s.heap [] := va_S.rf
  have hl : lv_has ls 4 [(0, .ref mo), (1, .int x1), (2, .int x2), (3, .int x3)] := hl
  have hM : MI D tk sa P mo tt bb eT eB oT oB pk ca rf vs kn n9 th s.heap := hF
  obtain ⟨ra, rl, ex, ro, rt, fo, fj, fk, fe, fr, fw, ⟨hPm, hPa, hPl, hPe, hPr, hPk⟩, hFk, hFe, hFr, hpk, hn9⟩ := hM
  have g_fo := hPm
  have g_fj := hPa
  refine lv_aload_n (pc := 0) hx hb dX5_lower_0 rfl (lv_at hl 0 rfl) ?_
  refine lv_iload_n (pc := 1) hx hb dX5_lower_1 rfl (lv_at hl 1 rfl) ?_
  refine lv_iload_n (pc := 2) hx hb dX5_lower_2 rfl (lv_at hl 2 rfl) ?_
  refine k_i (pc := 3) (k_S E hC hS hA hl.1 (c_X5_areNo l D tk N0 sa s.heap.size x1 x2 ) kw_1286 kw_1287 kw_5 kw_1288 (n := 2) (by decide +kernel) rfl ⟨⟨rfl, rfl⟩, ⟨Nat.le_of_ble_eq_true rfl, Nat.le_of_ble_eq_true rfl⟩, (by dsimp only; omega), (by dsimp only; omega)⟩ rfl (Nat.le_of_ble_eq_true rfl) trivial dX5_lower_3) hS (fun q z w => absurd w (Nat.not_le.mpr z)) hn (fun r_1 H locs hR hz hk hS => ?_)
  have er_1 := hR
  have fw := fw.new hk
  have fo := fo.kept (hk _ fo.lt (Nat.not_le.mpr fo.lt))
  have fj := fj.kept (hk _ fj.lt (Nat.not_le.mpr fj.lt))
  have fk := fk.new hk
  have fe := fe.kept (hk _ fe.lt (Nat.not_le.mpr fe.lt))
  have fr := fr.kept (hk _ fr.lt (Nat.not_le.mpr fr.lt))
  refine lv_iload_n (pc := 6) hx hb dX5_lower_6 rfl (lv_at hl 3 rfl) ?_
  refine lv_iconst (pc := 7) (v := 1) hx hb dX5_lower_7 (by decide) ?_
  refine lv_sipush (pc := 8) (v := 200) hx hb dX5_lower_8 (by decide) ?_
  refine k_i (pc := 11) (k_S E hC hS hA hl.1 (c_X5_isIn l D tk N0 sa H.size x3 1 200 ) kw_1248 kw_1249 kw_5 kw_1250 (n := 3) (by decide +kernel) rfl ⟨⟨rfl, rfl⟩, ⟨Nat.le_of_ble_eq_true rfl, Nat.le_of_ble_eq_true rfl⟩, (by dsimp only; omega), (by dsimp only; omega)⟩ rfl (Nat.le_of_ble_eq_true rfl) trivial dX5_lower_11) hS (fun q z w => absurd w (Nat.not_le.mpr z)) hn (fun r_3 H locs hR hz hk hS => ?_)
  have er_3 := hR
  have fw := fw.new hk
  have fo := fo.kept (hk _ fo.lt (Nat.not_le.mpr fo.lt))
  have fj := fj.kept (hk _ fj.lt (Nat.not_le.mpr fj.lt))
  have fk := fk.new hk
  have fe := fe.kept (hk _ fe.lt (Nat.not_le.mpr fe.lt))
  have fr := fr.kept (hk _ fr.lt (Nat.not_le.mpr fr.lt))
  refine lv_if_ne (pc := 14) (tgt := 21) hx hb dX5_lower_14 (by decide) (fun c_5 => ?_) (fun c_5 => ?_)
  · refine lv_iconst (pc := 21) (v := 0) hx hb dX5_lower_21 (by decide) ?_
    have hZ0_ := hS.1
    have t_fo := fo.lt
    have t_fj := fj.lt
    have t_fk := fun k (hk9 : k < 6) => (fk k hk9).lt
    have t_fe := fe.lt
    have t_fr := fr.lt
    refine k_i (pc := 22) (k_V E hC hS hA hl.1 (c1.recv hC fo rfl) rfl (c_X5_fails l D tk N0 sa H.size P hPN (fun q h9 => hPs q (Nat.le_trans hS.1 h9)) mo n9 kn th tt bb eT eB oT oB pk ca rf vs r_1 0 ) kw_1251 kw_1253 kp_20 kw_5 kw_1254 (n := 2) (by decide +kernel) rfl ⟨⟨rfl, rfl⟩, ⟨Nat.le_of_ble_eq_true rfl, Nat.le_of_ble_eq_true rfl⟩, (by dsimp only; omega), (by dsimp only; omega)⟩ rfl (Nat.le_of_ble_eq_true rfl) ⟨_, _, _, _, _, fo, fj, fk, fe, fr, fw, ⟨hPm, hPa, hPl, hPe, hPr, hPk⟩, hFk, hFe, hFr, hpk, hn9⟩ dX5_lower_22) hS (fun q _ h => h) hn (fun r_6 H locs hR hz hk hS => ?_)
    obtain ⟨er_6, hM⟩ := hR
    obtain ⟨ra, rl, ex, ro, rt, fo, fj, fk, fe, fr, fw, ⟨hPm, hPa, hPl, hPe, hPr, hPk⟩, hFk, hFe, hFr, hpk, hn9⟩ := hM
    have g_fo := hPm
    have g_fj := hPa
    refine lv_if_eq (pc := 25) (tgt := 32) hx hb dX5_lower_25 (by decide) (fun c_7 => ?_) (fun c_7 => ?_)
    · refine lv_aload_n (pc := 32) hx hb dX5_lower_32 rfl (lv_at hl 0 rfl) ?_
      refine lv_iload_n (pc := 33) hx hb dX5_lower_33 rfl (lv_at hl 1 rfl) ?_
      refine lv_aload_n (pc := 34) hx hb dX5_lower_34 rfl (lv_at hl 0 rfl) ?_
      refine r_get (pc := 35) E hC fo 0 (v := .ref ra) rfl rfl (by decide) uX5 (List.mem_cons_of_mem _ kw_1209) (fun _ h => h) dX5_lower_35 ?_
      refine lv_iload_n (pc := 38) hx hb dX5_lower_38 rfl (lv_at hl 2 rfl) ?_
      obtain ⟨hx_8, hk_8⟩ := m_noN (m_ano (er_1.symm.trans (m_fl0 (er_6.symm.trans c_7)).1)).2
      refine r_aaldJ (pc := 39) E hC fj (nn x2) hx_8 hk_8 (by decide) rfl dX5_lower_39 ?_
      have fL9 := fk (nn x2) hk_8
      have mF_fL9 := hFk (nn x2) hk_8
      have Pq_fL9 := hPk (nn x2) hk_8
      refine lv_iload_n (pc := 40) hx hb dX5_lower_40 rfl (lv_at hl 3 rfl) ?_
      refine lv_iconst (pc := 41) (v := 0) hx hb dX5_lower_41 (by decide) ?_
      obtain ⟨kn_, hkn1, hkn2, hkn3⟩ := m_in1 (x := x3) (hi_ := 200) (by decide) (fun z9 => c_5 (er_3.trans z9))
      have hZ0_ := hS.1
      have t_fo := fo.lt
      have t_fj := fj.lt
      have t_fk := fun k (hk9 : k < 6) => (fk k hk9).lt
      have t_fe := fe.lt
      have t_fr := fr.lt
      have t_fL9 := fL9.lt
      refine k_r (pc := 42) (k_S E hC hS hA hl.1 (c_X5_neighbour l D tk N0 sa H.size (rt (nn x2)) (tt (nn x2)) (bb (nn x2)) x3 0 kn_ mF_fL9 hkn1 hkn2 hkn3) kw_1627 kw_1628 kw_5 kw_1629 (n := 3) (by decide +kernel) rfl ⟨⟨rfl, rfl⟩, ⟨Nat.le_of_ble_eq_true rfl, Nat.le_of_ble_eq_true rfl⟩, (by dsimp only; omega), (by dsimp only; omega)⟩ rfl (Nat.le_of_ble_eq_true rfl) fL9 dX5_lower_42) hS (fun q z w => absurd w (Nat.not_le.mpr z)) hn (fun r_10 H locs hR hz hk hS => ?_)
      have fw := fw.new hk
      have fo := fo.kept (hk _ fo.lt (Nat.not_le.mpr fo.lt))
      have fj := fj.kept (hk _ fj.lt (Nat.not_le.mpr fj.lt))
      have fk := fk.new hk
      have fe := fe.kept (hk _ fe.lt (Nat.not_le.mpr fe.lt))
      have fr := fr.kept (hk _ fr.lt (Nat.not_le.mpr fr.lt))
      have fL9 := fL9.kept (hk _ fL9.lt (Nat.not_le.mpr fL9.lt))
      obtain ⟨z9_, tt_f11, bb_f11, f11, hb_f11, hv_f11⟩ := hR
      have s_f11 : s.heap.size ≤ r_10 := Nat.le_trans hZ0_ z9_
      have g_f11 := hn _ s_f11
      have l_fo_f11 : mo < r_10 := Nat.lt_of_lt_of_le t_fo z9_
      have l_fj_f11 : ra < r_10 := Nat.lt_of_lt_of_le t_fj z9_
      have nW_f11 : ∀ k, k < 6 → rt k ≠ r_10 := fun k hk9 => Nat.ne_of_lt (Nat.lt_of_lt_of_le (t_fk k hk9) z9_)
      have l_fe_f11 : ex < r_10 := Nat.lt_of_lt_of_le t_fe z9_
      have l_fr_f11 : ro < r_10 := Nat.lt_of_lt_of_le t_fr z9_
      have l_fL9_f11 : rt (nn x2) < r_10 := Nat.lt_of_lt_of_le t_fL9 z9_
      have hZ0_ := hS.1
      have t_fo := fo.lt
      have t_fj := fj.lt
      have t_fk := fun k (hk9 : k < 6) => (fk k hk9).lt
      have t_fe := fe.lt
      have t_fr := fr.lt
      have t_fL9 := fL9.lt
      have t_f11 := f11.lt
      obtain ⟨hx_12, hk_12⟩ := m_noN (m_ano (er_1.symm.trans (m_fl0 (er_6.symm.trans c_7)).1)).1
      refine k_i (pc := 45) (k_V E hC hS hA hl.1 (c1.recv hC fo rfl) rfl (c_X5_become l D tk N0 sa H.size P hPN (fun q h9 => hPs q (Nat.le_trans hS.1 h9)) mo n9 kn ((m_th r_1 0)) tt bb eT eB oT oB pk ca rf vs x1 (nn x1) hx_12 hk_12 r_10 tt_f11 bb_f11 (hPs _ s_f11) hb_f11.1) kw_1255 kw_1257 kp_21 kw_5 kw_1258 (n := 2) (by decide +kernel) rfl ⟨⟨rfl, rfl⟩, ⟨Nat.le_of_ble_eq_true rfl, Nat.le_of_ble_eq_true rfl⟩, (by dsimp only; omega), (by dsimp only; omega)⟩ rfl (Nat.le_of_ble_eq_true rfl) ⟨⟨_, _, _, _, _, fo, fj, fk, fe, fr, fw, ⟨hPm, hPa, hPl, hPe, hPr, hPk⟩, hFk, hFe, hFr, hpk, hn9⟩, f11⟩ dX5_lower_45) hS (fun q _ h => h) hn (fun r_13 H locs hR hz hk hS => ?_)
      obtain ⟨tt_14, bb_14, rf_14, hM, hBE_14⟩ := hR
      obtain ⟨ra, rl, ex, ro, rt, fo, fj, fk, fe, fr, fw, ⟨hPm, hPa, hPl, hPe, hPr, hPk⟩, hFk, hFe, hFr, hpk, hn9⟩ := hM
      have g_fo := hPm
      have g_fj := hPa
      refine r_iret (pc := 48) E hr hlk hS (by omega) (by omega) ?_ dX5_lower_48
      exact ⟨_, _, _, _, ⟨_, _, _, _, _, fo, fj, fk, fe, fr, fw, ⟨hPm, hPa, hPl, hPe, hPr, hPk⟩, hFk, hFe, hFr, hpk, hn9⟩, AC.ok (by subst er_1 er_3 er_6; first | rfl | (simp [m_or, m_not, m_is0, m_lt0, m_fl, c_5, c_7]; done)) (by subst er_1 er_3 er_6; first | rfl | (simp [m_or, m_not, m_is0, m_lt0, m_fl, c_5, c_7]; done)) (er_6.symm.trans c_7) (hBE_14.cast (by rw [hv_f11, show nn x3 = kn_ from by rw [hkn1]; exact nI_clamp (by omega)]))⟩
    · refine lv_iconst (pc := 28) (v := 0) hx hb dX5_lower_28 (by decide) ?_
      refine lv_goto (pc := 29) (tgt := 48) hx hb dX5_lower_29 (by decide) ?_
      refine r_iret (pc := 48) E hr hlk hS (by omega) (by omega) ?_ dX5_lower_48
      exact ⟨_, _, _, _, ⟨_, _, _, _, _, fo, fj, fk, fe, fr, fw, ⟨hPm, hPa, hPl, hPe, hPr, hPk⟩, hFk, hFe, hFr, hpk, hn9⟩, AC.fail (by subst er_1 er_3 er_6; first | rfl | (simp [m_or, m_not, m_is0, m_lt0, m_fl, c_5, c_7]; done)) (by subst er_1 er_3 er_6; first | rfl | (simp [m_or, m_not, m_is0, m_lt0, m_fl, c_5, c_7]; done)) (fun z9 => c_7 (er_6.trans z9))⟩
  · refine lv_iconst (pc := 17) (v := 1) hx hb dX5_lower_17 (by decide) ?_
    refine lv_goto (pc := 18) (tgt := 22) hx hb dX5_lower_18 (by decide) ?_
    have hZ0_ := hS.1
    have t_fo := fo.lt
    have t_fj := fj.lt
    have t_fk := fun k (hk9 : k < 6) => (fk k hk9).lt
    have t_fe := fe.lt
    have t_fr := fr.lt
    refine k_i (pc := 22) (k_V E hC hS hA hl.1 (c1.recv hC fo rfl) rfl (c_X5_fails l D tk N0 sa H.size P hPN (fun q h9 => hPs q (Nat.le_trans hS.1 h9)) mo n9 kn th tt bb eT eB oT oB pk ca rf vs r_1 1 ) kw_1251 kw_1253 kp_20 kw_5 kw_1254 (n := 2) (by decide +kernel) rfl ⟨⟨rfl, rfl⟩, ⟨Nat.le_of_ble_eq_true rfl, Nat.le_of_ble_eq_true rfl⟩, (by dsimp only; omega), (by dsimp only; omega)⟩ rfl (Nat.le_of_ble_eq_true rfl) ⟨_, _, _, _, _, fo, fj, fk, fe, fr, fw, ⟨hPm, hPa, hPl, hPe, hPr, hPk⟩, hFk, hFe, hFr, hpk, hn9⟩ dX5_lower_22) hS (fun q _ h => h) hn (fun r_15 H locs hR hz hk hS => ?_)
    obtain ⟨er_15, hM⟩ := hR
    obtain ⟨ra, rl, ex, ro, rt, fo, fj, fk, fe, fr, fw, ⟨hPm, hPa, hPl, hPe, hPr, hPk⟩, hFk, hFe, hFr, hpk, hn9⟩ := hM
    have g_fo := hPm
    have g_fj := hPa
    have ef_r_15 : r_15 = 1 := er_15.trans (m_fl1 _)
    rw [ef_r_15]
    refine lv_if_eq (pc := 25) (tgt := 32) hx hb dX5_lower_25 (by decide) (fun c_16 => ?_) (fun c_16 => ?_)
    · exact absurd c_16 (by decide)
    refine lv_iconst (pc := 28) (v := 0) hx hb dX5_lower_28 (by decide) ?_
    refine lv_goto (pc := 29) (tgt := 48) hx hb dX5_lower_29 (by decide) ?_
    refine r_iret (pc := 48) E hr hlk hS (by omega) (by omega) ?_ dX5_lower_48
    exact ⟨_, _, _, _, ⟨_, _, _, _, _, fo, fj, fk, fe, fr, fw, ⟨hPm, hPa, hPl, hPe, hPr, hPk⟩, hFk, hFe, hFr, hpk, hn9⟩, AC.fail (by subst er_1 er_3; first | rfl | (simp [m_or, m_not, m_is0, m_lt0, m_fl, c_5]; done)) (by subst er_1 er_3; first | rfl | (simp [m_or, m_not, m_is0, m_lt0, m_fl, c_5]; done)) (fun z9 => absurd (ef_r_15.symm.trans (er_15.trans z9)) (by decide))⟩
set_option maxHeartbeats 4000000 in
set_option maxRecDepth 100000 in
/-- BestratiosModel.upper(III)I -/
theorem c_X5_upper (l : Launch) (D : va_G) (tk : Nat → ClassId) (N0 : Nat) (sa : Nat → Nat)  (sz : Nat) (P : Nat → Prop) (hPN : ∀ q, P q → N0 ≤ q) (hPs : ∀ q, sz ≤ q → P q) (mo n9 : Nat) (kn th : Int32) (tt bb : Nat → Int64) (eT eB oT oB : Int64) (pk : Nat) (ca rf : Int32) (vs : Nat → Value) (x1 : Int32) (x2 : Int32) (x3 : Int32) : Met l yX5_upper (wsy yX5_upper cX5_upper 4 (some .int)) ({ frames := 4, cells := 200, slots := 400, locals := 104 } : Room) (cP D tk N0 sa [.ref mo, .int x1, .int x2, .int x3] sz (fun H => MI D tk sa P mo tt bb eT eB oT oB pk ca rf vs kn n9 th H)) (kQi (fun r H => ∃ th1 tt1 bb1 rf1, MI D tk sa P mo tt1 bb1 eT eB oT oB pk ca rf1 vs kn n9 th1 H ∧ AC (m_areNo x1 x2) (m_not (m_isIn x3 1 200)) tt bb rf (nn x1) (some (m_NB (tt (nn x2)) (bb (nn x2)) (nn x3) 1)) r th1 tt1 bb1 rf1) (P)) (200) (400) (P) := by
  refine mStart RX5 rfl (by decide +kernel) (Nat.le_of_ble_eq_true rfl) ?_
  intro p e s m args below meth c E hr hlk hnm hsz hC hF ls hl
  subst hsz
  obtain ⟨hx, hb, -⟩ := id E
  have hA : ∀ q, (P) q → N0 ≤ q := hPN
  have hn : ∀ q, s.heap.size ≤ q → (P) q := hPs
  have hS : va_S (P) s.heap s.heap [] := va_S.rf
  have hl : lv_has ls 4 [(0, .ref mo), (1, .int x1), (2, .int x2), (3, .int x3)] := hl
  have hM : MI D tk sa P mo tt bb eT eB oT oB pk ca rf vs kn n9 th s.heap := hF
  obtain ⟨ra, rl, ex, ro, rt, fo, fj, fk, fe, fr, fw, ⟨hPm, hPa, hPl, hPe, hPr, hPk⟩, hFk, hFe, hFr, hpk, hn9⟩ := hM
  have g_fo := hPm
  have g_fj := hPa
  refine lv_aload_n (pc := 0) hx hb dX5_upper_0 rfl (lv_at hl 0 rfl) ?_
  refine lv_iload_n (pc := 1) hx hb dX5_upper_1 rfl (lv_at hl 1 rfl) ?_
  refine lv_iload_n (pc := 2) hx hb dX5_upper_2 rfl (lv_at hl 2 rfl) ?_
  refine k_i (pc := 3) (k_S E hC hS hA hl.1 (c_X5_areNo l D tk N0 sa s.heap.size x1 x2 ) kw_1286 kw_1287 kw_5 kw_1288 (n := 2) (by decide +kernel) rfl ⟨⟨rfl, rfl⟩, ⟨Nat.le_of_ble_eq_true rfl, Nat.le_of_ble_eq_true rfl⟩, (by dsimp only; omega), (by dsimp only; omega)⟩ rfl (Nat.le_of_ble_eq_true rfl) trivial dX5_upper_3) hS (fun q z w => absurd w (Nat.not_le.mpr z)) hn (fun r_1 H locs hR hz hk hS => ?_)
  have er_1 := hR
  have fw := fw.new hk
  have fo := fo.kept (hk _ fo.lt (Nat.not_le.mpr fo.lt))
  have fj := fj.kept (hk _ fj.lt (Nat.not_le.mpr fj.lt))
  have fk := fk.new hk
  have fe := fe.kept (hk _ fe.lt (Nat.not_le.mpr fe.lt))
  have fr := fr.kept (hk _ fr.lt (Nat.not_le.mpr fr.lt))
  refine lv_iload_n (pc := 6) hx hb dX5_upper_6 rfl (lv_at hl 3 rfl) ?_
  refine lv_iconst (pc := 7) (v := 1) hx hb dX5_upper_7 (by decide) ?_
  refine lv_sipush (pc := 8) (v := 200) hx hb dX5_upper_8 (by decide) ?_
  refine k_i (pc := 11) (k_S E hC hS hA hl.1 (c_X5_isIn l D tk N0 sa H.size x3 1 200 ) kw_1248 kw_1249 kw_5 kw_1250 (n := 3) (by decide +kernel) rfl ⟨⟨rfl, rfl⟩, ⟨Nat.le_of_ble_eq_true rfl, Nat.le_of_ble_eq_true rfl⟩, (by dsimp only; omega), (by dsimp only; omega)⟩ rfl (Nat.le_of_ble_eq_true rfl) trivial dX5_upper_11) hS (fun q z w => absurd w (Nat.not_le.mpr z)) hn (fun r_3 H locs hR hz hk hS => ?_)
  have er_3 := hR
  have fw := fw.new hk
  have fo := fo.kept (hk _ fo.lt (Nat.not_le.mpr fo.lt))
  have fj := fj.kept (hk _ fj.lt (Nat.not_le.mpr fj.lt))
  have fk := fk.new hk
  have fe := fe.kept (hk _ fe.lt (Nat.not_le.mpr fe.lt))
  have fr := fr.kept (hk _ fr.lt (Nat.not_le.mpr fr.lt))
  refine lv_if_ne (pc := 14) (tgt := 21) hx hb dX5_upper_14 (by decide) (fun c_5 => ?_) (fun c_5 => ?_)
  · refine lv_iconst (pc := 21) (v := 0) hx hb dX5_upper_21 (by decide) ?_
    have hZ0_ := hS.1
    have t_fo := fo.lt
    have t_fj := fj.lt
    have t_fk := fun k (hk9 : k < 6) => (fk k hk9).lt
    have t_fe := fe.lt
    have t_fr := fr.lt
    refine k_i (pc := 22) (k_V E hC hS hA hl.1 (c1.recv hC fo rfl) rfl (c_X5_fails l D tk N0 sa H.size P hPN (fun q h9 => hPs q (Nat.le_trans hS.1 h9)) mo n9 kn th tt bb eT eB oT oB pk ca rf vs r_1 0 ) kw_1251 kw_1253 kp_20 kw_5 kw_1254 (n := 2) (by decide +kernel) rfl ⟨⟨rfl, rfl⟩, ⟨Nat.le_of_ble_eq_true rfl, Nat.le_of_ble_eq_true rfl⟩, (by dsimp only; omega), (by dsimp only; omega)⟩ rfl (Nat.le_of_ble_eq_true rfl) ⟨_, _, _, _, _, fo, fj, fk, fe, fr, fw, ⟨hPm, hPa, hPl, hPe, hPr, hPk⟩, hFk, hFe, hFr, hpk, hn9⟩ dX5_upper_22) hS (fun q _ h => h) hn (fun r_6 H locs hR hz hk hS => ?_)
    obtain ⟨er_6, hM⟩ := hR
    obtain ⟨ra, rl, ex, ro, rt, fo, fj, fk, fe, fr, fw, ⟨hPm, hPa, hPl, hPe, hPr, hPk⟩, hFk, hFe, hFr, hpk, hn9⟩ := hM
    have g_fo := hPm
    have g_fj := hPa
    refine lv_if_eq (pc := 25) (tgt := 32) hx hb dX5_upper_25 (by decide) (fun c_7 => ?_) (fun c_7 => ?_)
    · refine lv_aload_n (pc := 32) hx hb dX5_upper_32 rfl (lv_at hl 0 rfl) ?_
      refine lv_iload_n (pc := 33) hx hb dX5_upper_33 rfl (lv_at hl 1 rfl) ?_
      refine lv_aload_n (pc := 34) hx hb dX5_upper_34 rfl (lv_at hl 0 rfl) ?_
      refine r_get (pc := 35) E hC fo 0 (v := .ref ra) rfl rfl (by decide) uX5 (List.mem_cons_of_mem _ kw_1209) (fun _ h => h) dX5_upper_35 ?_
      refine lv_iload_n (pc := 38) hx hb dX5_upper_38 rfl (lv_at hl 2 rfl) ?_
      obtain ⟨hx_8, hk_8⟩ := m_noN (m_ano (er_1.symm.trans (m_fl0 (er_6.symm.trans c_7)).1)).2
      refine r_aaldJ (pc := 39) E hC fj (nn x2) hx_8 hk_8 (by decide) rfl dX5_upper_39 ?_
      have fL9 := fk (nn x2) hk_8
      have mF_fL9 := hFk (nn x2) hk_8
      have Pq_fL9 := hPk (nn x2) hk_8
      refine lv_iload_n (pc := 40) hx hb dX5_upper_40 rfl (lv_at hl 3 rfl) ?_
      refine lv_iconst (pc := 41) (v := 1) hx hb dX5_upper_41 (by decide) ?_
      obtain ⟨kn_, hkn1, hkn2, hkn3⟩ := m_in1 (x := x3) (hi_ := 200) (by decide) (fun z9 => c_5 (er_3.trans z9))
      have hZ0_ := hS.1
      have t_fo := fo.lt
      have t_fj := fj.lt
      have t_fk := fun k (hk9 : k < 6) => (fk k hk9).lt
      have t_fe := fe.lt
      have t_fr := fr.lt
      have t_fL9 := fL9.lt
      refine k_r (pc := 42) (k_S E hC hS hA hl.1 (c_X5_neighbour l D tk N0 sa H.size (rt (nn x2)) (tt (nn x2)) (bb (nn x2)) x3 1 kn_ mF_fL9 hkn1 hkn2 hkn3) kw_1627 kw_1628 kw_5 kw_1629 (n := 3) (by decide +kernel) rfl ⟨⟨rfl, rfl⟩, ⟨Nat.le_of_ble_eq_true rfl, Nat.le_of_ble_eq_true rfl⟩, (by dsimp only; omega), (by dsimp only; omega)⟩ rfl (Nat.le_of_ble_eq_true rfl) fL9 dX5_upper_42) hS (fun q z w => absurd w (Nat.not_le.mpr z)) hn (fun r_10 H locs hR hz hk hS => ?_)
      have fw := fw.new hk
      have fo := fo.kept (hk _ fo.lt (Nat.not_le.mpr fo.lt))
      have fj := fj.kept (hk _ fj.lt (Nat.not_le.mpr fj.lt))
      have fk := fk.new hk
      have fe := fe.kept (hk _ fe.lt (Nat.not_le.mpr fe.lt))
      have fr := fr.kept (hk _ fr.lt (Nat.not_le.mpr fr.lt))
      have fL9 := fL9.kept (hk _ fL9.lt (Nat.not_le.mpr fL9.lt))
      obtain ⟨z9_, tt_f11, bb_f11, f11, hb_f11, hv_f11⟩ := hR
      have s_f11 : s.heap.size ≤ r_10 := Nat.le_trans hZ0_ z9_
      have g_f11 := hn _ s_f11
      have l_fo_f11 : mo < r_10 := Nat.lt_of_lt_of_le t_fo z9_
      have l_fj_f11 : ra < r_10 := Nat.lt_of_lt_of_le t_fj z9_
      have nW_f11 : ∀ k, k < 6 → rt k ≠ r_10 := fun k hk9 => Nat.ne_of_lt (Nat.lt_of_lt_of_le (t_fk k hk9) z9_)
      have l_fe_f11 : ex < r_10 := Nat.lt_of_lt_of_le t_fe z9_
      have l_fr_f11 : ro < r_10 := Nat.lt_of_lt_of_le t_fr z9_
      have l_fL9_f11 : rt (nn x2) < r_10 := Nat.lt_of_lt_of_le t_fL9 z9_
      have hZ0_ := hS.1
      have t_fo := fo.lt
      have t_fj := fj.lt
      have t_fk := fun k (hk9 : k < 6) => (fk k hk9).lt
      have t_fe := fe.lt
      have t_fr := fr.lt
      have t_fL9 := fL9.lt
      have t_f11 := f11.lt
      obtain ⟨hx_12, hk_12⟩ := m_noN (m_ano (er_1.symm.trans (m_fl0 (er_6.symm.trans c_7)).1)).1
      refine k_i (pc := 45) (k_V E hC hS hA hl.1 (c1.recv hC fo rfl) rfl (c_X5_become l D tk N0 sa H.size P hPN (fun q h9 => hPs q (Nat.le_trans hS.1 h9)) mo n9 kn ((m_th r_1 0)) tt bb eT eB oT oB pk ca rf vs x1 (nn x1) hx_12 hk_12 r_10 tt_f11 bb_f11 (hPs _ s_f11) hb_f11.1) kw_1255 kw_1257 kp_21 kw_5 kw_1258 (n := 2) (by decide +kernel) rfl ⟨⟨rfl, rfl⟩, ⟨Nat.le_of_ble_eq_true rfl, Nat.le_of_ble_eq_true rfl⟩, (by dsimp only; omega), (by dsimp only; omega)⟩ rfl (Nat.le_of_ble_eq_true rfl) ⟨⟨_, _, _, _, _, fo, fj, fk, fe, fr, fw, ⟨hPm, hPa, hPl, hPe, hPr, hPk⟩, hFk, hFe, hFr, hpk, hn9⟩, f11⟩ dX5_upper_45) hS (fun q _ h => h) hn (fun r_13 H locs hR hz hk hS => ?_)
      obtain ⟨tt_14, bb_14, rf_14, hM, hBE_14⟩ := hR
      obtain ⟨ra, rl, ex, ro, rt, fo, fj, fk, fe, fr, fw, ⟨hPm, hPa, hPl, hPe, hPr, hPk⟩, hFk, hFe, hFr, hpk, hn9⟩ := hM
      have g_fo := hPm
      have g_fj := hPa
      refine r_iret (pc := 48) E hr hlk hS (by omega) (by omega) ?_ dX5_upper_48
      exact ⟨_, _, _, _, ⟨_, _, _, _, _, fo, fj, fk, fe, fr, fw, ⟨hPm, hPa, hPl, hPe, hPr, hPk⟩, hFk, hFe, hFr, hpk, hn9⟩, AC.ok (by subst er_1 er_3 er_6; first | rfl | (simp [m_or, m_not, m_is0, m_lt0, m_fl, c_5, c_7]; done)) (by subst er_1 er_3 er_6; first | rfl | (simp [m_or, m_not, m_is0, m_lt0, m_fl, c_5, c_7]; done)) (er_6.symm.trans c_7) (hBE_14.cast (by rw [hv_f11, show nn x3 = kn_ from by rw [hkn1]; exact nI_clamp (by omega)]))⟩
    · refine lv_iconst (pc := 28) (v := 0) hx hb dX5_upper_28 (by decide) ?_
      refine lv_goto (pc := 29) (tgt := 48) hx hb dX5_upper_29 (by decide) ?_
      refine r_iret (pc := 48) E hr hlk hS (by omega) (by omega) ?_ dX5_upper_48
      exact ⟨_, _, _, _, ⟨_, _, _, _, _, fo, fj, fk, fe, fr, fw, ⟨hPm, hPa, hPl, hPe, hPr, hPk⟩, hFk, hFe, hFr, hpk, hn9⟩, AC.fail (by subst er_1 er_3 er_6; first | rfl | (simp [m_or, m_not, m_is0, m_lt0, m_fl, c_5, c_7]; done)) (by subst er_1 er_3 er_6; first | rfl | (simp [m_or, m_not, m_is0, m_lt0, m_fl, c_5, c_7]; done)) (fun z9 => c_7 (er_6.trans z9))⟩
  · refine lv_iconst (pc := 17) (v := 1) hx hb dX5_upper_17 (by decide) ?_
    refine lv_goto (pc := 18) (tgt := 22) hx hb dX5_upper_18 (by decide) ?_
    have hZ0_ := hS.1
    have t_fo := fo.lt
    have t_fj := fj.lt
    have t_fk := fun k (hk9 : k < 6) => (fk k hk9).lt
    have t_fe := fe.lt
    have t_fr := fr.lt
    refine k_i (pc := 22) (k_V E hC hS hA hl.1 (c1.recv hC fo rfl) rfl (c_X5_fails l D tk N0 sa H.size P hPN (fun q h9 => hPs q (Nat.le_trans hS.1 h9)) mo n9 kn th tt bb eT eB oT oB pk ca rf vs r_1 1 ) kw_1251 kw_1253 kp_20 kw_5 kw_1254 (n := 2) (by decide +kernel) rfl ⟨⟨rfl, rfl⟩, ⟨Nat.le_of_ble_eq_true rfl, Nat.le_of_ble_eq_true rfl⟩, (by dsimp only; omega), (by dsimp only; omega)⟩ rfl (Nat.le_of_ble_eq_true rfl) ⟨_, _, _, _, _, fo, fj, fk, fe, fr, fw, ⟨hPm, hPa, hPl, hPe, hPr, hPk⟩, hFk, hFe, hFr, hpk, hn9⟩ dX5_upper_22) hS (fun q _ h => h) hn (fun r_15 H locs hR hz hk hS => ?_)
    obtain ⟨er_15, hM⟩ := hR
    obtain ⟨ra, rl, ex, ro, rt, fo, fj, fk, fe, fr, fw, ⟨hPm, hPa, hPl, hPe, hPr, hPk⟩, hFk, hFe, hFr, hpk, hn9⟩ := hM
    have g_fo := hPm
    have g_fj := hPa
    have ef_r_15 : r_15 = 1 := er_15.trans (m_fl1 _)
    rw [ef_r_15]
    refine lv_if_eq (pc := 25) (tgt := 32) hx hb dX5_upper_25 (by decide) (fun c_16 => ?_) (fun c_16 => ?_)
    · exact absurd c_16 (by decide)
    refine lv_iconst (pc := 28) (v := 0) hx hb dX5_upper_28 (by decide) ?_
    refine lv_goto (pc := 29) (tgt := 48) hx hb dX5_upper_29 (by decide) ?_
    refine r_iret (pc := 48) E hr hlk hS (by omega) (by omega) ?_ dX5_upper_48
    exact ⟨_, _, _, _, ⟨_, _, _, _, _, fo, fj, fk, fe, fr, fw, ⟨hPm, hPa, hPl, hPe, hPr, hPk⟩, hFk, hFe, hFr, hpk, hn9⟩, AC.fail (by subst er_1 er_3; first | rfl | (simp [m_or, m_not, m_is0, m_lt0, m_fl, c_5]; done)) (by subst er_1 er_3; first | rfl | (simp [m_or, m_not, m_is0, m_lt0, m_fl, c_5]; done)) (fun z9 => absurd (ef_r_15.symm.trans (er_15.trans z9)) (by decide))⟩
set_option maxHeartbeats 4000000 in
set_option maxRecDepth 100000 in
/-- BestratiosModel.best(III)I -/
theorem c_X5_best (l : Launch) (D : va_G) (tk : Nat → ClassId) (N0 : Nat) (sa : Nat → Nat)  (sz : Nat) (P : Nat → Prop) (hPN : ∀ q, P q → N0 ≤ q) (hPs : ∀ q, sz ≤ q → P q) (mo n9 : Nat) (kn th : Int32) (tt bb : Nat → Int64) (eT eB oT oB : Int64) (pk : Nat) (ca rf : Int32) (vs : Nat → Value) (x1 : Int32) (x2 : Int32) (x3 : Int32) : Met l yX5_best (wsy yX5_best cX5_best 4 (some .int)) ({ frames := 5, cells := 400, slots := 800, locals := 131 } : Room) (cP D tk N0 sa [.ref mo, .int x1, .int x2, .int x3] sz (fun H => MI D tk sa P mo tt bb eT eB oT oB pk ca rf vs kn n9 th H)) (kQi (fun r H => ∃ th1 tt1 bb1 rf1, MI D tk sa P mo tt1 bb1 eT eB oT oB pk ca rf1 vs kn n9 th1 H ∧ AC (m_areNo x1 x2) (m_not (m_isIn x3 1 200)) tt bb rf (nn x1) (some (m_BS (tt (nn x2)) (bb (nn x2)) (nn x3))) r th1 tt1 bb1 rf1) (P)) (400) (800) (P) := by
  refine mStart RX5 rfl (by decide +kernel) (Nat.le_of_ble_eq_true rfl) ?_
  intro p e s m args below meth c E hr hlk hnm hsz hC hF ls hl
  subst hsz
  obtain ⟨hx, hb, -⟩ := id E
  have hA : ∀ q, (P) q → N0 ≤ q := hPN
  have hn : ∀ q, s.heap.size ≤ q → (P) q := hPs
  have hS : va_S (P) s.heap s.heap [] := va_S.rf
  have hl : lv_has ls 4 [(0, .ref mo), (1, .int x1), (2, .int x2), (3, .int x3)] := hl
  have hM : MI D tk sa P mo tt bb eT eB oT oB pk ca rf vs kn n9 th s.heap := hF
  obtain ⟨ra, rl, ex, ro, rt, fo, fj, fk, fe, fr, fw, ⟨hPm, hPa, hPl, hPe, hPr, hPk⟩, hFk, hFe, hFr, hpk, hn9⟩ := hM
  have g_fo := hPm
  have g_fj := hPa
  refine lv_aload_n (pc := 0) hx hb dX5_best_0 rfl (lv_at hl 0 rfl) ?_
  refine lv_iload_n (pc := 1) hx hb dX5_best_1 rfl (lv_at hl 1 rfl) ?_
  refine lv_iload_n (pc := 2) hx hb dX5_best_2 rfl (lv_at hl 2 rfl) ?_
  refine k_i (pc := 3) (k_S E hC hS hA hl.1 (c_X5_areNo l D tk N0 sa s.heap.size x1 x2 ) kw_1286 kw_1287 kw_5 kw_1288 (n := 2) (by decide +kernel) rfl ⟨⟨rfl, rfl⟩, ⟨Nat.le_of_ble_eq_true rfl, Nat.le_of_ble_eq_true rfl⟩, (by dsimp only; omega), (by dsimp only; omega)⟩ rfl (Nat.le_of_ble_eq_true rfl) trivial dX5_best_3) hS (fun q z w => absurd w (Nat.not_le.mpr z)) hn (fun r_1 H locs hR hz hk hS => ?_)
  have er_1 := hR
  have fw := fw.new hk
  have fo := fo.kept (hk _ fo.lt (Nat.not_le.mpr fo.lt))
  have fj := fj.kept (hk _ fj.lt (Nat.not_le.mpr fj.lt))
  have fk := fk.new hk
  have fe := fe.kept (hk _ fe.lt (Nat.not_le.mpr fe.lt))
  have fr := fr.kept (hk _ fr.lt (Nat.not_le.mpr fr.lt))
  refine lv_iload_n (pc := 6) hx hb dX5_best_6 rfl (lv_at hl 3 rfl) ?_
  refine lv_iconst (pc := 7) (v := 1) hx hb dX5_best_7 (by decide) ?_
  refine lv_sipush (pc := 8) (v := 200) hx hb dX5_best_8 (by decide) ?_
  refine k_i (pc := 11) (k_S E hC hS hA hl.1 (c_X5_isIn l D tk N0 sa H.size x3 1 200 ) kw_1248 kw_1249 kw_5 kw_1250 (n := 3) (by decide +kernel) rfl ⟨⟨rfl, rfl⟩, ⟨Nat.le_of_ble_eq_true rfl, Nat.le_of_ble_eq_true rfl⟩, (by dsimp only; omega), (by dsimp only; omega)⟩ rfl (Nat.le_of_ble_eq_true rfl) trivial dX5_best_11) hS (fun q z w => absurd w (Nat.not_le.mpr z)) hn (fun r_3 H locs hR hz hk hS => ?_)
  have er_3 := hR
  have fw := fw.new hk
  have fo := fo.kept (hk _ fo.lt (Nat.not_le.mpr fo.lt))
  have fj := fj.kept (hk _ fj.lt (Nat.not_le.mpr fj.lt))
  have fk := fk.new hk
  have fe := fe.kept (hk _ fe.lt (Nat.not_le.mpr fe.lt))
  have fr := fr.kept (hk _ fr.lt (Nat.not_le.mpr fr.lt))
  refine lv_if_ne (pc := 14) (tgt := 21) hx hb dX5_best_14 (by decide) (fun c_5 => ?_) (fun c_5 => ?_)
  · refine lv_iconst (pc := 21) (v := 0) hx hb dX5_best_21 (by decide) ?_
    have hZ0_ := hS.1
    have t_fo := fo.lt
    have t_fj := fj.lt
    have t_fk := fun k (hk9 : k < 6) => (fk k hk9).lt
    have t_fe := fe.lt
    have t_fr := fr.lt
    refine k_i (pc := 22) (k_V E hC hS hA hl.1 (c1.recv hC fo rfl) rfl (c_X5_fails l D tk N0 sa H.size P hPN (fun q h9 => hPs q (Nat.le_trans hS.1 h9)) mo n9 kn th tt bb eT eB oT oB pk ca rf vs r_1 0 ) kw_1251 kw_1253 kp_20 kw_5 kw_1254 (n := 2) (by decide +kernel) rfl ⟨⟨rfl, rfl⟩, ⟨Nat.le_of_ble_eq_true rfl, Nat.le_of_ble_eq_true rfl⟩, (by dsimp only; omega), (by dsimp only; omega)⟩ rfl (Nat.le_of_ble_eq_true rfl) ⟨_, _, _, _, _, fo, fj, fk, fe, fr, fw, ⟨hPm, hPa, hPl, hPe, hPr, hPk⟩, hFk, hFe, hFr, hpk, hn9⟩ dX5_best_22) hS (fun q _ h => h) hn (fun r_6 H locs hR hz hk hS => ?_)
    obtain ⟨er_6, hM⟩ := hR
    obtain ⟨ra, rl, ex, ro, rt, fo, fj, fk, fe, fr, fw, ⟨hPm, hPa, hPl, hPe, hPr, hPk⟩, hFk, hFe, hFr, hpk, hn9⟩ := hM
    have g_fo := hPm
    have g_fj := hPa
    refine lv_if_eq (pc := 25) (tgt := 32) hx hb dX5_best_25 (by decide) (fun c_7 => ?_) (fun c_7 => ?_)
    · refine lv_aload_n (pc := 32) hx hb dX5_best_32 rfl (lv_at hl 0 rfl) ?_
      refine lv_iload_n (pc := 33) hx hb dX5_best_33 rfl (lv_at hl 1 rfl) ?_
      refine lv_aload_n (pc := 34) hx hb dX5_best_34 rfl (lv_at hl 0 rfl) ?_
      refine r_get (pc := 35) E hC fo 0 (v := .ref ra) rfl rfl (by decide) uX5 (List.mem_cons_of_mem _ kw_1209) (fun _ h => h) dX5_best_35 ?_
      refine lv_iload_n (pc := 38) hx hb dX5_best_38 rfl (lv_at hl 2 rfl) ?_
      obtain ⟨hx_8, hk_8⟩ := m_noN (m_ano (er_1.symm.trans (m_fl0 (er_6.symm.trans c_7)).1)).2
      refine r_aaldJ (pc := 39) E hC fj (nn x2) hx_8 hk_8 (by decide) rfl dX5_best_39 ?_
      have fL9 := fk (nn x2) hk_8
      have mF_fL9 := hFk (nn x2) hk_8
      have Pq_fL9 := hPk (nn x2) hk_8
      refine lv_iload_n (pc := 40) hx hb dX5_best_40 rfl (lv_at hl 3 rfl) ?_
      obtain ⟨kn_, hkn1, hkn2, hkn3⟩ := m_in1 (x := x3) (hi_ := 200) (by decide) (fun z9 => c_5 (er_3.trans z9))
      have hZ0_ := hS.1
      have t_fo := fo.lt
      have t_fj := fj.lt
      have t_fk := fun k (hk9 : k < 6) => (fk k hk9).lt
      have t_fe := fe.lt
      have t_fr := fr.lt
      have t_fL9 := fL9.lt
      refine k_r (pc := 41) (k_S E hC hS hA hl.1 (c_X5_bestOf l D tk N0 sa H.size (rt (nn x2)) (tt (nn x2)) (bb (nn x2)) x3 kn_ mF_fL9 hkn1 hkn2 hkn3) kw_1638 kw_1639 kw_5 kw_1640 (n := 2) (by decide +kernel) rfl ⟨⟨rfl, rfl⟩, ⟨Nat.le_of_ble_eq_true rfl, Nat.le_of_ble_eq_true rfl⟩, (by dsimp only; omega), (by dsimp only; omega)⟩ rfl (Nat.le_of_ble_eq_true rfl) fL9 dX5_best_41) hS (fun q z w => absurd w (Nat.not_le.mpr z)) hn (fun r_10 H locs hR hz hk hS => ?_)
      have fw := fw.new hk
      have fo := fo.kept (hk _ fo.lt (Nat.not_le.mpr fo.lt))
      have fj := fj.kept (hk _ fj.lt (Nat.not_le.mpr fj.lt))
      have fk := fk.new hk
      have fe := fe.kept (hk _ fe.lt (Nat.not_le.mpr fe.lt))
      have fr := fr.kept (hk _ fr.lt (Nat.not_le.mpr fr.lt))
      have fL9 := fL9.kept (hk _ fL9.lt (Nat.not_le.mpr fL9.lt))
      obtain ⟨z9_, tt_f11, bb_f11, f11, hb_f11, hv_f11⟩ := hR
      have s_f11 : s.heap.size ≤ r_10 := Nat.le_trans hZ0_ z9_
      have g_f11 := hn _ s_f11
      have l_fo_f11 : mo < r_10 := Nat.lt_of_lt_of_le t_fo z9_
      have l_fj_f11 : ra < r_10 := Nat.lt_of_lt_of_le t_fj z9_
      have nW_f11 : ∀ k, k < 6 → rt k ≠ r_10 := fun k hk9 => Nat.ne_of_lt (Nat.lt_of_lt_of_le (t_fk k hk9) z9_)
      have l_fe_f11 : ex < r_10 := Nat.lt_of_lt_of_le t_fe z9_
      have l_fr_f11 : ro < r_10 := Nat.lt_of_lt_of_le t_fr z9_
      have l_fL9_f11 : rt (nn x2) < r_10 := Nat.lt_of_lt_of_le t_fL9 z9_
      have hZ0_ := hS.1
      have t_fo := fo.lt
      have t_fj := fj.lt
      have t_fk := fun k (hk9 : k < 6) => (fk k hk9).lt
      have t_fe := fe.lt
      have t_fr := fr.lt
      have t_fL9 := fL9.lt
      have t_f11 := f11.lt
      obtain ⟨hx_12, hk_12⟩ := m_noN (m_ano (er_1.symm.trans (m_fl0 (er_6.symm.trans c_7)).1)).1
      refine k_i (pc := 44) (k_V E hC hS hA hl.1 (c1.recv hC fo rfl) rfl (c_X5_become l D tk N0 sa H.size P hPN (fun q h9 => hPs q (Nat.le_trans hS.1 h9)) mo n9 kn ((m_th r_1 0)) tt bb eT eB oT oB pk ca rf vs x1 (nn x1) hx_12 hk_12 r_10 tt_f11 bb_f11 (hPs _ s_f11) hb_f11.1) kw_1255 kw_1257 kp_21 kw_5 kw_1258 (n := 2) (by decide +kernel) rfl ⟨⟨rfl, rfl⟩, ⟨Nat.le_of_ble_eq_true rfl, Nat.le_of_ble_eq_true rfl⟩, (by dsimp only; omega), (by dsimp only; omega)⟩ rfl (Nat.le_of_ble_eq_true rfl) ⟨⟨_, _, _, _, _, fo, fj, fk, fe, fr, fw, ⟨hPm, hPa, hPl, hPe, hPr, hPk⟩, hFk, hFe, hFr, hpk, hn9⟩, f11⟩ dX5_best_44) hS (fun q _ h => h) hn (fun r_13 H locs hR hz hk hS => ?_)
      obtain ⟨tt_14, bb_14, rf_14, hM, hBE_14⟩ := hR
      obtain ⟨ra, rl, ex, ro, rt, fo, fj, fk, fe, fr, fw, ⟨hPm, hPa, hPl, hPe, hPr, hPk⟩, hFk, hFe, hFr, hpk, hn9⟩ := hM
      have g_fo := hPm
      have g_fj := hPa
      refine r_iret (pc := 47) E hr hlk hS (by omega) (by omega) ?_ dX5_best_47
      exact ⟨_, _, _, _, ⟨_, _, _, _, _, fo, fj, fk, fe, fr, fw, ⟨hPm, hPa, hPl, hPe, hPr, hPk⟩, hFk, hFe, hFr, hpk, hn9⟩, AC.ok (by subst er_1 er_3 er_6; first | rfl | (simp [m_or, m_not, m_is0, m_lt0, m_fl, c_5, c_7]; done)) (by subst er_1 er_3 er_6; first | rfl | (simp [m_or, m_not, m_is0, m_lt0, m_fl, c_5, c_7]; done)) (er_6.symm.trans c_7) (hBE_14.cast (by rw [hv_f11, show nn x3 = kn_ from by rw [hkn1]; exact nI_clamp (by omega)]))⟩
    · refine lv_iconst (pc := 28) (v := 0) hx hb dX5_best_28 (by decide) ?_
      refine lv_goto (pc := 29) (tgt := 47) hx hb dX5_best_29 (by decide) ?_
      refine r_iret (pc := 47) E hr hlk hS (by omega) (by omega) ?_ dX5_best_47
      exact ⟨_, _, _, _, ⟨_, _, _, _, _, fo, fj, fk, fe, fr, fw, ⟨hPm, hPa, hPl, hPe, hPr, hPk⟩, hFk, hFe, hFr, hpk, hn9⟩, AC.fail (by subst er_1 er_3 er_6; first | rfl | (simp [m_or, m_not, m_is0, m_lt0, m_fl, c_5, c_7]; done)) (by subst er_1 er_3 er_6; first | rfl | (simp [m_or, m_not, m_is0, m_lt0, m_fl, c_5, c_7]; done)) (fun z9 => c_7 (er_6.trans z9))⟩
  · refine lv_iconst (pc := 17) (v := 1) hx hb dX5_best_17 (by decide) ?_
    refine lv_goto (pc := 18) (tgt := 22) hx hb dX5_best_18 (by decide) ?_
    have hZ0_ := hS.1
    have t_fo := fo.lt
    have t_fj := fj.lt
    have t_fk := fun k (hk9 : k < 6) => (fk k hk9).lt
    have t_fe := fe.lt
    have t_fr := fr.lt
    refine k_i (pc := 22) (k_V E hC hS hA hl.1 (c1.recv hC fo rfl) rfl (c_X5_fails l D tk N0 sa H.size P hPN (fun q h9 => hPs q (Nat.le_trans hS.1 h9)) mo n9 kn th tt bb eT eB oT oB pk ca rf vs r_1 1 ) kw_1251 kw_1253 kp_20 kw_5 kw_1254 (n := 2) (by decide +kernel) rfl ⟨⟨rfl, rfl⟩, ⟨Nat.le_of_ble_eq_true rfl, Nat.le_of_ble_eq_true rfl⟩, (by dsimp only; omega), (by dsimp only; omega)⟩ rfl (Nat.le_of_ble_eq_true rfl) ⟨_, _, _, _, _, fo, fj, fk, fe, fr, fw, ⟨hPm, hPa, hPl, hPe, hPr, hPk⟩, hFk, hFe, hFr, hpk, hn9⟩ dX5_best_22) hS (fun q _ h => h) hn (fun r_15 H locs hR hz hk hS => ?_)
    obtain ⟨er_15, hM⟩ := hR
    obtain ⟨ra, rl, ex, ro, rt, fo, fj, fk, fe, fr, fw, ⟨hPm, hPa, hPl, hPe, hPr, hPk⟩, hFk, hFe, hFr, hpk, hn9⟩ := hM
    have g_fo := hPm
    have g_fj := hPa
    have ef_r_15 : r_15 = 1 := er_15.trans (m_fl1 _)
    rw [ef_r_15]
    refine lv_if_eq (pc := 25) (tgt := 32) hx hb dX5_best_25 (by decide) (fun c_16 => ?_) (fun c_16 => ?_)
    · exact absurd c_16 (by decide)
    refine lv_iconst (pc := 28) (v := 0) hx hb dX5_best_28 (by decide) ?_
    refine lv_goto (pc := 29) (tgt := 47) hx hb dX5_best_29 (by decide) ?_
    refine r_iret (pc := 47) E hr hlk hS (by omega) (by omega) ?_ dX5_best_47
    exact ⟨_, _, _, _, ⟨_, _, _, _, _, fo, fj, fk, fe, fr, fw, ⟨hPm, hPa, hPl, hPe, hPr, hPk⟩, hFk, hFe, hFr, hpk, hn9⟩, AC.fail (by subst er_1 er_3; first | rfl | (simp [m_or, m_not, m_is0, m_lt0, m_fl, c_5]; done)) (by subst er_1 er_3; first | rfl | (simp [m_or, m_not, m_is0, m_lt0, m_fl, c_5]; done)) (fun z9 => absurd (ef_r_15.symm.trans (er_15.trans z9)) (by decide))⟩
set_option maxHeartbeats 4000000 in
set_option maxRecDepth 100000 in
/-- BestratiosModel.up(I)I -/
theorem c_X5_up (l : Launch) (D : va_G) (tk : Nat → ClassId) (N0 : Nat) (sa : Nat → Nat)  (sz : Nat) (P : Nat → Prop) (hPN : ∀ q, P q → N0 ≤ q) (hPs : ∀ q, sz ≤ q → P q) (mo n9 : Nat) (kn th : Int32) (tt bb : Nat → Int64) (eT eB oT oB : Int64) (pk : Nat) (ca rf : Int32) (vs : Nat → Value) (x1 : Int32) : Met l yX5_up (wsy yX5_up cX5_up 3 (some .int)) ({ frames := 9, cells := 51, slots := 178, locals := 209 } : Room) (cP D tk N0 sa [.ref mo, .int x1] sz (fun H => MI D tk sa P mo tt bb eT eB oT oB pk ca rf vs kn n9 th H)) (kQi (fun r H => ∃ th1 tt1 bb1 rf1, MI D tk sa P mo tt1 bb1 eT eB oT oB pk ca rf1 vs kn n9 th1 H ∧ AC (m_isNo x1) 0 tt bb rf (nn x1) (m_UP (tt (nn x1)) (bb (nn x1))) r th1 tt1 bb1 rf1) (P)) (51) (178) (P) := by
  refine mStart RX5 rfl (by decide +kernel) (Nat.le_of_ble_eq_true rfl) ?_
  intro p e s m args below meth c E hr hlk hnm hsz hC hF ls hl
  subst hsz
  obtain ⟨hx, hb, -⟩ := id E
  have hA : ∀ q, (P) q → N0 ≤ q := hPN
  have hn : ∀ q, s.heap.size ≤ q → (P) q := hPs
  have hS : va_S (P) s.heap s.heap [] := va_S.rf
  have hl : lv_has ls 3 [(0, .ref mo), (1, .int x1)] := hl
  have hM : MI D tk sa P mo tt bb eT eB oT oB pk ca rf vs kn n9 th s.heap := hF
  obtain ⟨ra, rl, ex, ro, rt, fo, fj, fk, fe, fr, fw, ⟨hPm, hPa, hPl, hPe, hPr, hPk⟩, hFk, hFe, hFr, hpk, hn9⟩ := hM
  have g_fo := hPm
  have g_fj := hPa
  refine lv_aload_n (pc := 0) hx hb dX5_up_0 rfl (lv_at hl 0 rfl) ?_
  refine lv_iload_n (pc := 1) hx hb dX5_up_1 rfl (lv_at hl 1 rfl) ?_
  refine k_i (pc := 2) (k_S E hC hS hA hl.1 (c_X5_isNo l D tk N0 sa s.heap.size x1 ) kw_1245 kw_1246 kw_5 kw_1247 (n := 1) (by decide +kernel) rfl ⟨⟨rfl, rfl⟩, ⟨Nat.le_of_ble_eq_true rfl, Nat.le_of_ble_eq_true rfl⟩, (by dsimp only; omega), (by dsimp only; omega)⟩ rfl (Nat.le_of_ble_eq_true rfl) trivial dX5_up_2) hS (fun q z w => absurd w (Nat.not_le.mpr z)) hn (fun r_1 H locs hR hz hk hS => ?_)
  have er_1 := hR
  have fw := fw.new hk
  have fo := fo.kept (hk _ fo.lt (Nat.not_le.mpr fo.lt))
  have fj := fj.kept (hk _ fj.lt (Nat.not_le.mpr fj.lt))
  have fk := fk.new hk
  have fe := fe.kept (hk _ fe.lt (Nat.not_le.mpr fe.lt))
  have fr := fr.kept (hk _ fr.lt (Nat.not_le.mpr fr.lt))
  refine lv_iconst (pc := 5) (v := 0) hx hb dX5_up_5 (by decide) ?_
  have hZ0_ := hS.1
  have t_fo := fo.lt
  have t_fj := fj.lt
  have t_fk := fun k (hk9 : k < 6) => (fk k hk9).lt
  have t_fe := fe.lt
  have t_fr := fr.lt
  refine k_i (pc := 6) (k_V E hC hS hA hl.1 (c1.recv hC fo rfl) rfl (c_X5_fails l D tk N0 sa H.size P hPN (fun q h9 => hPs q (Nat.le_trans hS.1 h9)) mo n9 kn th tt bb eT eB oT oB pk ca rf vs r_1 0 ) kw_1251 kw_1253 kp_20 kw_5 kw_1254 (n := 2) (by decide +kernel) rfl ⟨⟨rfl, rfl⟩, ⟨Nat.le_of_ble_eq_true rfl, Nat.le_of_ble_eq_true rfl⟩, (by dsimp only; omega), (by dsimp only; omega)⟩ rfl (Nat.le_of_ble_eq_true rfl) ⟨_, _, _, _, _, fo, fj, fk, fe, fr, fw, ⟨hPm, hPa, hPl, hPe, hPr, hPk⟩, hFk, hFe, hFr, hpk, hn9⟩ dX5_up_6) hS (fun q _ h => h) hn (fun r_3 H locs hR hz hk hS => ?_)
  obtain ⟨er_3, hM⟩ := hR
  obtain ⟨ra, rl, ex, ro, rt, fo, fj, fk, fe, fr, fw, ⟨hPm, hPa, hPl, hPe, hPr, hPk⟩, hFk, hFe, hFr, hpk, hn9⟩ := hM
  have g_fo := hPm
  have g_fj := hPa
  refine lv_if_eq (pc := 9) (tgt := 14) hx hb dX5_up_9 (by decide) (fun c_4 => ?_) (fun c_4 => ?_)
  · refine lv_aload_n (pc := 14) hx hb dX5_up_14 rfl (lv_at hl 0 rfl) ?_
    refine r_get (pc := 15) E hC fo 0 (v := .ref ra) rfl rfl (by decide) uX5 (List.mem_cons_of_mem _ kw_1209) (fun _ h => h) dX5_up_15 ?_
    refine lv_iload_n (pc := 18) hx hb dX5_up_18 rfl (lv_at hl 1 rfl) ?_
    obtain ⟨hx_5, hk_5⟩ := m_noN (er_1.symm.trans (m_fl0 (er_3.symm.trans c_4)).1)
    refine r_aaldJ (pc := 19) E hC fj (nn x1) hx_5 hk_5 (by decide) rfl dX5_up_19 ?_
    have fL6 := fk (nn x1) hk_5
    have mF_fL6 := hFk (nn x1) hk_5
    have Pq_fL6 := hPk (nn x1) hk_5
    refine lv_astore_n (pc := 20) (lv' := [(2, .ref (rt (nn x1))), (0, .ref mo), (1, .int x1)]) hx hb dX5_up_20 rfl hl (by decide) rfl (fun ls hl => ?_)
    refine lv_aload_n (pc := 21) hx hb dX5_up_21 rfl (lv_at hl 1 rfl) ?_
    refine lv_iload_n (pc := 22) hx hb dX5_up_22 rfl (lv_at hl 2 rfl) ?_
    refine lv_aload_n (pc := 23) hx hb dX5_up_23 rfl (lv_at hl 0 rfl) ?_
    have hZ0_ := hS.1
    have t_fo := fo.lt
    have t_fj := fj.lt
    have t_fk := fun k (hk9 : k < 6) => (fk k hk9).lt
    have t_fe := fe.lt
    have t_fr := fr.lt
    have t_fL6 := fL6.lt
    refine k_i (pc := 24) (k_S E hC hS hA hl.1 (c_X5_isAbove l D tk N0 sa H.size (rt (nn x1)) (tt (nn x1)) (bb (nn x1)) ) kw_1645 kw_1646 kw_5 kw_1647 (n := 1) (by decide +kernel) rfl ⟨⟨rfl, rfl⟩, ⟨Nat.le_of_ble_eq_true rfl, Nat.le_of_ble_eq_true rfl⟩, (by dsimp only; omega), (by dsimp only; omega)⟩ rfl (Nat.le_of_ble_eq_true rfl) fL6 dX5_up_24) hS (fun q z w => absurd w (Nat.not_le.mpr z)) hn (fun r_7 H locs hR hz hk hS => ?_)
    have fw := fw.new hk
    have fo := fo.kept (hk _ fo.lt (Nat.not_le.mpr fo.lt))
    have fj := fj.kept (hk _ fj.lt (Nat.not_le.mpr fj.lt))
    have fk := fk.new hk
    have fe := fe.kept (hk _ fe.lt (Nat.not_le.mpr fe.lt))
    have fr := fr.kept (hk _ fr.lt (Nat.not_le.mpr fr.lt))
    have fL6 := fL6.kept (hk _ fL6.lt (Nat.not_le.mpr fL6.lt))
    have er_7 := hR
    refine lv_if_eq (pc := 27) (tgt := 45) hx hb dX5_up_27 (by decide) (fun c_8 => ?_) (fun c_8 => ?_)
    · refine lv_null (pc := 45) hx hb dX5_up_45 ?_
      have hZ0_ := hS.1
      have t_fo := fo.lt
      have t_fj := fj.lt
      have t_fk := fun k (hk9 : k < 6) => (fk k hk9).lt
      have t_fe := fe.lt
      have t_fr := fr.lt
      have t_fL6 := fL6.lt
      refine k_i (pc := 46) (k_V E hC hS hA hl.1 (c1.recv hC fo rfl) rfl (c_X5_become_N l D tk N0 sa H.size P hPN (fun q h9 => hPs q (Nat.le_trans hS.1 h9)) mo n9 kn ((m_th r_1 0)) tt bb eT eB oT oB pk ca rf vs x1 (nn x1) hx_5 hk_5 ) kw_1255 kw_1257 kp_21 kw_5 kw_1258 (n := 2) (by decide +kernel) rfl ⟨⟨rfl, rfl⟩, ⟨Nat.le_of_ble_eq_true rfl, Nat.le_of_ble_eq_true rfl⟩, (by dsimp only; omega), (by dsimp only; omega)⟩ rfl (Nat.le_of_ble_eq_true rfl) ⟨_, _, _, _, _, fo, fj, fk, fe, fr, fw, ⟨hPm, hPa, hPl, hPe, hPr, hPk⟩, hFk, hFe, hFr, hpk, hn9⟩ dX5_up_46) hS (fun q _ h => h) hn (fun r_9 H locs hR hz hk hS => ?_)
      obtain ⟨tt_10, bb_10, rf_10, hM, hBE_10⟩ := hR
      obtain ⟨ra, rl, ex, ro, rt, fo, fj, fk, fe, fr, fw, ⟨hPm, hPa, hPl, hPe, hPr, hPk⟩, hFk, hFe, hFr, hpk, hn9⟩ := hM
      have g_fo := hPm
      have g_fj := hPa
      refine r_iret (pc := 49) E hr hlk hS (by omega) (by omega) ?_ dX5_up_49
      exact ⟨_, _, _, _, ⟨_, _, _, _, _, fo, fj, fk, fe, fr, fw, ⟨hPm, hPa, hPl, hPe, hPr, hPk⟩, hFk, hFe, hFr, hpk, hn9⟩, AC.ok (by subst er_1 er_3 er_7; first | rfl | (simp [m_or, m_not, m_is0, m_lt0, m_fl, c_4, c_8]; done)) (by subst er_1 er_3 er_7; first | rfl | (simp [m_or, m_not, m_is0, m_lt0, m_fl, c_4, c_8]; done)) (er_3.symm.trans c_4) (hBE_10.cast (by subst er_1 er_3 er_7; first | rfl | (simp [m_UP, c_4, c_8]; done)))⟩
    · refine lv_aload_n (pc := 30) hx hb dX5_up_30 rfl (lv_at hl 0 rfl) ?_
      have hZ0_ := hS.1
      have t_fo := fo.lt
      have t_fj := fj.lt
      have t_fk := fun k (hk9 : k < 6) => (fk k hk9).lt
      have t_fe := fe.lt
      have t_fr := fr.lt
      have t_fL6 := fL6.lt
      refine k_i (pc := 31) (k_S E hC hS hA hl.1 (c_X5_isOne l D tk N0 sa H.size (rt (nn x1)) (tt (nn x1)) (bb (nn x1)) ) kw_1648 kw_1649 kw_5 kw_1650 (n := 1) (by decide +kernel) rfl ⟨⟨rfl, rfl⟩, ⟨Nat.le_of_ble_eq_true rfl, Nat.le_of_ble_eq_true rfl⟩, (by dsimp only; omega), (by dsimp only; omega)⟩ rfl (Nat.le_of_ble_eq_true rfl) fL6 dX5_up_31) hS (fun q z w => absurd w (Nat.not_le.mpr z)) hn (fun r_11 H locs hR hz hk hS => ?_)
      have fw := fw.new hk
      have fo := fo.kept (hk _ fo.lt (Nat.not_le.mpr fo.lt))
      have fj := fj.kept (hk _ fj.lt (Nat.not_le.mpr fj.lt))
      have fk := fk.new hk
      have fe := fe.kept (hk _ fe.lt (Nat.not_le.mpr fe.lt))
      have fr := fr.kept (hk _ fr.lt (Nat.not_le.mpr fr.lt))
      have fL6 := fL6.kept (hk _ fL6.lt (Nat.not_le.mpr fL6.lt))
      have er_11 := hR
      refine lv_if_ne (pc := 34) (tgt := 45) hx hb dX5_up_34 (by decide) (fun c_12 => ?_) (fun c_12 => ?_)
      · refine lv_null (pc := 45) hx hb dX5_up_45 ?_
        have hZ0_ := hS.1
        have t_fo := fo.lt
        have t_fj := fj.lt
        have t_fk := fun k (hk9 : k < 6) => (fk k hk9).lt
        have t_fe := fe.lt
        have t_fr := fr.lt
        have t_fL6 := fL6.lt
        refine k_i (pc := 46) (k_V E hC hS hA hl.1 (c1.recv hC fo rfl) rfl (c_X5_become_N l D tk N0 sa H.size P hPN (fun q h9 => hPs q (Nat.le_trans hS.1 h9)) mo n9 kn ((m_th r_1 0)) tt bb eT eB oT oB pk ca rf vs x1 (nn x1) hx_5 hk_5 ) kw_1255 kw_1257 kp_21 kw_5 kw_1258 (n := 2) (by decide +kernel) rfl ⟨⟨rfl, rfl⟩, ⟨Nat.le_of_ble_eq_true rfl, Nat.le_of_ble_eq_true rfl⟩, (by dsimp only; omega), (by dsimp only; omega)⟩ rfl (Nat.le_of_ble_eq_true rfl) ⟨_, _, _, _, _, fo, fj, fk, fe, fr, fw, ⟨hPm, hPa, hPl, hPe, hPr, hPk⟩, hFk, hFe, hFr, hpk, hn9⟩ dX5_up_46) hS (fun q _ h => h) hn (fun r_13 H locs hR hz hk hS => ?_)
        obtain ⟨tt_14, bb_14, rf_14, hM, hBE_14⟩ := hR
        obtain ⟨ra, rl, ex, ro, rt, fo, fj, fk, fe, fr, fw, ⟨hPm, hPa, hPl, hPe, hPr, hPk⟩, hFk, hFe, hFr, hpk, hn9⟩ := hM
        have g_fo := hPm
        have g_fj := hPa
        refine r_iret (pc := 49) E hr hlk hS (by omega) (by omega) ?_ dX5_up_49
        exact ⟨_, _, _, _, ⟨_, _, _, _, _, fo, fj, fk, fe, fr, fw, ⟨hPm, hPa, hPl, hPe, hPr, hPk⟩, hFk, hFe, hFr, hpk, hn9⟩, AC.ok (by subst er_1 er_3 er_7 er_11; first | rfl | (simp [m_or, m_not, m_is0, m_lt0, m_fl, c_4, c_8, c_12]; done)) (by subst er_1 er_3 er_7 er_11; first | rfl | (simp [m_or, m_not, m_is0, m_lt0, m_fl, c_4, c_8, c_12]; done)) (er_3.symm.trans c_4) (hBE_14.cast (by subst er_1 er_3 er_7 er_11; first | rfl | (simp [m_UP, c_4, c_8, c_12]; done)))⟩
      · refine lv_aload_n (pc := 37) hx hb dX5_up_37 rfl (lv_at hl 0 rfl) ?_
        refine lv_iconst (pc := 38) (v := (-1)) hx hb dX5_up_38 (by decide) ?_
        have hZ0_ := hS.1
        have t_fo := fo.lt
        have t_fj := fj.lt
        have t_fk := fun k (hk9 : k < 6) => (fk k hk9).lt
        have t_fe := fe.lt
        have t_fr := fr.lt
        have t_fL6 := fL6.lt
        refine k_o (pc := 39) (k_S E hC hS hA hl.1 (c_X5_withLast l D tk N0 sa H.size (rt (nn x1)) (tt (nn x1)) (bb (nn x1)) ((-1)) mF_fL6 (Or.inr rfl)) kw_1651 kw_1652 kw_5 kw_1653 (n := 2) (by decide +kernel) rfl ⟨⟨rfl, rfl⟩, ⟨Nat.le_of_ble_eq_true rfl, Nat.le_of_ble_eq_true rfl⟩, (by dsimp only; omega), (by dsimp only; omega)⟩ rfl (Nat.le_of_ble_eq_true rfl) fL6 dX5_up_39) hS (fun q z w => absurd w (Nat.not_le.mpr z)) hn (fun r_15 H locs hR hz hk hS => ?_)
        have fw := fw.new hk
        have fo := fo.kept (hk _ fo.lt (Nat.not_le.mpr fo.lt))
        have fj := fj.kept (hk _ fj.lt (Nat.not_le.mpr fj.lt))
        have fk := fk.new hk
        have fe := fe.kept (hk _ fe.lt (Nat.not_le.mpr fe.lt))
        have fr := fr.kept (hk _ fr.lt (Nat.not_le.mpr fr.lt))
        have fL6 := fL6.kept (hk _ fL6.lt (Nat.not_le.mpr fL6.lt))
        rcases hR with ⟨rfl, hv_f16⟩ | ⟨q_f16, tt_f16, bb_f16, rfl, z9_, f16, hb_f16, hv_f16⟩
        · refine lv_goto (pc := 42) (tgt := 46) hx hb dX5_up_42 (by decide) ?_
          have hZ0_ := hS.1
          have t_fo := fo.lt
          have t_fj := fj.lt
          have t_fk := fun k (hk9 : k < 6) => (fk k hk9).lt
          have t_fe := fe.lt
          have t_fr := fr.lt
          have t_fL6 := fL6.lt
          refine k_i (pc := 46) (k_V E hC hS hA hl.1 (c1.recv hC fo rfl) rfl (c_X5_become_N l D tk N0 sa H.size P hPN (fun q h9 => hPs q (Nat.le_trans hS.1 h9)) mo n9 kn ((m_th r_1 0)) tt bb eT eB oT oB pk ca rf vs x1 (nn x1) hx_5 hk_5 ) kw_1255 kw_1257 kp_21 kw_5 kw_1258 (n := 2) (by decide +kernel) rfl ⟨⟨rfl, rfl⟩, ⟨Nat.le_of_ble_eq_true rfl, Nat.le_of_ble_eq_true rfl⟩, (by dsimp only; omega), (by dsimp only; omega)⟩ rfl (Nat.le_of_ble_eq_true rfl) ⟨_, _, _, _, _, fo, fj, fk, fe, fr, fw, ⟨hPm, hPa, hPl, hPe, hPr, hPk⟩, hFk, hFe, hFr, hpk, hn9⟩ dX5_up_46) hS (fun q _ h => h) hn (fun r_17 H locs hR hz hk hS => ?_)
          obtain ⟨tt_18, bb_18, rf_18, hM, hBE_18⟩ := hR
          obtain ⟨ra, rl, ex, ro, rt, fo, fj, fk, fe, fr, fw, ⟨hPm, hPa, hPl, hPe, hPr, hPk⟩, hFk, hFe, hFr, hpk, hn9⟩ := hM
          have g_fo := hPm
          have g_fj := hPa
          refine r_iret (pc := 49) E hr hlk hS (by omega) (by omega) ?_ dX5_up_49
          exact ⟨_, _, _, _, ⟨_, _, _, _, _, fo, fj, fk, fe, fr, fw, ⟨hPm, hPa, hPl, hPe, hPr, hPk⟩, hFk, hFe, hFr, hpk, hn9⟩, AC.ok (by subst er_1 er_3 er_7 er_11; first | rfl | (simp [m_or, m_not, m_is0, m_lt0, m_fl, c_4, c_8, c_12]; done)) (by subst er_1 er_3 er_7 er_11; first | rfl | (simp [m_or, m_not, m_is0, m_lt0, m_fl, c_4, c_8, c_12]; done)) (er_3.symm.trans c_4) (hBE_18.cast (by unfold m_UP; rw [if_neg (fun z9 => c_8 (er_7.trans z9)), if_pos (er_11.symm.trans c_12)]; exact hv_f16.symm))⟩
        · have s_f16 : s.heap.size ≤ q_f16 := Nat.le_trans hZ0_ z9_
          have g_f16 := hn _ s_f16
          have l_fo_f16 : mo < q_f16 := Nat.lt_of_lt_of_le t_fo z9_
          have l_fj_f16 : ra < q_f16 := Nat.lt_of_lt_of_le t_fj z9_
          have nW_f16 : ∀ k, k < 6 → rt k ≠ q_f16 := fun k hk9 => Nat.ne_of_lt (Nat.lt_of_lt_of_le (t_fk k hk9) z9_)
          have l_fe_f16 : ex < q_f16 := Nat.lt_of_lt_of_le t_fe z9_
          have l_fr_f16 : ro < q_f16 := Nat.lt_of_lt_of_le t_fr z9_
          have l_fL6_f16 : rt (nn x1) < q_f16 := Nat.lt_of_lt_of_le t_fL6 z9_
          refine lv_goto (pc := 42) (tgt := 46) hx hb dX5_up_42 (by decide) ?_
          have hZ0_ := hS.1
          have t_fo := fo.lt
          have t_fj := fj.lt
          have t_fk := fun k (hk9 : k < 6) => (fk k hk9).lt
          have t_fe := fe.lt
          have t_fr := fr.lt
          have t_fL6 := fL6.lt
          have t_f16 := f16.lt
          refine k_i (pc := 46) (k_V E hC hS hA hl.1 (c1.recv hC fo rfl) rfl (c_X5_become l D tk N0 sa H.size P hPN (fun q h9 => hPs q (Nat.le_trans hS.1 h9)) mo n9 kn ((m_th r_1 0)) tt bb eT eB oT oB pk ca rf vs x1 (nn x1) hx_5 hk_5 q_f16 tt_f16 bb_f16 (hPs _ s_f16) hb_f16) kw_1255 kw_1257 kp_21 kw_5 kw_1258 (n := 2) (by decide +kernel) rfl ⟨⟨rfl, rfl⟩, ⟨Nat.le_of_ble_eq_true rfl, Nat.le_of_ble_eq_true rfl⟩, (by dsimp only; omega), (by dsimp only; omega)⟩ rfl (Nat.le_of_ble_eq_true rfl) ⟨⟨_, _, _, _, _, fo, fj, fk, fe, fr, fw, ⟨hPm, hPa, hPl, hPe, hPr, hPk⟩, hFk, hFe, hFr, hpk, hn9⟩, f16⟩ dX5_up_46) hS (fun q _ h => h) hn (fun r_19 H locs hR hz hk hS => ?_)
          obtain ⟨tt_20, bb_20, rf_20, hM, hBE_20⟩ := hR
          obtain ⟨ra, rl, ex, ro, rt, fo, fj, fk, fe, fr, fw, ⟨hPm, hPa, hPl, hPe, hPr, hPk⟩, hFk, hFe, hFr, hpk, hn9⟩ := hM
          have g_fo := hPm
          have g_fj := hPa
          refine r_iret (pc := 49) E hr hlk hS (by omega) (by omega) ?_ dX5_up_49
          exact ⟨_, _, _, _, ⟨_, _, _, _, _, fo, fj, fk, fe, fr, fw, ⟨hPm, hPa, hPl, hPe, hPr, hPk⟩, hFk, hFe, hFr, hpk, hn9⟩, AC.ok (by subst er_1 er_3 er_7 er_11; first | rfl | (simp [m_or, m_not, m_is0, m_lt0, m_fl, c_4, c_8, c_12]; done)) (by subst er_1 er_3 er_7 er_11; first | rfl | (simp [m_or, m_not, m_is0, m_lt0, m_fl, c_4, c_8, c_12]; done)) (er_3.symm.trans c_4) (hBE_20.cast (by unfold m_UP; rw [if_neg (fun z9 => c_8 (er_7.trans z9)), if_pos (er_11.symm.trans c_12)]; exact hv_f16.symm))⟩
  · refine lv_iconst (pc := 12) (v := 0) hx hb dX5_up_12 (by decide) ?_
    refine r_iret (pc := 13) E hr hlk hS (by omega) (by omega) ?_ dX5_up_13
    exact ⟨_, _, _, _, ⟨_, _, _, _, _, fo, fj, fk, fe, fr, fw, ⟨hPm, hPa, hPl, hPe, hPr, hPk⟩, hFk, hFe, hFr, hpk, hn9⟩, AC.fail (by subst er_1 er_3; first | rfl | (simp [m_or, m_not, m_is0, m_lt0, m_fl, c_4]; done)) (by subst er_1 er_3; first | rfl | (simp [m_or, m_not, m_is0, m_lt0, m_fl, c_4]; done)) (fun z9 => c_4 (er_3.trans z9))⟩
set_option maxHeartbeats 4000000 in
set_option maxRecDepth 100000 in
/-- BestratiosModel.down(IZ)I -/
theorem c_X5_down (l : Launch) (D : va_G) (tk : Nat → ClassId) (N0 : Nat) (sa : Nat → Nat)  (sz : Nat) (P : Nat → Prop) (hPN : ∀ q, P q → N0 ≤ q) (hPs : ∀ q, sz ≤ q → P q) (mo n9 : Nat) (kn th : Int32) (tt bb : Nat → Int64) (eT eB oT oB : Int64) (pk : Nat) (ca rf : Int32) (vs : Nat → Value) (x1 : Int32) (x2 : Int32) : Met l yX5_down (wsy yX5_down cX5_down 3 (some .int)) ({ frames := 10, cells := 104, slots := 410, locals := 234 } : Room) (cP D tk N0 sa [.ref mo, .int x1, .int x2] sz (fun H => MI D tk sa P mo tt bb eT eB oT oB pk ca rf vs kn n9 th H)) (kQi (fun r H => ∃ th1 tt1 bb1 rf1, MI D tk sa P mo tt1 bb1 eT eB oT oB pk ca rf1 vs kn n9 th1 H ∧ AC (m_isNo x1) 0 tt bb rf (nn x1) (m_DN (tt (nn x1)) (bb (nn x1)) x2) r th1 tt1 bb1 rf1) (P)) (104) (410) (P) := by
  refine mStart RX5 rfl (by decide +kernel) (Nat.le_of_ble_eq_true rfl) ?_
  intro p e s m args below meth c E hr hlk hnm hsz hC hF ls hl
  subst hsz
  obtain ⟨hx, hb, -⟩ := id E
  have hA : ∀ q, (P) q → N0 ≤ q := hPN
  have hn : ∀ q, s.heap.size ≤ q → (P) q := hPs
  have hS : va_S (P) s.heap s.heap [] := va_S.rf
  have hl : lv_has ls 3 [(0, .ref mo), (1, .int x1), (2, .int x2)] := hl
  have hM : MI D tk sa P mo tt bb eT eB oT oB pk ca rf vs kn n9 th s.heap := hF
  obtain ⟨ra, rl, ex, ro, rt, fo, fj, fk, fe, fr, fw, ⟨hPm, hPa, hPl, hPe, hPr, hPk⟩, hFk, hFe, hFr, hpk, hn9⟩ := hM
  have g_fo := hPm
  have g_fj := hPa
  refine lv_aload_n (pc := 0) hx hb dX5_down_0 rfl (lv_at hl 0 rfl) ?_
  refine lv_iload_n (pc := 1) hx hb dX5_down_1 rfl (lv_at hl 1 rfl) ?_
  refine k_i (pc := 2) (k_S E hC hS hA hl.1 (c_X5_isNo l D tk N0 sa s.heap.size x1 ) kw_1245 kw_1246 kw_5 kw_1247 (n := 1) (by decide +kernel) rfl ⟨⟨rfl, rfl⟩, ⟨Nat.le_of_ble_eq_true rfl, Nat.le_of_ble_eq_true rfl⟩, (by dsimp only; omega), (by dsimp only; omega)⟩ rfl (Nat.le_of_ble_eq_true rfl) trivial dX5_down_2) hS (fun q z w => absurd w (Nat.not_le.mpr z)) hn (fun r_1 H locs hR hz hk hS => ?_)
  have er_1 := hR
  have fw := fw.new hk
  have fo := fo.kept (hk _ fo.lt (Nat.not_le.mpr fo.lt))
  have fj := fj.kept (hk _ fj.lt (Nat.not_le.mpr fj.lt))
  have fk := fk.new hk
  have fe := fe.kept (hk _ fe.lt (Nat.not_le.mpr fe.lt))
  have fr := fr.kept (hk _ fr.lt (Nat.not_le.mpr fr.lt))
  refine lv_iconst (pc := 5) (v := 0) hx hb dX5_down_5 (by decide) ?_
  have hZ0_ := hS.1
  have t_fo := fo.lt
  have t_fj := fj.lt
  have t_fk := fun k (hk9 : k < 6) => (fk k hk9).lt
  have t_fe := fe.lt
  have t_fr := fr.lt
  refine k_i (pc := 6) (k_V E hC hS hA hl.1 (c1.recv hC fo rfl) rfl (c_X5_fails l D tk N0 sa H.size P hPN (fun q h9 => hPs q (Nat.le_trans hS.1 h9)) mo n9 kn th tt bb eT eB oT oB pk ca rf vs r_1 0 ) kw_1251 kw_1253 kp_20 kw_5 kw_1254 (n := 2) (by decide +kernel) rfl ⟨⟨rfl, rfl⟩, ⟨Nat.le_of_ble_eq_true rfl, Nat.le_of_ble_eq_true rfl⟩, (by dsimp only; omega), (by dsimp only; omega)⟩ rfl (Nat.le_of_ble_eq_true rfl) ⟨_, _, _, _, _, fo, fj, fk, fe, fr, fw, ⟨hPm, hPa, hPl, hPe, hPr, hPk⟩, hFk, hFe, hFr, hpk, hn9⟩ dX5_down_6) hS (fun q _ h => h) hn (fun r_3 H locs hR hz hk hS => ?_)
  obtain ⟨er_3, hM⟩ := hR
  obtain ⟨ra, rl, ex, ro, rt, fo, fj, fk, fe, fr, fw, ⟨hPm, hPa, hPl, hPe, hPr, hPk⟩, hFk, hFe, hFr, hpk, hn9⟩ := hM
  have g_fo := hPm
  have g_fj := hPa
  refine lv_if_eq (pc := 9) (tgt := 14) hx hb dX5_down_9 (by decide) (fun c_4 => ?_) (fun c_4 => ?_)
  · refine lv_aload_n (pc := 14) hx hb dX5_down_14 rfl (lv_at hl 0 rfl) ?_
    refine lv_iload_n (pc := 15) hx hb dX5_down_15 rfl (lv_at hl 1 rfl) ?_
    refine lv_aload_n (pc := 16) hx hb dX5_down_16 rfl (lv_at hl 0 rfl) ?_
    refine r_get (pc := 17) E hC fo 0 (v := .ref ra) rfl rfl (by decide) uX5 (List.mem_cons_of_mem _ kw_1209) (fun _ h => h) dX5_down_17 ?_
    refine lv_iload_n (pc := 20) hx hb dX5_down_20 rfl (lv_at hl 1 rfl) ?_
    obtain ⟨hx_5, hk_5⟩ := m_noN (er_1.symm.trans (m_fl0 (er_3.symm.trans c_4)).1)
    refine r_aaldJ (pc := 21) E hC fj (nn x1) hx_5 hk_5 (by decide) rfl dX5_down_21 ?_
    have fL6 := fk (nn x1) hk_5
    have mF_fL6 := hFk (nn x1) hk_5
    have Pq_fL6 := hPk (nn x1) hk_5
    have hZ0_ := hS.1
    have t_fo := fo.lt
    have t_fj := fj.lt
    have t_fk := fun k (hk9 : k < 6) => (fk k hk9).lt
    have t_fe := fe.lt
    have t_fr := fr.lt
    have t_fL6 := fL6.lt
    refine k_i (pc := 22) (k_S E hC hS hA hl.1 (c_X5_isAbove l D tk N0 sa H.size (rt (nn x1)) (tt (nn x1)) (bb (nn x1)) ) kw_1645 kw_1646 kw_5 kw_1647 (n := 1) (by decide +kernel) rfl ⟨⟨rfl, rfl⟩, ⟨Nat.le_of_ble_eq_true rfl, Nat.le_of_ble_eq_true rfl⟩, (by dsimp only; omega), (by dsimp only; omega)⟩ rfl (Nat.le_of_ble_eq_true rfl) fL6 dX5_down_22) hS (fun q z w => absurd w (Nat.not_le.mpr z)) hn (fun r_7 H locs hR hz hk hS => ?_)
    have fw := fw.new hk
    have fo := fo.kept (hk _ fo.lt (Nat.not_le.mpr fo.lt))
    have fj := fj.kept (hk _ fj.lt (Nat.not_le.mpr fj.lt))
    have fk := fk.new hk
    have fe := fe.kept (hk _ fe.lt (Nat.not_le.mpr fe.lt))
    have fr := fr.kept (hk _ fr.lt (Nat.not_le.mpr fr.lt))
    have fL6 := fL6.kept (hk _ fL6.lt (Nat.not_le.mpr fL6.lt))
    have er_7 := hR
    refine lv_if_eq (pc := 25) (tgt := 41) hx hb dX5_down_25 (by decide) (fun c_8 => ?_) (fun c_8 => ?_)
    · refine lv_null (pc := 41) hx hb dX5_down_41 ?_
      have hZ0_ := hS.1
      have t_fo := fo.lt
      have t_fj := fj.lt
      have t_fk := fun k (hk9 : k < 6) => (fk k hk9).lt
      have t_fe := fe.lt
      have t_fr := fr.lt
      have t_fL6 := fL6.lt
      refine k_i (pc := 42) (k_V E hC hS hA hl.1 (c1.recv hC fo rfl) rfl (c_X5_become_N l D tk N0 sa H.size P hPN (fun q h9 => hPs q (Nat.le_trans hS.1 h9)) mo n9 kn ((m_th r_1 0)) tt bb eT eB oT oB pk ca rf vs x1 (nn x1) hx_5 hk_5 ) kw_1255 kw_1257 kp_21 kw_5 kw_1258 (n := 2) (by decide +kernel) rfl ⟨⟨rfl, rfl⟩, ⟨Nat.le_of_ble_eq_true rfl, Nat.le_of_ble_eq_true rfl⟩, (by dsimp only; omega), (by dsimp only; omega)⟩ rfl (Nat.le_of_ble_eq_true rfl) ⟨_, _, _, _, _, fo, fj, fk, fe, fr, fw, ⟨hPm, hPa, hPl, hPe, hPr, hPk⟩, hFk, hFe, hFr, hpk, hn9⟩ dX5_down_42) hS (fun q _ h => h) hn (fun r_9 H locs hR hz hk hS => ?_)
      obtain ⟨tt_10, bb_10, rf_10, hM, hBE_10⟩ := hR
      obtain ⟨ra, rl, ex, ro, rt, fo, fj, fk, fe, fr, fw, ⟨hPm, hPa, hPl, hPe, hPr, hPk⟩, hFk, hFe, hFr, hpk, hn9⟩ := hM
      have g_fo := hPm
      have g_fj := hPa
      refine r_iret (pc := 45) E hr hlk hS (by omega) (by omega) ?_ dX5_down_45
      exact ⟨_, _, _, _, ⟨_, _, _, _, _, fo, fj, fk, fe, fr, fw, ⟨hPm, hPa, hPl, hPe, hPr, hPk⟩, hFk, hFe, hFr, hpk, hn9⟩, AC.ok (by subst er_1 er_3 er_7; first | rfl | (simp [m_or, m_not, m_is0, m_lt0, m_fl, c_4, c_8]; done)) (by subst er_1 er_3 er_7; first | rfl | (simp [m_or, m_not, m_is0, m_lt0, m_fl, c_4, c_8]; done)) (er_3.symm.trans c_4) (hBE_10.cast (by subst er_1 er_3 er_7; first | rfl | (simp [m_DN, c_4, c_8]; done)))⟩
    · refine lv_aload_n (pc := 28) hx hb dX5_down_28 rfl (lv_at hl 0 rfl) ?_
      refine r_get (pc := 29) E hC fo 0 (v := .ref ra) rfl rfl (by decide) uX5 (List.mem_cons_of_mem _ kw_1209) (fun _ h => h) dX5_down_29 ?_
      refine lv_iload_n (pc := 32) hx hb dX5_down_32 rfl (lv_at hl 1 rfl) ?_
      refine r_aaldJ (pc := 33) E hC fj (nn x1) hx_5 hk_5 (by decide) rfl dX5_down_33 ?_
      have fL11 := fk (nn x1) hk_5
      have mF_fL11 := hFk (nn x1) hk_5
      have Pq_fL11 := hPk (nn x1) hk_5
      refine lv_iload_n (pc := 34) hx hb dX5_down_34 rfl (lv_at hl 2 rfl) ?_
      have hab := m_abv1 (t := tt (nn x1)) (by rw [← er_7]; exact c_8)
      have hZ0_ := hS.1
      have t_fo := fo.lt
      have t_fj := fj.lt
      have t_fk := fun k (hk9 : k < 6) => (fk k hk9).lt
      have t_fe := fe.lt
      have t_fr := fr.lt
      have t_fL6 := fL6.lt
      have t_fL11 := fL11.lt
      refine k_r (pc := 35) (k_S E hC hS hA hl.1 (c_X5_below l D tk N0 sa H.size (rt (nn x1)) (tt (nn x1)) (bb (nn x1)) x2 mF_fL11 hab) kw_1662 kw_1663 kw_5 kw_1664 (n := 2) (by decide +kernel) rfl ⟨⟨rfl, rfl⟩, ⟨Nat.le_of_ble_eq_true rfl, Nat.le_of_ble_eq_true rfl⟩, (by dsimp only; omega), (by dsimp only; omega)⟩ rfl (Nat.le_of_ble_eq_true rfl) fL11 dX5_down_35) hS (fun q z w => absurd w (Nat.not_le.mpr z)) hn (fun r_12 H locs hR hz hk hS => ?_)
      have fw := fw.new hk
      have fo := fo.kept (hk _ fo.lt (Nat.not_le.mpr fo.lt))
      have fj := fj.kept (hk _ fj.lt (Nat.not_le.mpr fj.lt))
      have fk := fk.new hk
      have fe := fe.kept (hk _ fe.lt (Nat.not_le.mpr fe.lt))
      have fr := fr.kept (hk _ fr.lt (Nat.not_le.mpr fr.lt))
      have fL6 := fL6.kept (hk _ fL6.lt (Nat.not_le.mpr fL6.lt))
      have fL11 := fL11.kept (hk _ fL11.lt (Nat.not_le.mpr fL11.lt))
      obtain ⟨z9_, tt_f13, bb_f13, f13, hb_f13, hv_f13⟩ := hR
      have s_f13 : s.heap.size ≤ r_12 := Nat.le_trans hZ0_ z9_
      have g_f13 := hn _ s_f13
      have l_fo_f13 : mo < r_12 := Nat.lt_of_lt_of_le t_fo z9_
      have l_fj_f13 : ra < r_12 := Nat.lt_of_lt_of_le t_fj z9_
      have nW_f13 : ∀ k, k < 6 → rt k ≠ r_12 := fun k hk9 => Nat.ne_of_lt (Nat.lt_of_lt_of_le (t_fk k hk9) z9_)
      have l_fe_f13 : ex < r_12 := Nat.lt_of_lt_of_le t_fe z9_
      have l_fr_f13 : ro < r_12 := Nat.lt_of_lt_of_le t_fr z9_
      have l_fL6_f13 : rt (nn x1) < r_12 := Nat.lt_of_lt_of_le t_fL6 z9_
      have l_fL11_f13 : rt (nn x1) < r_12 := Nat.lt_of_lt_of_le t_fL11 z9_
      refine lv_goto (pc := 38) (tgt := 42) hx hb dX5_down_38 (by decide) ?_
      have hZ0_ := hS.1
      have t_fo := fo.lt
      have t_fj := fj.lt
      have t_fk := fun k (hk9 : k < 6) => (fk k hk9).lt
      have t_fe := fe.lt
      have t_fr := fr.lt
      have t_fL6 := fL6.lt
      have t_fL11 := fL11.lt
      have t_f13 := f13.lt
      refine k_i (pc := 42) (k_V E hC hS hA hl.1 (c1.recv hC fo rfl) rfl (c_X5_become l D tk N0 sa H.size P hPN (fun q h9 => hPs q (Nat.le_trans hS.1 h9)) mo n9 kn ((m_th r_1 0)) tt bb eT eB oT oB pk ca rf vs x1 (nn x1) hx_5 hk_5 r_12 tt_f13 bb_f13 (hPs _ s_f13) hb_f13) kw_1255 kw_1257 kp_21 kw_5 kw_1258 (n := 2) (by decide +kernel) rfl ⟨⟨rfl, rfl⟩, ⟨Nat.le_of_ble_eq_true rfl, Nat.le_of_ble_eq_true rfl⟩, (by dsimp only; omega), (by dsimp only; omega)⟩ rfl (Nat.le_of_ble_eq_true rfl) ⟨⟨_, _, _, _, _, fo, fj, fk, fe, fr, fw, ⟨hPm, hPa, hPl, hPe, hPr, hPk⟩, hFk, hFe, hFr, hpk, hn9⟩, f13⟩ dX5_down_42) hS (fun q _ h => h) hn (fun r_14 H locs hR hz hk hS => ?_)
      obtain ⟨tt_15, bb_15, rf_15, hM, hBE_15⟩ := hR
      obtain ⟨ra, rl, ex, ro, rt, fo, fj, fk, fe, fr, fw, ⟨hPm, hPa, hPl, hPe, hPr, hPk⟩, hFk, hFe, hFr, hpk, hn9⟩ := hM
      have g_fo := hPm
      have g_fj := hPa
      refine r_iret (pc := 45) E hr hlk hS (by omega) (by omega) ?_ dX5_down_45
      exact ⟨_, _, _, _, ⟨_, _, _, _, _, fo, fj, fk, fe, fr, fw, ⟨hPm, hPa, hPl, hPe, hPr, hPk⟩, hFk, hFe, hFr, hpk, hn9⟩, AC.ok (by subst er_1 er_3 er_7; first | rfl | (simp [m_or, m_not, m_is0, m_lt0, m_fl, c_4, c_8]; done)) (by subst er_1 er_3 er_7; first | rfl | (simp [m_or, m_not, m_is0, m_lt0, m_fl, c_4, c_8]; done)) (er_3.symm.trans c_4) (hBE_15.cast (q_DN mF_fL11 hab hv_f13))⟩
  · refine lv_iconst (pc := 12) (v := 0) hx hb dX5_down_12 (by decide) ?_
    refine r_iret (pc := 13) E hr hlk hS (by omega) (by omega) ?_ dX5_down_13
    exact ⟨_, _, _, _, ⟨_, _, _, _, _, fo, fj, fk, fe, fr, fw, ⟨hPm, hPa, hPl, hPe, hPr, hPk⟩, hFk, hFe, hFr, hpk, hn9⟩, AC.fail (by subst er_1 er_3; first | rfl | (simp [m_or, m_not, m_is0, m_lt0, m_fl, c_4]; done)) (by subst er_1 er_3; first | rfl | (simp [m_or, m_not, m_is0, m_lt0, m_fl, c_4]; done)) (fun z9 => c_4 (er_3.trans z9))⟩
set_option maxHeartbeats 4000000 in
set_option maxRecDepth 100000 in
/-- BestratiosModel.next(II)I -/
theorem c_X5_next (l : Launch) (D : va_G) (tk : Nat → ClassId) (N0 : Nat) (sa : Nat → Nat)  (sz : Nat) (P : Nat → Prop) (hPN : ∀ q, P q → N0 ≤ q) (hPs : ∀ q, sz ≤ q → P q) (mo n9 : Nat) (kn th : Int32) (tt bb : Nat → Int64) (eT eB oT oB : Int64) (pk : Nat) (ca rf : Int32) (vs : Nat → Value) (x1 : Int32) (x2 : Int32) : Met l yX5_next (wsy yX5_next cX5_next 5 (some .int)) ({ frames := 4, cells := 50, slots := 100, locals := 97 } : Room) (cP D tk N0 sa [.ref mo, .int x1, .int x2] sz (fun H => MI D tk sa P mo tt bb eT eB oT oB pk ca rf vs kn n9 th H)) (kQi (fun r H => ∃ th1 tt1 bb1 rf1, MI D tk sa P mo tt1 bb1 eT eB oT oB pk ca rf1 vs kn n9 th1 H ∧ AN (m_isNo x1) (m_not (m_isIn x2 1 50)) tt bb rf (nn x1) (m_NX (tt (nn x1)) (bb (nn x1)) (nn x2)) r th1 tt1 bb1 rf1) (P)) (50) (100) (P) := by
  refine mStart RX5 rfl (by decide +kernel) (Nat.le_of_ble_eq_true rfl) ?_
  intro p e s m args below meth c E hr hlk hnm hsz hC hF ls hl
  subst hsz
  obtain ⟨hx, hb, -⟩ := id E
  have hA : ∀ q, (P) q → N0 ≤ q := hPN
  have hn : ∀ q, s.heap.size ≤ q → (P) q := hPs
  have hS : va_S (P) s.heap s.heap [] := va_S.rf
  have hl : lv_has ls 5 [(0, .ref mo), (1, .int x1), (2, .int x2)] := hl
  obtain ⟨Q, hQ⟩ : ∃ Q, Q = MQ below (kQi (fun r H => ∃ th1 tt1 bb1 rf1, MI D tk sa P mo tt1 bb1 eT eB oT oB pk ca rf1 vs kn n9 th1 H ∧ AN (m_isNo x1) (m_not (m_isIn x2 1 50)) tt bb rf (nn x1) (m_NX (tt (nn x1)) (bb (nn x1)) (nn x2)) r th1 tt1 bb1 rf1) (P)) args s (50) (100) (P) := ⟨_, rfl⟩
  rw [← hQ]
  have hM : MI D tk sa P mo tt bb eT eB oT oB pk ca rf vs kn n9 th s.heap := hF
  obtain ⟨ra, rl, ex, ro, rt, fo, fj, fk, fe, fr, fw, ⟨hPm, hPa, hPl, hPe, hPr, hPk⟩, hFk, hFe, hFr, hpk, hn9⟩ := hM
  have g_fo := hPm
  have g_fj := hPa
  refine lv_aload_n (pc := 0) hx hb dX5_next_0 rfl (lv_at hl 0 rfl) ?_
  refine lv_iload_n (pc := 1) hx hb dX5_next_1 rfl (lv_at hl 1 rfl) ?_
  refine k_i (pc := 2) (k_S E hC hS hA hl.1 (c_X5_isNo l D tk N0 sa s.heap.size x1 ) kw_1245 kw_1246 kw_5 kw_1247 (n := 1) (by decide +kernel) rfl ⟨⟨rfl, rfl⟩, ⟨Nat.le_of_ble_eq_true rfl, Nat.le_of_ble_eq_true rfl⟩, (by dsimp only; omega), (by dsimp only; omega)⟩ rfl (Nat.le_of_ble_eq_true rfl) trivial dX5_next_2) hS (fun q z w => absurd w (Nat.not_le.mpr z)) hn (fun r_1 H locs hR hz hk hS => ?_)
  have er_1 := hR
  have fw := fw.new hk
  have fo := fo.kept (hk _ fo.lt (Nat.not_le.mpr fo.lt))
  have fj := fj.kept (hk _ fj.lt (Nat.not_le.mpr fj.lt))
  have fk := fk.new hk
  have fe := fe.kept (hk _ fe.lt (Nat.not_le.mpr fe.lt))
  have fr := fr.kept (hk _ fr.lt (Nat.not_le.mpr fr.lt))
  refine lv_iload_n (pc := 5) hx hb dX5_next_5 rfl (lv_at hl 2 rfl) ?_
  refine lv_iconst (pc := 6) (v := 1) hx hb dX5_next_6 (by decide) ?_
  refine lv_bipush (pc := 7) (v := 50) hx hb dX5_next_7 (by decide) ?_
  refine k_i (pc := 9) (k_S E hC hS hA hl.1 (c_X5_isIn l D tk N0 sa H.size x2 1 50 ) kw_1248 kw_1249 kw_5 kw_1250 (n := 3) (by decide +kernel) rfl ⟨⟨rfl, rfl⟩, ⟨Nat.le_of_ble_eq_true rfl, Nat.le_of_ble_eq_true rfl⟩, (by dsimp only; omega), (by dsimp only; omega)⟩ rfl (Nat.le_of_ble_eq_true rfl) trivial dX5_next_9) hS (fun q z w => absurd w (Nat.not_le.mpr z)) hn (fun r_3 H locs hR hz hk hS => ?_)
  have er_3 := hR
  have fw := fw.new hk
  have fo := fo.kept (hk _ fo.lt (Nat.not_le.mpr fo.lt))
  have fj := fj.kept (hk _ fj.lt (Nat.not_le.mpr fj.lt))
  have fk := fk.new hk
  have fe := fe.kept (hk _ fe.lt (Nat.not_le.mpr fe.lt))
  have fr := fr.kept (hk _ fr.lt (Nat.not_le.mpr fr.lt))
  refine lv_if_ne (pc := 12) (tgt := 19) hx hb dX5_next_12 (by decide) (fun c_5 => ?_) (fun c_5 => ?_)
  · refine lv_iconst (pc := 19) (v := 0) hx hb dX5_next_19 (by decide) ?_
    have hZ0_ := hS.1
    have t_fo := fo.lt
    have t_fj := fj.lt
    have t_fk := fun k (hk9 : k < 6) => (fk k hk9).lt
    have t_fe := fe.lt
    have t_fr := fr.lt
    refine k_i (pc := 20) (k_V E hC hS hA hl.1 (c1.recv hC fo rfl) rfl (c_X5_fails l D tk N0 sa H.size P hPN (fun q h9 => hPs q (Nat.le_trans hS.1 h9)) mo n9 kn th tt bb eT eB oT oB pk ca rf vs r_1 0 ) kw_1251 kw_1253 kp_20 kw_5 kw_1254 (n := 2) (by decide +kernel) rfl ⟨⟨rfl, rfl⟩, ⟨Nat.le_of_ble_eq_true rfl, Nat.le_of_ble_eq_true rfl⟩, (by dsimp only; omega), (by dsimp only; omega)⟩ rfl (Nat.le_of_ble_eq_true rfl) ⟨_, _, _, _, _, fo, fj, fk, fe, fr, fw, ⟨hPm, hPa, hPl, hPe, hPr, hPk⟩, hFk, hFe, hFr, hpk, hn9⟩ dX5_next_20) hS (fun q _ h => h) hn (fun r_6 H locs hR hz hk hS => ?_)
    obtain ⟨er_6, hM⟩ := hR
    obtain ⟨ra, rl, ex, ro, rt, fo, fj, fk, fe, fr, fw, ⟨hPm, hPa, hPl, hPe, hPr, hPk⟩, hFk, hFe, hFr, hpk, hn9⟩ := hM
    have g_fo := hPm
    have g_fj := hPa
    refine lv_if_eq (pc := 23) (tgt := 28) hx hb dX5_next_23 (by decide) (fun c_7 => ?_) (fun c_7 => ?_)
    · refine lv_aload_n (pc := 28) hx hb dX5_next_28 rfl (lv_at hl 0 rfl) ?_
      refine r_get (pc := 29) E hC fo 0 (v := .ref ra) rfl rfl (by decide) uX5 (List.mem_cons_of_mem _ kw_1209) (fun _ h => h) dX5_next_29 ?_
      refine lv_iload_n (pc := 32) hx hb dX5_next_32 rfl (lv_at hl 1 rfl) ?_
      obtain ⟨hx_8, hk_8⟩ := m_noN (er_1.symm.trans (m_fl0 (er_6.symm.trans c_7)).1)
      refine r_aaldJ (pc := 33) E hC fj (nn x1) hx_8 hk_8 (by decide) rfl dX5_next_33 ?_
      have fL9 := fk (nn x1) hk_8
      have mF_fL9 := hFk (nn x1) hk_8
      have Pq_fL9 := hPk (nn x1) hk_8
      have hZ0_ := hS.1
      have t_fo := fo.lt
      have t_fj := fj.lt
      have t_fk := fun k (hk9 : k < 6) => (fk k hk9).lt
      have t_fe := fe.lt
      have t_fr := fr.lt
      have t_fL9 := fL9.lt
      refine k_i (pc := 34) (k_S E hC hS hA hl.1 (c_X5_isAbove l D tk N0 sa H.size (rt (nn x1)) (tt (nn x1)) (bb (nn x1)) ) kw_1645 kw_1646 kw_5 kw_1647 (n := 1) (by decide +kernel) rfl ⟨⟨rfl, rfl⟩, ⟨Nat.le_of_ble_eq_true rfl, Nat.le_of_ble_eq_true rfl⟩, (by dsimp only; omega), (by dsimp only; omega)⟩ rfl (Nat.le_of_ble_eq_true rfl) fL9 dX5_next_34) hS (fun q z w => absurd w (Nat.not_le.mpr z)) hn (fun r_10 H locs hR hz hk hS => ?_)
      have fw := fw.new hk
      have fo := fo.kept (hk _ fo.lt (Nat.not_le.mpr fo.lt))
      have fj := fj.kept (hk _ fj.lt (Nat.not_le.mpr fj.lt))
      have fk := fk.new hk
      have fe := fe.kept (hk _ fe.lt (Nat.not_le.mpr fe.lt))
      have fr := fr.kept (hk _ fr.lt (Nat.not_le.mpr fr.lt))
      have fL9 := fL9.kept (hk _ fL9.lt (Nat.not_le.mpr fL9.lt))
      have er_10 := hR
      refine lv_if_eq (pc := 37) (tgt := 49) hx hb dX5_next_37 (by decide) (fun c_11 => ?_) (fun c_11 => ?_)
      · refine lv_null (pc := 49) hx hb dX5_next_49 ?_
        refine lv_astore_nN (pc := 50) (lv' := [(3, .null), (0, .ref mo), (1, .int x1), (2, .int x2)]) hx hb dX5_next_50 rfl hl (by decide) rfl (fun ls hl => ?_)
        obtain ⟨km, hkm1, hkm2, hkm3⟩ := m_in1 (x := x2) (hi_ := 50) (by decide) (fun z9 => c_5 (er_3.trans z9))
        refine lv_iconst (pc := 51) (v := 0) hx hb dX5_next_51 (by decide) ?_
        refine lv_istore (pc := 52) (lv' := [(4, .int 0), (3, .null), (0, .ref mo), (1, .int x1), (2, .int x2)]) hx hb dX5_next_52 hl (by decide) rfl (fun ls hl => ?_)
        refine lv_iload (pc := 54) hx hb dX5_next_54 (lv_at hl 0 rfl) ?_
        refine lv_iload_n (pc := 56) hx hb dX5_next_56 rfl (lv_at hl 4 rfl) ?_
        refine lv_icmp_ge (pc := 57) (tgt := 78) hx hb dX5_next_57 (by decide) (fun c_12 => ?_) (fun c_12 => ?_)
        · refine lv_aload_nN (pc := 78) hx hb dX5_next_78 rfl (lv_at hl 1 rfl) ?_
          have hZ0_ := hS.1
          have t_fo := fo.lt
          have t_fj := fj.lt
          have t_fk := fun k (hk9 : k < 6) => (fk k hk9).lt
          have t_fe := fe.lt
          have t_fr := fr.lt
          have t_fL9 := fL9.lt
          refine k_i (pc := 79) (k_S E hC hS hA hl.1 (c_X5_isFit_N l D tk N0 sa H.size  ) kw_1259 kw_1260 kw_5 kw_1261 (n := 1) (by decide +kernel) rfl ⟨⟨rfl, rfl⟩, ⟨Nat.le_of_ble_eq_true rfl, Nat.le_of_ble_eq_true rfl⟩, (by dsimp only; omega), (by dsimp only; omega)⟩ rfl (Nat.le_of_ble_eq_true rfl) trivial dX5_next_79) hS (fun q z w => absurd w (Nat.not_le.mpr z)) hn (fun r_13 H locs hR hz hk hS => ?_)
          have fw := fw.new hk
          have fo := fo.kept (hk _ fo.lt (Nat.not_le.mpr fo.lt))
          have fj := fj.kept (hk _ fj.lt (Nat.not_le.mpr fj.lt))
          have fk := fk.new hk
          have fe := fe.kept (hk _ fe.lt (Nat.not_le.mpr fe.lt))
          have fr := fr.kept (hk _ fr.lt (Nat.not_le.mpr fr.lt))
          have fL9 := fL9.kept (hk _ fL9.lt (Nat.not_le.mpr fL9.lt))
          rw [show r_13 = 0 from hR]
          refine lv_if_eq (pc := 82) (tgt := 96) hx hb dX5_next_82 (by decide) (fun c_14 => ?_) (fun c_14 => ?_)
          rotate_left
          · exact absurd (by decide) c_14
          refine lv_aload_n (pc := 96) hx hb dX5_next_96 rfl (lv_at hl 2 rfl) ?_
          have hZ0_ := hS.1
          have t_fo := fo.lt
          have t_fj := fj.lt
          have t_fk := fun k (hk9 : k < 6) => (fk k hk9).lt
          have t_fe := fe.lt
          have t_fr := fr.lt
          have t_fL9 := fL9.lt
          refine k_i (pc := 97) (k_V E hC hS hA hl.1 (c1.recv hC fo rfl) rfl (c_X5_no l D tk N0 sa H.size P hPN (fun q h9 => hPs q (Nat.le_trans hS.1 h9)) mo n9 kn ((m_th r_1 0)) tt bb eT eB oT oB pk ca rf vs  ) kw_1264 kw_1266 kp_22 kw_5 kw_1267 (n := 0) (by decide +kernel) rfl ⟨⟨rfl, rfl⟩, ⟨Nat.le_of_ble_eq_true rfl, Nat.le_of_ble_eq_true rfl⟩, (by dsimp only; omega), (by dsimp only; omega)⟩ rfl (Nat.le_of_ble_eq_true rfl) ⟨_, _, _, _, _, fo, fj, fk, fe, fr, fw, ⟨hPm, hPa, hPl, hPe, hPr, hPk⟩, hFk, hFe, hFr, hpk, hn9⟩ dX5_next_97) hS (fun q _ h => h) hn (fun r_15 H locs hR hz hk hS => ?_)
          obtain ⟨er_15, hM⟩ := hR
          obtain ⟨ra, rl, ex, ro, rt, fo, fj, fk, fe, fr, fw, ⟨hPm, hPa, hPl, hPe, hPr, hPk⟩, hFk, hFe, hFr, hpk, hn9⟩ := hM
          have g_fo := hPm
          have g_fj := hPa
          try rw [hQ]
          refine r_iret (pc := 100) E hr hlk hS (by omega) (by omega) ?_ dX5_next_100
          exact ⟨_, _, _, _, ⟨_, _, _, _, _, fo, fj, fk, fe, fr, fw, ⟨hPm, hPa, hPl, hPe, hPr, hPk⟩, hFk, hFe, hFr, hpk, hn9⟩, AN.no (by subst er_1 er_3 er_6 er_10 er_15; first | rfl | (simp [m_or, m_not, m_is0, m_lt0, m_fl, c_5, c_7, c_11, c_12, Int32.not_lt.mpr c_12]; done)) (by subst er_1 er_3 er_6 er_10 er_15; first | rfl | (simp [m_or, m_not, m_is0, m_lt0, m_fl, c_5, c_7, c_11, c_12, Int32.not_lt.mpr c_12]; done)) (er_6.symm.trans c_7) (by unfold m_NX; rw [if_pos (er_10.symm.trans c_11)]) er_15⟩
        · refine lv_aload_nN (pc := 60) hx hb dX5_next_60 rfl (lv_at hl 1 rfl) ?_
          have hZ0_ := hS.1
          have t_fo := fo.lt
          have t_fj := fj.lt
          have t_fk := fun k (hk9 : k < 6) => (fk k hk9).lt
          have t_fe := fe.lt
          have t_fr := fr.lt
          have t_fL9 := fL9.lt
          refine k_i (pc := 61) (k_S E hC hS hA hl.1 (c_X5_isFit_N l D tk N0 sa H.size  ) kw_1259 kw_1260 kw_5 kw_1261 (n := 1) (by decide +kernel) rfl ⟨⟨rfl, rfl⟩, ⟨Nat.le_of_ble_eq_true rfl, Nat.le_of_ble_eq_true rfl⟩, (by dsimp only; omega), (by dsimp only; omega)⟩ rfl (Nat.le_of_ble_eq_true rfl) trivial dX5_next_61) hS (fun q z w => absurd w (Nat.not_le.mpr z)) hn (fun r_16 H locs hR hz hk hS => ?_)
          have fw := fw.new hk
          have fo := fo.kept (hk _ fo.lt (Nat.not_le.mpr fo.lt))
          have fj := fj.kept (hk _ fj.lt (Nat.not_le.mpr fj.lt))
          have fk := fk.new hk
          have fe := fe.kept (hk _ fe.lt (Nat.not_le.mpr fe.lt))
          have fr := fr.kept (hk _ fr.lt (Nat.not_le.mpr fr.lt))
          have fL9 := fL9.kept (hk _ fL9.lt (Nat.not_le.mpr fL9.lt))
          rw [show r_16 = 0 from hR]
          refine lv_if_eq (pc := 64) (tgt := 78) hx hb dX5_next_64 (by decide) (fun c_17 => ?_) (fun c_17 => ?_)
          rotate_left
          · exact absurd (by decide) c_17
          refine lv_aload_nN (pc := 78) hx hb dX5_next_78 rfl (lv_at hl 1 rfl) ?_
          have hZ0_ := hS.1
          have t_fo := fo.lt
          have t_fj := fj.lt
          have t_fk := fun k (hk9 : k < 6) => (fk k hk9).lt
          have t_fe := fe.lt
          have t_fr := fr.lt
          have t_fL9 := fL9.lt
          refine k_i (pc := 79) (k_S E hC hS hA hl.1 (c_X5_isFit_N l D tk N0 sa H.size  ) kw_1259 kw_1260 kw_5 kw_1261 (n := 1) (by decide +kernel) rfl ⟨⟨rfl, rfl⟩, ⟨Nat.le_of_ble_eq_true rfl, Nat.le_of_ble_eq_true rfl⟩, (by dsimp only; omega), (by dsimp only; omega)⟩ rfl (Nat.le_of_ble_eq_true rfl) trivial dX5_next_79) hS (fun q z w => absurd w (Nat.not_le.mpr z)) hn (fun r_18 H locs hR hz hk hS => ?_)
          have fw := fw.new hk
          have fo := fo.kept (hk _ fo.lt (Nat.not_le.mpr fo.lt))
          have fj := fj.kept (hk _ fj.lt (Nat.not_le.mpr fj.lt))
          have fk := fk.new hk
          have fe := fe.kept (hk _ fe.lt (Nat.not_le.mpr fe.lt))
          have fr := fr.kept (hk _ fr.lt (Nat.not_le.mpr fr.lt))
          have fL9 := fL9.kept (hk _ fL9.lt (Nat.not_le.mpr fL9.lt))
          rw [show r_18 = 0 from hR]
          refine lv_if_eq (pc := 82) (tgt := 96) hx hb dX5_next_82 (by decide) (fun c_19 => ?_) (fun c_19 => ?_)
          rotate_left
          · exact absurd (by decide) c_19
          refine lv_aload_n (pc := 96) hx hb dX5_next_96 rfl (lv_at hl 2 rfl) ?_
          have hZ0_ := hS.1
          have t_fo := fo.lt
          have t_fj := fj.lt
          have t_fk := fun k (hk9 : k < 6) => (fk k hk9).lt
          have t_fe := fe.lt
          have t_fr := fr.lt
          have t_fL9 := fL9.lt
          refine k_i (pc := 97) (k_V E hC hS hA hl.1 (c1.recv hC fo rfl) rfl (c_X5_no l D tk N0 sa H.size P hPN (fun q h9 => hPs q (Nat.le_trans hS.1 h9)) mo n9 kn ((m_th r_1 0)) tt bb eT eB oT oB pk ca rf vs  ) kw_1264 kw_1266 kp_22 kw_5 kw_1267 (n := 0) (by decide +kernel) rfl ⟨⟨rfl, rfl⟩, ⟨Nat.le_of_ble_eq_true rfl, Nat.le_of_ble_eq_true rfl⟩, (by dsimp only; omega), (by dsimp only; omega)⟩ rfl (Nat.le_of_ble_eq_true rfl) ⟨_, _, _, _, _, fo, fj, fk, fe, fr, fw, ⟨hPm, hPa, hPl, hPe, hPr, hPk⟩, hFk, hFe, hFr, hpk, hn9⟩ dX5_next_97) hS (fun q _ h => h) hn (fun r_20 H locs hR hz hk hS => ?_)
          obtain ⟨er_20, hM⟩ := hR
          obtain ⟨ra, rl, ex, ro, rt, fo, fj, fk, fe, fr, fw, ⟨hPm, hPa, hPl, hPe, hPr, hPk⟩, hFk, hFe, hFr, hpk, hn9⟩ := hM
          have g_fo := hPm
          have g_fj := hPa
          try rw [hQ]
          refine r_iret (pc := 100) E hr hlk hS (by omega) (by omega) ?_ dX5_next_100
          exact ⟨_, _, _, _, ⟨_, _, _, _, _, fo, fj, fk, fe, fr, fw, ⟨hPm, hPa, hPl, hPe, hPr, hPk⟩, hFk, hFe, hFr, hpk, hn9⟩, AN.no (by subst er_1 er_3 er_6 er_10 er_20; first | rfl | (simp [m_or, m_not, m_is0, m_lt0, m_fl, c_5, c_7, c_11, c_12, Int32.not_le.mp c_12]; done)) (by subst er_1 er_3 er_6 er_10 er_20; first | rfl | (simp [m_or, m_not, m_is0, m_lt0, m_fl, c_5, c_7, c_11, c_12, Int32.not_le.mp c_12]; done)) (er_6.symm.trans c_7) (by unfold m_NX; rw [if_pos (er_10.symm.trans c_11)]) er_20⟩
      · refine lv_aload_n (pc := 40) hx hb dX5_next_40 rfl (lv_at hl 0 rfl) ?_
        refine r_get (pc := 41) E hC fo 0 (v := .ref ra) rfl rfl (by decide) uX5 (List.mem_cons_of_mem _ kw_1209) (fun _ h => h) dX5_next_41 ?_
        refine lv_iload_n (pc := 44) hx hb dX5_next_44 rfl (lv_at hl 1 rfl) ?_
        refine r_aaldJ (pc := 45) E hC fj (nn x1) hx_8 hk_8 (by decide) rfl dX5_next_45 ?_
        have fL21 := fk (nn x1) hk_8
        have mF_fL21 := hFk (nn x1) hk_8
        have Pq_fL21 := hPk (nn x1) hk_8
        refine lv_goto (pc := 46) (tgt := 50) hx hb dX5_next_46 (by decide) ?_
        refine lv_astore_n (pc := 50) (lv' := [(3, .ref (rt (nn x1))), (0, .ref mo), (1, .int x1), (2, .int x2)]) hx hb dX5_next_50 rfl hl (by decide) rfl (fun ls hl => ?_)
        have hab : 1 ≤ (tt (nn x1)).toInt := m_abv1 (by rw [← er_10]; exact c_11)
        obtain ⟨km, hkm1, hkm2, hkm3⟩ := m_in1 (x := x2) (hi_ := 50) (by decide) (fun z9 => c_5 (er_3.trans z9))
        refine lv_iconst (pc := 51) (v := 0) hx hb dX5_next_51 (by decide) ?_
        refine lv_istore (pc := 52) (lv' := [(4, .int 0), (3, .ref (rt (nn x1))), (0, .ref mo), (1, .int x1), (2, .int x2)]) hx hb dX5_next_52 hl (by decide) rfl (fun ls hl => ?_)
        have loop_54 : ∀ (n : Nat) (k : Nat) (t9 : Int64) (b9 : Int64)(q9 : Nat) (y9 : Int32), 51 - k < n → k ≤ 50 → y9 = nI k → 1 ≤ t9.toInt ∧ 1 ≤ b9.toInt → P q9 → m_nxL (km - k) t9 b9 = m_nxL km (tt (nn x1)) (bb (nn x1)) → k ≤ km → ∀ (H : Heap) (locs : List Loc) (ls : Array Slot), va_S (P) s.heap H locs → c1 D mo (.inr (13, [.ref ra, .ref rl, .ref ex, .ref ro, .int (nI pk), .int ca, .int rf, .int kn, .int ((m_th r_1 0))])) H → c1 D ra (.inl (tk 3, 6, .inr (.inr (.inr (.inr (fun k => some (rt k))))))) H → MK D tk rt tt bb H → L2 D tk ex eT eB H → L2 D tk ro oT oB H → RW D tk sa P rl n9 vs H → L2 D tk q9 t9 b9 H → lv_has ls 5 [(0, .ref mo), (1, .int x1), (2, .int x2), (3, .ref q9), (4, .int y9)] → W p l e ({ frames := 4, cells := 50, slots := 100, locals := 97 } : Room) s m args below meth c H locs (k) (2 * k) Q (F0 m 54 ls []) := by
          intro n
          induction n with
          | zero =>
            intro k t9 b9 q9 y9 hf9 hk9 hx9 hb9 hq9 hg9 hkk H locs ls hS fo fj fk fe fr fw fm hl
            omega
          | succ n ih_54 =>
            intro k t9 b9 q9 y9 hf9 hk9 hx9 hb9 hq9 hg9 hkk H locs ls hS fo fj fk fe fr fw fm hl
            refine lv_iload (pc := 54) hx hb dX5_next_54 (lv_at hl 4 rfl) ?_
            refine lv_iload_n (pc := 56) hx hb dX5_next_56 rfl (lv_at hl 2 rfl) ?_
            refine lv_icmp_ge (pc := 57) (tgt := 78) hx hb dX5_next_57 (by decide) (fun c_22 => ?_) (fun c_22 => ?_)
            · have hfin : m_nxL km (tt (nn x1)) (bb (nn x1)) = (t9, b9) := by
                have h8 : km ≤ k := by
                  have h7 := c_22
                  rw [hkm1, hx9] at h7
                  exact (nI_leI (by omega) (by omega)).mp h7
                rw [← hg9, show km - k = 0 by omega]
                rfl
              refine lv_aload_n (pc := 78) hx hb dX5_next_78 rfl (lv_at hl 3 rfl) ?_
              have hZ0_ := hS.1
              have t_fo := fo.lt
              have t_fj := fj.lt
              have t_fk := fun k (hk9 : k < 6) => (fk k hk9).lt
              have t_fe := fe.lt
              have t_fr := fr.lt
              have t_fm := fm.lt
              refine k_i (pc := 79) (k_S E hC hS hA hl.1 (c_X5_isFit l D tk N0 sa H.size q9 t9 b9 ) kw_1259 kw_1260 kw_5 kw_1261 (n := 1) (by decide +kernel) rfl ⟨⟨rfl, rfl⟩, ⟨Nat.le_of_ble_eq_true rfl, Nat.le_of_ble_eq_true rfl⟩, (by dsimp only; omega), (by dsimp only; omega)⟩ rfl (Nat.le_of_ble_eq_true rfl) fm dX5_next_79) hS (fun q z w => absurd w (Nat.not_le.mpr z)) hn (fun r_23 H locs hR hz hk hS => ?_)
              have fw := fw.new hk
              have fo := fo.kept (hk _ fo.lt (Nat.not_le.mpr fo.lt))
              have fj := fj.kept (hk _ fj.lt (Nat.not_le.mpr fj.lt))
              have fk := fk.new hk
              have fe := fe.kept (hk _ fe.lt (Nat.not_le.mpr fe.lt))
              have fr := fr.kept (hk _ fr.lt (Nat.not_le.mpr fr.lt))
              have fm := fm.kept (hk _ fm.lt (Nat.not_le.mpr fm.lt))
              have er_23 := hR
              refine lv_if_eq (pc := 82) (tgt := 96) hx hb dX5_next_82 (by decide) (fun c_24 => ?_) (fun c_24 => ?_)
              · refine lv_aload_n (pc := 96) hx hb dX5_next_96 rfl (lv_at hl 0 rfl) ?_
                have hZ0_ := hS.1
                have t_fo := fo.lt
                have t_fj := fj.lt
                have t_fk := fun k (hk9 : k < 6) => (fk k hk9).lt
                have t_fe := fe.lt
                have t_fr := fr.lt
                have t_fm := fm.lt
                refine k_i (pc := 97) (k_V E hC hS hA hl.1 (c1.recv hC fo rfl) rfl (c_X5_no l D tk N0 sa H.size P hPN (fun q h9 => hPs q (Nat.le_trans hS.1 h9)) mo n9 kn ((m_th r_1 0)) tt bb eT eB oT oB pk ca rf vs  ) kw_1264 kw_1266 kp_22 kw_5 kw_1267 (n := 0) (by decide +kernel) rfl ⟨⟨rfl, rfl⟩, ⟨Nat.le_of_ble_eq_true rfl, Nat.le_of_ble_eq_true rfl⟩, (by dsimp only; omega), (by dsimp only; omega)⟩ rfl (Nat.le_of_ble_eq_true rfl) ⟨_, _, _, _, _, fo, fj, fk, fe, fr, fw, ⟨hPm, hPa, hPl, hPe, hPr, hPk⟩, hFk, hFe, hFr, hpk, hn9⟩ dX5_next_97) hS (fun q _ h => h) hn (fun r_25 H locs hR hz hk hS => ?_)
                obtain ⟨er_25, hM⟩ := hR
                obtain ⟨ra, rl, ex, ro, rt, fo, fj, fk, fe, fr, fw, ⟨hPm, hPa, hPl, hPe, hPr, hPk⟩, hFk, hFe, hFr, hpk, hn9⟩ := hM
                have g_fo := hPm
                have g_fj := hPa
                try rw [hQ]
                refine r_iret (pc := 100) E hr hlk hS (by omega) (by omega) ?_ dX5_next_100
                exact ⟨_, _, _, _, ⟨_, _, _, _, _, fo, fj, fk, fe, fr, fw, ⟨hPm, hPa, hPl, hPe, hPr, hPk⟩, hFk, hFe, hFr, hpk, hn9⟩, AN.no (by subst er_1 er_3 er_6 er_10 er_23 er_25; first | rfl | (simp [m_or, m_not, m_is0, m_lt0, m_fl, c_5, c_7, c_11, c_22, Int32.not_lt.mpr c_22, c_24]; done)) (by subst er_1 er_3 er_6 er_10 er_23 er_25; first | rfl | (simp [m_or, m_not, m_is0, m_lt0, m_fl, c_5, c_7, c_11, c_22, Int32.not_lt.mpr c_22, c_24]; done)) (er_6.symm.trans c_7) (by unfold m_NX; rw [show nn x2 = km from by rw [hkm1]; exact nI_clamp (by omega), hfin, if_neg (fun z9 => (q_abv.mp z9) hab), if_pos (er_23.symm.trans c_24)]) er_25⟩
              · refine lv_aload_n (pc := 85) hx hb dX5_next_85 rfl (lv_at hl 0 rfl) ?_
                refine lv_iload_n (pc := 86) hx hb dX5_next_86 rfl (lv_at hl 1 rfl) ?_
                refine lv_aload_n (pc := 87) hx hb dX5_next_87 rfl (lv_at hl 3 rfl) ?_
                have hZ0_ := hS.1
                have t_fo := fo.lt
                have t_fj := fj.lt
                have t_fk := fun k (hk9 : k < 6) => (fk k hk9).lt
                have t_fe := fe.lt
                have t_fr := fr.lt
                have t_fm := fm.lt
                refine k_i (pc := 88) (k_V E hC hS hA hl.1 (c1.recv hC fo rfl) rfl (c_X5_become l D tk N0 sa H.size P hPN (fun q h9 => hPs q (Nat.le_trans hS.1 h9)) mo n9 kn ((m_th r_1 0)) tt bb eT eB oT oB pk ca rf vs x1 (nn x1) hx_8 hk_8 q9 t9 b9 hq9 hb9.2) kw_1255 kw_1257 kp_21 kw_5 kw_1258 (n := 2) (by decide +kernel) rfl ⟨⟨rfl, rfl⟩, ⟨Nat.le_of_ble_eq_true rfl, Nat.le_of_ble_eq_true rfl⟩, (by dsimp only; omega), (by dsimp only; omega)⟩ rfl (Nat.le_of_ble_eq_true rfl) ⟨⟨_, _, _, _, _, fo, fj, fk, fe, fr, fw, ⟨hPm, hPa, hPl, hPe, hPr, hPk⟩, hFk, hFe, hFr, hpk, hn9⟩, fm⟩ dX5_next_88) hS (fun q _ h => h) hn (fun r_26 H locs hR hz hk hS => ?_)
                obtain ⟨tt_27, bb_27, rf_27, hM, hBE_27⟩ := hR
                obtain ⟨ra, rl, ex, ro, rt, fo, fj, fk, fe, fr, fw, ⟨hPm, hPa, hPl, hPe, hPr, hPk⟩, hFk, hFe, hFr, hpk, hn9⟩ := hM
                have g_fo := hPm
                have g_fj := hPa
                refine lv_iconst (pc := 91) (v := 1) hx hb dX5_next_91 (by decide) ?_
                refine lv_ior (pc := 92) hx hb dX5_next_92 ?_
                refine lv_goto (pc := 93) (tgt := 100) hx hb dX5_next_93 (by decide) ?_
                try rw [hQ]
                refine r_iret (pc := 100) E hr hlk hS (by omega) (by omega) ?_ dX5_next_100
                exact ⟨_, _, _, _, ⟨_, _, _, _, _, fo, fj, fk, fe, fr, fw, ⟨hPm, hPa, hPl, hPe, hPr, hPk⟩, hFk, hFe, hFr, hpk, hn9⟩, AN.ok (by subst er_1 er_3 er_6 er_10 er_23; first | rfl | (simp [m_or, m_not, m_is0, m_lt0, m_fl, c_5, c_7, c_11, c_22, Int32.not_lt.mpr c_22, c_24]; done)) (by subst er_1 er_3 er_6 er_10 er_23; first | rfl | (simp [m_or, m_not, m_is0, m_lt0, m_fl, c_5, c_7, c_11, c_22, Int32.not_lt.mpr c_22, c_24]; done)) (er_6.symm.trans c_7) (hBE_27.cast (by unfold m_NX; rw [show nn x2 = km from by rw [hkm1]; exact nI_clamp (by omega), hfin, if_neg (fun z9 => (q_abv.mp z9) hab), if_neg (fun z9 => c_24 (er_23.trans z9))])) rfl⟩
            · refine lv_aload_n (pc := 60) hx hb dX5_next_60 rfl (lv_at hl 3 rfl) ?_
              have hZ0_ := hS.1
              have t_fo := fo.lt
              have t_fj := fj.lt
              have t_fk := fun k (hk9 : k < 6) => (fk k hk9).lt
              have t_fe := fe.lt
              have t_fr := fr.lt
              have t_fm := fm.lt
              refine k_i (pc := 61) (k_S E hC hS hA hl.1 (c_X5_isFit l D tk N0 sa H.size q9 t9 b9 ) kw_1259 kw_1260 kw_5 kw_1261 (n := 1) (by decide +kernel) rfl ⟨⟨rfl, rfl⟩, ⟨Nat.le_of_ble_eq_true rfl, Nat.le_of_ble_eq_true rfl⟩, (by dsimp only; omega), (by dsimp only; omega)⟩ rfl (Nat.le_of_ble_eq_true rfl) fm dX5_next_61) hS (fun q z w => absurd w (Nat.not_le.mpr z)) hn (fun r_28 H locs hR hz hk hS => ?_)
              have fw := fw.new hk
              have fo := fo.kept (hk _ fo.lt (Nat.not_le.mpr fo.lt))
              have fj := fj.kept (hk _ fj.lt (Nat.not_le.mpr fj.lt))
              have fk := fk.new hk
              have fe := fe.kept (hk _ fe.lt (Nat.not_le.mpr fe.lt))
              have fr := fr.kept (hk _ fr.lt (Nat.not_le.mpr fr.lt))
              have fm := fm.kept (hk _ fm.lt (Nat.not_le.mpr fm.lt))
              have er_28 := hR
              refine lv_if_eq (pc := 64) (tgt := 78) hx hb dX5_next_64 (by decide) (fun c_29 => ?_) (fun c_29 => ?_)
              · have hfin : m_nxL km (tt (nn x1)) (bb (nn x1)) = (t9, b9) := by
                  rw [← hg9]
                  exact m_nxLz (by rw [← er_28]; exact c_29)
                refine lv_aload_n (pc := 78) hx hb dX5_next_78 rfl (lv_at hl 3 rfl) ?_
                have hZ0_ := hS.1
                have t_fo := fo.lt
                have t_fj := fj.lt
                have t_fk := fun k (hk9 : k < 6) => (fk k hk9).lt
                have t_fe := fe.lt
                have t_fr := fr.lt
                have t_fm := fm.lt
                refine k_i (pc := 79) (k_S E hC hS hA hl.1 (c_X5_isFit l D tk N0 sa H.size q9 t9 b9 ) kw_1259 kw_1260 kw_5 kw_1261 (n := 1) (by decide +kernel) rfl ⟨⟨rfl, rfl⟩, ⟨Nat.le_of_ble_eq_true rfl, Nat.le_of_ble_eq_true rfl⟩, (by dsimp only; omega), (by dsimp only; omega)⟩ rfl (Nat.le_of_ble_eq_true rfl) fm dX5_next_79) hS (fun q z w => absurd w (Nat.not_le.mpr z)) hn (fun r_30 H locs hR hz hk hS => ?_)
                have fw := fw.new hk
                have fo := fo.kept (hk _ fo.lt (Nat.not_le.mpr fo.lt))
                have fj := fj.kept (hk _ fj.lt (Nat.not_le.mpr fj.lt))
                have fk := fk.new hk
                have fe := fe.kept (hk _ fe.lt (Nat.not_le.mpr fe.lt))
                have fr := fr.kept (hk _ fr.lt (Nat.not_le.mpr fr.lt))
                have fm := fm.kept (hk _ fm.lt (Nat.not_le.mpr fm.lt))
                have er_30 := hR
                refine lv_if_eq (pc := 82) (tgt := 96) hx hb dX5_next_82 (by decide) (fun c_31 => ?_) (fun c_31 => ?_)
                · refine lv_aload_n (pc := 96) hx hb dX5_next_96 rfl (lv_at hl 0 rfl) ?_
                  have hZ0_ := hS.1
                  have t_fo := fo.lt
                  have t_fj := fj.lt
                  have t_fk := fun k (hk9 : k < 6) => (fk k hk9).lt
                  have t_fe := fe.lt
                  have t_fr := fr.lt
                  have t_fm := fm.lt
                  refine k_i (pc := 97) (k_V E hC hS hA hl.1 (c1.recv hC fo rfl) rfl (c_X5_no l D tk N0 sa H.size P hPN (fun q h9 => hPs q (Nat.le_trans hS.1 h9)) mo n9 kn ((m_th r_1 0)) tt bb eT eB oT oB pk ca rf vs  ) kw_1264 kw_1266 kp_22 kw_5 kw_1267 (n := 0) (by decide +kernel) rfl ⟨⟨rfl, rfl⟩, ⟨Nat.le_of_ble_eq_true rfl, Nat.le_of_ble_eq_true rfl⟩, (by dsimp only; omega), (by dsimp only; omega)⟩ rfl (Nat.le_of_ble_eq_true rfl) ⟨_, _, _, _, _, fo, fj, fk, fe, fr, fw, ⟨hPm, hPa, hPl, hPe, hPr, hPk⟩, hFk, hFe, hFr, hpk, hn9⟩ dX5_next_97) hS (fun q _ h => h) hn (fun r_32 H locs hR hz hk hS => ?_)
                  obtain ⟨er_32, hM⟩ := hR
                  obtain ⟨ra, rl, ex, ro, rt, fo, fj, fk, fe, fr, fw, ⟨hPm, hPa, hPl, hPe, hPr, hPk⟩, hFk, hFe, hFr, hpk, hn9⟩ := hM
                  have g_fo := hPm
                  have g_fj := hPa
                  try rw [hQ]
                  refine r_iret (pc := 100) E hr hlk hS (by omega) (by omega) ?_ dX5_next_100
                  exact ⟨_, _, _, _, ⟨_, _, _, _, _, fo, fj, fk, fe, fr, fw, ⟨hPm, hPa, hPl, hPe, hPr, hPk⟩, hFk, hFe, hFr, hpk, hn9⟩, AN.no (by subst er_1 er_3 er_6 er_10 er_28 er_30 er_32; first | rfl | (simp [m_or, m_not, m_is0, m_lt0, m_fl, c_5, c_7, c_11, c_22, Int32.not_le.mp c_22, c_29, c_31]; done)) (by subst er_1 er_3 er_6 er_10 er_28 er_30 er_32; first | rfl | (simp [m_or, m_not, m_is0, m_lt0, m_fl, c_5, c_7, c_11, c_22, Int32.not_le.mp c_22, c_29, c_31]; done)) (er_6.symm.trans c_7) (by unfold m_NX; rw [show nn x2 = km from by rw [hkm1]; exact nI_clamp (by omega), hfin, if_neg (fun z9 => (q_abv.mp z9) hab), if_pos (er_30.symm.trans c_31)]) er_32⟩
                · refine lv_aload_n (pc := 85) hx hb dX5_next_85 rfl (lv_at hl 0 rfl) ?_
                  refine lv_iload_n (pc := 86) hx hb dX5_next_86 rfl (lv_at hl 1 rfl) ?_
                  refine lv_aload_n (pc := 87) hx hb dX5_next_87 rfl (lv_at hl 3 rfl) ?_
                  have hZ0_ := hS.1
                  have t_fo := fo.lt
                  have t_fj := fj.lt
                  have t_fk := fun k (hk9 : k < 6) => (fk k hk9).lt
                  have t_fe := fe.lt
                  have t_fr := fr.lt
                  have t_fm := fm.lt
                  refine k_i (pc := 88) (k_V E hC hS hA hl.1 (c1.recv hC fo rfl) rfl (c_X5_become l D tk N0 sa H.size P hPN (fun q h9 => hPs q (Nat.le_trans hS.1 h9)) mo n9 kn ((m_th r_1 0)) tt bb eT eB oT oB pk ca rf vs x1 (nn x1) hx_8 hk_8 q9 t9 b9 hq9 hb9.2) kw_1255 kw_1257 kp_21 kw_5 kw_1258 (n := 2) (by decide +kernel) rfl ⟨⟨rfl, rfl⟩, ⟨Nat.le_of_ble_eq_true rfl, Nat.le_of_ble_eq_true rfl⟩, (by dsimp only; omega), (by dsimp only; omega)⟩ rfl (Nat.le_of_ble_eq_true rfl) ⟨⟨_, _, _, _, _, fo, fj, fk, fe, fr, fw, ⟨hPm, hPa, hPl, hPe, hPr, hPk⟩, hFk, hFe, hFr, hpk, hn9⟩, fm⟩ dX5_next_88) hS (fun q _ h => h) hn (fun r_33 H locs hR hz hk hS => ?_)
                  obtain ⟨tt_34, bb_34, rf_34, hM, hBE_34⟩ := hR
                  obtain ⟨ra, rl, ex, ro, rt, fo, fj, fk, fe, fr, fw, ⟨hPm, hPa, hPl, hPe, hPr, hPk⟩, hFk, hFe, hFr, hpk, hn9⟩ := hM
                  have g_fo := hPm
                  have g_fj := hPa
                  refine lv_iconst (pc := 91) (v := 1) hx hb dX5_next_91 (by decide) ?_
                  refine lv_ior (pc := 92) hx hb dX5_next_92 ?_
                  refine lv_goto (pc := 93) (tgt := 100) hx hb dX5_next_93 (by decide) ?_
                  try rw [hQ]
                  refine r_iret (pc := 100) E hr hlk hS (by omega) (by omega) ?_ dX5_next_100
                  exact ⟨_, _, _, _, ⟨_, _, _, _, _, fo, fj, fk, fe, fr, fw, ⟨hPm, hPa, hPl, hPe, hPr, hPk⟩, hFk, hFe, hFr, hpk, hn9⟩, AN.ok (by subst er_1 er_3 er_6 er_10 er_28 er_30; first | rfl | (simp [m_or, m_not, m_is0, m_lt0, m_fl, c_5, c_7, c_11, c_22, Int32.not_le.mp c_22, c_29, c_31]; done)) (by subst er_1 er_3 er_6 er_10 er_28 er_30; first | rfl | (simp [m_or, m_not, m_is0, m_lt0, m_fl, c_5, c_7, c_11, c_22, Int32.not_le.mp c_22, c_29, c_31]; done)) (er_6.symm.trans c_7) (hBE_34.cast (by unfold m_NX; rw [show nn x2 = km from by rw [hkm1]; exact nI_clamp (by omega), hfin, if_neg (fun z9 => (q_abv.mp z9) hab), if_neg (fun z9 => c_31 (er_30.trans z9))])) rfl⟩
              · refine lv_aload_n (pc := 67) hx hb dX5_next_67 rfl (lv_at hl 3 rfl) ?_
                have hnf9 : ¬ m_fit t9 b9 = 0 := by rw [← er_28]; exact c_29
                have hF9 := m_fit1 (t := t9) (b := b9) (by rw [← er_28]; exact c_29) hb9.2
                have hP9 := m_nxtP hF9 hb9.1
                have hlt50 : k < km := Nat.not_le.mp (fun z9 => c_22 (by rw [hkm1, hx9]; exact nI_le z9 (by omega)))
                have hZ0_ := hS.1
                have t_fo := fo.lt
                have t_fj := fj.lt
                have t_fk := fun k (hk9 : k < 6) => (fk k hk9).lt
                have t_fe := fe.lt
                have t_fr := fr.lt
                have t_fm := fm.lt
                refine k_r (pc := 68) (k_S E hC hS hA hl.1 (c_X5_nextOf l D tk N0 sa H.size q9 t9 b9 hP9.1 hP9.2.1) kw_1689 kw_1690 kw_5 kw_1691 (n := 1) (by decide +kernel) rfl ⟨⟨rfl, rfl⟩, ⟨Nat.le_of_ble_eq_true rfl, Nat.le_of_ble_eq_true rfl⟩, (by dsimp only; omega), (by dsimp only; omega)⟩ rfl (Nat.le_of_ble_eq_true rfl) fm dX5_next_68) hS (fun q z w => absurd w (Nat.not_le.mpr z)) hn (fun r_35 H locs hR hz hk hS => ?_)
                have fw := fw.new hk
                have fo := fo.kept (hk _ fo.lt (Nat.not_le.mpr fo.lt))
                have fj := fj.kept (hk _ fj.lt (Nat.not_le.mpr fj.lt))
                have fk := fk.new hk
                have fe := fe.kept (hk _ fe.lt (Nat.not_le.mpr fe.lt))
                have fr := fr.kept (hk _ fr.lt (Nat.not_le.mpr fr.lt))
                have fm := fm.kept (hk _ fm.lt (Nat.not_le.mpr fm.lt))
                obtain ⟨z9_, f36⟩ := hR
                have s_f36 : s.heap.size ≤ r_35 := Nat.le_trans hZ0_ z9_
                have g_f36 := hn _ s_f36
                have l_fo_f36 : mo < r_35 := Nat.lt_of_lt_of_le t_fo z9_
                have l_fj_f36 : ra < r_35 := Nat.lt_of_lt_of_le t_fj z9_
                have nW_f36 : ∀ k, k < 6 → rt k ≠ r_35 := fun k hk9 => Nat.ne_of_lt (Nat.lt_of_lt_of_le (t_fk k hk9) z9_)
                have l_fe_f36 : ex < r_35 := Nat.lt_of_lt_of_le t_fe z9_
                have l_fr_f36 : ro < r_35 := Nat.lt_of_lt_of_le t_fr z9_
                have l_fm_f36 : q9 < r_35 := Nat.lt_of_lt_of_le t_fm z9_
                refine lv_astore_n (pc := 71) (lv' := [(3, .ref r_35), (0, .ref mo), (1, .int x1), (2, .int x2), (4, .int y9)]) hx hb dX5_next_71 rfl hl (by decide) rfl (fun ls hl => ?_)
                obtain ⟨x_37, ex_37⟩ : ∃ z9 : Int32, z9 = y9 + 1 := ⟨_, rfl⟩
                refine lv_iinc (pc := 72) (v := x_37) (lv' := [(4, .int x_37), (3, .ref r_35), (0, .ref mo), (1, .int x1), (2, .int x2)]) hx hb dX5_next_72 hl (k := 4) rfl (by rw [ex_37]; rfl) (by decide) rfl (fun ls hl => ?_)
                refine lv_goto (pc := 75) (tgt := 54) hx hb dX5_next_75 (by decide) ?_
                refine W.widen (k := k + 1) (n := 2 * (k + 1)) (by omega) (by omega) ?_
                exact ih_54  (k + 1) _ _  r_35 x_37 (by omega) (by omega) (i_up hx9 ex_37) ⟨hP9.2.2.2, hP9.2.2.1⟩ (hPs _ s_f36) (m_nxLs hnf9 (show km - k = (km - (k + 1)) + 1 by omega) hg9) (by omega) _ _ _ hS fo fj fk fe fr fw f36 (lv_sub hl [2, 3, 4, 1, 0] rfl)
        refine W.widen (k := 0) (n := 2 * 0) (by omega) (by omega) ?_
        exact loop_54 52 0 _ _  (rt (nn x1)) 0 (by omega) (Nat.zero_le _) nI_0.symm ⟨hab, mF_fL21.2.1⟩ Pq_fL21 rfl (Nat.zero_le _) _ _ _ hS fo fj fk fe fr fw fL21 (lv_sub hl [2, 3, 4, 1, 0] rfl)
    · refine lv_iconst (pc := 26) (v := 0) hx hb dX5_next_26 (by decide) ?_
      try rw [hQ]
      refine r_iret (pc := 27) E hr hlk hS (by omega) (by omega) ?_ dX5_next_27
      exact ⟨_, _, _, _, ⟨_, _, _, _, _, fo, fj, fk, fe, fr, fw, ⟨hPm, hPa, hPl, hPe, hPr, hPk⟩, hFk, hFe, hFr, hpk, hn9⟩, AN.fail (by subst er_1 er_3 er_6; first | rfl | (simp [m_or, m_not, m_is0, m_lt0, m_fl, c_5, c_7]; done)) (by subst er_1 er_3 er_6; first | rfl | (simp [m_or, m_not, m_is0, m_lt0, m_fl, c_5, c_7]; done)) (fun z9 => c_7 (er_6.trans z9))⟩
  · refine lv_iconst (pc := 15) (v := 1) hx hb dX5_next_15 (by decide) ?_
    refine lv_goto (pc := 16) (tgt := 20) hx hb dX5_next_16 (by decide) ?_
    have hZ0_ := hS.1
    have t_fo := fo.lt
    have t_fj := fj.lt
    have t_fk := fun k (hk9 : k < 6) => (fk k hk9).lt
    have t_fe := fe.lt
    have t_fr := fr.lt
    refine k_i (pc := 20) (k_V E hC hS hA hl.1 (c1.recv hC fo rfl) rfl (c_X5_fails l D tk N0 sa H.size P hPN (fun q h9 => hPs q (Nat.le_trans hS.1 h9)) mo n9 kn th tt bb eT eB oT oB pk ca rf vs r_1 1 ) kw_1251 kw_1253 kp_20 kw_5 kw_1254 (n := 2) (by decide +kernel) rfl ⟨⟨rfl, rfl⟩, ⟨Nat.le_of_ble_eq_true rfl, Nat.le_of_ble_eq_true rfl⟩, (by dsimp only; omega), (by dsimp only; omega)⟩ rfl (Nat.le_of_ble_eq_true rfl) ⟨_, _, _, _, _, fo, fj, fk, fe, fr, fw, ⟨hPm, hPa, hPl, hPe, hPr, hPk⟩, hFk, hFe, hFr, hpk, hn9⟩ dX5_next_20) hS (fun q _ h => h) hn (fun r_38 H locs hR hz hk hS => ?_)
    obtain ⟨er_38, hM⟩ := hR
    obtain ⟨ra, rl, ex, ro, rt, fo, fj, fk, fe, fr, fw, ⟨hPm, hPa, hPl, hPe, hPr, hPk⟩, hFk, hFe, hFr, hpk, hn9⟩ := hM
    have g_fo := hPm
    have g_fj := hPa
    have ef_r_38 : r_38 = 1 := er_38.trans (m_fl1 _)
    rw [ef_r_38]
    refine lv_if_eq (pc := 23) (tgt := 28) hx hb dX5_next_23 (by decide) (fun c_39 => ?_) (fun c_39 => ?_)
    · exact absurd c_39 (by decide)
    refine lv_iconst (pc := 26) (v := 0) hx hb dX5_next_26 (by decide) ?_
    try rw [hQ]
    refine r_iret (pc := 27) E hr hlk hS (by omega) (by omega) ?_ dX5_next_27
    exact ⟨_, _, _, _, ⟨_, _, _, _, _, fo, fj, fk, fe, fr, fw, ⟨hPm, hPa, hPl, hPe, hPr, hPk⟩, hFk, hFe, hFr, hpk, hn9⟩, AN.fail (by subst er_1 er_3; first | rfl | (simp [m_or, m_not, m_is0, m_lt0, m_fl, c_5]; done)) (by subst er_1 er_3; first | rfl | (simp [m_or, m_not, m_is0, m_lt0, m_fl, c_5]; done)) (fun z9 => absurd (ef_r_38.symm.trans (er_38.trans z9)) (by decide))⟩
set_option maxHeartbeats 4000000 in
set_option maxRecDepth 100000 in
/-- BestratiosModel.before(I)I -/
theorem c_X5_before (l : Launch) (D : va_G) (tk : Nat → ClassId) (N0 : Nat) (sa : Nat → Nat)  (sz : Nat) (P : Nat → Prop) (hPN : ∀ q, P q → N0 ≤ q) (hPs : ∀ q, sz ≤ q → P q) (mo n9 : Nat) (kn th : Int32) (tt bb : Nat → Int64) (eT eB oT oB : Int64) (pk : Nat) (ca rf : Int32) (vs : Nat → Value) (x1 : Int32) : Met l yX5_before (wsy yX5_before cX5_before 5 (some .int)) ({ frames := 3, cells := 1, slots := 2, locals := 77 } : Room) (cP D tk N0 sa [.ref mo, .int x1] sz (fun H => MI D tk sa P mo tt bb eT eB oT oB pk ca rf vs kn n9 th H)) (kQi (fun r H => ∃ th1 tt1 bb1 rf1, MI D tk sa P mo tt1 bb1 eT eB oT oB pk ca rf1 vs kn n9 th1 H ∧ AC (m_isNo x1) 0 tt bb rf (nn x1) (m_BF (tt (nn x1)) (bb (nn x1))) r th1 tt1 bb1 rf1) (P)) (1) (2) (P) := by
  refine mStart RX5 rfl (by decide +kernel) (Nat.le_of_ble_eq_true rfl) ?_
  intro p e s m args below meth c E hr hlk hnm hsz hC hF ls hl
  subst hsz
  obtain ⟨hx, hb, -⟩ := id E
  have hA : ∀ q, (P) q → N0 ≤ q := hPN
  have hn : ∀ q, s.heap.size ≤ q → (P) q := hPs
  have hS : va_S (P) s.heap s.heap [] := va_S.rf
  have hl : lv_has ls 5 [(0, .ref mo), (1, .int x1)] := hl
  have hM : MI D tk sa P mo tt bb eT eB oT oB pk ca rf vs kn n9 th s.heap := hF
  obtain ⟨ra, rl, ex, ro, rt, fo, fj, fk, fe, fr, fw, ⟨hPm, hPa, hPl, hPe, hPr, hPk⟩, hFk, hFe, hFr, hpk, hn9⟩ := hM
  have g_fo := hPm
  have g_fj := hPa
  refine lv_aload_n (pc := 0) hx hb dX5_before_0 rfl (lv_at hl 0 rfl) ?_
  refine lv_iload_n (pc := 1) hx hb dX5_before_1 rfl (lv_at hl 1 rfl) ?_
  refine k_i (pc := 2) (k_S E hC hS hA hl.1 (c_X5_isNo l D tk N0 sa s.heap.size x1 ) kw_1245 kw_1246 kw_5 kw_1247 (n := 1) (by decide +kernel) rfl ⟨⟨rfl, rfl⟩, ⟨Nat.le_of_ble_eq_true rfl, Nat.le_of_ble_eq_true rfl⟩, (by dsimp only; omega), (by dsimp only; omega)⟩ rfl (Nat.le_of_ble_eq_true rfl) trivial dX5_before_2) hS (fun q z w => absurd w (Nat.not_le.mpr z)) hn (fun r_1 H locs hR hz hk hS => ?_)
  have er_1 := hR
  have fw := fw.new hk
  have fo := fo.kept (hk _ fo.lt (Nat.not_le.mpr fo.lt))
  have fj := fj.kept (hk _ fj.lt (Nat.not_le.mpr fj.lt))
  have fk := fk.new hk
  have fe := fe.kept (hk _ fe.lt (Nat.not_le.mpr fe.lt))
  have fr := fr.kept (hk _ fr.lt (Nat.not_le.mpr fr.lt))
  refine lv_iconst (pc := 5) (v := 0) hx hb dX5_before_5 (by decide) ?_
  have hZ0_ := hS.1
  have t_fo := fo.lt
  have t_fj := fj.lt
  have t_fk := fun k (hk9 : k < 6) => (fk k hk9).lt
  have t_fe := fe.lt
  have t_fr := fr.lt
  refine k_i (pc := 6) (k_V E hC hS hA hl.1 (c1.recv hC fo rfl) rfl (c_X5_fails l D tk N0 sa H.size P hPN (fun q h9 => hPs q (Nat.le_trans hS.1 h9)) mo n9 kn th tt bb eT eB oT oB pk ca rf vs r_1 0 ) kw_1251 kw_1253 kp_20 kw_5 kw_1254 (n := 2) (by decide +kernel) rfl ⟨⟨rfl, rfl⟩, ⟨Nat.le_of_ble_eq_true rfl, Nat.le_of_ble_eq_true rfl⟩, (by dsimp only; omega), (by dsimp only; omega)⟩ rfl (Nat.le_of_ble_eq_true rfl) ⟨_, _, _, _, _, fo, fj, fk, fe, fr, fw, ⟨hPm, hPa, hPl, hPe, hPr, hPk⟩, hFk, hFe, hFr, hpk, hn9⟩ dX5_before_6) hS (fun q _ h => h) hn (fun r_3 H locs hR hz hk hS => ?_)
  obtain ⟨er_3, hM⟩ := hR
  obtain ⟨ra, rl, ex, ro, rt, fo, fj, fk, fe, fr, fw, ⟨hPm, hPa, hPl, hPe, hPr, hPk⟩, hFk, hFe, hFr, hpk, hn9⟩ := hM
  have g_fo := hPm
  have g_fj := hPa
  refine lv_if_eq (pc := 9) (tgt := 14) hx hb dX5_before_9 (by decide) (fun c_4 => ?_) (fun c_4 => ?_)
  · refine lv_aload_n (pc := 14) hx hb dX5_before_14 rfl (lv_at hl 0 rfl) ?_
    refine r_get (pc := 15) E hC fo 0 (v := .ref ra) rfl rfl (by decide) uX5 (List.mem_cons_of_mem _ kw_1209) (fun _ h => h) dX5_before_15 ?_
    refine lv_iload_n (pc := 18) hx hb dX5_before_18 rfl (lv_at hl 1 rfl) ?_
    obtain ⟨hx_5, hk_5⟩ := m_noN (er_1.symm.trans (m_fl0 (er_3.symm.trans c_4)).1)
    refine r_aaldJ (pc := 19) E hC fj (nn x1) hx_5 hk_5 (by decide) rfl dX5_before_19 ?_
    have fL6 := fk (nn x1) hk_5
    have mF_fL6 := hFk (nn x1) hk_5
    have Pq_fL6 := hPk (nn x1) hk_5
    refine lv_astore_n (pc := 20) (lv' := [(2, .ref (rt (nn x1))), (0, .ref mo), (1, .int x1)]) hx hb dX5_before_20 rfl hl (by decide) rfl (fun ls hl => ?_)
    refine lv_aload_n (pc := 21) hx hb dX5_before_21 rfl (lv_at hl 0 rfl) ?_
    have hZ0_ := hS.1
    have t_fo := fo.lt
    have t_fj := fj.lt
    have t_fk := fun k (hk9 : k < 6) => (fk k hk9).lt
    have t_fe := fe.lt
    have t_fr := fr.lt
    have t_fL6 := fL6.lt
    refine k_i (pc := 22) (k_S E hC hS hA hl.1 (c_X5_isAbove l D tk N0 sa H.size (rt (nn x1)) (tt (nn x1)) (bb (nn x1)) ) kw_1645 kw_1646 kw_5 kw_1647 (n := 1) (by decide +kernel) rfl ⟨⟨rfl, rfl⟩, ⟨Nat.le_of_ble_eq_true rfl, Nat.le_of_ble_eq_true rfl⟩, (by dsimp only; omega), (by dsimp only; omega)⟩ rfl (Nat.le_of_ble_eq_true rfl) fL6 dX5_before_22) hS (fun q z w => absurd w (Nat.not_le.mpr z)) hn (fun r_7 H locs hR hz hk hS => ?_)
    have fw := fw.new hk
    have fo := fo.kept (hk _ fo.lt (Nat.not_le.mpr fo.lt))
    have fj := fj.kept (hk _ fj.lt (Nat.not_le.mpr fj.lt))
    have fk := fk.new hk
    have fe := fe.kept (hk _ fe.lt (Nat.not_le.mpr fe.lt))
    have fr := fr.kept (hk _ fr.lt (Nat.not_le.mpr fr.lt))
    have fL6 := fL6.kept (hk _ fL6.lt (Nat.not_le.mpr fL6.lt))
    have er_7 := hR
    refine lv_if_eq (pc := 25) (tgt := 35) hx hb dX5_before_25 (by decide) (fun c_8 => ?_) (fun c_8 => ?_)
    · refine lv_aload_n (pc := 35) hx hb dX5_before_35 rfl (lv_at hl 1 rfl) ?_
      have hZ0_ := hS.1
      have t_fo := fo.lt
      have t_fj := fj.lt
      have t_fk := fun k (hk9 : k < 6) => (fk k hk9).lt
      have t_fe := fe.lt
      have t_fr := fr.lt
      have t_fL6 := fL6.lt
      refine k_i (pc := 36) (k_V E hC hS hA hl.1 (c1.recv hC fo rfl) rfl (c_X5_no l D tk N0 sa H.size P hPN (fun q h9 => hPs q (Nat.le_trans hS.1 h9)) mo n9 kn ((m_th r_1 0)) tt bb eT eB oT oB pk ca rf vs  ) kw_1264 kw_1266 kp_22 kw_5 kw_1267 (n := 0) (by decide +kernel) rfl ⟨⟨rfl, rfl⟩, ⟨Nat.le_of_ble_eq_true rfl, Nat.le_of_ble_eq_true rfl⟩, (by dsimp only; omega), (by dsimp only; omega)⟩ rfl (Nat.le_of_ble_eq_true rfl) ⟨_, _, _, _, _, fo, fj, fk, fe, fr, fw, ⟨hPm, hPa, hPl, hPe, hPr, hPk⟩, hFk, hFe, hFr, hpk, hn9⟩ dX5_before_36) hS (fun q _ h => h) hn (fun r_9 H locs hR hz hk hS => ?_)
      obtain ⟨er_9, hM⟩ := hR
      obtain ⟨ra, rl, ex, ro, rt, fo, fj, fk, fe, fr, fw, ⟨hPm, hPa, hPl, hPe, hPr, hPk⟩, hFk, hFe, hFr, hpk, hn9⟩ := hM
      have g_fo := hPm
      have g_fj := hPa
      refine r_iret (pc := 39) E hr hlk hS (by omega) (by omega) ?_ dX5_before_39
      exact ⟨_, _, _, _, ⟨_, _, _, _, _, fo, fj, fk, fe, fr, fw, ⟨hPm, hPa, hPl, hPe, hPr, hPk⟩, hFk, hFe, hFr, hpk, hn9⟩, AC.ok (by subst er_1 er_3 er_7 er_9; first | rfl | (simp [m_or, m_not, m_is0, m_lt0, m_fl, c_4, c_8]; done)) (by subst er_1 er_3 er_7 er_9; first | rfl | (simp [m_or, m_not, m_is0, m_lt0, m_fl, c_4, c_8]; done)) (er_3.symm.trans c_4) (BE.cast (o := none) ⟨er_9, rfl, rfl, rfl⟩ (by subst er_1 er_3 er_7 er_9; first | rfl | (simp [m_BF, c_4, c_8]; done)))⟩
    · refine lv_aload_n (pc := 28) hx hb dX5_before_28 rfl (lv_at hl 0 rfl) ?_
      have hZ0_ := hS.1
      have t_fo := fo.lt
      have t_fj := fj.lt
      have t_fk := fun k (hk9 : k < 6) => (fk k hk9).lt
      have t_fe := fe.lt
      have t_fr := fr.lt
      have t_fL6 := fL6.lt
      refine k_i (pc := 29) (k_S E hC hS hA hl.1 (c_X5_isOne l D tk N0 sa H.size (rt (nn x1)) (tt (nn x1)) (bb (nn x1)) ) kw_1648 kw_1649 kw_5 kw_1650 (n := 1) (by decide +kernel) rfl ⟨⟨rfl, rfl⟩, ⟨Nat.le_of_ble_eq_true rfl, Nat.le_of_ble_eq_true rfl⟩, (by dsimp only; omega), (by dsimp only; omega)⟩ rfl (Nat.le_of_ble_eq_true rfl) fL6 dX5_before_29) hS (fun q z w => absurd w (Nat.not_le.mpr z)) hn (fun r_10 H locs hR hz hk hS => ?_)
      have fw := fw.new hk
      have fo := fo.kept (hk _ fo.lt (Nat.not_le.mpr fo.lt))
      have fj := fj.kept (hk _ fj.lt (Nat.not_le.mpr fj.lt))
      have fk := fk.new hk
      have fe := fe.kept (hk _ fe.lt (Nat.not_le.mpr fe.lt))
      have fr := fr.kept (hk _ fr.lt (Nat.not_le.mpr fr.lt))
      have fL6 := fL6.kept (hk _ fL6.lt (Nat.not_le.mpr fL6.lt))
      have er_10 := hR
      refine lv_if_eq (pc := 32) (tgt := 40) hx hb dX5_before_32 (by decide) (fun c_11 => ?_) (fun c_11 => ?_)
      · refine lv_aload_n (pc := 40) hx hb dX5_before_40 rfl (lv_at hl 0 rfl) ?_
        refine lv_iconst (pc := 41) (v := 1) hx hb dX5_before_41 (by decide) ?_
        refine r_l1 (pc := 42) E hC fL6 dX5_before_42 ?_
        refine lv_lneg (pc := 43) hx hb dX5_before_43 ?_
        refine lv_aload_n (pc := 44) hx hb dX5_before_44 rfl (lv_at hl 0 rfl) ?_
        refine lv_iconst (pc := 45) (v := 0) hx hb dX5_before_45 (by decide) ?_
        refine r_l0 (pc := 46) E hC fL6 dX5_before_46 ?_
        have hab := m_abv1 (t := tt (nn x1)) (by rw [← er_7]; exact c_8)
        have hP9 := m_befP mF_fL6 hab
        refine k_l (pc := 47) (k_S E hC hS hA hl.1 (c_X5_floor l D tk N0 sa H.size (-(bb (nn x1))) (tt (nn x1)) hP9.1) kw_1392 kw_1393 kw_5 kw_1394 (n := 2) (by decide +kernel) rfl ⟨⟨rfl, rfl⟩, ⟨Nat.le_of_ble_eq_true rfl, Nat.le_of_ble_eq_true rfl⟩, (by dsimp only; omega), (by dsimp only; omega)⟩ rfl (Nat.le_of_ble_eq_true rfl) trivial dX5_before_47) hS (fun q z w => absurd w (Nat.not_le.mpr z)) hn (fun r_12 H locs hR hz hk hS => ?_)
        have er_12 := hR
        have fw := fw.new hk
        have fo := fo.kept (hk _ fo.lt (Nat.not_le.mpr fo.lt))
        have fj := fj.kept (hk _ fj.lt (Nat.not_le.mpr fj.lt))
        have fk := fk.new hk
        have fe := fe.kept (hk _ fe.lt (Nat.not_le.mpr fe.lt))
        have fr := fr.kept (hk _ fr.lt (Nat.not_le.mpr fr.lt))
        have fL6 := fL6.kept (hk _ fL6.lt (Nat.not_le.mpr fL6.lt))
        refine lv_lneg (pc := 50) hx hb dX5_before_50 ?_
        obtain ⟨x_14, ex_14⟩ : ∃ z9 : Int64, z9 = -r_12 := ⟨_, rfl⟩
        rw [← ex_14]
        refine lv_lstore_n (pc := 51) (lv' := [(3, .long x_14), (2, .ref (rt (nn x1))), (0, .ref mo), (1, .int x1)]) hx hb dX5_before_51 rfl hl (by decide) rfl (fun ls hl => ?_)
        refine lv_aload_n (pc := 52) hx hb dX5_before_52 rfl (lv_at hl 2 rfl) ?_
        refine lv_iload_n (pc := 53) hx hb dX5_before_53 rfl (lv_at hl 3 rfl) ?_
        refine lv_ldc2 (pc := 54) (v := 2) hx hb E.2.2.2.1 (E.2.2.2.2 _ (List.mem_cons_of_mem _ kw_1665)) dX5_before_54 ?_
        refine lv_lload_n (pc := 57) hx hb dX5_before_57 rfl (lv_at hl 0 rfl) ?_
        refine lv_lmul (pc := 58) hx hb dX5_before_58 ?_
        refine lv_lconst (pc := 59) (v := 1) hx hb dX5_before_59 (by decide) ?_
        refine lv_lsub (pc := 60) hx hb dX5_before_60 ?_
        refine lv_aload_n (pc := 61) hx hb dX5_before_61 rfl (lv_at hl 1 rfl) ?_
        refine lv_iconst (pc := 62) (v := 0) hx hb dX5_before_62 (by decide) ?_
        refine r_l0 (pc := 63) E hC fL6 dX5_before_63 ?_
        refine lv_lmul (pc := 64) hx hb dX5_before_64 ?_
        refine lv_aload_n (pc := 65) hx hb dX5_before_65 rfl (lv_at hl 1 rfl) ?_
        refine lv_iconst (pc := 66) (v := 1) hx hb dX5_before_66 (by decide) ?_
        refine r_l1 (pc := 67) E hC fL6 dX5_before_67 ?_
        refine lv_lsub (pc := 68) hx hb dX5_before_68 ?_
        refine lv_aload_n (pc := 69) hx hb dX5_before_69 rfl (lv_at hl 1 rfl) ?_
        refine lv_iconst (pc := 70) (v := 0) hx hb dX5_before_70 (by decide) ?_
        refine r_l0 (pc := 71) E hC fL6 dX5_before_71 ?_
        have hZ0_ := hS.1
        have t_fo := fo.lt
        have t_fj := fj.lt
        have t_fk := fun k (hk9 : k < 6) => (fk k hk9).lt
        have t_fe := fe.lt
        have t_fr := fr.lt
        have t_fL6 := fL6.lt
        refine k_r (pc := 72) (k_S E hC hS hA hl.1 (c_X5_lowest l D tk N0 sa H.size ((((2 * x_14) - 1) * (tt (nn x1))) - (bb (nn x1))) (tt (nn x1)) (by rw [ex_14, er_12]; exact hP9.2.1)) kw_1199 kw_1200 kw_5 kw_1201 (n := 2) (by decide +kernel) rfl ⟨⟨rfl, rfl⟩, ⟨Nat.le_of_ble_eq_true rfl, Nat.le_of_ble_eq_true rfl⟩, (by dsimp only; omega), (by dsimp only; omega)⟩ rfl (Nat.le_of_ble_eq_true rfl) trivial dX5_before_72) hS (fun q z w => absurd w (Nat.not_le.mpr z)) hn (fun r_15 H locs hR hz hk hS => ?_)
        have fw := fw.new hk
        have fo := fo.kept (hk _ fo.lt (Nat.not_le.mpr fo.lt))
        have fj := fj.kept (hk _ fj.lt (Nat.not_le.mpr fj.lt))
        have fk := fk.new hk
        have fe := fe.kept (hk _ fe.lt (Nat.not_le.mpr fe.lt))
        have fr := fr.kept (hk _ fr.lt (Nat.not_le.mpr fr.lt))
        have fL6 := fL6.kept (hk _ fL6.lt (Nat.not_le.mpr fL6.lt))
        obtain ⟨z9_, f16⟩ := hR
        have s_f16 : s.heap.size ≤ r_15 := Nat.le_trans hZ0_ z9_
        have g_f16 := hn _ s_f16
        have l_fo_f16 : mo < r_15 := Nat.lt_of_lt_of_le t_fo z9_
        have l_fj_f16 : ra < r_15 := Nat.lt_of_lt_of_le t_fj z9_
        have nW_f16 : ∀ k, k < 6 → rt k ≠ r_15 := fun k hk9 => Nat.ne_of_lt (Nat.lt_of_lt_of_le (t_fk k hk9) z9_)
        have l_fe_f16 : ex < r_15 := Nat.lt_of_lt_of_le t_fe z9_
        have l_fr_f16 : ro < r_15 := Nat.lt_of_lt_of_le t_fr z9_
        have l_fL6_f16 : rt (nn x1) < r_15 := Nat.lt_of_lt_of_le t_fL6 z9_
        have hZ0_ := hS.1
        have t_fo := fo.lt
        have t_fj := fj.lt
        have t_fk := fun k (hk9 : k < 6) => (fk k hk9).lt
        have t_fe := fe.lt
        have t_fr := fr.lt
        have t_fL6 := fL6.lt
        have t_f16 := f16.lt
        refine k_i (pc := 75) (k_V E hC hS hA hl.1 (c1.recv hC fo rfl) rfl (c_X5_become l D tk N0 sa H.size P hPN (fun q h9 => hPs q (Nat.le_trans hS.1 h9)) mo n9 kn ((m_th r_1 0)) tt bb eT eB oT oB pk ca rf vs x1 (nn x1) hx_5 hk_5 r_15 (m_loT ((((2 * x_14) - 1) * (tt (nn x1))) - (bb (nn x1))) (tt (nn x1))) (m_loB ((((2 * x_14) - 1) * (tt (nn x1))) - (bb (nn x1))) (tt (nn x1))) (hPs _ s_f16) (by rw [ex_14, er_12]; exact hP9.2.2)) kw_1255 kw_1257 kp_21 kw_5 kw_1258 (n := 2) (by decide +kernel) rfl ⟨⟨rfl, rfl⟩, ⟨Nat.le_of_ble_eq_true rfl, Nat.le_of_ble_eq_true rfl⟩, (by dsimp only; omega), (by dsimp only; omega)⟩ rfl (Nat.le_of_ble_eq_true rfl) ⟨⟨_, _, _, _, _, fo, fj, fk, fe, fr, fw, ⟨hPm, hPa, hPl, hPe, hPr, hPk⟩, hFk, hFe, hFr, hpk, hn9⟩, f16⟩ dX5_before_75) hS (fun q _ h => h) hn (fun r_17 H locs hR hz hk hS => ?_)
        obtain ⟨tt_18, bb_18, rf_18, hM, hBE_18⟩ := hR
        obtain ⟨ra, rl, ex, ro, rt, fo, fj, fk, fe, fr, fw, ⟨hPm, hPa, hPl, hPe, hPr, hPk⟩, hFk, hFe, hFr, hpk, hn9⟩ := hM
        have g_fo := hPm
        have g_fj := hPa
        refine r_iret (pc := 78) E hr hlk hS (by omega) (by omega) ?_ dX5_before_78
        exact ⟨_, _, _, _, ⟨_, _, _, _, _, fo, fj, fk, fe, fr, fw, ⟨hPm, hPa, hPl, hPe, hPr, hPk⟩, hFk, hFe, hFr, hpk, hn9⟩, AC.ok (by subst er_1 er_3 er_7 er_10 er_12 ex_14; first | rfl | (simp [m_or, m_not, m_is0, m_lt0, m_fl, c_4, c_8, c_11]; done)) (by subst er_1 er_3 er_7 er_10 er_12 ex_14; first | rfl | (simp [m_or, m_not, m_is0, m_lt0, m_fl, c_4, c_8, c_11]; done)) (er_3.symm.trans c_4) (hBE_18.cast (by unfold m_BF; rw [if_neg (fun z9 => c_8 (er_7.trans z9)), if_pos (er_10.symm.trans c_11), ex_14, er_12]; rfl))⟩
      · refine lv_aload_n (pc := 35) hx hb dX5_before_35 rfl (lv_at hl 1 rfl) ?_
        have hZ0_ := hS.1
        have t_fo := fo.lt
        have t_fj := fj.lt
        have t_fk := fun k (hk9 : k < 6) => (fk k hk9).lt
        have t_fe := fe.lt
        have t_fr := fr.lt
        have t_fL6 := fL6.lt
        refine k_i (pc := 36) (k_V E hC hS hA hl.1 (c1.recv hC fo rfl) rfl (c_X5_no l D tk N0 sa H.size P hPN (fun q h9 => hPs q (Nat.le_trans hS.1 h9)) mo n9 kn ((m_th r_1 0)) tt bb eT eB oT oB pk ca rf vs  ) kw_1264 kw_1266 kp_22 kw_5 kw_1267 (n := 0) (by decide +kernel) rfl ⟨⟨rfl, rfl⟩, ⟨Nat.le_of_ble_eq_true rfl, Nat.le_of_ble_eq_true rfl⟩, (by dsimp only; omega), (by dsimp only; omega)⟩ rfl (Nat.le_of_ble_eq_true rfl) ⟨_, _, _, _, _, fo, fj, fk, fe, fr, fw, ⟨hPm, hPa, hPl, hPe, hPr, hPk⟩, hFk, hFe, hFr, hpk, hn9⟩ dX5_before_36) hS (fun q _ h => h) hn (fun r_19 H locs hR hz hk hS => ?_)
        obtain ⟨er_19, hM⟩ := hR
        obtain ⟨ra, rl, ex, ro, rt, fo, fj, fk, fe, fr, fw, ⟨hPm, hPa, hPl, hPe, hPr, hPk⟩, hFk, hFe, hFr, hpk, hn9⟩ := hM
        have g_fo := hPm
        have g_fj := hPa
        refine r_iret (pc := 39) E hr hlk hS (by omega) (by omega) ?_ dX5_before_39
        exact ⟨_, _, _, _, ⟨_, _, _, _, _, fo, fj, fk, fe, fr, fw, ⟨hPm, hPa, hPl, hPe, hPr, hPk⟩, hFk, hFe, hFr, hpk, hn9⟩, AC.ok (by subst er_1 er_3 er_7 er_10 er_19; first | rfl | (simp [m_or, m_not, m_is0, m_lt0, m_fl, c_4, c_8, c_11]; done)) (by subst er_1 er_3 er_7 er_10 er_19; first | rfl | (simp [m_or, m_not, m_is0, m_lt0, m_fl, c_4, c_8, c_11]; done)) (er_3.symm.trans c_4) (BE.cast (o := none) ⟨er_19, rfl, rfl, rfl⟩ (by subst er_1 er_3 er_7 er_10 er_19; first | rfl | (simp [m_BF, c_4, c_8, c_11]; done)))⟩
  · refine lv_iconst (pc := 12) (v := 0) hx hb dX5_before_12 (by decide) ?_
    refine r_iret (pc := 13) E hr hlk hS (by omega) (by omega) ?_ dX5_before_13
    exact ⟨_, _, _, _, ⟨_, _, _, _, _, fo, fj, fk, fe, fr, fw, ⟨hPm, hPa, hPl, hPe, hPr, hPk⟩, hFk, hFe, hFr, hpk, hn9⟩, AC.fail (by subst er_1 er_3; first | rfl | (simp [m_or, m_not, m_is0, m_lt0, m_fl, c_4]; done)) (by subst er_1 er_3; first | rfl | (simp [m_or, m_not, m_is0, m_lt0, m_fl, c_4]; done)) (fun z9 => c_4 (er_3.trans z9))⟩
set_option maxHeartbeats 4000000 in
set_option maxRecDepth 100000 in
/-- BestratiosModel.say(I)I -/
theorem c_X5_say (l : Launch) (D : va_G) (tk : Nat → ClassId) (N0 : Nat) (sa : Nat → Nat)  (sz : Nat) (P : Nat → Prop) (hPN : ∀ q, P q → N0 ≤ q) (hPs : ∀ q, sz ≤ q → P q) (mo n9 : Nat) (kn th : Int32) (tt bb : Nat → Int64) (eT eB oT oB : Int64) (pk : Nat) (ca rf : Int32) (vs : Nat → Value) (x1 : Int32) : Met l yX5_say (wsy yX5_say cX5_say 2 (some .int)) ({ frames := 7, cells := 4, slots := 60, locals := 157 } : Room) (cP D tk N0 sa [.ref mo, .int x1] sz (fun H => MI D tk sa P mo tt bb eT eB oT oB pk ca rf vs kn n9 th H)) (kQi (fun r H => ∃ n1 th1 vs1, MI D tk sa P mo tt bb eT eB oT oB pk ca rf vs1 kn n1 th1 H ∧ m_say x1 n9 r n1 th1 ∧ (th1 = 0 → vs1 = va_up vs n9 (.int x1)) ∧ (¬ th1 = 0 → vs1 = vs)) (P)) (4) (60) (P) := by
  refine mStart RX5 rfl (by decide +kernel) (Nat.le_of_ble_eq_true rfl) ?_
  intro p e s m args below meth c E hr hlk hnm hsz hC hF ls hl
  subst hsz
  obtain ⟨hx, hb, -⟩ := id E
  have hA : ∀ q, (P) q → N0 ≤ q := hPN
  have hn : ∀ q, s.heap.size ≤ q → (P) q := hPs
  have hS : va_S (P) s.heap s.heap [] := va_S.rf
  have hl : lv_has ls 2 [(0, .ref mo), (1, .int x1)] := hl
  have hM : MI D tk sa P mo tt bb eT eB oT oB pk ca rf vs kn n9 th s.heap := hF
  obtain ⟨ra, rl, ex, ro, rt, fo, fj, fk, fe, fr, fw, ⟨hPm, hPa, hPl, hPe, hPr, hPk⟩, hFk, hFe, hFr, hpk, hn9⟩ := hM
  have g_fo := hPm
  have g_fj := hPa
  refine lv_aload_n (pc := 0) hx hb dX5_say_0 rfl (lv_at hl 0 rfl) ?_
  refine lv_iload_n (pc := 1) hx hb dX5_say_1 rfl (lv_at hl 1 rfl) ?_
  refine lv_ldc (pc := 2) (v := (-99999)) hx hb E.2.2.2.1 (E.2.2.2.2 _ (List.mem_cons_of_mem _ kw_1574)) dX5_say_2 ?_
  refine lv_ldc (pc := 4) (v := 99999) hx hb E.2.2.2.1 (E.2.2.2.2 _ (List.mem_cons_of_mem _ kw_1575)) dX5_say_4 ?_
  refine k_i (pc := 6) (k_S E hC hS hA hl.1 (c_X5_isIn l D tk N0 sa s.heap.size x1 ((-99999)) 99999 ) kw_1248 kw_1249 kw_5 kw_1250 (n := 3) (by decide +kernel) rfl ⟨⟨rfl, rfl⟩, ⟨Nat.le_of_ble_eq_true rfl, Nat.le_of_ble_eq_true rfl⟩, (by dsimp only; omega), (by dsimp only; omega)⟩ rfl (Nat.le_of_ble_eq_true rfl) trivial dX5_say_6) hS (fun q z w => absurd w (Nat.not_le.mpr z)) hn (fun r_1 H locs hR hz hk hS => ?_)
  have er_1 := hR
  have fw := fw.new hk
  have fo := fo.kept (hk _ fo.lt (Nat.not_le.mpr fo.lt))
  have fj := fj.kept (hk _ fj.lt (Nat.not_le.mpr fj.lt))
  have fk := fk.new hk
  have fe := fe.kept (hk _ fe.lt (Nat.not_le.mpr fe.lt))
  have fr := fr.kept (hk _ fr.lt (Nat.not_le.mpr fr.lt))
  refine lv_if_ne (pc := 9) (tgt := 16) hx hb dX5_say_9 (by decide) (fun c_3 => ?_) (fun c_3 => ?_)
  · refine lv_iconst (pc := 16) (v := 0) hx hb dX5_say_16 (by decide) ?_
    refine lv_aload_n (pc := 17) hx hb dX5_say_17 rfl (lv_at hl 0 rfl) ?_
    refine r_get (pc := 18) E hC fo 1 (v := .ref rl) rfl rfl (by decide) uX5 (List.mem_cons_of_mem _ kw_1210) (fun _ h => h) dX5_say_18 ?_
    obtain ⟨md_4, b_4, fz4⟩ := fw.obj
    refine k_i (pc := 21) (k_V E hC hS hA hl.1 (c1.recv hC fz4 rfl) rfl (c_Jx4a65c_size_8abf5 l D tk N0 sa H.size rl b_4 n9 md_4) kw_1546 kw_1547 kw_1548 kw_8 kw_1549 (n := 0) (by decide +kernel) rfl ⟨⟨rfl, rfl⟩, ⟨Nat.le_of_ble_eq_true rfl, Nat.le_of_ble_eq_true rfl⟩, (by dsimp only; omega), (by dsimp only; omega)⟩ rfl (Nat.le_of_ble_eq_true rfl) fz4 dX5_say_21) hS (fun q z w => absurd w (Nat.not_le.mpr z)) hn (fun r_5 H locs hR hz hk hS => ?_)
    have fw := fw.new hk
    have fo := fo.kept (hk _ fo.lt (Nat.not_le.mpr fo.lt))
    have fj := fj.kept (hk _ fj.lt (Nat.not_le.mpr fj.lt))
    have fk := fk.new hk
    have fe := fe.kept (hk _ fe.lt (Nat.not_le.mpr fe.lt))
    have fr := fr.kept (hk _ fr.lt (Nat.not_le.mpr fr.lt))
    have fz4 := fz4.kept (hk _ fz4.lt (Nat.not_le.mpr fz4.lt))
    rw [show r_5 = nI n9 from hR]
    refine lv_bipush (pc := 24) (v := 16) hx hb dX5_say_24 (by decide) ?_
    refine lv_icmp_ne (pc := 26) (tgt := 33) hx hb dX5_say_26 (by decide) (fun c_6 => ?_) (fun c_6 => ?_)
    · refine lv_iconst (pc := 33) (v := 0) hx hb dX5_say_33 (by decide) ?_
      have hZ0_ := hS.1
      have t_fo := fo.lt
      have t_fj := fj.lt
      have t_fk := fun k (hk9 : k < 6) => (fk k hk9).lt
      have t_fe := fe.lt
      have t_fr := fr.lt
      have t_fz4 := fz4.lt
      refine k_i (pc := 34) (k_V E hC hS hA hl.1 (c1.recv hC fo rfl) rfl (c_X5_fails l D tk N0 sa H.size P hPN (fun q h9 => hPs q (Nat.le_trans hS.1 h9)) mo n9 kn th tt bb eT eB oT oB pk ca rf vs 0 0 ) kw_1251 kw_1253 kp_20 kw_5 kw_1254 (n := 2) (by decide +kernel) rfl ⟨⟨rfl, rfl⟩, ⟨Nat.le_of_ble_eq_true rfl, Nat.le_of_ble_eq_true rfl⟩, (by dsimp only; omega), (by dsimp only; omega)⟩ rfl (Nat.le_of_ble_eq_true rfl) ⟨_, _, _, _, _, fo, fj, fk, fe, fr, fw, ⟨hPm, hPa, hPl, hPe, hPr, hPk⟩, hFk, hFe, hFr, hpk, hn9⟩ dX5_say_34) hS (fun q _ h => h) hn (fun r_7 H locs hR hz hk hS => ?_)
      obtain ⟨er_7, hM⟩ := hR
      obtain ⟨ra, rl, ex, ro, rt, fo, fj, fk, fe, fr, fw, ⟨hPm, hPa, hPl, hPe, hPr, hPk⟩, hFk, hFe, hFr, hpk, hn9⟩ := hM
      have g_fo := hPm
      have g_fj := hPa
      have ef_r_7 : r_7 = 0 := er_7.trans rfl
      rw [ef_r_7]
      refine lv_if_eq (pc := 37) (tgt := 42) hx hb dX5_say_37 (by decide) (fun c_8 => ?_) (fun c_8 => ?_)
      rotate_left
      · exact absurd (by decide) c_8
      have hsd := m_said (x := x1) (fun z9 => c_3 (er_1.trans z9))
      have h16 : n9 ≠ 16 := fun z9 => c_6 (by rw [z9]; rfl)
      rcases fw with ⟨h0r, mdr, f0w⟩ | ⟨mdr, br, capr, fnr, hPb, f0w, fRw, elw, hPI, hncr, hmcr⟩
      · subst h0r
        have g_f0w := hPl
        have nW_f0w : ∀ k, k < 6 → rt k ≠ rl := fun k hk9 => clA.ne (fk k hk9).cla f0w.cl (hC.ao 7 0 rfl rfl)
        refine lv_aload_n (pc := 42) hx hb dX5_say_42 rfl (lv_at hl 0 rfl) ?_
        refine r_get (pc := 43) E hC fo 1 (v := .ref rl) rfl rfl (by decide) uX5 (List.mem_cons_of_mem _ kw_1210) (fun _ h => h) dX5_say_43 ?_
        refine lv_iload_n (pc := 46) hx hb dX5_say_46 rfl (lv_at hl 1 rfl) ?_
        have hZ0_ := hS.1
        have t_fo := fo.lt
        have t_fj := fj.lt
        have t_fk := fun k (hk9 : k < 6) => (fk k hk9).lt
        have t_fe := fe.lt
        have t_fr := fr.lt
        have t_f0w := f0w.lt
        refine k_r (pc := 47) (k_S E hC hS hA hl.1 (c_J6_valueOf_2dffe l D tk N0 sa H.size x1) kw_1576 kw_1577 kw_22 kw_1578 (n := 1) (by decide +kernel) rfl ⟨⟨rfl, rfl⟩, ⟨Nat.le_of_ble_eq_true rfl, Nat.le_of_ble_eq_true rfl⟩, (by dsimp only; omega), (by dsimp only; omega)⟩ rfl (Nat.le_of_ble_eq_true rfl) trivial dX5_say_47) hS (fun q z w => absurd w (Nat.not_le.mpr z)) hn (fun r_9 H locs hR hz hk hS => ?_)
        have fo := fo.kept (hk _ fo.lt (Nat.not_le.mpr fo.lt))
        have fj := fj.kept (hk _ fj.lt (Nat.not_le.mpr fj.lt))
        have fk := fk.new hk
        have fe := fe.kept (hk _ fe.lt (Nat.not_le.mpr fe.lt))
        have fr := fr.kept (hk _ fr.lt (Nat.not_le.mpr fr.lt))
        have f0w := f0w.kept (hk _ f0w.lt (Nat.not_le.mpr f0w.lt))
        have f10 := hR
        have hZ0_ := hS.1
        have t_fo := fo.lt
        have t_fj := fj.lt
        have t_fk := fun k (hk9 : k < 6) => (fk k hk9).lt
        have t_fe := fe.lt
        have t_fr := fr.lt
        have t_f0w := f0w.lt
        have t_f10 := f10.lt
        refine k_i (pc := 50) (k_V E hC hS hA hl.1 (c1.recv hC f0w rfl) rfl (c_Jx4a65c_add_9ea2d_E l D tk N0 sa H.size rl r_9 2 mdr (.int x1) vs (hA _ g_f0w) (Or.inr rfl)) kw_1434 kw_1435 kw_1436 kw_8 kw_1437 (n := 1) (by decide +kernel) rfl ⟨⟨rfl, rfl⟩, ⟨Nat.le_of_ble_eq_true rfl, Nat.le_of_ble_eq_true rfl⟩, (by dsimp only; omega), (by dsimp only; omega)⟩ rfl (Nat.le_of_ble_eq_true rfl) ⟨f0w, f10⟩ dX5_say_50) hS (inA1.to g_f0w) hn (fun r_11 H locs hR hz hk hS => ?_)
        have fo := fo.kept (hk _ fo.lt (inA1.not (clA.ne fo.cl f0w.cl (hC.oo 13 7 rfl rfl (by decide))) fo.lt))
        have fj := fj.kept (hk _ fj.lt (inA1.not (clA.ne fj.cla f0w.cl (hC.ao 7 3 rfl rfl)) fj.lt))
        have fk := fk.kept (fun k hk9 => hk _ (fk k hk9).lt (inA1.not (nW_f0w k hk9) (fk k hk9).lt))
        have fe := fe.kept (hk _ fe.lt (inA1.not (clA.ne fe.cla f0w.cl (hC.ao 7 0 rfl rfl)) fe.lt))
        have fr := fr.kept (hk _ fr.lt (inA1.not (clA.ne fr.cla f0w.cl (hC.ao 7 0 rfl rfl)) fr.lt))
        have f10 := f10.kept (hk _ f10.lt (inA1.not (clA.ne f10.cl f0w.cl (hC.oo 2 7 rfl rfl (by decide))) f10.lt))
        obtain ⟨hr9, q12, z9_, f0w, f12, e12⟩ := hR
        have s_f12 : s.heap.size ≤ q12 := Nat.le_trans hZ0_ z9_
        have g_f12 := hn _ s_f12
        have l_fo_f12 : mo < q12 := Nat.lt_of_lt_of_le t_fo z9_
        have l_fj_f12 : ra < q12 := Nat.lt_of_lt_of_le t_fj z9_
        have nW_f12 : ∀ k, k < 6 → rt k ≠ q12 := fun k hk9 => Nat.ne_of_lt (Nat.lt_of_lt_of_le (t_fk k hk9) z9_)
        have l_fe_f12 : ex < q12 := Nat.lt_of_lt_of_le t_fe z9_
        have l_fr_f12 : ro < q12 := Nat.lt_of_lt_of_le t_fr z9_
        have l_f0w_f12 : rl < q12 := Nat.lt_of_lt_of_le t_f0w z9_
        have l_f10_f12 : r_9 < q12 := Nat.lt_of_lt_of_le t_f10 z9_
        rw [hr9]
        refine lv_pop (pc := 53) hx hb dX5_say_53 rfl ?_
        refine lv_aload_n (pc := 54) hx hb dX5_say_54 rfl (lv_at hl 0 rfl) ?_
        refine r_get (pc := 55) E hC fo 1 (v := .ref rl) rfl rfl (by decide) uX5 (List.mem_cons_of_mem _ kw_1210) (fun _ h => h) dX5_say_55 ?_
        refine k_i (pc := 58) (k_V E hC hS hA hl.1 (c1.recv hC f0w rfl) rfl (c_Jx4a65c_size_8abf5 l D tk N0 sa H.size rl q12 1 (mdr + 1)) kw_1546 kw_1547 kw_1548 kw_8 kw_1549 (n := 0) (by decide +kernel) rfl ⟨⟨rfl, rfl⟩, ⟨Nat.le_of_ble_eq_true rfl, Nat.le_of_ble_eq_true rfl⟩, (by dsimp only; omega), (by dsimp only; omega)⟩ rfl (Nat.le_of_ble_eq_true rfl) f0w dX5_say_58) hS (fun q z w => absurd w (Nat.not_le.mpr z)) hn (fun r_13 H locs hR hz hk hS => ?_)
        have fo := fo.kept (hk _ fo.lt (Nat.not_le.mpr fo.lt))
        have fj := fj.kept (hk _ fj.lt (Nat.not_le.mpr fj.lt))
        have fk := fk.new hk
        have fe := fe.kept (hk _ fe.lt (Nat.not_le.mpr fe.lt))
        have fr := fr.kept (hk _ fr.lt (Nat.not_le.mpr fr.lt))
        have f0w := f0w.kept (hk _ f0w.lt (Nat.not_le.mpr f0w.lt))
        have f10 := f10.kept (hk _ f10.lt (Nat.not_le.mpr f10.lt))
        have f12 := f12.kept (hk _ f12.lt (Nat.not_le.mpr f12.lt))
        have e12 := e12.new hk
        rw [show r_13 = nI 1 from hR]
        refine r_iret (pc := 61) E hr hlk hS (by omega) (by omega) ?_ dX5_say_61
        exact ⟨_, _, _, ⟨_, _, _, _, _, fo, fj, fk, fe, fr, (Or.inr ⟨_, _, _, _, (hPs _ s_f12), f0w, f12, e12, (PI.one hsd), (by decide), (Or.inl rfl)⟩), ⟨hPm, hPa, hPl, hPe, hPr, hPk⟩, hFk, hFe, hFr, hpk, (by omega)⟩, Or.inr (Or.inr ⟨fun z9 => c_3 (er_1.trans z9), (by decide), rfl, rfl, rfl⟩), fun _ => rfl, fun z9 => absurd rfl z9⟩
      · have g_f0w := hPl
        have nW_f0w : ∀ k, k < 6 → rt k ≠ rl := fun k hk9 => clA.ne (fk k hk9).cla f0w.cl (hC.ao 7 0 rfl rfl)
        have g_fRw := hPb
        have nW_fRw : ∀ k, k < 6 → rt k ≠ br := fun k hk9 => clA.ne (fk k hk9).cla fRw.cla (hC.aa 0 4 rfl rfl (by dsimp only; decide))
        have hcbr := m_acB hmcr
        refine lv_aload_n (pc := 42) hx hb dX5_say_42 rfl (lv_at hl 0 rfl) ?_
        refine r_get (pc := 43) E hC fo 1 (v := .ref rl) rfl rfl (by decide) uX5 (List.mem_cons_of_mem _ kw_1210) (fun _ h => h) dX5_say_43 ?_
        refine lv_iload_n (pc := 46) hx hb dX5_say_46 rfl (lv_at hl 1 rfl) ?_
        have hZ0_ := hS.1
        have t_fo := fo.lt
        have t_fj := fj.lt
        have t_fk := fun k (hk9 : k < 6) => (fk k hk9).lt
        have t_fe := fe.lt
        have t_fr := fr.lt
        have t_f0w := f0w.lt
        have t_fRw := fRw.lt
        refine k_r (pc := 47) (k_S E hC hS hA hl.1 (c_J6_valueOf_2dffe l D tk N0 sa H.size x1) kw_1576 kw_1577 kw_22 kw_1578 (n := 1) (by decide +kernel) rfl ⟨⟨rfl, rfl⟩, ⟨Nat.le_of_ble_eq_true rfl, Nat.le_of_ble_eq_true rfl⟩, (by dsimp only; omega), (by dsimp only; omega)⟩ rfl (Nat.le_of_ble_eq_true rfl) trivial dX5_say_47) hS (fun q z w => absurd w (Nat.not_le.mpr z)) hn (fun r_14 H locs hR hz hk hS => ?_)
        have fo := fo.kept (hk _ fo.lt (Nat.not_le.mpr fo.lt))
        have fj := fj.kept (hk _ fj.lt (Nat.not_le.mpr fj.lt))
        have fk := fk.new hk
        have fe := fe.kept (hk _ fe.lt (Nat.not_le.mpr fe.lt))
        have fr := fr.kept (hk _ fr.lt (Nat.not_le.mpr fr.lt))
        have f0w := f0w.kept (hk _ f0w.lt (Nat.not_le.mpr f0w.lt))
        have fRw := fRw.kept (hk _ fRw.lt (Nat.not_le.mpr fRw.lt))
        have elw := elw.new hk
        have f15 := hR
        rcases Nat.lt_or_ge n9 capr with hkc | hkc9
        · refine k_i (pc := 50) (k_V E hC hS hA hl.1 (c1.recv hC f0w rfl) rfl (c_Jx4a65c_add_9ea2d l D tk N0 sa H.size rl br n9 capr r_14 2 mdr (.int x1) fnr vs (hA _ g_f0w) (hA _ g_fRw) (Or.inr rfl) hkc (by omega)) kw_1434 kw_1435 kw_1436 kw_8 kw_1437 (n := 1) (by decide +kernel) rfl ⟨⟨rfl, rfl⟩, ⟨Nat.le_of_ble_eq_true rfl, Nat.le_of_ble_eq_true rfl⟩, (by dsimp only; omega), (by dsimp only; omega)⟩ rfl (Nat.le_of_ble_eq_true rfl) ⟨f0w, fRw, elw, f15⟩ dX5_say_50) hS (inA2.to g_f0w g_fRw) hn (fun r_16 H locs hR hz hk hS => ?_)
          have fo := fo.kept (hk _ fo.lt (inA2.not (clA.ne fo.cl f0w.cl (hC.oo 13 7 rfl rfl (by decide))) (clA.ne fo.cl fRw.cla (hC.oa 13 4 rfl rfl)) fo.lt))
          have fj := fj.kept (hk _ fj.lt (inA2.not (clA.ne fj.cla f0w.cl (hC.ao 7 3 rfl rfl)) (clA.ne fj.cla fRw.cla (hC.aa 3 4 rfl rfl (by dsimp only; decide))) fj.lt))
          have fk := fk.kept (fun k hk9 => hk _ (fk k hk9).lt (inA2.not (nW_f0w k hk9) (nW_fRw k hk9) (fk k hk9).lt))
          have fe := fe.kept (hk _ fe.lt (inA2.not (clA.ne fe.cla f0w.cl (hC.ao 7 0 rfl rfl)) (clA.ne fe.cla fRw.cla (hC.aa 0 4 rfl rfl (by dsimp only; decide))) fe.lt))
          have fr := fr.kept (hk _ fr.lt (inA2.not (clA.ne fr.cla f0w.cl (hC.ao 7 0 rfl rfl)) (clA.ne fr.cla fRw.cla (hC.aa 0 4 rfl rfl (by dsimp only; decide))) fr.lt))
          have f15 := f15.kept (hk _ f15.lt (inA2.not (clA.ne f15.cl f0w.cl (hC.oo 2 7 rfl rfl (by decide))) (clA.ne f15.cl fRw.cla (hC.oa 2 4 rfl rfl)) f15.lt))
          obtain ⟨hr9, f0w, fRw, elw⟩ := hR
          rw [hr9]
          refine lv_pop (pc := 53) hx hb dX5_say_53 rfl ?_
          refine lv_aload_n (pc := 54) hx hb dX5_say_54 rfl (lv_at hl 0 rfl) ?_
          refine r_get (pc := 55) E hC fo 1 (v := .ref rl) rfl rfl (by decide) uX5 (List.mem_cons_of_mem _ kw_1210) (fun _ h => h) dX5_say_55 ?_
          refine k_i (pc := 58) (k_V E hC hS hA hl.1 (c1.recv hC f0w rfl) rfl (c_Jx4a65c_size_8abf5 l D tk N0 sa H.size rl br (n9 + 1) (mdr + 1)) kw_1546 kw_1547 kw_1548 kw_8 kw_1549 (n := 0) (by decide +kernel) rfl ⟨⟨rfl, rfl⟩, ⟨Nat.le_of_ble_eq_true rfl, Nat.le_of_ble_eq_true rfl⟩, (by dsimp only; omega), (by dsimp only; omega)⟩ rfl (Nat.le_of_ble_eq_true rfl) f0w dX5_say_58) hS (fun q z w => absurd w (Nat.not_le.mpr z)) hn (fun r_17 H locs hR hz hk hS => ?_)
          have fo := fo.kept (hk _ fo.lt (Nat.not_le.mpr fo.lt))
          have fj := fj.kept (hk _ fj.lt (Nat.not_le.mpr fj.lt))
          have fk := fk.new hk
          have fe := fe.kept (hk _ fe.lt (Nat.not_le.mpr fe.lt))
          have fr := fr.kept (hk _ fr.lt (Nat.not_le.mpr fr.lt))
          have f0w := f0w.kept (hk _ f0w.lt (Nat.not_le.mpr f0w.lt))
          have fRw := fRw.kept (hk _ fRw.lt (Nat.not_le.mpr fRw.lt))
          have f15 := f15.kept (hk _ f15.lt (Nat.not_le.mpr f15.lt))
          have elw := elw.new hk
          rw [show r_17 = nI (n9 + 1) from hR]
          refine r_iret (pc := 61) E hr hlk hS (by omega) (by omega) ?_ dX5_say_61
          exact ⟨_, _, _, ⟨_, _, _, _, _, fo, fj, fk, fe, fr, (Or.inr ⟨_, _, _, _, hPb, f0w, fRw, elw, (hPI.add hsd), (by omega), hmcr⟩), ⟨hPm, hPa, hPl, hPe, hPr, hPk⟩, hFk, hFe, hFr, hpk, (by omega)⟩, Or.inr (Or.inr ⟨fun z9 => c_3 (er_1.trans z9), (fun z9 => c_6 (by rw [z9]; rfl)), rfl, rfl, rfl⟩), fun _ => rfl, fun z9 => absurd rfl z9⟩
        · have hkc : capr = n9 := by omega
          have fRw := fRw.ofcap hkc
          have hgr := m_grow (c9 := n9) (by rw [← hkc]; exact hmcr) (by omega)
          have hgb := m_acB hgr.1
          have hZ0_ := hS.1
          have t_fo := fo.lt
          have t_fj := fj.lt
          have t_fk := fun k (hk9 : k < 6) => (fk k hk9).lt
          have t_fe := fe.lt
          have t_fr := fr.lt
          have t_f0w := f0w.lt
          have t_fRw := fRw.lt
          have t_f15 := f15.lt
          refine k_i (pc := 50) (k_V E hC hS hA hl.1 (c1.recv hC f0w rfl) rfl (c_Jx4a65c_add_9ea2d_G l D tk N0 sa H.size rl br n9 r_14 2 mdr (.int x1) fnr vs (hA _ g_f0w) (Or.inr rfl) (by omega) (by omega)) kw_1434 kw_1435 kw_1436 kw_8 kw_1437 (n := 1) (by decide +kernel) rfl ⟨⟨rfl, rfl⟩, ⟨Nat.le_of_ble_eq_true rfl, Nat.le_of_ble_eq_true rfl⟩, (by dsimp only; omega), (by dsimp only; omega)⟩ rfl (Nat.le_of_ble_eq_true rfl) ⟨f0w, fRw, elw, f15⟩ dX5_say_50) hS (inA1.to g_f0w) hn (fun r_18 H locs hR hz hk hS => ?_)
          have fo := fo.kept (hk _ fo.lt (inA1.not (clA.ne fo.cl f0w.cl (hC.oo 13 7 rfl rfl (by decide))) fo.lt))
          have fj := fj.kept (hk _ fj.lt (inA1.not (clA.ne fj.cla f0w.cl (hC.ao 7 3 rfl rfl)) fj.lt))
          have fk := fk.kept (fun k hk9 => hk _ (fk k hk9).lt (inA1.not (nW_f0w k hk9) (fk k hk9).lt))
          have fe := fe.kept (hk _ fe.lt (inA1.not (clA.ne fe.cla f0w.cl (hC.ao 7 0 rfl rfl)) fe.lt))
          have fr := fr.kept (hk _ fr.lt (inA1.not (clA.ne fr.cla f0w.cl (hC.ao 7 0 rfl rfl)) fr.lt))
          have fRw := fRw.kept (hk _ fRw.lt (inA1.not (clA.ne fRw.cla f0w.cl (hC.ao 7 4 rfl rfl)) fRw.lt))
          have f15 := f15.kept (hk _ f15.lt (inA1.not (clA.ne f15.cl f0w.cl (hC.oo 2 7 rfl rfl (by decide))) f15.lt))
          obtain ⟨hr9, q19, f_19, z9_, f0w, f19, elw⟩ := hR
          have s_f19 : s.heap.size ≤ q19 := Nat.le_trans hZ0_ z9_
          have g_f19 := hn _ s_f19
          have l_fo_f19 : mo < q19 := Nat.lt_of_lt_of_le t_fo z9_
          have l_fj_f19 : ra < q19 := Nat.lt_of_lt_of_le t_fj z9_
          have nW_f19 : ∀ k, k < 6 → rt k ≠ q19 := fun k hk9 => Nat.ne_of_lt (Nat.lt_of_lt_of_le (t_fk k hk9) z9_)
          have l_fe_f19 : ex < q19 := Nat.lt_of_lt_of_le t_fe z9_
          have l_fr_f19 : ro < q19 := Nat.lt_of_lt_of_le t_fr z9_
          have l_f0w_f19 : rl < q19 := Nat.lt_of_lt_of_le t_f0w z9_
          have l_fRw_f19 : br < q19 := Nat.lt_of_lt_of_le t_fRw z9_
          have l_f15_f19 : r_14 < q19 := Nat.lt_of_lt_of_le t_f15 z9_
          rw [hr9]
          refine lv_pop (pc := 53) hx hb dX5_say_53 rfl ?_
          refine lv_aload_n (pc := 54) hx hb dX5_say_54 rfl (lv_at hl 0 rfl) ?_
          refine r_get (pc := 55) E hC fo 1 (v := .ref rl) rfl rfl (by decide) uX5 (List.mem_cons_of_mem _ kw_1210) (fun _ h => h) dX5_say_55 ?_
          refine k_i (pc := 58) (k_V E hC hS hA hl.1 (c1.recv hC f0w rfl) rfl (c_Jx4a65c_size_8abf5 l D tk N0 sa H.size rl q19 (n9 + 1) (mdr + 1)) kw_1546 kw_1547 kw_1548 kw_8 kw_1549 (n := 0) (by decide +kernel) rfl ⟨⟨rfl, rfl⟩, ⟨Nat.le_of_ble_eq_true rfl, Nat.le_of_ble_eq_true rfl⟩, (by dsimp only; omega), (by dsimp only; omega)⟩ rfl (Nat.le_of_ble_eq_true rfl) f0w dX5_say_58) hS (fun q z w => absurd w (Nat.not_le.mpr z)) hn (fun r_20 H locs hR hz hk hS => ?_)
          have fo := fo.kept (hk _ fo.lt (Nat.not_le.mpr fo.lt))
          have fj := fj.kept (hk _ fj.lt (Nat.not_le.mpr fj.lt))
          have fk := fk.new hk
          have fe := fe.kept (hk _ fe.lt (Nat.not_le.mpr fe.lt))
          have fr := fr.kept (hk _ fr.lt (Nat.not_le.mpr fr.lt))
          have f0w := f0w.kept (hk _ f0w.lt (Nat.not_le.mpr f0w.lt))
          have fRw := fRw.kept (hk _ fRw.lt (Nat.not_le.mpr fRw.lt))
          have f15 := f15.kept (hk _ f15.lt (Nat.not_le.mpr f15.lt))
          have f19 := f19.kept (hk _ f19.lt (Nat.not_le.mpr f19.lt))
          have elw := elw.new hk
          rw [show r_20 = nI (n9 + 1) from hR]
          refine r_iret (pc := 61) E hr hlk hS (by omega) (by omega) ?_ dX5_say_61
          exact ⟨_, _, _, ⟨_, _, _, _, _, fo, fj, fk, fe, fr, (Or.inr ⟨_, _, _, _, (hPs _ s_f19), f0w, f19, elw, (hPI.add hsd), (by omega), hgr.1⟩), ⟨hPm, hPa, hPl, hPe, hPr, hPk⟩, hFk, hFe, hFr, hpk, (by omega)⟩, Or.inr (Or.inr ⟨fun z9 => c_3 (er_1.trans z9), (fun z9 => c_6 (by rw [z9]; rfl)), rfl, rfl, rfl⟩), fun _ => rfl, fun z9 => absurd rfl z9⟩
    · refine lv_iconst (pc := 29) (v := 1) hx hb dX5_say_29 (by decide) ?_
      refine lv_goto (pc := 30) (tgt := 34) hx hb dX5_say_30 (by decide) ?_
      have hZ0_ := hS.1
      have t_fo := fo.lt
      have t_fj := fj.lt
      have t_fk := fun k (hk9 : k < 6) => (fk k hk9).lt
      have t_fe := fe.lt
      have t_fr := fr.lt
      have t_fz4 := fz4.lt
      refine k_i (pc := 34) (k_V E hC hS hA hl.1 (c1.recv hC fo rfl) rfl (c_X5_fails l D tk N0 sa H.size P hPN (fun q h9 => hPs q (Nat.le_trans hS.1 h9)) mo n9 kn th tt bb eT eB oT oB pk ca rf vs 0 1 ) kw_1251 kw_1253 kp_20 kw_5 kw_1254 (n := 2) (by decide +kernel) rfl ⟨⟨rfl, rfl⟩, ⟨Nat.le_of_ble_eq_true rfl, Nat.le_of_ble_eq_true rfl⟩, (by dsimp only; omega), (by dsimp only; omega)⟩ rfl (Nat.le_of_ble_eq_true rfl) ⟨_, _, _, _, _, fo, fj, fk, fe, fr, fw, ⟨hPm, hPa, hPl, hPe, hPr, hPk⟩, hFk, hFe, hFr, hpk, hn9⟩ dX5_say_34) hS (fun q _ h => h) hn (fun r_21 H locs hR hz hk hS => ?_)
      obtain ⟨er_21, hM⟩ := hR
      obtain ⟨ra, rl, ex, ro, rt, fo, fj, fk, fe, fr, fw, ⟨hPm, hPa, hPl, hPe, hPr, hPk⟩, hFk, hFe, hFr, hpk, hn9⟩ := hM
      have g_fo := hPm
      have g_fj := hPa
      have ef_r_21 : r_21 = 1 := er_21.trans (m_fl1 _)
      rw [ef_r_21]
      refine lv_if_eq (pc := 37) (tgt := 42) hx hb dX5_say_37 (by decide) (fun c_22 => ?_) (fun c_22 => ?_)
      · exact absurd c_22 (by decide)
      refine lv_iconst (pc := 40) (v := 0) hx hb dX5_say_40 (by decide) ?_
      refine r_iret (pc := 41) E hr hlk hS (by omega) (by omega) ?_ dX5_say_41
      exact ⟨_, _, _, ⟨_, _, _, _, _, fo, fj, fk, fe, fr, fw, ⟨hPm, hPa, hPl, hPe, hPr, hPk⟩, hFk, hFe, hFr, hpk, hn9⟩, Or.inr (Or.inl ⟨fun z9 => c_3 (er_1.trans z9), (nI_eq (by omega) (by decide)).mp c_6, rfl, rfl, rfl⟩), fun z9 => absurd z9 (by decide), fun _ => rfl⟩
  · refine lv_iconst (pc := 12) (v := 1) hx hb dX5_say_12 (by decide) ?_
    refine lv_goto (pc := 13) (tgt := 17) hx hb dX5_say_13 (by decide) ?_
    refine lv_aload_n (pc := 17) hx hb dX5_say_17 rfl (lv_at hl 0 rfl) ?_
    refine r_get (pc := 18) E hC fo 1 (v := .ref rl) rfl rfl (by decide) uX5 (List.mem_cons_of_mem _ kw_1210) (fun _ h => h) dX5_say_18 ?_
    obtain ⟨md_23, b_23, fz23⟩ := fw.obj
    refine k_i (pc := 21) (k_V E hC hS hA hl.1 (c1.recv hC fz23 rfl) rfl (c_Jx4a65c_size_8abf5 l D tk N0 sa H.size rl b_23 n9 md_23) kw_1546 kw_1547 kw_1548 kw_8 kw_1549 (n := 0) (by decide +kernel) rfl ⟨⟨rfl, rfl⟩, ⟨Nat.le_of_ble_eq_true rfl, Nat.le_of_ble_eq_true rfl⟩, (by dsimp only; omega), (by dsimp only; omega)⟩ rfl (Nat.le_of_ble_eq_true rfl) fz23 dX5_say_21) hS (fun q z w => absurd w (Nat.not_le.mpr z)) hn (fun r_24 H locs hR hz hk hS => ?_)
    have fw := fw.new hk
    have fo := fo.kept (hk _ fo.lt (Nat.not_le.mpr fo.lt))
    have fj := fj.kept (hk _ fj.lt (Nat.not_le.mpr fj.lt))
    have fk := fk.new hk
    have fe := fe.kept (hk _ fe.lt (Nat.not_le.mpr fe.lt))
    have fr := fr.kept (hk _ fr.lt (Nat.not_le.mpr fr.lt))
    have fz23 := fz23.kept (hk _ fz23.lt (Nat.not_le.mpr fz23.lt))
    rw [show r_24 = nI n9 from hR]
    refine lv_bipush (pc := 24) (v := 16) hx hb dX5_say_24 (by decide) ?_
    refine lv_icmp_ne (pc := 26) (tgt := 33) hx hb dX5_say_26 (by decide) (fun c_25 => ?_) (fun c_25 => ?_)
    · refine lv_iconst (pc := 33) (v := 0) hx hb dX5_say_33 (by decide) ?_
      have hZ0_ := hS.1
      have t_fo := fo.lt
      have t_fj := fj.lt
      have t_fk := fun k (hk9 : k < 6) => (fk k hk9).lt
      have t_fe := fe.lt
      have t_fr := fr.lt
      have t_fz23 := fz23.lt
      refine k_i (pc := 34) (k_V E hC hS hA hl.1 (c1.recv hC fo rfl) rfl (c_X5_fails l D tk N0 sa H.size P hPN (fun q h9 => hPs q (Nat.le_trans hS.1 h9)) mo n9 kn th tt bb eT eB oT oB pk ca rf vs 1 0 ) kw_1251 kw_1253 kp_20 kw_5 kw_1254 (n := 2) (by decide +kernel) rfl ⟨⟨rfl, rfl⟩, ⟨Nat.le_of_ble_eq_true rfl, Nat.le_of_ble_eq_true rfl⟩, (by dsimp only; omega), (by dsimp only; omega)⟩ rfl (Nat.le_of_ble_eq_true rfl) ⟨_, _, _, _, _, fo, fj, fk, fe, fr, fw, ⟨hPm, hPa, hPl, hPe, hPr, hPk⟩, hFk, hFe, hFr, hpk, hn9⟩ dX5_say_34) hS (fun q _ h => h) hn (fun r_26 H locs hR hz hk hS => ?_)
      obtain ⟨er_26, hM⟩ := hR
      obtain ⟨ra, rl, ex, ro, rt, fo, fj, fk, fe, fr, fw, ⟨hPm, hPa, hPl, hPe, hPr, hPk⟩, hFk, hFe, hFr, hpk, hn9⟩ := hM
      have g_fo := hPm
      have g_fj := hPa
      have ef_r_26 : r_26 = 1 := er_26.trans (if_neg (by decide))
      rw [ef_r_26]
      refine lv_if_eq (pc := 37) (tgt := 42) hx hb dX5_say_37 (by decide) (fun c_27 => ?_) (fun c_27 => ?_)
      · exact absurd c_27 (by decide)
      refine lv_iconst (pc := 40) (v := 0) hx hb dX5_say_40 (by decide) ?_
      refine r_iret (pc := 41) E hr hlk hS (by omega) (by omega) ?_ dX5_say_41
      exact ⟨_, _, _, ⟨_, _, _, _, _, fo, fj, fk, fe, fr, fw, ⟨hPm, hPa, hPl, hPe, hPr, hPk⟩, hFk, hFe, hFr, hpk, hn9⟩, Or.inl ⟨er_1.symm.trans c_3, rfl, rfl, rfl⟩, fun z9 => absurd z9 (by decide), fun _ => rfl⟩
    · refine lv_iconst (pc := 29) (v := 1) hx hb dX5_say_29 (by decide) ?_
      refine lv_goto (pc := 30) (tgt := 34) hx hb dX5_say_30 (by decide) ?_
      have hZ0_ := hS.1
      have t_fo := fo.lt
      have t_fj := fj.lt
      have t_fk := fun k (hk9 : k < 6) => (fk k hk9).lt
      have t_fe := fe.lt
      have t_fr := fr.lt
      have t_fz23 := fz23.lt
      refine k_i (pc := 34) (k_V E hC hS hA hl.1 (c1.recv hC fo rfl) rfl (c_X5_fails l D tk N0 sa H.size P hPN (fun q h9 => hPs q (Nat.le_trans hS.1 h9)) mo n9 kn th tt bb eT eB oT oB pk ca rf vs 1 1 ) kw_1251 kw_1253 kp_20 kw_5 kw_1254 (n := 2) (by decide +kernel) rfl ⟨⟨rfl, rfl⟩, ⟨Nat.le_of_ble_eq_true rfl, Nat.le_of_ble_eq_true rfl⟩, (by dsimp only; omega), (by dsimp only; omega)⟩ rfl (Nat.le_of_ble_eq_true rfl) ⟨_, _, _, _, _, fo, fj, fk, fe, fr, fw, ⟨hPm, hPa, hPl, hPe, hPr, hPk⟩, hFk, hFe, hFr, hpk, hn9⟩ dX5_say_34) hS (fun q _ h => h) hn (fun r_28 H locs hR hz hk hS => ?_)
      obtain ⟨er_28, hM⟩ := hR
      obtain ⟨ra, rl, ex, ro, rt, fo, fj, fk, fe, fr, fw, ⟨hPm, hPa, hPl, hPe, hPr, hPk⟩, hFk, hFe, hFr, hpk, hn9⟩ := hM
      have g_fo := hPm
      have g_fj := hPa
      have ef_r_28 : r_28 = 1 := er_28.trans (if_neg (by decide))
      rw [ef_r_28]
      refine lv_if_eq (pc := 37) (tgt := 42) hx hb dX5_say_37 (by decide) (fun c_29 => ?_) (fun c_29 => ?_)
      · exact absurd c_29 (by decide)
      refine lv_iconst (pc := 40) (v := 0) hx hb dX5_say_40 (by decide) ?_
      refine r_iret (pc := 41) E hr hlk hS (by omega) (by omega) ?_ dX5_say_41
      exact ⟨_, _, _, ⟨_, _, _, _, _, fo, fj, fk, fe, fr, fw, ⟨hPm, hPa, hPl, hPe, hPr, hPk⟩, hFk, hFe, hFr, hpk, hn9⟩, Or.inl ⟨er_1.symm.trans c_3, rfl, rfl, rfl⟩, fun z9 => absurd z9 (by decide), fun _ => rfl⟩
set_option maxHeartbeats 4000000 in
set_option maxRecDepth 100000 in
/-- BestratiosModel.unsay(I)I -/
theorem c_X5_unsay (l : Launch) (D : va_G) (tk : Nat → ClassId) (N0 : Nat) (sa : Nat → Nat)  (sz : Nat) (P : Nat → Prop) (hPN : ∀ q, P q → N0 ≤ q) (hPs : ∀ q, sz ≤ q → P q) (mo n9 : Nat) (kn th : Int32) (tt bb : Nat → Int64) (eT eB oT oB : Int64) (pk : Nat) (ca rf : Int32) (vs : Nat → Value) (x1 : Int32) : Met l yX5_unsay (wsy yX5_unsay cX5_unsay 3 (some .int)) ({ frames := 3, cells := 0, slots := 0, locals := 66 } : Room) (cP D tk N0 sa [.ref mo, .int x1] sz (fun H => MI D tk sa P mo tt bb eT eB oT oB pk ca rf vs kn n9 th H)) (kQi (fun r H => ∃ n1 th1, MI D tk sa P mo tt bb eT eB oT oB pk ca rf vs kn n1 th1 H ∧ m_uns x1 n9 r n1 th1) (P)) (0) (0) (P) := by
  refine mStart RX5 rfl (by decide +kernel) (Nat.le_of_ble_eq_true rfl) ?_
  intro p e s m args below meth c E hr hlk hnm hsz hC hF ls hl
  subst hsz
  obtain ⟨hx, hb, -⟩ := id E
  have hA : ∀ q, (P) q → N0 ≤ q := hPN
  have hn : ∀ q, s.heap.size ≤ q → (P) q := hPs
  have hS : va_S (P) s.heap s.heap [] := va_S.rf
  have hl : lv_has ls 3 [(0, .ref mo), (1, .int x1)] := hl
  obtain ⟨Q, hQ⟩ : ∃ Q, Q = MQ below (kQi (fun r H => ∃ n1 th1, MI D tk sa P mo tt bb eT eB oT oB pk ca rf vs kn n1 th1 H ∧ m_uns x1 n9 r n1 th1) (P)) args s (0) (0) (P) := ⟨_, rfl⟩
  rw [← hQ]
  have hM : MI D tk sa P mo tt bb eT eB oT oB pk ca rf vs kn n9 th s.heap := hF
  obtain ⟨ra, rl, ex, ro, rt, fo, fj, fk, fe, fr, fw, ⟨hPm, hPa, hPl, hPe, hPr, hPk⟩, hFk, hFe, hFr, hpk, hn9⟩ := hM
  have g_fo := hPm
  have g_fj := hPa
  refine lv_aload_n (pc := 0) hx hb dX5_unsay_0 rfl (lv_at hl 0 rfl) ?_
  refine lv_iload_n (pc := 1) hx hb dX5_unsay_1 rfl (lv_at hl 1 rfl) ?_
  refine lv_iconst (pc := 2) (v := 0) hx hb dX5_unsay_2 (by decide) ?_
  refine lv_bipush (pc := 3) (v := 16) hx hb dX5_unsay_3 (by decide) ?_
  refine k_i (pc := 5) (k_S E hC hS hA hl.1 (c_X5_isIn l D tk N0 sa s.heap.size x1 0 16 ) kw_1248 kw_1249 kw_5 kw_1250 (n := 3) (by decide +kernel) rfl ⟨⟨rfl, rfl⟩, ⟨Nat.le_of_ble_eq_true rfl, Nat.le_of_ble_eq_true rfl⟩, (by dsimp only; omega), (by dsimp only; omega)⟩ rfl (Nat.le_of_ble_eq_true rfl) trivial dX5_unsay_5) hS (fun q z w => absurd w (Nat.not_le.mpr z)) hn (fun r_1 H locs hR hz hk hS => ?_)
  have er_1 := hR
  have fw := fw.new hk
  have fo := fo.kept (hk _ fo.lt (Nat.not_le.mpr fo.lt))
  have fj := fj.kept (hk _ fj.lt (Nat.not_le.mpr fj.lt))
  have fk := fk.new hk
  have fe := fe.kept (hk _ fe.lt (Nat.not_le.mpr fe.lt))
  have fr := fr.kept (hk _ fr.lt (Nat.not_le.mpr fr.lt))
  refine lv_if_ne (pc := 8) (tgt := 15) hx hb dX5_unsay_8 (by decide) (fun c_3 => ?_) (fun c_3 => ?_)
  · refine lv_iconst (pc := 15) (v := 0) hx hb dX5_unsay_15 (by decide) ?_
    refine lv_iconst (pc := 16) (v := 0) hx hb dX5_unsay_16 (by decide) ?_
    have hZ0_ := hS.1
    have t_fo := fo.lt
    have t_fj := fj.lt
    have t_fk := fun k (hk9 : k < 6) => (fk k hk9).lt
    have t_fe := fe.lt
    have t_fr := fr.lt
    refine k_i (pc := 17) (k_V E hC hS hA hl.1 (c1.recv hC fo rfl) rfl (c_X5_fails l D tk N0 sa H.size P hPN (fun q h9 => hPs q (Nat.le_trans hS.1 h9)) mo n9 kn th tt bb eT eB oT oB pk ca rf vs 0 0 ) kw_1251 kw_1253 kp_20 kw_5 kw_1254 (n := 2) (by decide +kernel) rfl ⟨⟨rfl, rfl⟩, ⟨Nat.le_of_ble_eq_true rfl, Nat.le_of_ble_eq_true rfl⟩, (by dsimp only; omega), (by dsimp only; omega)⟩ rfl (Nat.le_of_ble_eq_true rfl) ⟨_, _, _, _, _, fo, fj, fk, fe, fr, fw, ⟨hPm, hPa, hPl, hPe, hPr, hPk⟩, hFk, hFe, hFr, hpk, hn9⟩ dX5_unsay_17) hS (fun q _ h => h) hn (fun r_4 H locs hR hz hk hS => ?_)
    obtain ⟨er_4, hM⟩ := hR
    obtain ⟨ra, rl, ex, ro, rt, fo, fj, fk, fe, fr, fw, ⟨hPm, hPa, hPl, hPe, hPr, hPk⟩, hFk, hFe, hFr, hpk, hn9⟩ := hM
    have g_fo := hPm
    have g_fj := hPa
    have ef_r_4 : r_4 = 0 := er_4.trans rfl
    rw [ef_r_4]
    refine lv_if_eq (pc := 20) (tgt := 25) hx hb dX5_unsay_20 (by decide) (fun c_5 => ?_) (fun c_5 => ?_)
    rotate_left
    · exact absurd (by decide) c_5
    obtain ⟨km, hkm1, hkm2⟩ := m_in (x := x1) (hi_ := 16) (by decide) (fun z9 => c_3 (er_1.trans z9))
    rcases Nat.eq_zero_or_pos n9 with h0r | h0r
    · subst h0r
      obtain ⟨mdr, br, f0w⟩ := fw.obj
      refine lv_iconst (pc := 25) (v := 0) hx hb dX5_unsay_25 (by decide) ?_
      refine lv_istore_n (pc := 26) (lv' := [(2, .int 0), (0, .ref mo), (1, .int x1)]) hx hb dX5_unsay_26 rfl hl (by decide) rfl (fun ls hl => ?_)
      refine lv_iload_n (pc := 27) hx hb dX5_unsay_27 rfl (lv_at hl 0 rfl) ?_
      refine lv_iload_n (pc := 28) hx hb dX5_unsay_28 rfl (lv_at hl 2 rfl) ?_
      refine lv_icmp_ge (pc := 29) (tgt := 65) hx hb dX5_unsay_29 (by decide) (fun c_6 => ?_) (fun c_6 => ?_)
      · refine lv_aload_n (pc := 65) hx hb dX5_unsay_65 rfl (lv_at hl 1 rfl) ?_
        refine r_get (pc := 66) E hC fo 1 (v := .ref rl) rfl rfl (by decide) uX5 (List.mem_cons_of_mem _ kw_1210) (fun _ h => h) dX5_unsay_66 ?_
        obtain ⟨md_7, b_7, fz7⟩ := fw.obj
        refine k_i (pc := 69) (k_V E hC hS hA hl.1 (c1.recv hC fz7 rfl) rfl (c_Jx4a65c_size_8abf5 l D tk N0 sa H.size rl b_7 0 md_7) kw_1546 kw_1547 kw_1548 kw_8 kw_1549 (n := 0) (by decide +kernel) rfl ⟨⟨rfl, rfl⟩, ⟨Nat.le_of_ble_eq_true rfl, Nat.le_of_ble_eq_true rfl⟩, (by dsimp only; omega), (by dsimp only; omega)⟩ rfl (Nat.le_of_ble_eq_true rfl) (by exact fz7) dX5_unsay_69) hS (fun q z w => absurd w (Nat.not_le.mpr z)) hn (fun r_8 H locs hR hz hk hS => ?_)
        have fw := fw.new hk
        have fo := fo.kept (hk _ fo.lt (Nat.not_le.mpr fo.lt))
        have fj := fj.kept (hk _ fj.lt (Nat.not_le.mpr fj.lt))
        have fk := fk.new hk
        have fe := fe.kept (hk _ fe.lt (Nat.not_le.mpr fe.lt))
        have fr := fr.kept (hk _ fr.lt (Nat.not_le.mpr fr.lt))
        have f0w := f0w.kept (hk _ f0w.lt (Nat.not_le.mpr f0w.lt))
        have fz7 := fz7.kept (hk _ fz7.lt (Nat.not_le.mpr fz7.lt))
        rw [show r_8 = 0 from hR.trans nI_0]
        try rw [hQ]
        refine r_iret (pc := 72) E hr hlk hS (by omega) (by omega) ?_ dX5_unsay_72
        exact ⟨_, _, ⟨_, _, _, _, _, fo, fj, fk, fe, fr, fw, ⟨hPm, hPa, hPl, hPe, hPr, hPk⟩, hFk, hFe, hFr, hpk, hn9⟩, Or.inr ⟨km, hkm1, hkm2, nI_0.symm, by omega, rfl⟩⟩
      · refine lv_aload_n (pc := 32) hx hb dX5_unsay_32 rfl (lv_at hl 1 rfl) ?_
        refine r_get (pc := 33) E hC fo 1 (v := .ref rl) rfl rfl (by decide) uX5 (List.mem_cons_of_mem _ kw_1210) (fun _ h => h) dX5_unsay_33 ?_
        obtain ⟨md_9, b_9, fz9⟩ := fw.obj
        refine k_i (pc := 36) (k_V E hC hS hA hl.1 (c1.recv hC fz9 rfl) rfl (c_Jx4a65c_size_8abf5 l D tk N0 sa H.size rl b_9 0 md_9) kw_1546 kw_1547 kw_1548 kw_8 kw_1549 (n := 0) (by decide +kernel) rfl ⟨⟨rfl, rfl⟩, ⟨Nat.le_of_ble_eq_true rfl, Nat.le_of_ble_eq_true rfl⟩, (by dsimp only; omega), (by dsimp only; omega)⟩ rfl (Nat.le_of_ble_eq_true rfl) (by exact fz9) dX5_unsay_36) hS (fun q z w => absurd w (Nat.not_le.mpr z)) hn (fun r_10 H locs hR hz hk hS => ?_)
        have fw := fw.new hk
        have fo := fo.kept (hk _ fo.lt (Nat.not_le.mpr fo.lt))
        have fj := fj.kept (hk _ fj.lt (Nat.not_le.mpr fj.lt))
        have fk := fk.new hk
        have fe := fe.kept (hk _ fe.lt (Nat.not_le.mpr fe.lt))
        have fr := fr.kept (hk _ fr.lt (Nat.not_le.mpr fr.lt))
        have f0w := f0w.kept (hk _ f0w.lt (Nat.not_le.mpr f0w.lt))
        have fz9 := fz9.kept (hk _ fz9.lt (Nat.not_le.mpr fz9.lt))
        rw [show r_10 = 0 from hR.trans nI_0]
        refine lv_if_le (pc := 39) (tgt := 65) hx hb dX5_unsay_39 (by decide) (fun c_11 => ?_) (fun c_11 => ?_)
        rotate_left
        · exact absurd (by decide) c_11
        refine lv_aload_n (pc := 65) hx hb dX5_unsay_65 rfl (lv_at hl 1 rfl) ?_
        refine r_get (pc := 66) E hC fo 1 (v := .ref rl) rfl rfl (by decide) uX5 (List.mem_cons_of_mem _ kw_1210) (fun _ h => h) dX5_unsay_66 ?_
        obtain ⟨md_12, b_12, fz12⟩ := fw.obj
        refine k_i (pc := 69) (k_V E hC hS hA hl.1 (c1.recv hC fz12 rfl) rfl (c_Jx4a65c_size_8abf5 l D tk N0 sa H.size rl b_12 0 md_12) kw_1546 kw_1547 kw_1548 kw_8 kw_1549 (n := 0) (by decide +kernel) rfl ⟨⟨rfl, rfl⟩, ⟨Nat.le_of_ble_eq_true rfl, Nat.le_of_ble_eq_true rfl⟩, (by dsimp only; omega), (by dsimp only; omega)⟩ rfl (Nat.le_of_ble_eq_true rfl) (by exact fz12) dX5_unsay_69) hS (fun q z w => absurd w (Nat.not_le.mpr z)) hn (fun r_13 H locs hR hz hk hS => ?_)
        have fw := fw.new hk
        have fo := fo.kept (hk _ fo.lt (Nat.not_le.mpr fo.lt))
        have fj := fj.kept (hk _ fj.lt (Nat.not_le.mpr fj.lt))
        have fk := fk.new hk
        have fe := fe.kept (hk _ fe.lt (Nat.not_le.mpr fe.lt))
        have fr := fr.kept (hk _ fr.lt (Nat.not_le.mpr fr.lt))
        have f0w := f0w.kept (hk _ f0w.lt (Nat.not_le.mpr f0w.lt))
        have fz9 := fz9.kept (hk _ fz9.lt (Nat.not_le.mpr fz9.lt))
        have fz12 := fz12.kept (hk _ fz12.lt (Nat.not_le.mpr fz12.lt))
        rw [show r_13 = 0 from hR.trans nI_0]
        try rw [hQ]
        refine r_iret (pc := 72) E hr hlk hS (by omega) (by omega) ?_ dX5_unsay_72
        exact ⟨_, _, ⟨_, _, _, _, _, fo, fj, fk, fe, fr, fw, ⟨hPm, hPa, hPl, hPe, hPr, hPk⟩, hFk, hFe, hFr, hpk, hn9⟩, Or.inr ⟨km, hkm1, hkm2, nI_0.symm, by omega, rfl⟩⟩
    · rcases fw with ⟨h1r, -⟩ | ⟨mdr, br, capr, fnr, hPb, f0w, fRw, elw, hPI, hncr, hmcr⟩
      · exact absurd h1r (by omega)
      have g_f0w := hPl
      have nW_f0w : ∀ k, k < 6 → rt k ≠ rl := fun k hk9 => clA.ne (fk k hk9).cla f0w.cl (hC.ao 7 0 rfl rfl)
      have g_fRw := hPb
      have nW_fRw : ∀ k, k < 6 → rt k ≠ br := fun k hk9 => clA.ne (fk k hk9).cla fRw.cla (hC.aa 0 4 rfl rfl (by dsimp only; decide))
      have hcbr := m_acB hmcr
      refine lv_iconst (pc := 25) (v := 0) hx hb dX5_unsay_25 (by decide) ?_
      refine lv_istore_n (pc := 26) (lv' := [(2, .int 0), (0, .ref mo), (1, .int x1)]) hx hb dX5_unsay_26 rfl hl (by decide) rfl (fun ls hl => ?_)
      have loop_27 : ∀ (n : Nat) (k : Nat) (j : Nat) (mdq : Int32) (fnq : Nat → Option Nat)(y9 : Int32), 17 - k < n → k + j = n9 → y9 = nI k → k ≤ km → ∀ (H : Heap) (locs : List Loc) (ls : Array Slot), va_S (P) s.heap H locs → c1 D mo (.inr (13, [.ref ra, .ref rl, .ref ex, .ref ro, .int (nI pk), .int ca, .int rf, .int kn, .int ((m_th 0 0))])) H → c1 D ra (.inl (tk 3, 6, .inr (.inr (.inr (.inr (fun k => some (rt k))))))) H → MK D tk rt tt bb H → L2 D tk ex eT eB H → L2 D tk ro oT oB H → c1 D rl (.inr (7, [.int mdq, .ref br, .int (nI j)])) H → c1 D br (.inl (tk 4, capr, .inr (.inr (.inr (.inr fnq))))) H → EL D 2 j fnq vs H → lv_has ls 3 [(0, .ref mo), (1, .int x1), (2, .int y9)] → W p l e ({ frames := 3, cells := 0, slots := 0, locals := 66 } : Room) s m args below meth c H locs (0) (0) Q (F0 m 27 ls []) := by
        intro n
        induction n with
        | zero =>
          intro k j mdq fnq y9 hf9 hk9 hx9 hkk H locs ls hS fo fj fk fe fr f0w fRw elw hl
          omega
        | succ n ih_27 =>
          intro k j mdq fnq y9 hf9 hk9 hx9 hkk H locs ls hS fo fj fk fe fr f0w fRw elw hl
          refine lv_iload_n (pc := 27) hx hb dX5_unsay_27 rfl (lv_at hl 2 rfl) ?_
          refine lv_iload_n (pc := 28) hx hb dX5_unsay_28 rfl (lv_at hl 1 rfl) ?_
          refine lv_icmp_ge (pc := 29) (tgt := 65) hx hb dX5_unsay_29 (by decide) (fun c_14 => ?_) (fun c_14 => ?_)
          · refine lv_aload_n (pc := 65) hx hb dX5_unsay_65 rfl (lv_at hl 0 rfl) ?_
            refine r_get (pc := 66) E hC fo 1 (v := .ref rl) rfl rfl (by decide) uX5 (List.mem_cons_of_mem _ kw_1210) (fun _ h => h) dX5_unsay_66 ?_
            refine k_i (pc := 69) (k_V E hC hS hA hl.1 (c1.recv hC f0w rfl) rfl (c_Jx4a65c_size_8abf5 l D tk N0 sa H.size rl br j mdq) kw_1546 kw_1547 kw_1548 kw_8 kw_1549 (n := 0) (by decide +kernel) rfl ⟨⟨rfl, rfl⟩, ⟨Nat.le_of_ble_eq_true rfl, Nat.le_of_ble_eq_true rfl⟩, (by dsimp only; omega), (by dsimp only; omega)⟩ rfl (Nat.le_of_ble_eq_true rfl) f0w dX5_unsay_69) hS (fun q z w => absurd w (Nat.not_le.mpr z)) hn (fun r_15 H locs hR hz hk hS => ?_)
            have fo := fo.kept (hk _ fo.lt (Nat.not_le.mpr fo.lt))
            have fj := fj.kept (hk _ fj.lt (Nat.not_le.mpr fj.lt))
            have fk := fk.new hk
            have fe := fe.kept (hk _ fe.lt (Nat.not_le.mpr fe.lt))
            have fr := fr.kept (hk _ fr.lt (Nat.not_le.mpr fr.lt))
            have f0w := f0w.kept (hk _ f0w.lt (Nat.not_le.mpr f0w.lt))
            have fRw := fRw.kept (hk _ fRw.lt (Nat.not_le.mpr fRw.lt))
            have elw := elw.new hk
            rw [show r_15 = nI j from hR]
            try rw [hQ]
            refine r_iret (pc := 72) E hr hlk hS (by omega) (by omega) ?_ dX5_unsay_72
            exact ⟨_, _, ⟨_, _, _, _, _, fo, fj, fk, fe, fr, (Or.inr ⟨_, _, _, _, hPb, f0w, fRw, elw, hPI.le (by omega), by omega, hmcr⟩), ⟨hPm, hPa, hPl, hPe, hPr, hPk⟩, hFk, hFe, hFr, hpk, (by omega)⟩, Or.inr ⟨km, hkm1, hkm2, rfl, (by have hk0 : km ≤ k := Nat.not_lt.mp (fun z9 => absurd (nI_lt z9 (by omega)) (Int32.not_lt.mpr (by have h9 := c_14; rw [hkm1, hx9] at h9; exact h9))); omega), rfl⟩⟩
          · refine lv_aload_n (pc := 32) hx hb dX5_unsay_32 rfl (lv_at hl 0 rfl) ?_
            refine r_get (pc := 33) E hC fo 1 (v := .ref rl) rfl rfl (by decide) uX5 (List.mem_cons_of_mem _ kw_1210) (fun _ h => h) dX5_unsay_33 ?_
            refine k_i (pc := 36) (k_V E hC hS hA hl.1 (c1.recv hC f0w rfl) rfl (c_Jx4a65c_size_8abf5 l D tk N0 sa H.size rl br j mdq) kw_1546 kw_1547 kw_1548 kw_8 kw_1549 (n := 0) (by decide +kernel) rfl ⟨⟨rfl, rfl⟩, ⟨Nat.le_of_ble_eq_true rfl, Nat.le_of_ble_eq_true rfl⟩, (by dsimp only; omega), (by dsimp only; omega)⟩ rfl (Nat.le_of_ble_eq_true rfl) f0w dX5_unsay_36) hS (fun q z w => absurd w (Nat.not_le.mpr z)) hn (fun r_16 H locs hR hz hk hS => ?_)
            have fo := fo.kept (hk _ fo.lt (Nat.not_le.mpr fo.lt))
            have fj := fj.kept (hk _ fj.lt (Nat.not_le.mpr fj.lt))
            have fk := fk.new hk
            have fe := fe.kept (hk _ fe.lt (Nat.not_le.mpr fe.lt))
            have fr := fr.kept (hk _ fr.lt (Nat.not_le.mpr fr.lt))
            have f0w := f0w.kept (hk _ f0w.lt (Nat.not_le.mpr f0w.lt))
            have fRw := fRw.kept (hk _ fRw.lt (Nat.not_le.mpr fRw.lt))
            have elw := elw.new hk
            rw [show r_16 = nI j from hR]
            refine lv_if_le (pc := 39) (tgt := 65) hx hb dX5_unsay_39 (by decide) (fun c_17 => ?_) (fun c_17 => ?_)
            · refine lv_aload_n (pc := 65) hx hb dX5_unsay_65 rfl (lv_at hl 0 rfl) ?_
              refine r_get (pc := 66) E hC fo 1 (v := .ref rl) rfl rfl (by decide) uX5 (List.mem_cons_of_mem _ kw_1210) (fun _ h => h) dX5_unsay_66 ?_
              refine k_i (pc := 69) (k_V E hC hS hA hl.1 (c1.recv hC f0w rfl) rfl (c_Jx4a65c_size_8abf5 l D tk N0 sa H.size rl br j mdq) kw_1546 kw_1547 kw_1548 kw_8 kw_1549 (n := 0) (by decide +kernel) rfl ⟨⟨rfl, rfl⟩, ⟨Nat.le_of_ble_eq_true rfl, Nat.le_of_ble_eq_true rfl⟩, (by dsimp only; omega), (by dsimp only; omega)⟩ rfl (Nat.le_of_ble_eq_true rfl) f0w dX5_unsay_69) hS (fun q z w => absurd w (Nat.not_le.mpr z)) hn (fun r_18 H locs hR hz hk hS => ?_)
              have fo := fo.kept (hk _ fo.lt (Nat.not_le.mpr fo.lt))
              have fj := fj.kept (hk _ fj.lt (Nat.not_le.mpr fj.lt))
              have fk := fk.new hk
              have fe := fe.kept (hk _ fe.lt (Nat.not_le.mpr fe.lt))
              have fr := fr.kept (hk _ fr.lt (Nat.not_le.mpr fr.lt))
              have f0w := f0w.kept (hk _ f0w.lt (Nat.not_le.mpr f0w.lt))
              have fRw := fRw.kept (hk _ fRw.lt (Nat.not_le.mpr fRw.lt))
              have elw := elw.new hk
              rw [show r_18 = nI j from hR]
              try rw [hQ]
              refine r_iret (pc := 72) E hr hlk hS (by omega) (by omega) ?_ dX5_unsay_72
              exact ⟨_, _, ⟨_, _, _, _, _, fo, fj, fk, fe, fr, (Or.inr ⟨_, _, _, _, hPb, f0w, fRw, elw, hPI.le (by omega), by omega, hmcr⟩), ⟨hPm, hPa, hPl, hPe, hPr, hPk⟩, hFk, hFe, hFr, hpk, (by omega)⟩, Or.inr ⟨km, hkm1, hkm2, rfl, (by have hj0 := m_nle0 (by omega) c_17; omega), rfl⟩⟩
            · obtain ⟨j1, rfl⟩ : ∃ j1, j = j1 + 1 := ⟨j - 1, by have : j ≠ 0 := fun z9 => c_17 (by rw [z9]; decide); omega⟩
              obtain ⟨qe, hqe, fxe⟩ := elw j1 (by omega)
              have hlt : k < km := Nat.not_le.mp (fun z9 => c_14 (by rw [hkm1, hx9]; exact nI_le z9 (by omega)))
              refine lv_aload_n (pc := 42) hx hb dX5_unsay_42 rfl (lv_at hl 0 rfl) ?_
              refine r_get (pc := 43) E hC fo 1 (v := .ref rl) rfl rfl (by decide) uX5 (List.mem_cons_of_mem _ kw_1210) (fun _ h => h) dX5_unsay_43 ?_
              refine lv_aload_n (pc := 46) hx hb dX5_unsay_46 rfl (lv_at hl 0 rfl) ?_
              refine r_get (pc := 47) E hC fo 1 (v := .ref rl) rfl rfl (by decide) uX5 (List.mem_cons_of_mem _ kw_1210) (fun _ h => h) dX5_unsay_47 ?_
              refine k_i (pc := 50) (k_V E hC hS hA hl.1 (c1.recv hC f0w rfl) rfl (c_Jx4a65c_size_8abf5 l D tk N0 sa H.size rl br (j1 + 1) mdq) kw_1546 kw_1547 kw_1548 kw_8 kw_1549 (n := 0) (by decide +kernel) rfl ⟨⟨rfl, rfl⟩, ⟨Nat.le_of_ble_eq_true rfl, Nat.le_of_ble_eq_true rfl⟩, (by dsimp only; omega), (by dsimp only; omega)⟩ rfl (Nat.le_of_ble_eq_true rfl) f0w dX5_unsay_50) hS (fun q z w => absurd w (Nat.not_le.mpr z)) hn (fun r_19 H locs hR hz hk hS => ?_)
              have fo := fo.kept (hk _ fo.lt (Nat.not_le.mpr fo.lt))
              have fj := fj.kept (hk _ fj.lt (Nat.not_le.mpr fj.lt))
              have fk := fk.new hk
              have fe := fe.kept (hk _ fe.lt (Nat.not_le.mpr fe.lt))
              have fr := fr.kept (hk _ fr.lt (Nat.not_le.mpr fr.lt))
              have f0w := f0w.kept (hk _ f0w.lt (Nat.not_le.mpr f0w.lt))
              have fRw := fRw.kept (hk _ fRw.lt (Nat.not_le.mpr fRw.lt))
              have elw := elw.new hk
              rw [show r_19 = nI (j1 + 1) from hR]
              refine lv_iconst (pc := 53) (v := 1) hx hb dX5_unsay_53 (by decide) ?_
              refine lv_isub (pc := 54) hx hb dX5_unsay_54 ?_
              refine k_r (pc := 55) (k_V E hC hS hA hl.1 (c1.recv hC f0w rfl) rfl (c_Jx4a65c_remove_915e3 l D tk N0 sa H.size rl br j1 capr 2 qe mdq ((nI (j1 + 1)) - 1) fnq vs (hA _ g_f0w) (hA _ g_fRw) (Or.inr rfl) (nI_pred j1) (by omega) (by omega) hqe) kw_1597 kw_1598 kw_1599 kw_8 kw_1600 (n := 1) (by decide +kernel) rfl ⟨⟨rfl, rfl⟩, ⟨Nat.le_of_ble_eq_true rfl, Nat.le_of_ble_eq_true rfl⟩, (by dsimp only; omega), (by dsimp only; omega)⟩ rfl (Nat.le_of_ble_eq_true rfl) ⟨f0w, fRw, elw⟩ dX5_unsay_55) hS (inA2.to g_f0w g_fRw) hn (fun r_20 H locs hR hz hk hS => ?_)
              have fo := fo.kept (hk _ fo.lt (inA2.not (clA.ne fo.cl f0w.cl (hC.oo 13 7 rfl rfl (by decide))) (clA.ne fo.cl fRw.cla (hC.oa 13 4 rfl rfl)) fo.lt))
              have fj := fj.kept (hk _ fj.lt (inA2.not (clA.ne fj.cla f0w.cl (hC.ao 7 3 rfl rfl)) (clA.ne fj.cla fRw.cla (hC.aa 3 4 rfl rfl (by dsimp only; decide))) fj.lt))
              have fk := fk.kept (fun k hk9 => hk _ (fk k hk9).lt (inA2.not (nW_f0w k hk9) (nW_fRw k hk9) (fk k hk9).lt))
              have fe := fe.kept (hk _ fe.lt (inA2.not (clA.ne fe.cla f0w.cl (hC.ao 7 0 rfl rfl)) (clA.ne fe.cla fRw.cla (hC.aa 0 4 rfl rfl (by dsimp only; decide))) fe.lt))
              have fr := fr.kept (hk _ fr.lt (inA2.not (clA.ne fr.cla f0w.cl (hC.ao 7 0 rfl rfl)) (clA.ne fr.cla fRw.cla (hC.aa 0 4 rfl rfl (by dsimp only; decide))) fr.lt))
              obtain ⟨hr9, f0w, fRw, elw⟩ := hR
              rw [hr9]
              refine lv_pop (pc := 58) hx hb dX5_unsay_58 rfl ?_
              obtain ⟨x_21, ex_21⟩ : ∃ z9 : Int32, z9 = y9 + 1 := ⟨_, rfl⟩
              refine lv_iinc (pc := 59) (v := x_21) (lv' := [(2, .int x_21), (0, .ref mo), (1, .int x1)]) hx hb dX5_unsay_59 hl (k := 2) rfl (by rw [ex_21]; rfl) (by decide) rfl (fun ls hl => ?_)
              refine lv_goto (pc := 62) (tgt := 27) hx hb dX5_unsay_62 (by decide) ?_
              refine W.widen (k := 0) (n := 0) (by omega) (by omega) ?_
              exact ih_27  (k + 1) j1 _ _  x_21 (by omega) (by omega) (i_up hx9 ex_21) (by omega) _ _ _ hS fo fj fk fe fr f0w fRw elw (lv_sub hl [1, 2, 0] rfl)
      refine W.widen (k := 0) (n := 0) (by omega) (by omega) ?_
      exact loop_27 18 0 n9 _ _  0 (by omega) (by omega) nI_0.symm (Nat.zero_le _) _ _ _ hS fo fj fk fe fr f0w fRw elw (lv_sub hl [1, 2, 0] rfl)
  · refine lv_iconst (pc := 11) (v := 1) hx hb dX5_unsay_11 (by decide) ?_
    refine lv_goto (pc := 12) (tgt := 16) hx hb dX5_unsay_12 (by decide) ?_
    refine lv_iconst (pc := 16) (v := 0) hx hb dX5_unsay_16 (by decide) ?_
    have hZ0_ := hS.1
    have t_fo := fo.lt
    have t_fj := fj.lt
    have t_fk := fun k (hk9 : k < 6) => (fk k hk9).lt
    have t_fe := fe.lt
    have t_fr := fr.lt
    refine k_i (pc := 17) (k_V E hC hS hA hl.1 (c1.recv hC fo rfl) rfl (c_X5_fails l D tk N0 sa H.size P hPN (fun q h9 => hPs q (Nat.le_trans hS.1 h9)) mo n9 kn th tt bb eT eB oT oB pk ca rf vs 1 0 ) kw_1251 kw_1253 kp_20 kw_5 kw_1254 (n := 2) (by decide +kernel) rfl ⟨⟨rfl, rfl⟩, ⟨Nat.le_of_ble_eq_true rfl, Nat.le_of_ble_eq_true rfl⟩, (by dsimp only; omega), (by dsimp only; omega)⟩ rfl (Nat.le_of_ble_eq_true rfl) ⟨_, _, _, _, _, fo, fj, fk, fe, fr, fw, ⟨hPm, hPa, hPl, hPe, hPr, hPk⟩, hFk, hFe, hFr, hpk, hn9⟩ dX5_unsay_17) hS (fun q _ h => h) hn (fun r_22 H locs hR hz hk hS => ?_)
    obtain ⟨er_22, hM⟩ := hR
    obtain ⟨ra, rl, ex, ro, rt, fo, fj, fk, fe, fr, fw, ⟨hPm, hPa, hPl, hPe, hPr, hPk⟩, hFk, hFe, hFr, hpk, hn9⟩ := hM
    have g_fo := hPm
    have g_fj := hPa
    have ef_r_22 : r_22 = 1 := er_22.trans (if_neg (by decide))
    rw [ef_r_22]
    refine lv_if_eq (pc := 20) (tgt := 25) hx hb dX5_unsay_20 (by decide) (fun c_23 => ?_) (fun c_23 => ?_)
    · exact absurd c_23 (by decide)
    refine lv_iconst (pc := 23) (v := 0) hx hb dX5_unsay_23 (by decide) ?_
    try rw [hQ]
    refine r_iret (pc := 24) E hr hlk hS (by omega) (by omega) ?_ dX5_unsay_24
    exact ⟨_, _, ⟨_, _, _, _, _, fo, fj, fk, fe, fr, fw, ⟨hPm, hPa, hPl, hPe, hPr, hPk⟩, hFk, hFe, hFr, hpk, hn9⟩, Or.inl ⟨er_1.symm.trans c_3, rfl, rfl, rfl⟩⟩
set_option maxHeartbeats 4000000 in
set_option maxRecDepth 100000 in
/-- BestratiosModel.rowNow()Ljava/util/ArrayList; -/
theorem c_X5_rowNow_E (l : Launch) (D : va_G) (tk : Nat → ClassId) (N0 : Nat) (sa : Nat → Nat)  (sz : Nat) (mo ra rl ex ro pk br : Nat) (ca rf kn th mdr : Int32) : Met l yX5_rowNow (wsy yX5_rowNow cX5_rowNow 4 (some (.object "java/util/ArrayList"))) ({ frames := 4, cells := 2, slots := 7, locals := 80 } : Room) (cP D tk N0 sa [.ref mo] sz (fun H => c1 D mo (.inr (13, [.ref ra, .ref rl, .ref ex, .ref ro, .int (nI pk), .int ca, .int rf, .int kn, .int th])) H ∧ c1 D rl (.inr (7, [.int mdr, .ref br, .int (nI 0)])) H)) (kQr (fun r H => sz ≤ r ∧ c1 D r (.inr (7, [.int 0, .ref (sa 1), .int 0])) H) (nwA sz)) (2) (7) (nwA sz) := by
  refine mStart RX5 rfl (by decide +kernel) (Nat.le_of_ble_eq_true rfl) ?_
  intro p e s m args below meth c E hr hlk hnm hsz hC hF ls hl
  subst hsz
  obtain ⟨hx, hb, -⟩ := id E
  have hA : ∀ q, (nwA s.heap.size) q → N0 ≤ q := fun q h => Nat.le_trans hC.2.1 h
  have hn : ∀ q, s.heap.size ≤ q → (nwA s.heap.size) q := fun q h => h
  have hS : va_S (nwA s.heap.size) s.heap s.heap [] := va_S.rf
  have hl : lv_has ls 4 [(0, .ref mo)] := hl
  obtain ⟨fo, f0w⟩ : c1 D mo (.inr (13, [.ref ra, .ref rl, .ref ex, .ref ro, .int (nI pk), .int ca, .int rf, .int kn, .int th])) s.heap ∧ c1 D rl (.inr (7, [.int mdr, .ref br, .int (nI 0)])) s.heap := hF
  have hS0_ := hS
  refine r_new (pc := 0) E hC hS tyJx4a65c_ok uJx4a65c (List.mem_cons_of_mem _ kw_1170) (List.mem_cons_of_mem _ kw_1171) (List.mem_cons_of_mem _ kw_8) (ci := 7) rfl (fs := [.int 0, .null, .int 0]) (by decide) (by dsimp only; omega) (by dsimp only; omega) dX5_rowNow_0 (fun qf1 H zq_ n_ ho_ hS => ?_)
  have l_fo_f1 : mo < qf1 := zq_ ▸ fo.lt
  have fo := fo.kept (ho_ _ fo.lt)
  have l_f0w_f1 : rl < qf1 := zq_ ▸ f0w.lt
  have f0w := f0w.kept (ho_ _ f0w.lt)
  have f1 := n_
  have s_f1 : s.heap.size ≤ qf1 := zq_ ▸ hS0_.1
  have g_f1 := hn _ s_f1
  refine lv_dup (pc := 3) hx hb dX5_rowNow_3 rfl ?_
  refine k_v (pc := 4) (k_I E hC hS hA hl.1 (c_Jx4a65c_init_da8c8 l D tk N0 sa H.size qf1 (hA _ g_f1)) kw_1172 kw_1173 kw_8 kw_1174 rfl (n := 0) (by decide +kernel) rfl ⟨⟨rfl, rfl⟩, ⟨Nat.le_of_ble_eq_true rfl, Nat.le_of_ble_eq_true rfl⟩, (by dsimp only; omega), (by dsimp only; omega)⟩ rfl (Nat.le_of_ble_eq_true rfl) f1 dX5_rowNow_4) hS (inA1.to g_f1) hn (fun H locs hR hz hk hS => ?_)
  have fo := fo.kept (hk _ fo.lt (inA1.not (clA.ne fo.cl f1.cl (hC.oo 13 7 rfl rfl (by decide))) fo.lt))
  have f0w := f0w.kept (hk _ f0w.lt (inA1.not (Nat.ne_of_lt l_f0w_f1) f0w.lt))
  have f1 := hR
  refine lv_astore_n (pc := 7) (lv' := [(1, .ref qf1), (0, .ref mo)]) hx hb dX5_rowNow_7 rfl hl (by decide) rfl (fun ls hl => ?_)
  refine lv_aload_n (pc := 8) hx hb dX5_rowNow_8 rfl (lv_at hl 1 rfl) ?_
  refine r_get (pc := 9) E hC fo 1 (v := .ref rl) rfl rfl (by decide) uX5 (List.mem_cons_of_mem _ kw_1210) (fun _ h => h) dX5_rowNow_9 ?_
  have hZ0_ := hS.1
  have t_fo := fo.lt
  have t_f0w := f0w.lt
  have t_f1 := f1.lt
  refine k_r (pc := 12) (k_V E hC hS hA hl.1 (c1.recv hC f0w rfl) rfl (c_Jx4a65c_iterator_32c93 l D tk N0 sa H.size rl br 0 mdr) kw_1486 kw_1487 kw_1488 kw_8 kw_1489 (n := 0) (by decide +kernel) rfl ⟨⟨rfl, rfl⟩, ⟨Nat.le_of_ble_eq_true rfl, Nat.le_of_ble_eq_true rfl⟩, (by dsimp only; omega), (by dsimp only; omega)⟩ rfl (Nat.le_of_ble_eq_true rfl) (by exact f0w) dX5_rowNow_12) hS (fun q z w => absurd w (Nat.not_le.mpr z)) hn (fun r_3 H locs hR hz hk hS => ?_)
  have fo := fo.kept (hk _ fo.lt (Nat.not_le.mpr fo.lt))
  have f0w := f0w.kept (hk _ f0w.lt (Nat.not_le.mpr f0w.lt))
  have f1 := f1.kept (hk _ f1.lt (Nat.not_le.mpr f1.lt))
  obtain ⟨z9_, f4⟩ := hR
  have s_f4 : s.heap.size ≤ r_3 := Nat.le_trans hZ0_ z9_
  have g_f4 := hn _ s_f4
  have l_fo_f4 : mo < r_3 := Nat.lt_of_lt_of_le t_fo z9_
  have l_f0w_f4 : rl < r_3 := Nat.lt_of_lt_of_le t_f0w z9_
  have l_f1_f4 : qf1 < r_3 := Nat.lt_of_lt_of_le t_f1 z9_
  refine lv_astore_n (pc := 15) (lv' := [(2, .ref r_3), (1, .ref qf1), (0, .ref mo)]) hx hb dX5_rowNow_15 rfl hl (by decide) rfl (fun ls hl => ?_)
  refine lv_aload_n (pc := 16) hx hb dX5_rowNow_16 rfl (lv_at hl 0 rfl) ?_
  refine k5_i (pc := 17) (k_F (ci := 6) rfl hC.xt.2.2.2.1 E hC hS hA hl.1 (c1.recv hC f4 rfl) (c_Jx35411_hasNext_aae02 l D tk N0 sa H.size r_3 rl br 0 0 mdr ((-1)) (by omega) (by omega)) kw_1510 kw_1516 kw_1514 kw_29 kw_1518 (n := 0) (by decide +kernel) rfl ⟨⟨rfl, rfl⟩, ⟨Nat.le_of_ble_eq_true rfl, Nat.le_of_ble_eq_true rfl⟩, (by dsimp only; omega), (by dsimp only; omega)⟩ rfl (Nat.le_of_ble_eq_true rfl) ⟨f4, f0w⟩ dX5_rowNow_17) hS (fun q z w => absurd w (Nat.not_le.mpr z)) hn (fun r_5 H locs hR hz hk hS => ?_)
  have fo := fo.kept (hk _ fo.lt (Nat.not_le.mpr fo.lt))
  have f0w := f0w.kept (hk _ f0w.lt (Nat.not_le.mpr f0w.lt))
  have f1 := f1.kept (hk _ f1.lt (Nat.not_le.mpr f1.lt))
  have f4 := f4.kept (hk _ f4.lt (Nat.not_le.mpr f4.lt))
  have hn_r_5 := hR
  refine lv_if_eq (pc := 22) (tgt := 51) hx hb dX5_rowNow_22 (by decide) (fun c_6 => ?_) (fun c_6 => ?_)
  rotate_left
  · exact absurd (hn_r_5.elim (fun z9 => z9.1) (fun z9 => absurd rfl z9.2)) c_6
  refine lv_aload_n (pc := 51) hx hb dX5_rowNow_51 rfl (lv_at hl 1 rfl) ?_
  refine r_aret (pc := 52) E hr (Or.inl ⟨_, rfl⟩) hlk hS (by omega) (by omega) ?_ dX5_rowNow_52
  exact ⟨s_f1, f1⟩
set_option maxHeartbeats 4000000 in
set_option maxRecDepth 100000 in
/-- BestratiosModel.rowNow()Ljava/util/ArrayList; -/
theorem c_X5_rowNow_A (l : Launch) (D : va_G) (tk : Nat → ClassId) (N0 : Nat) (sa : Nat → Nat)  (sz : Nat) (mo ra rl ex ro pk br : Nat) (ca rf kn th mdr : Int32) (n9 capr : Nat) (fnr : Nat → Option Nat) (vsr : Nat → Value) (h0r : 1 ≤ n9) (hn9 : n9 ≤ 16) (hncr : n9 ≤ capr) (hcapr : capr ≤ 1000) (hPI : PI n9 vsr) : Met l yX5_rowNow (wsy yX5_rowNow cX5_rowNow 4 (some (.object "java/util/ArrayList"))) ({ frames := 7, cells := 23, slots := 160, locals := 157 } : Room) (cP D tk N0 sa [.ref mo] sz (fun H => c1 D mo (.inr (13, [.ref ra, .ref rl, .ref ex, .ref ro, .int (nI pk), .int ca, .int rf, .int kn, .int th])) H ∧ c1 D rl (.inr (7, [.int mdr, .ref br, .int (nI n9)])) H ∧ c1 D br (.inl (tk 4, capr, .inr (.inr (.inr (.inr fnr))))) H ∧ EL D 2 n9 fnr vsr H)) (kQr (fun r H => ∃ (bb cap : Nat) (f : Nat → Option Nat) (w : Nat → Value) (md : Int32), sz ≤ r ∧ sz ≤ bb ∧ c1 D r (.inr (7, [.int md, .ref bb, .int (nI n9)])) H ∧ c1 D bb (.inl (tk 4, cap, .inr (.inr (.inr (.inr f))))) H ∧ EL D 3 n9 f w H ∧ PQ n9 vsr w ∧ n9 ≤ cap ∧ m_cap cap) (nwA sz)) (23) (160) (nwA sz) := by
  refine mStart RX5 rfl (by decide +kernel) (Nat.le_of_ble_eq_true rfl) ?_
  intro p e s m args below meth c E hr hlk hnm hsz hC hF ls hl
  subst hsz
  obtain ⟨hx, hb, -⟩ := id E
  have hA : ∀ q, (nwA s.heap.size) q → N0 ≤ q := fun q h => Nat.le_trans hC.2.1 h
  have hn : ∀ q, s.heap.size ≤ q → (nwA s.heap.size) q := fun q h => h
  have hS : va_S (nwA s.heap.size) s.heap s.heap [] := va_S.rf
  have hl : lv_has ls 4 [(0, .ref mo)] := hl
  obtain ⟨Q, hQ⟩ : ∃ Q, Q = MQ below (kQr (fun r H => ∃ (bb cap : Nat) (f : Nat → Option Nat) (w : Nat → Value) (md : Int32), s.heap.size ≤ r ∧ s.heap.size ≤ bb ∧ c1 D r (.inr (7, [.int md, .ref bb, .int (nI n9)])) H ∧ c1 D bb (.inl (tk 4, cap, .inr (.inr (.inr (.inr f))))) H ∧ EL D 3 n9 f w H ∧ PQ n9 vsr w ∧ n9 ≤ cap ∧ m_cap cap) (nwA s.heap.size)) args s (23) (160) (nwA s.heap.size) := ⟨_, rfl⟩
  rw [← hQ]
  obtain ⟨fo, f0w, fRw, elw⟩ : c1 D mo (.inr (13, [.ref ra, .ref rl, .ref ex, .ref ro, .int (nI pk), .int ca, .int rf, .int kn, .int th])) s.heap ∧ c1 D rl (.inr (7, [.int mdr, .ref br, .int (nI n9)])) s.heap ∧ c1 D br (.inl (tk 4, capr, .inr (.inr (.inr (.inr fnr))))) s.heap ∧ EL D 2 n9 fnr vsr s.heap := hF
  have hbr0 := fRw.lt
  have hS0_ := hS
  refine r_new (pc := 0) E hC hS tyJx4a65c_ok uJx4a65c (List.mem_cons_of_mem _ kw_1170) (List.mem_cons_of_mem _ kw_1171) (List.mem_cons_of_mem _ kw_8) (ci := 7) rfl (fs := [.int 0, .null, .int 0]) (by decide) (by dsimp only; omega) (by dsimp only; omega) dX5_rowNow_0 (fun qf1 H zq_ n_ ho_ hS => ?_)
  have l_fo_f1 : mo < qf1 := zq_ ▸ fo.lt
  have fo := fo.kept (ho_ _ fo.lt)
  have l_f0w_f1 : rl < qf1 := zq_ ▸ f0w.lt
  have f0w := f0w.kept (ho_ _ f0w.lt)
  have l_fRw_f1 : br < qf1 := zq_ ▸ fRw.lt
  have fRw := fRw.kept (ho_ _ fRw.lt)
  have elw := elw.old ho_
  have f1 := n_
  have s_f1 : s.heap.size ≤ qf1 := zq_ ▸ hS0_.1
  have g_f1 := hn _ s_f1
  refine lv_dup (pc := 3) hx hb dX5_rowNow_3 rfl ?_
  refine k_v (pc := 4) (k_I E hC hS hA hl.1 (c_Jx4a65c_init_da8c8 l D tk N0 sa H.size qf1 (hA _ g_f1)) kw_1172 kw_1173 kw_8 kw_1174 rfl (n := 0) (by decide +kernel) rfl ⟨⟨rfl, rfl⟩, ⟨Nat.le_of_ble_eq_true rfl, Nat.le_of_ble_eq_true rfl⟩, (by dsimp only; omega), (by dsimp only; omega)⟩ rfl (Nat.le_of_ble_eq_true rfl) f1 dX5_rowNow_4) hS (inA1.to g_f1) hn (fun H locs hR hz hk hS => ?_)
  have fo := fo.kept (hk _ fo.lt (inA1.not (clA.ne fo.cl f1.cl (hC.oo 13 7 rfl rfl (by decide))) fo.lt))
  have f0w := f0w.kept (hk _ f0w.lt (inA1.not (Nat.ne_of_lt l_f0w_f1) f0w.lt))
  have fRw := fRw.kept (hk _ fRw.lt (inA1.not (clA.ne fRw.cla f1.cl (hC.ao 7 4 rfl rfl)) fRw.lt))
  have elw := elw.keep1 hk (fun q9 h9 => clA.ne h9 f1.cl (hC.ceo (Or.inr rfl) 7 rfl (by decide)))
  have f1 := hR
  refine lv_astore_n (pc := 7) (lv' := [(1, .ref qf1), (0, .ref mo)]) hx hb dX5_rowNow_7 rfl hl (by decide) rfl (fun ls hl => ?_)
  refine lv_aload_n (pc := 8) hx hb dX5_rowNow_8 rfl (lv_at hl 1 rfl) ?_
  refine r_get (pc := 9) E hC fo 1 (v := .ref rl) rfl rfl (by decide) uX5 (List.mem_cons_of_mem _ kw_1210) (fun _ h => h) dX5_rowNow_9 ?_
  have hZ0_ := hS.1
  have t_fo := fo.lt
  have t_f0w := f0w.lt
  have t_fRw := fRw.lt
  have t_f1 := f1.lt
  refine k_r (pc := 12) (k_V E hC hS hA hl.1 (c1.recv hC f0w rfl) rfl (c_Jx4a65c_iterator_32c93 l D tk N0 sa H.size rl br n9 mdr) kw_1486 kw_1487 kw_1488 kw_8 kw_1489 (n := 0) (by decide +kernel) rfl ⟨⟨rfl, rfl⟩, ⟨Nat.le_of_ble_eq_true rfl, Nat.le_of_ble_eq_true rfl⟩, (by dsimp only; omega), (by dsimp only; omega)⟩ rfl (Nat.le_of_ble_eq_true rfl) f0w dX5_rowNow_12) hS (fun q z w => absurd w (Nat.not_le.mpr z)) hn (fun r_3 H locs hR hz hk hS => ?_)
  have fo := fo.kept (hk _ fo.lt (Nat.not_le.mpr fo.lt))
  have f0w := f0w.kept (hk _ f0w.lt (Nat.not_le.mpr f0w.lt))
  have fRw := fRw.kept (hk _ fRw.lt (Nat.not_le.mpr fRw.lt))
  have elw := elw.new hk
  have f1 := f1.kept (hk _ f1.lt (Nat.not_le.mpr f1.lt))
  obtain ⟨z9_, f4⟩ := hR
  have s_f4 : s.heap.size ≤ r_3 := Nat.le_trans hZ0_ z9_
  have g_f4 := hn _ s_f4
  have l_fo_f4 : mo < r_3 := Nat.lt_of_lt_of_le t_fo z9_
  have l_f0w_f4 : rl < r_3 := Nat.lt_of_lt_of_le t_f0w z9_
  have l_fRw_f4 : br < r_3 := Nat.lt_of_lt_of_le t_fRw z9_
  have l_f1_f4 : qf1 < r_3 := Nat.lt_of_lt_of_le t_f1 z9_
  refine lv_astore_n (pc := 15) (lv' := [(2, .ref r_3), (1, .ref qf1), (0, .ref mo)]) hx hb dX5_rowNow_15 rfl hl (by decide) rfl (fun ls hl => ?_)
  refine lv_aload_n (pc := 16) hx hb dX5_rowNow_16 rfl (lv_at hl 0 rfl) ?_
  refine k5_i (pc := 17) (k_F (ci := 6) rfl hC.xt.2.2.2.1 E hC hS hA hl.1 (c1.recv hC f4 rfl) (c_Jx35411_hasNext_aae02 l D tk N0 sa H.size r_3 rl br n9 0 mdr ((-1)) (by omega) (by omega)) kw_1510 kw_1516 kw_1514 kw_29 kw_1518 (n := 0) (by decide +kernel) rfl ⟨⟨rfl, rfl⟩, ⟨Nat.le_of_ble_eq_true rfl, Nat.le_of_ble_eq_true rfl⟩, (by dsimp only; omega), (by dsimp only; omega)⟩ rfl (Nat.le_of_ble_eq_true rfl) ⟨f4, f0w⟩ dX5_rowNow_17) hS (fun q z w => absurd w (Nat.not_le.mpr z)) hn (fun r_5 H locs hR hz hk hS => ?_)
  have fo := fo.kept (hk _ fo.lt (Nat.not_le.mpr fo.lt))
  have f0w := f0w.kept (hk _ f0w.lt (Nat.not_le.mpr f0w.lt))
  have fRw := fRw.kept (hk _ fRw.lt (Nat.not_le.mpr fRw.lt))
  have elw := elw.new hk
  have f1 := f1.kept (hk _ f1.lt (Nat.not_le.mpr f1.lt))
  have f4 := f4.kept (hk _ f4.lt (Nat.not_le.mpr f4.lt))
  have hn_r_5 := hR
  refine lv_if_eq (pc := 22) (tgt := 51) hx hb dX5_rowNow_22 (by decide) (fun c_6 => ?_) (fun c_6 => ?_)
  · exact absurd c_6 (hn_r_5.elim (fun z9 => absurd z9.2 (by omega)) (fun z9 z8 => absurd (z9.1.symm.trans z8) (by decide)))
  have hkn : 0 < n9 := h0r
  obtain ⟨qe7, hq7, he7⟩ := elw 0 hkn
  obtain ⟨xe7, ev7, pv7⟩ := hPI 0 hkn
  have ey7 := ev7
  rw [ev7] at he7
  refine lv_aload_n (pc := 25) hx hb dX5_rowNow_25 rfl (lv_at hl 0 rfl) ?_
  refine k5_r (pc := 26) (k_F (ci := 6) rfl hC.xt.2.2.2.2 E hC hS hA hl.1 (c1.recv hC f4 rfl) (c_Jx35411_next_0502b l D tk N0 sa H.size r_3 rl br n9 0 capr qe7 mdr ((-1)) fnr (hA _ g_f4) hkn hncr (by omega) hq7) kw_1520 kw_1525 kw_1523 kw_29 kw_1527 (n := 0) (by decide +kernel) rfl ⟨⟨rfl, rfl⟩, ⟨Nat.le_of_ble_eq_true rfl, Nat.le_of_ble_eq_true rfl⟩, (by dsimp only; omega), (by dsimp only; omega)⟩ rfl (Nat.le_of_ble_eq_true rfl) ⟨f4, f0w, fRw⟩ dX5_rowNow_26) hS (inA1.to g_f4) hn (fun r_8 H locs hR hz hk hS => ?_)
  have fo := fo.kept (hk _ fo.lt (inA1.not (clA.ne fo.cl f4.cl (hC.oo 13 6 rfl rfl (by decide))) fo.lt))
  have f0w := f0w.kept (hk _ f0w.lt (inA1.not (clA.ne f0w.cl f4.cl (hC.oo 7 6 rfl rfl (by decide))) f0w.lt))
  have fRw := fRw.kept (hk _ fRw.lt (inA1.not (clA.ne fRw.cla f4.cl (hC.ao 6 4 rfl rfl)) fRw.lt))
  have elw := elw.keep1 hk (fun q9 h9 => clA.ne h9 f4.cl (hC.ceo (Or.inr rfl) 6 rfl (by decide)))
  have f1 := f1.kept (hk _ f1.lt (inA1.not (clA.ne f1.cl f4.cl (hC.oo 7 6 rfl rfl (by decide))) f1.lt))
  have he7 := he7.kept (hk _ he7.lt (inA1.not (clA.ne he7.cl f4.cl (hC.oo 2 6 rfl rfl (by decide))) he7.lt))
  obtain ⟨hr9, f4⟩ := hR
  rw [hr9]
  refine r_castO (pc := 31) E hC he7 rfl kw_1614 dX5_rowNow_31 ?_
  refine k_i (pc := 34) (k_V E hC hS hA hl.1 (xf.recv hC he7 rfl) rfl (c_J6_intValue_8abf5 l D tk N0 sa H.size qe7 xe7) kw_1615 kw_1616 kw_1617 kw_22 kw_1618 (n := 0) (by decide +kernel) rfl ⟨⟨rfl, rfl⟩, ⟨Nat.le_of_ble_eq_true rfl, Nat.le_of_ble_eq_true rfl⟩, (by dsimp only; omega), (by dsimp only; omega)⟩ rfl (Nat.le_of_ble_eq_true rfl) he7 dX5_rowNow_34) hS (fun q z w => absurd w (Nat.not_le.mpr z)) hn (fun r_9 H locs hR hz hk hS => ?_)
  have fo := fo.kept (hk _ fo.lt (Nat.not_le.mpr fo.lt))
  have f0w := f0w.kept (hk _ f0w.lt (Nat.not_le.mpr f0w.lt))
  have fRw := fRw.kept (hk _ fRw.lt (Nat.not_le.mpr fRw.lt))
  have elw := elw.new hk
  have f1 := f1.kept (hk _ f1.lt (Nat.not_le.mpr f1.lt))
  have f4 := f4.kept (hk _ f4.lt (Nat.not_le.mpr f4.lt))
  have he7 := he7.kept (hk _ he7.lt (Nat.not_le.mpr he7.lt))
  have er_9 : r_9 = xe7 := hR
  refine lv_istore_n (pc := 37) (lv' := [(3, .int r_9), (2, .ref r_3), (1, .ref qf1), (0, .ref mo)]) hx hb dX5_rowNow_37 rfl hl (by decide) rfl (fun ls hl => ?_)
  refine lv_aload_n (pc := 38) hx hb dX5_rowNow_38 rfl (lv_at hl 2 rfl) ?_
  refine lv_iload_n (pc := 39) hx hb dX5_rowNow_39 rfl (lv_at hl 0 rfl) ?_
  refine lv_i2l (pc := 40) (v := r_9.toInt64) hx hb dX5_rowNow_40 rfl ?_
  have hZ0_ := hS.1
  have t_fo := fo.lt
  have t_f0w := f0w.lt
  have t_fRw := fRw.lt
  have t_f1 := f1.lt
  have t_f4 := f4.lt
  have t_he7 := he7.lt
  refine k_r (pc := 41) (k_S E hC hS hA hl.1 (c_J13_valueOf_928b6 l D tk N0 sa H.size r_9.toInt64) kw_1414 kw_1415 kw_17 kw_1416 (n := 1) (by decide +kernel) rfl ⟨⟨rfl, rfl⟩, ⟨Nat.le_of_ble_eq_true rfl, Nat.le_of_ble_eq_true rfl⟩, (by dsimp only; omega), (by dsimp only; omega)⟩ rfl (Nat.le_of_ble_eq_true rfl) trivial dX5_rowNow_41) hS (fun q z w => absurd w (Nat.not_le.mpr z)) hn (fun r_10 H locs hR hz hk hS => ?_)
  have fo := fo.kept (hk _ fo.lt (Nat.not_le.mpr fo.lt))
  have f0w := f0w.kept (hk _ f0w.lt (Nat.not_le.mpr f0w.lt))
  have fRw := fRw.kept (hk _ fRw.lt (Nat.not_le.mpr fRw.lt))
  have elw := elw.new hk
  have f1 := f1.kept (hk _ f1.lt (Nat.not_le.mpr f1.lt))
  have f4 := f4.kept (hk _ f4.lt (Nat.not_le.mpr f4.lt))
  have he7 := he7.kept (hk _ he7.lt (Nat.not_le.mpr he7.lt))
  have f11 := hR
  have hZ0_ := hS.1
  have t_fo := fo.lt
  have t_f0w := f0w.lt
  have t_fRw := fRw.lt
  have t_f1 := f1.lt
  have t_f4 := f4.lt
  have t_he7 := he7.lt
  have t_f11 := f11.lt
  refine k_i (pc := 44) (k_V E hC hS hA hl.1 (c1.recv hC f1 rfl) rfl (c_Jx4a65c_add_9ea2d_E l D tk N0 sa H.size qf1 r_10 3 0 (.long r_9.toInt64) (fun _ => .null) (hA _ g_f1) (Or.inl rfl)) kw_1434 kw_1435 kw_1436 kw_8 kw_1437 (n := 1) (by decide +kernel) rfl ⟨⟨rfl, rfl⟩, ⟨Nat.le_of_ble_eq_true rfl, Nat.le_of_ble_eq_true rfl⟩, (by dsimp only; omega), (by dsimp only; omega)⟩ rfl (Nat.le_of_ble_eq_true rfl) ⟨f1, f11⟩ dX5_rowNow_44) hS (inA1.to g_f1) hn (fun r_12 H locs hR hz hk hS => ?_)
  have fo := fo.kept (hk _ fo.lt (inA1.not (clA.ne fo.cl f1.cl (hC.oo 13 7 rfl rfl (by decide))) fo.lt))
  have f0w := f0w.kept (hk _ f0w.lt (inA1.not (Nat.ne_of_lt l_f0w_f1) f0w.lt))
  have fRw := fRw.kept (hk _ fRw.lt (inA1.not (clA.ne fRw.cla f1.cl (hC.ao 7 4 rfl rfl)) fRw.lt))
  have elw := elw.keep1 hk (fun q9 h9 => clA.ne h9 f1.cl (hC.ceo (Or.inr rfl) 7 rfl (by decide)))
  have f4 := f4.kept (hk _ f4.lt (inA1.not (clA.ne f4.cl f1.cl (hC.oo 6 7 rfl rfl (by decide))) f4.lt))
  have he7 := he7.kept (hk _ he7.lt (inA1.not (clA.ne he7.cl f1.cl (hC.oo 2 7 rfl rfl (by decide))) he7.lt))
  have f11 := f11.kept (hk _ f11.lt (inA1.not (clA.ne f11.cl f1.cl (hC.oo 3 7 rfl rfl (by decide))) f11.lt))
  obtain ⟨hr9, q13, z9_, f1, f13, e13⟩ := hR
  have s_f13 : s.heap.size ≤ q13 := Nat.le_trans hZ0_ z9_
  have g_f13 := hn _ s_f13
  have l_fo_f13 : mo < q13 := Nat.lt_of_lt_of_le t_fo z9_
  have l_f0w_f13 : rl < q13 := Nat.lt_of_lt_of_le t_f0w z9_
  have l_fRw_f13 : br < q13 := Nat.lt_of_lt_of_le t_fRw z9_
  have l_f1_f13 : qf1 < q13 := Nat.lt_of_lt_of_le t_f1 z9_
  have l_f4_f13 : r_3 < q13 := Nat.lt_of_lt_of_le t_f4 z9_
  have l_he7_f13 : qe7 < q13 := Nat.lt_of_lt_of_le t_he7 z9_
  have l_f11_f13 : r_10 < q13 := Nat.lt_of_lt_of_le t_f11 z9_
  rw [hr9]
  refine lv_pop (pc := 47) hx hb dX5_rowNow_47 rfl ?_
  refine lv_goto (pc := 48) (tgt := 16) hx hb dX5_rowNow_48 (by decide) ?_
  have loop_16 : ∀ (n : Nat) (k : Nat) (v9 : Nat) (c9 : Nat) (m9 : Int32) (lr : Int32) (f9 : Nat → Option Nat) (w9 : Nat → Value), 17 - k < n → 1 ≤ k ∧ k ≤ n9 → PQ k vsr w9 → m_cap c9 ∧ k ≤ c9 → s.heap.size ≤ v9 → ∀ (H : Heap) (locs : List Loc) (ls : Array Slot), va_S (nwA s.heap.size) s.heap H locs → c1 D mo (.inr (13, [.ref ra, .ref rl, .ref ex, .ref ro, .int (nI pk), .int ca, .int rf, .int kn, .int th])) H → c1 D rl (.inr (7, [.int mdr, .ref br, .int (nI n9)])) H → c1 D br (.inl (tk 4, capr, .inr (.inr (.inr (.inr fnr))))) H → EL D 2 n9 fnr vsr H → c1 D qf1 (.inr (7, [.int m9, .ref v9, .int (nI k)])) H → c1 D v9 (.inl (tk 4, c9, .inr (.inr (.inr (.inr f9))))) H → EL D 3 k f9 w9 H → c1 D r_3 (.inr (6, [.int (nI k), .int lr, .int mdr, .ref rl])) H → lv_has ls 4 [(0, .ref mo), (1, .ref qf1), (2, .ref r_3)] → W p l e ({ frames := 7, cells := 23, slots := 160, locals := 157 } : Room) s m args below meth c H locs (2 + k + m_ac c9) (7 + k + m_as c9) Q (F0 m 16 ls []) := by
    intro n
    induction n with
    | zero =>
      intro k v9 c9 m9 lr f9 w9 hf9 hk9 hP9 hc9 hv9 H locs ls hS fo f0w fRw elw f1 fR el f4 hl
      omega
    | succ n ih_16 =>
      intro k v9 c9 m9 lr f9 w9 hf9 hk9 hP9 hc9 hv9 H locs ls hS fo f0w fRw elw f1 fR el f4 hl
      have g_fR := hn _ hv9
      have hcb := m_acB hc9.1
      have l_fRw_fR : br < v9 := Nat.lt_of_lt_of_le hbr0 hv9
      refine lv_aload_n (pc := 16) hx hb dX5_rowNow_16 rfl (lv_at hl 2 rfl) ?_
      refine k5_i (pc := 17) (k_F (ci := 6) rfl hC.xt.2.2.2.1 E hC hS hA hl.1 (c1.recv hC f4 rfl) (c_Jx35411_hasNext_aae02 l D tk N0 sa H.size r_3 rl br n9 k mdr lr (by omega) (by omega)) kw_1510 kw_1516 kw_1514 kw_29 kw_1518 (n := 0) (by decide +kernel) rfl ⟨⟨rfl, rfl⟩, ⟨Nat.le_of_ble_eq_true rfl, Nat.le_of_ble_eq_true rfl⟩, (by dsimp only; omega), (by dsimp only; omega)⟩ rfl (Nat.le_of_ble_eq_true rfl) ⟨f4, f0w⟩ dX5_rowNow_17) hS (fun q z w => absurd w (Nat.not_le.mpr z)) hn (fun r_14 H locs hR hz hk hS => ?_)
      have fo := fo.kept (hk _ fo.lt (Nat.not_le.mpr fo.lt))
      have f0w := f0w.kept (hk _ f0w.lt (Nat.not_le.mpr f0w.lt))
      have fRw := fRw.kept (hk _ fRw.lt (Nat.not_le.mpr fRw.lt))
      have elw := elw.new hk
      have f1 := f1.kept (hk _ f1.lt (Nat.not_le.mpr f1.lt))
      have fR := fR.kept (hk _ fR.lt (Nat.not_le.mpr fR.lt))
      have el := el.new hk
      have f4 := f4.kept (hk _ f4.lt (Nat.not_le.mpr f4.lt))
      have hn_r_14 := hR
      refine lv_if_eq (pc := 22) (tgt := 51) hx hb dX5_rowNow_22 (by decide) (fun c_15 => ?_) (fun c_15 => ?_)
      · refine lv_aload_n (pc := 51) hx hb dX5_rowNow_51 rfl (lv_at hl 1 rfl) ?_
        try rw [hQ]
        refine r_aret (pc := 52) E hr (Or.inl ⟨_, rfl⟩) hlk hS (by omega) (by omega) ?_ dX5_rowNow_52
        have hkz : k = n9 := hn_r_14.elim (fun z9 => z9.2) (fun z9 => absurd (z9.1.symm.trans c_15) (by decide))
        subst hkz
        exact ⟨v9, c9, f9, w9, m9, s_f1, hv9, f1, fR, el, hP9, hc9.2, hc9.1⟩
      · have hkn : k < n9 := by
          rcases hn_r_14 with ⟨h9, _⟩ | ⟨_, h9⟩
          · exact absurd h9 c_15
          · omega
        obtain ⟨qe16, hq16, he16⟩ := elw k hkn
        obtain ⟨xe16, ev16, pv16⟩ := hPI k hkn
        have ey16 := ev16
        rw [ev16] at he16
        refine lv_aload_n (pc := 25) hx hb dX5_rowNow_25 rfl (lv_at hl 2 rfl) ?_
        refine k5_r (pc := 26) (k_F (ci := 6) rfl hC.xt.2.2.2.2 E hC hS hA hl.1 (c1.recv hC f4 rfl) (c_Jx35411_next_0502b l D tk N0 sa H.size r_3 rl br n9 k capr qe16 mdr lr fnr (hA _ g_f4) hkn hncr (by omega) hq16) kw_1520 kw_1525 kw_1523 kw_29 kw_1527 (n := 0) (by decide +kernel) rfl ⟨⟨rfl, rfl⟩, ⟨Nat.le_of_ble_eq_true rfl, Nat.le_of_ble_eq_true rfl⟩, (by dsimp only; omega), (by dsimp only; omega)⟩ rfl (Nat.le_of_ble_eq_true rfl) ⟨f4, f0w, fRw⟩ dX5_rowNow_26) hS (inA1.to g_f4) hn (fun r_17 H locs hR hz hk hS => ?_)
        have fo := fo.kept (hk _ fo.lt (inA1.not (clA.ne fo.cl f4.cl (hC.oo 13 6 rfl rfl (by decide))) fo.lt))
        have f0w := f0w.kept (hk _ f0w.lt (inA1.not (clA.ne f0w.cl f4.cl (hC.oo 7 6 rfl rfl (by decide))) f0w.lt))
        have fRw := fRw.kept (hk _ fRw.lt (inA1.not (clA.ne fRw.cla f4.cl (hC.ao 6 4 rfl rfl)) fRw.lt))
        have elw := elw.keep1 hk (fun q9 h9 => clA.ne h9 f4.cl (hC.ceo (Or.inr rfl) 6 rfl (by decide)))
        have f1 := f1.kept (hk _ f1.lt (inA1.not (clA.ne f1.cl f4.cl (hC.oo 7 6 rfl rfl (by decide))) f1.lt))
        have fR := fR.kept (hk _ fR.lt (inA1.not (clA.ne fR.cla f4.cl (hC.ao 6 4 rfl rfl)) fR.lt))
        have el := el.keep1 hk (fun q9 h9 => clA.ne h9 f4.cl (hC.ceo (Or.inl rfl) 6 rfl (by decide)))
        have he16 := he16.kept (hk _ he16.lt (inA1.not (clA.ne he16.cl f4.cl (hC.oo 2 6 rfl rfl (by decide))) he16.lt))
        obtain ⟨hr9, f4⟩ := hR
        rw [hr9]
        refine r_castO (pc := 31) E hC he16 rfl kw_1614 dX5_rowNow_31 ?_
        refine k_i (pc := 34) (k_V E hC hS hA hl.1 (xf.recv hC he16 rfl) rfl (c_J6_intValue_8abf5 l D tk N0 sa H.size qe16 xe16) kw_1615 kw_1616 kw_1617 kw_22 kw_1618 (n := 0) (by decide +kernel) rfl ⟨⟨rfl, rfl⟩, ⟨Nat.le_of_ble_eq_true rfl, Nat.le_of_ble_eq_true rfl⟩, (by dsimp only; omega), (by dsimp only; omega)⟩ rfl (Nat.le_of_ble_eq_true rfl) he16 dX5_rowNow_34) hS (fun q z w => absurd w (Nat.not_le.mpr z)) hn (fun r_18 H locs hR hz hk hS => ?_)
        have fo := fo.kept (hk _ fo.lt (Nat.not_le.mpr fo.lt))
        have f0w := f0w.kept (hk _ f0w.lt (Nat.not_le.mpr f0w.lt))
        have fRw := fRw.kept (hk _ fRw.lt (Nat.not_le.mpr fRw.lt))
        have elw := elw.new hk
        have f1 := f1.kept (hk _ f1.lt (Nat.not_le.mpr f1.lt))
        have fR := fR.kept (hk _ fR.lt (Nat.not_le.mpr fR.lt))
        have el := el.new hk
        have f4 := f4.kept (hk _ f4.lt (Nat.not_le.mpr f4.lt))
        have he16 := he16.kept (hk _ he16.lt (Nat.not_le.mpr he16.lt))
        have er_18 : r_18 = xe16 := hR
        refine lv_istore_n (pc := 37) (lv' := [(3, .int r_18), (0, .ref mo), (1, .ref qf1), (2, .ref r_3)]) hx hb dX5_rowNow_37 rfl hl (by decide) rfl (fun ls hl => ?_)
        refine lv_aload_n (pc := 38) hx hb dX5_rowNow_38 rfl (lv_at hl 2 rfl) ?_
        refine lv_iload_n (pc := 39) hx hb dX5_rowNow_39 rfl (lv_at hl 0 rfl) ?_
        refine lv_i2l (pc := 40) (v := r_18.toInt64) hx hb dX5_rowNow_40 rfl ?_
        have hZ0_ := hS.1
        have t_fo := fo.lt
        have t_f0w := f0w.lt
        have t_fRw := fRw.lt
        have t_f1 := f1.lt
        have t_fR := fR.lt
        have t_f4 := f4.lt
        have t_he16 := he16.lt
        refine k_r (pc := 41) (k_S E hC hS hA hl.1 (c_J13_valueOf_928b6 l D tk N0 sa H.size r_18.toInt64) kw_1414 kw_1415 kw_17 kw_1416 (n := 1) (by decide +kernel) rfl ⟨⟨rfl, rfl⟩, ⟨Nat.le_of_ble_eq_true rfl, Nat.le_of_ble_eq_true rfl⟩, (by dsimp only; omega), (by dsimp only; omega)⟩ rfl (Nat.le_of_ble_eq_true rfl) trivial dX5_rowNow_41) hS (fun q z w => absurd w (Nat.not_le.mpr z)) hn (fun r_19 H locs hR hz hk hS => ?_)
        have fo := fo.kept (hk _ fo.lt (Nat.not_le.mpr fo.lt))
        have f0w := f0w.kept (hk _ f0w.lt (Nat.not_le.mpr f0w.lt))
        have fRw := fRw.kept (hk _ fRw.lt (Nat.not_le.mpr fRw.lt))
        have elw := elw.new hk
        have f1 := f1.kept (hk _ f1.lt (Nat.not_le.mpr f1.lt))
        have fR := fR.kept (hk _ fR.lt (Nat.not_le.mpr fR.lt))
        have el := el.new hk
        have f4 := f4.kept (hk _ f4.lt (Nat.not_le.mpr f4.lt))
        have he16 := he16.kept (hk _ he16.lt (Nat.not_le.mpr he16.lt))
        have f20 := hR
        rcases Nat.lt_or_ge k c9 with hkc | hkc9
        · refine k_i (pc := 44) (k_V E hC hS hA hl.1 (c1.recv hC f1 rfl) rfl (c_Jx4a65c_add_9ea2d l D tk N0 sa H.size qf1 v9 k c9 r_19 3 m9 (.long r_18.toInt64) f9 w9 (hA _ g_f1) (hA _ g_fR) (Or.inl rfl) hkc (by omega)) kw_1434 kw_1435 kw_1436 kw_8 kw_1437 (n := 1) (by decide +kernel) rfl ⟨⟨rfl, rfl⟩, ⟨Nat.le_of_ble_eq_true rfl, Nat.le_of_ble_eq_true rfl⟩, (by dsimp only; omega), (by dsimp only; omega)⟩ rfl (Nat.le_of_ble_eq_true rfl) ⟨f1, fR, el, f20⟩ dX5_rowNow_44) hS (inA2.to g_f1 g_fR) hn (fun r_21 H locs hR hz hk hS => ?_)
          have fo := fo.kept (hk _ fo.lt (inA2.not (clA.ne fo.cl f1.cl (hC.oo 13 7 rfl rfl (by decide))) (clA.ne fo.cl fR.cla (hC.oa 13 4 rfl rfl)) fo.lt))
          have f0w := f0w.kept (hk _ f0w.lt (inA2.not (Nat.ne_of_lt l_f0w_f1) (clA.ne f0w.cl fR.cla (hC.oa 7 4 rfl rfl)) f0w.lt))
          have fRw := fRw.kept (hk _ fRw.lt (inA2.not (clA.ne fRw.cla f1.cl (hC.ao 7 4 rfl rfl)) (Nat.ne_of_lt l_fRw_fR) fRw.lt))
          have elw := elw.keep2 hk (fun q9 h9 => clA.ne h9 f1.cl (hC.ceo (Or.inr rfl) 7 rfl (by decide))) (fun q9 h9 => clA.ne h9 fR.cla (hC.cea (Or.inr rfl) 4 rfl))
          have f4 := f4.kept (hk _ f4.lt (inA2.not (clA.ne f4.cl f1.cl (hC.oo 6 7 rfl rfl (by decide))) (clA.ne f4.cl fR.cla (hC.oa 6 4 rfl rfl)) f4.lt))
          have he16 := he16.kept (hk _ he16.lt (inA2.not (clA.ne he16.cl f1.cl (hC.oo 2 7 rfl rfl (by decide))) (clA.ne he16.cl fR.cla (hC.oa 2 4 rfl rfl)) he16.lt))
          have f20 := f20.kept (hk _ f20.lt (inA2.not (clA.ne f20.cl f1.cl (hC.oo 3 7 rfl rfl (by decide))) (clA.ne f20.cl fR.cla (hC.oa 3 4 rfl rfl)) f20.lt))
          obtain ⟨hr9, f1, fR, el⟩ := hR
          rw [hr9]
          refine lv_pop (pc := 47) hx hb dX5_rowNow_47 rfl ?_
          refine lv_goto (pc := 48) (tgt := 16) hx hb dX5_rowNow_48 (by decide) ?_
          refine W.widen (k := 2 + (k + 1) + m_ac (c9)) (n := 7 + (k + 1) + m_as (c9)) (by omega) (by omega) ?_
          exact ih_16  (k + 1) _ _ _ _ _ _   (by omega) (by omega) (by exact hP9.add ey16 (by rw [er_18])) (by exact ⟨hc9.1, by omega⟩) hv9 _ _ _ hS fo f0w fRw elw f1 fR el f4 (lv_sub hl [1, 2, 3] rfl)
        · have hkc : c9 = k := by omega
          have fR := fR.ofcap hkc
          have hgr := m_grow (c9 := k) (by rw [← hkc]; exact hc9.1) (by omega)
          have hmk : m_ac c9 = m_ac k ∧ m_as c9 = m_as k := by rw [hkc]; exact ⟨rfl, rfl⟩
          have hgb := m_acB hgr.1
          have hZ0_ := hS.1
          have t_fo := fo.lt
          have t_f0w := f0w.lt
          have t_fRw := fRw.lt
          have t_f1 := f1.lt
          have t_fR := fR.lt
          have t_f4 := f4.lt
          have t_he16 := he16.lt
          have t_f20 := f20.lt
          refine k_i (pc := 44) (k_V E hC hS hA hl.1 (c1.recv hC f1 rfl) rfl (c_Jx4a65c_add_9ea2d_G l D tk N0 sa H.size qf1 v9 k r_19 3 m9 (.long r_18.toInt64) f9 w9 (hA _ g_f1) (Or.inl rfl) (by omega) (by omega)) kw_1434 kw_1435 kw_1436 kw_8 kw_1437 (n := 1) (by decide +kernel) rfl ⟨⟨rfl, rfl⟩, ⟨Nat.le_of_ble_eq_true rfl, Nat.le_of_ble_eq_true rfl⟩, (by dsimp only; omega), (by dsimp only; omega)⟩ rfl (Nat.le_of_ble_eq_true rfl) ⟨f1, fR, el, f20⟩ dX5_rowNow_44) hS (inA1.to g_f1) hn (fun r_22 H locs hR hz hk hS => ?_)
          have fo := fo.kept (hk _ fo.lt (inA1.not (clA.ne fo.cl f1.cl (hC.oo 13 7 rfl rfl (by decide))) fo.lt))
          have f0w := f0w.kept (hk _ f0w.lt (inA1.not (Nat.ne_of_lt l_f0w_f1) f0w.lt))
          have fRw := fRw.kept (hk _ fRw.lt (inA1.not (clA.ne fRw.cla f1.cl (hC.ao 7 4 rfl rfl)) fRw.lt))
          have elw := elw.keep1 hk (fun q9 h9 => clA.ne h9 f1.cl (hC.ceo (Or.inr rfl) 7 rfl (by decide)))
          have fR := fR.kept (hk _ fR.lt (inA1.not (clA.ne fR.cla f1.cl (hC.ao 7 4 rfl rfl)) fR.lt))
          have f4 := f4.kept (hk _ f4.lt (inA1.not (clA.ne f4.cl f1.cl (hC.oo 6 7 rfl rfl (by decide))) f4.lt))
          have he16 := he16.kept (hk _ he16.lt (inA1.not (clA.ne he16.cl f1.cl (hC.oo 2 7 rfl rfl (by decide))) he16.lt))
          have f20 := f20.kept (hk _ f20.lt (inA1.not (clA.ne f20.cl f1.cl (hC.oo 3 7 rfl rfl (by decide))) f20.lt))
          obtain ⟨hr9, q23, f_23, z9_, f1, f23, el⟩ := hR
          have s_f23 : s.heap.size ≤ q23 := Nat.le_trans hZ0_ z9_
          have g_f23 := hn _ s_f23
          have l_fo_f23 : mo < q23 := Nat.lt_of_lt_of_le t_fo z9_
          have l_f0w_f23 : rl < q23 := Nat.lt_of_lt_of_le t_f0w z9_
          have l_fRw_f23 : br < q23 := Nat.lt_of_lt_of_le t_fRw z9_
          have l_f1_f23 : qf1 < q23 := Nat.lt_of_lt_of_le t_f1 z9_
          have l_fR_f23 : v9 < q23 := Nat.lt_of_lt_of_le t_fR z9_
          have l_f4_f23 : r_3 < q23 := Nat.lt_of_lt_of_le t_f4 z9_
          have l_he16_f23 : qe16 < q23 := Nat.lt_of_lt_of_le t_he16 z9_
          have l_f20_f23 : r_19 < q23 := Nat.lt_of_lt_of_le t_f20 z9_
          rw [hr9]
          refine lv_pop (pc := 47) hx hb dX5_rowNow_47 rfl ?_
          refine lv_goto (pc := 48) (tgt := 16) hx hb dX5_rowNow_48 (by decide) ?_
          refine W.widen (k := 2 + (k + 1) + m_ac (k + k / 2)) (n := 7 + (k + 1) + m_as (k + k / 2)) (by omega) (by omega) ?_
          exact ih_16  (k + 1) _ _ _ _ _ _   (by omega) (by omega) (by exact hP9.add ey16 (by rw [er_18])) (by exact ⟨hgr.1, by omega⟩) s_f23 _ _ _ hS fo f0w fRw elw f1 f23 el f4 (lv_sub hl [1, 2, 3] rfl)
  have hm0 : m_ac 10 = 1 ∧ m_as 10 = 10 := ⟨rfl, rfl⟩
  refine W.widen (k := 2 + 1 + m_ac (10)) (n := 7 + 1 + m_as (10)) (by omega) (by omega) ?_
  exact loop_16 18 1 _ _ _ _ _ _   (by omega) (by omega) (by exact PQ.one ey7 (by rw [er_9])) (by exact ⟨Or.inl rfl, by decide⟩) s_f13 _ _ _ hS fo f0w fRw elw f1 f13 e13 f4 (lv_sub hl [3, 2, 1] rfl)
set_option maxHeartbeats 4000000 in
set_option maxRecDepth 100000 in
/-- BestratiosModel.told(Ljava/util/ArrayList;)Ljava/lang/String; -/
theorem c_X5_told_E (l : Launch) (D : va_G) (tk : Nat → ClassId) (N0 : Nat) (sa : Nat → Nat)  (sz : Nat) (a : Nat) (md : Int32) : Met l yX5_told (wsy yX5_told cX5_told 5 (some (.object "java/lang/String"))) ({ frames := 3, cells := 1, slots := 4, locals := 61 } : Room) (cP D tk N0 sa [.ref a] sz (fun H => c1 D a (.inr (7, [.int md, .ref (sa 1), .int 0])) H)) (kQr (fun r H => ∃ n9, n9 ≤ 516 ∧ SX D tk r n9 H) (nwA sz)) (1) (4) (nwA sz) := by
  refine mStart RX5 rfl (by decide +kernel) (Nat.le_of_ble_eq_true rfl) ?_
  intro p e s m args below meth c E hr hlk hnm hsz hC hF ls hl
  subst hsz
  obtain ⟨hx, hb, -⟩ := id E
  have hA : ∀ q, (nwA s.heap.size) q → N0 ≤ q := fun q h => Nat.le_trans hC.2.1 h
  have hn : ∀ q, s.heap.size ≤ q → (nwA s.heap.size) q := fun q h => h
  have hS : va_S (nwA s.heap.size) s.heap s.heap [] := va_S.rf
  have hl : lv_has ls 5 [(0, .ref a)] := hl
  have f0 : c1 D a (.inr (7, [.int md, .ref (sa 1), .int 0])) s.heap := hF
  refine va_ldcS (pc := 0) hx hb E.2.2.2.1 (hC.2.2.2.2.1 6 _ rfl).1 dX5_told_0 ?_
  have k1 : SX D tk (sa (10 + 6)) 0 s.heap := hC.str hS hA 6 _ rfl (by decide)
  refine lv_astore_n (pc := 2) (lv' := [(1, .ref (sa (10 + 6))), (0, .ref a)]) hx hb dX5_told_2 rfl hl (by decide) rfl (fun ls hl => ?_)
  refine lv_aload_n (pc := 3) hx hb dX5_told_3 rfl (lv_at hl 1 rfl) ?_
  have hZ0_ := hS.1
  have t_f0 := f0.lt
  have t_k1 := k1.lt
  refine k_r (pc := 4) (k_V E hC hS hA hl.1 (c1.recv hC f0 rfl) rfl (c_Jx4a65c_iterator_32c93 l D tk N0 sa s.heap.size a (sa 1) 0 md) kw_1486 kw_1487 kw_1488 kw_8 kw_1489 (n := 0) (by decide +kernel) rfl ⟨⟨rfl, rfl⟩, ⟨Nat.le_of_ble_eq_true rfl, Nat.le_of_ble_eq_true rfl⟩, (by dsimp only; omega), (by dsimp only; omega)⟩ rfl (Nat.le_of_ble_eq_true rfl) (by exact f0) dX5_told_4) hS (fun q z w => absurd w (Nat.not_le.mpr z)) hn (fun r_2 H locs hR hz hk hS => ?_)
  have f0 := f0.kept (hk _ f0.lt (Nat.not_le.mpr f0.lt))
  have k1 := k1.new hk
  obtain ⟨z9_, f3⟩ := hR
  have s_f3 : s.heap.size ≤ r_2 := Nat.le_trans hZ0_ z9_
  have g_f3 := hn _ s_f3
  have l_f0_f3 : a < r_2 := Nat.lt_of_lt_of_le t_f0 z9_
  have l_k1_f3 : sa (10 + 6) < r_2 := Nat.lt_of_lt_of_le t_k1 z9_
  refine lv_astore_n (pc := 7) (lv' := [(2, .ref r_2), (1, .ref (sa (10 + 6))), (0, .ref a)]) hx hb dX5_told_7 rfl hl (by decide) rfl (fun ls hl => ?_)
  refine lv_aload_n (pc := 8) hx hb dX5_told_8 rfl (lv_at hl 0 rfl) ?_
  refine k5_i (pc := 9) (k_F (ci := 6) rfl hC.xt.2.2.2.1 E hC hS hA hl.1 (c1.recv hC f3 rfl) (c_Jx35411_hasNext_aae02 l D tk N0 sa H.size r_2 a (sa 1) 0 0 md ((-1)) (by omega) (by omega)) kw_1510 kw_1516 kw_1514 kw_29 kw_1518 (n := 0) (by decide +kernel) rfl ⟨⟨rfl, rfl⟩, ⟨Nat.le_of_ble_eq_true rfl, Nat.le_of_ble_eq_true rfl⟩, (by dsimp only; omega), (by dsimp only; omega)⟩ rfl (Nat.le_of_ble_eq_true rfl) ⟨f3, f0⟩ dX5_told_9) hS (fun q z w => absurd w (Nat.not_le.mpr z)) hn (fun r_4 H locs hR hz hk hS => ?_)
  have f0 := f0.kept (hk _ f0.lt (Nat.not_le.mpr f0.lt))
  have k1 := k1.new hk
  have f3 := f3.kept (hk _ f3.lt (Nat.not_le.mpr f3.lt))
  have hn_r_4 := hR
  refine lv_if_eq (pc := 14) (tgt := 69) hx hb dX5_told_14 (by decide) (fun c_5 => ?_) (fun c_5 => ?_)
  rotate_left
  · exact absurd (hn_r_4.elim (fun z9 => z9.1) (fun z9 => absurd rfl z9.2)) c_5
  refine lv_aload_n (pc := 69) hx hb dX5_told_69 rfl (lv_at hl 1 rfl) ?_
  refine r_aret (pc := 70) E hr (Or.inl ⟨_, rfl⟩) hlk hS (by omega) (by omega) ?_ dX5_told_70
  exact ⟨0, by omega, k1⟩
set_option maxHeartbeats 4000000 in
set_option maxRecDepth 100000 in
/-- BestratiosModel.row()Ljava/lang/String; -/
theorem c_X5_row (l : Launch) (D : va_G) (tk : Nat → ClassId) (N0 : Nat) (sa : Nat → Nat)  (sz : Nat) (P : Nat → Prop) (hPN : ∀ q, P q → N0 ≤ q) (hPs : ∀ q, sz ≤ q → P q) (mo n9 : Nat) (kn th : Int32) (tt bb : Nat → Int64) (eT eB oT oB : Int64) (pk : Nat) (ca rf : Int32) (vs : Nat → Value)  : Met l yX5_row (wsy yX5_row cX5_row 1 (some (.object "java/lang/String"))) ({ frames := 8, cells := 325, slots := 56930, locals := 180 } : Room) (cP D tk N0 sa [.ref mo] sz (fun H => MI D tk sa P mo tt bb eT eB oT oB pk ca rf vs kn n9 th H)) (kQr (fun r H => ∃ th1, MI D tk sa P mo tt bb eT eB oT oB pk ca rf vs kn n9 th1 H) (P)) (325) (56930) (P) := by
  refine mStart RX5 rfl (by decide +kernel) (Nat.le_of_ble_eq_true rfl) ?_
  intro p e s m args below meth c E hr hlk hnm hsz hC hF ls hl
  subst hsz
  obtain ⟨hx, hb, -⟩ := id E
  have hA : ∀ q, (P) q → N0 ≤ q := hPN
  have hn : ∀ q, s.heap.size ≤ q → (P) q := hPs
  have hS : va_S (P) s.heap s.heap [] := va_S.rf
  have hl : lv_has ls 1 [(0, .ref mo)] := hl
  have hM : MI D tk sa P mo tt bb eT eB oT oB pk ca rf vs kn n9 th s.heap := hF
  obtain ⟨ra, rl, ex, ro, rt, fo, fj, fk, fe, fr, fw, ⟨hPm, hPa, hPl, hPe, hPr, hPk⟩, hFk, hFe, hFr, hpk, hn9⟩ := hM
  have g_fo := hPm
  have g_fj := hPa
  refine lv_aload_n (pc := 0) hx hb dX5_row_0 rfl (lv_at hl 0 rfl) ?_
  refine lv_iconst (pc := 1) (v := 0) hx hb dX5_row_1 (by decide) ?_
  refine r_put (pc := 2) E hC fo hS g_fo 8 tyX5 tyX5_ok nmX5 rfl (by decide) (Nat.le_of_ble_eq_true rfl) uX5 (List.mem_cons_of_mem _ kw_1217) (fun _ h => h) rfl rfl rfl dX5_row_2 (fun H locs n_ ho hz hS => ?_)
  have fw := fw.put ho (fun q9 h9 => clA.ne h9 fo.cl (hC.oo 7 13 rfl rfl (by decide))) (fun q9 h9 => clA.ne h9 fo.cl (hC.ao 13 4 rfl rfl)) (fun q9 h9 => clA.ne h9 fo.cl (hC.ceo (Or.inr rfl) 13 rfl (by decide)))
  have nW_fo : ∀ k, k < 6 → rt k ≠ mo := fun k hk9 => clA.ne (fk k hk9).cla fo.cl (hC.ao 13 0 rfl rfl)
  have fj := fj.kept (ho _ (clA.ne fj.cla fo.cl (hC.ao 13 3 rfl rfl)))
  have fk := fk.kept (fun k hk9 => ho _ (nW_fo k hk9))
  have fe := fe.kept (ho _ (clA.ne fe.cla fo.cl (hC.ao 13 0 rfl rfl)))
  have fr := fr.kept (ho _ (clA.ne fr.cla fo.cl (hC.ao 13 0 rfl rfl)))
  have fo : c1 D mo (.inr (13, [.ref ra, .ref rl, .ref ex, .ref ro, .int (nI pk), .int ca, .int rf, .int kn, .int 0])) H := n_
  rcases Nat.eq_zero_or_pos n9 with h0r | h0r
  · subst h0r
    obtain ⟨mdr, br, f0w⟩ := fw.obj
    refine lv_aload_n (pc := 5) hx hb dX5_row_5 rfl (lv_at hl 0 rfl) ?_
    have hZ0_ := hS.1
    have t_fo := fo.lt
    have t_fj := fj.lt
    have t_fk := fun k (hk9 : k < 6) => (fk k hk9).lt
    have t_fe := fe.lt
    have t_fr := fr.lt
    have t_f0w := f0w.lt
    refine k_r (pc := 6) (k_V E hC hS hA hl.1 (c1.recv hC fo rfl) rfl (c_X5_rowNow_E l D tk N0 sa H.size mo ra rl ex ro pk br ca rf kn 0 mdr) kw_1610 kw_1612 kp_29 kw_5 kw_1613 (n := 0) (by decide +kernel) rfl ⟨⟨rfl, rfl⟩, ⟨Nat.le_of_ble_eq_true rfl, Nat.le_of_ble_eq_true rfl⟩, (by dsimp only; omega), (by dsimp only; omega)⟩ rfl (Nat.le_of_ble_eq_true rfl) ⟨fo, f0w⟩ dX5_row_6) hS (fun q z w => absurd w (Nat.not_le.mpr z)) hn (fun r_1 H locs hR hz hk hS => ?_)
    have fw := fw.new hk
    have fo := fo.kept (hk _ fo.lt (Nat.not_le.mpr fo.lt))
    have fj := fj.kept (hk _ fj.lt (Nat.not_le.mpr fj.lt))
    have fk := fk.new hk
    have fe := fe.kept (hk _ fe.lt (Nat.not_le.mpr fe.lt))
    have fr := fr.kept (hk _ fr.lt (Nat.not_le.mpr fr.lt))
    have f0w := f0w.kept (hk _ f0w.lt (Nat.not_le.mpr f0w.lt))
    obtain ⟨z9_, fl2⟩ := hR
    have s_fl2 : s.heap.size ≤ r_1 := Nat.le_trans hZ0_ z9_
    have g_fl2 := hn _ s_fl2
    have l_fo_fl2 : mo < r_1 := Nat.lt_of_lt_of_le t_fo z9_
    have l_fj_fl2 : ra < r_1 := Nat.lt_of_lt_of_le t_fj z9_
    have nW_fl2 : ∀ k, k < 6 → rt k ≠ r_1 := fun k hk9 => Nat.ne_of_lt (Nat.lt_of_lt_of_le (t_fk k hk9) z9_)
    have l_fe_fl2 : ex < r_1 := Nat.lt_of_lt_of_le t_fe z9_
    have l_fr_fl2 : ro < r_1 := Nat.lt_of_lt_of_le t_fr z9_
    have l_f0w_fl2 : rl < r_1 := Nat.lt_of_lt_of_le t_f0w z9_
    have hZ0_ := hS.1
    have t_fo := fo.lt
    have t_fj := fj.lt
    have t_fk := fun k (hk9 : k < 6) => (fk k hk9).lt
    have t_fe := fe.lt
    have t_fr := fr.lt
    have t_f0w := f0w.lt
    have t_fl2 := fl2.lt
    refine k_r (pc := 9) (k_S E hC hS hA hl.1 (c_X5_told_E l D tk N0 sa H.size r_1 0) kw_1483 kw_1484 kw_5 kw_1485 (n := 1) (by decide +kernel) rfl ⟨⟨rfl, rfl⟩, ⟨Nat.le_of_ble_eq_true rfl, Nat.le_of_ble_eq_true rfl⟩, (by dsimp only; omega), (by dsimp only; omega)⟩ rfl (Nat.le_of_ble_eq_true rfl) fl2 dX5_row_9) hS (fun q z w => absurd w (Nat.not_le.mpr z)) hn (fun r_3 H locs hR hz hk hS => ?_)
    have fw := fw.new hk
    have fo := fo.kept (hk _ fo.lt (Nat.not_le.mpr fo.lt))
    have fj := fj.kept (hk _ fj.lt (Nat.not_le.mpr fj.lt))
    have fk := fk.new hk
    have fe := fe.kept (hk _ fe.lt (Nat.not_le.mpr fe.lt))
    have fr := fr.kept (hk _ fr.lt (Nat.not_le.mpr fr.lt))
    have f0w := f0w.kept (hk _ f0w.lt (Nat.not_le.mpr f0w.lt))
    have fl2 := fl2.kept (hk _ fl2.lt (Nat.not_le.mpr fl2.lt))
    obtain ⟨n_f4, hn_f4, f4⟩ := hR
    refine r_aret (pc := 12) E hr (Or.inl ⟨_, rfl⟩) hlk hS (by omega) (by omega) ?_ dX5_row_12
    exact ⟨_, ⟨_, _, _, _, _, fo, fj, fk, fe, fr, fw, ⟨hPm, hPa, hPl, hPe, hPr, hPk⟩, hFk, hFe, hFr, hpk, hn9⟩⟩
  · rcases fw with ⟨h1r, -⟩ | ⟨mdr, br, capr, fnr, hPb, f0w, fRw, elw, hPI, hncr, hmcr⟩
    · exact absurd h1r (by omega)
    have g_f0w := hPl
    have nW_f0w : ∀ k, k < 6 → rt k ≠ rl := fun k hk9 => clA.ne (fk k hk9).cla f0w.cl (hC.ao 7 0 rfl rfl)
    have g_fRw := hPb
    have nW_fRw : ∀ k, k < 6 → rt k ≠ br := fun k hk9 => clA.ne (fk k hk9).cla fRw.cla (hC.aa 0 4 rfl rfl (by dsimp only; decide))
    have hcbr := m_acB hmcr
    refine lv_aload_n (pc := 5) hx hb dX5_row_5 rfl (lv_at hl 0 rfl) ?_
    have hZ0_ := hS.1
    have t_fo := fo.lt
    have t_fj := fj.lt
    have t_fk := fun k (hk9 : k < 6) => (fk k hk9).lt
    have t_fe := fe.lt
    have t_fr := fr.lt
    have t_f0w := f0w.lt
    have t_fRw := fRw.lt
    refine k_r (pc := 6) (k_V E hC hS hA hl.1 (c1.recv hC fo rfl) rfl (c_X5_rowNow_A l D tk N0 sa H.size mo ra rl ex ro pk br ca rf kn 0 mdr n9 capr fnr vs h0r hn9 hncr (by omega) hPI) kw_1610 kw_1612 kp_29 kw_5 kw_1613 (n := 0) (by decide +kernel) rfl ⟨⟨rfl, rfl⟩, ⟨Nat.le_of_ble_eq_true rfl, Nat.le_of_ble_eq_true rfl⟩, (by dsimp only; omega), (by dsimp only; omega)⟩ rfl (Nat.le_of_ble_eq_true rfl) ⟨fo, f0w, fRw, elw⟩ dX5_row_6) hS (fun q z w => absurd w (Nat.not_le.mpr z)) hn (fun r_5 H locs hR hz hk hS => ?_)
    have fo := fo.kept (hk _ fo.lt (Nat.not_le.mpr fo.lt))
    have fj := fj.kept (hk _ fj.lt (Nat.not_le.mpr fj.lt))
    have fk := fk.new hk
    have fe := fe.kept (hk _ fe.lt (Nat.not_le.mpr fe.lt))
    have fr := fr.kept (hk _ fr.lt (Nat.not_le.mpr fr.lt))
    have f0w := f0w.kept (hk _ f0w.lt (Nat.not_le.mpr f0w.lt))
    have fRw := fRw.kept (hk _ fRw.lt (Nat.not_le.mpr fRw.lt))
    have elw := elw.new hk
    obtain ⟨bb6, cap6, ff6, ww6, md6, zr9_, zb9_, fl6, fR6, el6, hPQ6, hlc6, hlp6⟩ := hR
    have hcb6 := m_acB hlp6
    have s_fl6 : s.heap.size ≤ r_5 := Nat.le_trans hZ0_ zr9_
    have g_fl6 := hn _ s_fl6
    have l_fo_fl6 : mo < r_5 := Nat.lt_of_lt_of_le t_fo zr9_
    have l_fj_fl6 : ra < r_5 := Nat.lt_of_lt_of_le t_fj zr9_
    have nW_fl6 : ∀ k, k < 6 → rt k ≠ r_5 := fun k hk9 => Nat.ne_of_lt (Nat.lt_of_lt_of_le (t_fk k hk9) zr9_)
    have l_fe_fl6 : ex < r_5 := Nat.lt_of_lt_of_le t_fe zr9_
    have l_fr_fl6 : ro < r_5 := Nat.lt_of_lt_of_le t_fr zr9_
    have l_f0w_fl6 : rl < r_5 := Nat.lt_of_lt_of_le t_f0w zr9_
    have l_fRw_fl6 : br < r_5 := Nat.lt_of_lt_of_le t_fRw zr9_
    have s_fR6 : s.heap.size ≤ bb6 := Nat.le_trans hZ0_ zb9_
    have g_fR6 := hn _ s_fR6
    have l_fo_fR6 : mo < bb6 := Nat.lt_of_lt_of_le t_fo zb9_
    have l_fj_fR6 : ra < bb6 := Nat.lt_of_lt_of_le t_fj zb9_
    have nW_fR6 : ∀ k, k < 6 → rt k ≠ bb6 := fun k hk9 => Nat.ne_of_lt (Nat.lt_of_lt_of_le (t_fk k hk9) zb9_)
    have l_fe_fR6 : ex < bb6 := Nat.lt_of_lt_of_le t_fe zb9_
    have l_fr_fR6 : ro < bb6 := Nat.lt_of_lt_of_le t_fr zb9_
    have l_f0w_fR6 : rl < bb6 := Nat.lt_of_lt_of_le t_f0w zb9_
    have l_fRw_fR6 : br < bb6 := Nat.lt_of_lt_of_le t_fRw zb9_
    have hZ0_ := hS.1
    have t_fo := fo.lt
    have t_fj := fj.lt
    have t_fk := fun k (hk9 : k < 6) => (fk k hk9).lt
    have t_fe := fe.lt
    have t_fr := fr.lt
    have t_f0w := f0w.lt
    have t_fRw := fRw.lt
    have t_fR6 := fR6.lt
    have t_fl6 := fl6.lt
    refine k_r (pc := 9) (k_S E hC hS hA hl.1 (c_X5_told l D tk N0 sa H.size r_5 bb6 n9 cap6 md6 ff6 ww6 (by omega) (by omega) (by omega) (hPQ6.pv hPI)) kw_1483 kw_1484 kw_5 kw_1485 (n := 1) (by decide +kernel) rfl ⟨⟨rfl, rfl⟩, ⟨Nat.le_of_ble_eq_true rfl, Nat.le_of_ble_eq_true rfl⟩, (by dsimp only; omega), (by dsimp only; omega)⟩ rfl (Nat.le_of_ble_eq_true rfl) ⟨fl6, fR6, el6⟩ dX5_row_9) hS (fun q z w => absurd w (Nat.not_le.mpr z)) hn (fun r_7 H locs hR hz hk hS => ?_)
    have fo := fo.kept (hk _ fo.lt (Nat.not_le.mpr fo.lt))
    have fj := fj.kept (hk _ fj.lt (Nat.not_le.mpr fj.lt))
    have fk := fk.new hk
    have fe := fe.kept (hk _ fe.lt (Nat.not_le.mpr fe.lt))
    have fr := fr.kept (hk _ fr.lt (Nat.not_le.mpr fr.lt))
    have f0w := f0w.kept (hk _ f0w.lt (Nat.not_le.mpr f0w.lt))
    have fRw := fRw.kept (hk _ fRw.lt (Nat.not_le.mpr fRw.lt))
    have elw := elw.new hk
    have fR6 := fR6.kept (hk _ fR6.lt (Nat.not_le.mpr fR6.lt))
    have fl6 := fl6.kept (hk _ fl6.lt (Nat.not_le.mpr fl6.lt))
    have el6 := el6.new hk
    obtain ⟨n_f8, hn_f8, f8⟩ := hR
    refine r_aret (pc := 12) E hr (Or.inl ⟨_, rfl⟩) hlk hS (by omega) (by omega) ?_ dX5_row_12
    exact ⟨_, ⟨_, _, _, _, _, fo, fj, fk, fe, fr, (Or.inr ⟨_, _, _, _, hPb, f0w, fRw, elw, hPI, hncr, hmcr⟩), ⟨hPm, hPa, hPl, hPe, hPr, hPk⟩, hFk, hFe, hFr, hpk, hn9⟩⟩
set_option maxHeartbeats 4000000 in
set_option maxRecDepth 100000 in
/-- BestratiosModel.fold(I)I -/
theorem c_X5_fold (l : Launch) (D : va_G) (tk : Nat → ClassId) (N0 : Nat) (sa : Nat → Nat)  (sz : Nat) (P : Nat → Prop) (hPN : ∀ q, P q → N0 ≤ q) (hPs : ∀ q, sz ≤ q → P q) (mo n9 : Nat) (kn th : Int32) (tt bb : Nat → Int64) (eT eB oT oB : Int64) (pk : Nat) (ca rf : Int32) (vs : Nat → Value) (x1 : Int32) : Met l yX5_fold (wsy yX5_fold cX5_fold 4 (some .int)) ({ frames := 8, cells := 24, slots := 162, locals := 180 } : Room) (cP D tk N0 sa [.ref mo, .int x1] sz (fun H => MI D tk sa P mo tt bb eT eB oT oB pk ca rf vs kn n9 th H)) (kQi (fun r H => ∃ th1 tt1 bb1 rf1 o, MI D tk sa P mo tt1 bb1 eT eB oT oB pk ca rf1 vs kn n9 th1 H ∧ AC (m_isNo x1) 0 tt bb rf (nn x1) o r th1 tt1 bb1 rf1 ∧ (m_fl (m_isNo x1) 0 = 0 → m_FO n9 vs o)) (P)) (24) (162) (P) := by
  refine mStart RX5 rfl (by decide +kernel) (Nat.le_of_ble_eq_true rfl) ?_
  intro p e s m args below meth c E hr hlk hnm hsz hC hF ls hl
  subst hsz
  obtain ⟨hx, hb, -⟩ := id E
  have hA : ∀ q, (P) q → N0 ≤ q := hPN
  have hn : ∀ q, s.heap.size ≤ q → (P) q := hPs
  have hS : va_S (P) s.heap s.heap [] := va_S.rf
  have hl : lv_has ls 4 [(0, .ref mo), (1, .int x1)] := hl
  obtain ⟨Q, hQ⟩ : ∃ Q, Q = MQ below (kQi (fun r H => ∃ th1 tt1 bb1 rf1 o, MI D tk sa P mo tt1 bb1 eT eB oT oB pk ca rf1 vs kn n9 th1 H ∧ AC (m_isNo x1) 0 tt bb rf (nn x1) o r th1 tt1 bb1 rf1 ∧ (m_fl (m_isNo x1) 0 = 0 → m_FO n9 vs o)) (P)) args s (24) (162) (P) := ⟨_, rfl⟩
  rw [← hQ]
  have hM : MI D tk sa P mo tt bb eT eB oT oB pk ca rf vs kn n9 th s.heap := hF
  obtain ⟨ra, rl, ex, ro, rt, fo, fj, fk, fe, fr, fw, ⟨hPm, hPa, hPl, hPe, hPr, hPk⟩, hFk, hFe, hFr, hpk, hn9⟩ := hM
  have g_fo := hPm
  have g_fj := hPa
  refine lv_aload_n (pc := 0) hx hb dX5_fold_0 rfl (lv_at hl 0 rfl) ?_
  refine lv_iload_n (pc := 1) hx hb dX5_fold_1 rfl (lv_at hl 1 rfl) ?_
  refine k_i (pc := 2) (k_S E hC hS hA hl.1 (c_X5_isNo l D tk N0 sa s.heap.size x1 ) kw_1245 kw_1246 kw_5 kw_1247 (n := 1) (by decide +kernel) rfl ⟨⟨rfl, rfl⟩, ⟨Nat.le_of_ble_eq_true rfl, Nat.le_of_ble_eq_true rfl⟩, (by dsimp only; omega), (by dsimp only; omega)⟩ rfl (Nat.le_of_ble_eq_true rfl) trivial dX5_fold_2) hS (fun q z w => absurd w (Nat.not_le.mpr z)) hn (fun r_1 H locs hR hz hk hS => ?_)
  have er_1 := hR
  have fw := fw.new hk
  have fo := fo.kept (hk _ fo.lt (Nat.not_le.mpr fo.lt))
  have fj := fj.kept (hk _ fj.lt (Nat.not_le.mpr fj.lt))
  have fk := fk.new hk
  have fe := fe.kept (hk _ fe.lt (Nat.not_le.mpr fe.lt))
  have fr := fr.kept (hk _ fr.lt (Nat.not_le.mpr fr.lt))
  refine lv_iconst (pc := 5) (v := 0) hx hb dX5_fold_5 (by decide) ?_
  have hZ0_ := hS.1
  have t_fo := fo.lt
  have t_fj := fj.lt
  have t_fk := fun k (hk9 : k < 6) => (fk k hk9).lt
  have t_fe := fe.lt
  have t_fr := fr.lt
  refine k_i (pc := 6) (k_V E hC hS hA hl.1 (c1.recv hC fo rfl) rfl (c_X5_fails l D tk N0 sa H.size P hPN (fun q h9 => hPs q (Nat.le_trans hS.1 h9)) mo n9 kn th tt bb eT eB oT oB pk ca rf vs r_1 0 ) kw_1251 kw_1253 kp_20 kw_5 kw_1254 (n := 2) (by decide +kernel) rfl ⟨⟨rfl, rfl⟩, ⟨Nat.le_of_ble_eq_true rfl, Nat.le_of_ble_eq_true rfl⟩, (by dsimp only; omega), (by dsimp only; omega)⟩ rfl (Nat.le_of_ble_eq_true rfl) ⟨_, _, _, _, _, fo, fj, fk, fe, fr, fw, ⟨hPm, hPa, hPl, hPe, hPr, hPk⟩, hFk, hFe, hFr, hpk, hn9⟩ dX5_fold_6) hS (fun q _ h => h) hn (fun r_3 H locs hR hz hk hS => ?_)
  obtain ⟨er_3, hM⟩ := hR
  obtain ⟨ra, rl, ex, ro, rt, fo, fj, fk, fe, fr, fw, ⟨hPm, hPa, hPl, hPe, hPr, hPk⟩, hFk, hFe, hFr, hpk, hn9⟩ := hM
  have g_fo := hPm
  have g_fj := hPa
  refine lv_if_eq (pc := 9) (tgt := 14) hx hb dX5_fold_9 (by decide) (fun c_4 => ?_) (fun c_4 => ?_)
  · rcases Nat.eq_zero_or_pos n9 with h0r | h0r
    · subst h0r
      obtain ⟨mdr, br, f0w⟩ := fw.obj
      refine lv_aload_n (pc := 14) hx hb dX5_fold_14 rfl (lv_at hl 0 rfl) ?_
      refine r_get (pc := 15) E hC fo 1 (v := .ref rl) rfl rfl (by decide) uX5 (List.mem_cons_of_mem _ kw_1210) (fun _ h => h) dX5_fold_15 ?_
      obtain ⟨md_5, b_5, fz5⟩ := fw.obj
      refine k_i (pc := 18) (k_V E hC hS hA hl.1 (c1.recv hC fz5 rfl) rfl (c_Jx4a65c_size_8abf5 l D tk N0 sa H.size rl b_5 0 md_5) kw_1546 kw_1547 kw_1548 kw_8 kw_1549 (n := 0) (by decide +kernel) rfl ⟨⟨rfl, rfl⟩, ⟨Nat.le_of_ble_eq_true rfl, Nat.le_of_ble_eq_true rfl⟩, (by dsimp only; omega), (by dsimp only; omega)⟩ rfl (Nat.le_of_ble_eq_true rfl) (by exact fz5) dX5_fold_18) hS (fun q z w => absurd w (Nat.not_le.mpr z)) hn (fun r_6 H locs hR hz hk hS => ?_)
      have fw := fw.new hk
      have fo := fo.kept (hk _ fo.lt (Nat.not_le.mpr fo.lt))
      have fj := fj.kept (hk _ fj.lt (Nat.not_le.mpr fj.lt))
      have fk := fk.new hk
      have fe := fe.kept (hk _ fe.lt (Nat.not_le.mpr fe.lt))
      have fr := fr.kept (hk _ fr.lt (Nat.not_le.mpr fr.lt))
      have f0w := f0w.kept (hk _ f0w.lt (Nat.not_le.mpr f0w.lt))
      have fz5 := fz5.kept (hk _ fz5.lt (Nat.not_le.mpr fz5.lt))
      rw [show r_6 = 0 from hR.trans nI_0]
      refine lv_if_le (pc := 21) (tgt := 28) hx hb dX5_fold_21 (by decide) (fun c_7 => ?_) (fun c_7 => ?_)
      rotate_left
      · exact absurd (by decide) c_7
      refine lv_iconst (pc := 28) (v := 0) hx hb dX5_fold_28 (by decide) ?_
      refine lv_istore_n (pc := 29) (lv' := [(2, .int 0), (0, .ref mo), (1, .int x1)]) hx hb dX5_fold_29 rfl hl (by decide) rfl (fun ls hl => ?_)
      refine lv_iconst (pc := 30) (v := 1) hx hb dX5_fold_30 (by decide) ?_
      refine lv_istore_n (pc := 31) (lv' := [(3, .int 1), (2, .int 0), (0, .ref mo), (1, .int x1)]) hx hb dX5_fold_31 rfl hl (by decide) rfl (fun ls hl => ?_)
      refine lv_iload_n (pc := 32) hx hb dX5_fold_32 rfl (lv_at hl 0 rfl) ?_
      refine lv_aload_n (pc := 33) hx hb dX5_fold_33 rfl (lv_at hl 2 rfl) ?_
      refine r_get (pc := 34) E hC fo 1 (v := .ref rl) rfl rfl (by decide) uX5 (List.mem_cons_of_mem _ kw_1210) (fun _ h => h) dX5_fold_34 ?_
      obtain ⟨md_8, b_8, fz8⟩ := fw.obj
      refine k_i (pc := 37) (k_V E hC hS hA hl.1 (c1.recv hC fz8 rfl) rfl (c_Jx4a65c_size_8abf5 l D tk N0 sa H.size rl b_8 0 md_8) kw_1546 kw_1547 kw_1548 kw_8 kw_1549 (n := 0) (by decide +kernel) rfl ⟨⟨rfl, rfl⟩, ⟨Nat.le_of_ble_eq_true rfl, Nat.le_of_ble_eq_true rfl⟩, (by dsimp only; omega), (by dsimp only; omega)⟩ rfl (Nat.le_of_ble_eq_true rfl) (by exact fz8) dX5_fold_37) hS (fun q z w => absurd w (Nat.not_le.mpr z)) hn (fun r_9 H locs hR hz hk hS => ?_)
      have fw := fw.new hk
      have fo := fo.kept (hk _ fo.lt (Nat.not_le.mpr fo.lt))
      have fj := fj.kept (hk _ fj.lt (Nat.not_le.mpr fj.lt))
      have fk := fk.new hk
      have fe := fe.kept (hk _ fe.lt (Nat.not_le.mpr fe.lt))
      have fr := fr.kept (hk _ fr.lt (Nat.not_le.mpr fr.lt))
      have f0w := f0w.kept (hk _ f0w.lt (Nat.not_le.mpr f0w.lt))
      have fz5 := fz5.kept (hk _ fz5.lt (Nat.not_le.mpr fz5.lt))
      have fz8 := fz8.kept (hk _ fz8.lt (Nat.not_le.mpr fz8.lt))
      rw [show r_9 = 0 from hR.trans nI_0]
      refine lv_icmp_ge (pc := 40) (tgt := 75) hx hb dX5_fold_40 (by decide) (fun c_10 => ?_) (fun c_10 => ?_)
      rotate_left
      · exact absurd (by decide) c_10
      refine lv_aload_n (pc := 75) hx hb dX5_fold_75 rfl (lv_at hl 2 rfl) ?_
      refine lv_iload_n (pc := 76) hx hb dX5_fold_76 rfl (lv_at hl 3 rfl) ?_
      refine lv_iload_n (pc := 77) hx hb dX5_fold_77 rfl (lv_at hl 1 rfl) ?_
      refine lv_if_eq (pc := 78) (tgt := 98) hx hb dX5_fold_78 (by decide) (fun c_11 => ?_) (fun c_11 => ?_)
      rotate_left
      · exact absurd (by decide) c_11
      refine lv_null (pc := 98) hx hb dX5_fold_98 ?_
      have hZ0_ := hS.1
      have t_fo := fo.lt
      have t_fj := fj.lt
      have t_fk := fun k (hk9 : k < 6) => (fk k hk9).lt
      have t_fe := fe.lt
      have t_fr := fr.lt
      have t_f0w := f0w.lt
      have t_fz5 := fz5.lt
      have t_fz8 := fz8.lt
      obtain ⟨hx_12, hk_12⟩ := m_noN (er_1.symm.trans (m_fl0 (er_3.symm.trans c_4)).1)
      refine k_i (pc := 99) (k_V E hC hS hA hl.1 (c1.recv hC fo rfl) rfl (c_X5_become_N l D tk N0 sa H.size P hPN (fun q h9 => hPs q (Nat.le_trans hS.1 h9)) mo 0 kn ((m_th r_1 0)) tt bb eT eB oT oB pk ca rf vs x1 (nn x1) hx_12 hk_12 ) kw_1255 kw_1257 kp_21 kw_5 kw_1258 (n := 2) (by decide +kernel) rfl ⟨⟨rfl, rfl⟩, ⟨Nat.le_of_ble_eq_true rfl, Nat.le_of_ble_eq_true rfl⟩, (by dsimp only; omega), (by dsimp only; omega)⟩ rfl (Nat.le_of_ble_eq_true rfl) ⟨_, _, _, _, _, fo, fj, fk, fe, fr, fw, ⟨hPm, hPa, hPl, hPe, hPr, hPk⟩, hFk, hFe, hFr, hpk, hn9⟩ dX5_fold_99) hS (fun q _ h => h) hn (fun r_13 H locs hR hz hk hS => ?_)
      obtain ⟨tt_14, bb_14, rf_14, hM, hBE_14⟩ := hR
      obtain ⟨ra, rl, ex, ro, rt, fo, fj, fk, fe, fr, fw, ⟨hPm, hPa, hPl, hPe, hPr, hPk⟩, hFk, hFe, hFr, hpk, hn9⟩ := hM
      have g_fo := hPm
      have g_fj := hPa
      try rw [hQ]
      refine r_iret (pc := 102) E hr hlk hS (by omega) (by omega) ?_ dX5_fold_102
      exact ⟨_, _, _, _, _, ⟨_, _, _, _, _, fo, fj, fk, fe, fr, fw, ⟨hPm, hPa, hPl, hPe, hPr, hPk⟩, hFk, hFe, hFr, hpk, hn9⟩, AC.ok (by subst er_1 er_3; first | rfl | (simp [m_or, m_not, m_is0, m_lt0, m_fl, c_4]; done)) (by subst er_1 er_3; first | rfl | (simp [m_or, m_not, m_is0, m_lt0, m_fl, c_4]; done)) (er_3.symm.trans c_4) hBE_14, fun _ => Or.inl ⟨rfl, rfl⟩⟩
    · rcases fw with ⟨h1r, -⟩ | ⟨mdr, br, capr, fnr, hPb, f0w, fRw, elw, hPI, hncr, hmcr⟩
      · exact absurd h1r (by omega)
      have g_f0w := hPl
      have nW_f0w : ∀ k, k < 6 → rt k ≠ rl := fun k hk9 => clA.ne (fk k hk9).cla f0w.cl (hC.ao 7 0 rfl rfl)
      have g_fRw := hPb
      have nW_fRw : ∀ k, k < 6 → rt k ≠ br := fun k hk9 => clA.ne (fk k hk9).cla fRw.cla (hC.aa 0 4 rfl rfl (by dsimp only; decide))
      have hcbr := m_acB hmcr
      refine lv_aload_n (pc := 14) hx hb dX5_fold_14 rfl (lv_at hl 0 rfl) ?_
      refine r_get (pc := 15) E hC fo 1 (v := .ref rl) rfl rfl (by decide) uX5 (List.mem_cons_of_mem _ kw_1210) (fun _ h => h) dX5_fold_15 ?_
      refine k_i (pc := 18) (k_V E hC hS hA hl.1 (c1.recv hC f0w rfl) rfl (c_Jx4a65c_size_8abf5 l D tk N0 sa H.size rl br n9 mdr) kw_1546 kw_1547 kw_1548 kw_8 kw_1549 (n := 0) (by decide +kernel) rfl ⟨⟨rfl, rfl⟩, ⟨Nat.le_of_ble_eq_true rfl, Nat.le_of_ble_eq_true rfl⟩, (by dsimp only; omega), (by dsimp only; omega)⟩ rfl (Nat.le_of_ble_eq_true rfl) f0w dX5_fold_18) hS (fun q z w => absurd w (Nat.not_le.mpr z)) hn (fun r_15 H locs hR hz hk hS => ?_)
      have fo := fo.kept (hk _ fo.lt (Nat.not_le.mpr fo.lt))
      have fj := fj.kept (hk _ fj.lt (Nat.not_le.mpr fj.lt))
      have fk := fk.new hk
      have fe := fe.kept (hk _ fe.lt (Nat.not_le.mpr fe.lt))
      have fr := fr.kept (hk _ fr.lt (Nat.not_le.mpr fr.lt))
      have f0w := f0w.kept (hk _ f0w.lt (Nat.not_le.mpr f0w.lt))
      have fRw := fRw.kept (hk _ fRw.lt (Nat.not_le.mpr fRw.lt))
      have elw := elw.new hk
      rw [show r_15 = nI n9 from hR]
      refine lv_if_le (pc := 21) (tgt := 28) hx hb dX5_fold_21 (by decide) (fun c_16 => ?_) (fun c_16 => ?_)
      · exact absurd (m_nle0 (by omega) c_16) (by omega)
      refine lv_iconst (pc := 24) (v := 1) hx hb dX5_fold_24 (by decide) ?_
      refine lv_goto (pc := 25) (tgt := 29) hx hb dX5_fold_25 (by decide) ?_
      refine lv_istore_n (pc := 29) (lv' := [(2, .int 1), (0, .ref mo), (1, .int x1)]) hx hb dX5_fold_29 rfl hl (by decide) rfl (fun ls hl => ?_)
      refine lv_iconst (pc := 30) (v := 1) hx hb dX5_fold_30 (by decide) ?_
      refine lv_istore_n (pc := 31) (lv' := [(3, .int 1), (2, .int 1), (0, .ref mo), (1, .int x1)]) hx hb dX5_fold_31 rfl hl (by decide) rfl (fun ls hl => ?_)
      have loop_32 : ∀ (n : Nat) (k : Nat)(u9 : Int32) (y9 : Int32), 17 - k < n → 1 ≤ k ∧ k ≤ n9 → y9 = nI k → m_isz vs k u9 → ∀ (H : Heap) (locs : List Loc) (ls : Array Slot), va_S (P) s.heap H locs → c1 D mo (.inr (13, [.ref ra, .ref rl, .ref ex, .ref ro, .int (nI pk), .int ca, .int rf, .int kn, .int ((m_th r_1 0))])) H → c1 D ra (.inl (tk 3, 6, .inr (.inr (.inr (.inr (fun k => some (rt k))))))) H → MK D tk rt tt bb H → L2 D tk ex eT eB H → L2 D tk ro oT oB H → c1 D rl (.inr (7, [.int mdr, .ref br, .int (nI n9)])) H → c1 D br (.inl (tk 4, capr, .inr (.inr (.inr (.inr (fnr)))))) H → EL D 2 n9 fnr vs H → lv_has ls 4 [(0, .ref mo), (1, .int x1), (2, .int u9), (3, .int y9)] → W p l e ({ frames := 8, cells := 24, slots := 162, locals := 180 } : Room) s m args below meth c H locs (0) (0) Q (F0 m 32 ls []) := by
        intro n
        induction n with
        | zero =>
          intro k u9 y9 hf9 hk9 hx9 hz9 H locs ls hS fo fj fk fe fr f0w fRw elw hl
          omega
        | succ n ih_32 =>
          intro k u9 y9 hf9 hk9 hx9 hz9 H locs ls hS fo fj fk fe fr f0w fRw elw hl
          refine lv_iload_n (pc := 32) hx hb dX5_fold_32 rfl (lv_at hl 3 rfl) ?_
          refine lv_aload_n (pc := 33) hx hb dX5_fold_33 rfl (lv_at hl 0 rfl) ?_
          refine r_get (pc := 34) E hC fo 1 (v := .ref rl) rfl rfl (by decide) uX5 (List.mem_cons_of_mem _ kw_1210) (fun _ h => h) dX5_fold_34 ?_
          refine k_i (pc := 37) (k_V E hC hS hA hl.1 (c1.recv hC f0w rfl) rfl (c_Jx4a65c_size_8abf5 l D tk N0 sa H.size rl br n9 mdr) kw_1546 kw_1547 kw_1548 kw_8 kw_1549 (n := 0) (by decide +kernel) rfl ⟨⟨rfl, rfl⟩, ⟨Nat.le_of_ble_eq_true rfl, Nat.le_of_ble_eq_true rfl⟩, (by dsimp only; omega), (by dsimp only; omega)⟩ rfl (Nat.le_of_ble_eq_true rfl) f0w dX5_fold_37) hS (fun q z w => absurd w (Nat.not_le.mpr z)) hn (fun r_17 H locs hR hz hk hS => ?_)
          have fo := fo.kept (hk _ fo.lt (Nat.not_le.mpr fo.lt))
          have fj := fj.kept (hk _ fj.lt (Nat.not_le.mpr fj.lt))
          have fk := fk.new hk
          have fe := fe.kept (hk _ fe.lt (Nat.not_le.mpr fe.lt))
          have fr := fr.kept (hk _ fr.lt (Nat.not_le.mpr fr.lt))
          have f0w := f0w.kept (hk _ f0w.lt (Nat.not_le.mpr f0w.lt))
          have fRw := fRw.kept (hk _ fRw.lt (Nat.not_le.mpr fRw.lt))
          have elw := elw.new hk
          rw [show r_17 = nI n9 from hR]
          refine lv_icmp_ge (pc := 40) (tgt := 75) hx hb dX5_fold_40 (by decide) (fun c_18 => ?_) (fun c_18 => ?_)
          · refine lv_aload_n (pc := 75) hx hb dX5_fold_75 rfl (lv_at hl 0 rfl) ?_
            refine lv_iload_n (pc := 76) hx hb dX5_fold_76 rfl (lv_at hl 1 rfl) ?_
            refine lv_iload_n (pc := 77) hx hb dX5_fold_77 rfl (lv_at hl 2 rfl) ?_
            refine lv_if_eq (pc := 78) (tgt := 98) hx hb dX5_fold_78 (by decide) (fun c_19 => ?_) (fun c_19 => ?_)
            · have hkn9 : n9 ≤ k := Nat.not_lt.mp (fun z9 => absurd (nI_lt z9 (by omega)) (Int32.not_lt.mpr (by have h9 := c_18; rw [hx9] at h9; exact h9)))
              refine lv_null (pc := 98) hx hb dX5_fold_98 ?_
              have hZ0_ := hS.1
              have t_fo := fo.lt
              have t_fj := fj.lt
              have t_fk := fun k (hk9 : k < 6) => (fk k hk9).lt
              have t_fe := fe.lt
              have t_fr := fr.lt
              have t_f0w := f0w.lt
              have t_fRw := fRw.lt
              obtain ⟨hx_20, hk_20⟩ := m_noN (er_1.symm.trans (m_fl0 (er_3.symm.trans c_4)).1)
              refine k_i (pc := 99) (k_V E hC hS hA hl.1 (c1.recv hC fo rfl) rfl (c_X5_become_N l D tk N0 sa H.size P hPN (fun q h9 => hPs q (Nat.le_trans hS.1 h9)) mo n9 kn ((m_th r_1 0)) tt bb eT eB oT oB pk ca rf vs x1 (nn x1) hx_20 hk_20 ) kw_1255 kw_1257 kp_21 kw_5 kw_1258 (n := 2) (by decide +kernel) rfl ⟨⟨rfl, rfl⟩, ⟨Nat.le_of_ble_eq_true rfl, Nat.le_of_ble_eq_true rfl⟩, (by dsimp only; omega), (by dsimp only; omega)⟩ rfl (Nat.le_of_ble_eq_true rfl) ⟨_, _, _, _, _, fo, fj, fk, fe, fr, (Or.inr ⟨_, _, _, _, hPb, f0w, fRw, elw, hPI, hncr, hmcr⟩), ⟨hPm, hPa, hPl, hPe, hPr, hPk⟩, hFk, hFe, hFr, hpk, hn9⟩ dX5_fold_99) hS (fun q _ h => h) hn (fun r_21 H locs hR hz hk hS => ?_)
              obtain ⟨tt_22, bb_22, rf_22, hM, hBE_22⟩ := hR
              obtain ⟨ra, rl, ex, ro, rt, fo, fj, fk, fe, fr, fw, ⟨hPm, hPa, hPl, hPe, hPr, hPk⟩, hFk, hFe, hFr, hpk, hn9⟩ := hM
              have g_fo := hPm
              have g_fj := hPa
              try rw [hQ]
              refine r_iret (pc := 102) E hr hlk hS (by omega) (by omega) ?_ dX5_fold_102
              exact ⟨_, _, _, _, _, ⟨_, _, _, _, _, fo, fj, fk, fe, fr, fw, ⟨hPm, hPa, hPl, hPe, hPr, hPk⟩, hFk, hFe, hFr, hpk, hn9⟩, AC.ok (by subst er_1 er_3; first | rfl | (simp [m_or, m_not, m_is0, m_lt0, m_fl, c_4, c_18, Int32.not_lt.mpr c_18, c_19]; done)) (by subst er_1 er_3; first | rfl | (simp [m_or, m_not, m_is0, m_lt0, m_fl, c_4, c_18, Int32.not_lt.mpr c_18, c_19]; done)) (er_3.symm.trans c_4) hBE_22, fun _ => m_isz.fo0 (by rw [show n9 = k by omega]; exact hz9) c_19 (by omega)⟩
            · refine lv_aload_n (pc := 81) hx hb dX5_fold_81 rfl (lv_at hl 0 rfl) ?_
              have hkn9 : n9 ≤ k := Nat.not_lt.mp (fun z9 => absurd (nI_lt z9 (by omega)) (Int32.not_lt.mpr (by have h9 := c_18; rw [hx9] at h9; exact h9)))
              have hZ0_ := hS.1
              have t_fo := fo.lt
              have t_fj := fj.lt
              have t_fk := fun k (hk9 : k < 6) => (fk k hk9).lt
              have t_fe := fe.lt
              have t_fr := fr.lt
              have t_f0w := f0w.lt
              have t_fRw := fRw.lt
              refine k_r (pc := 82) (k_V E hC hS hA hl.1 (c1.recv hC fo rfl) rfl (c_X5_rowNow_A l D tk N0 sa H.size mo ra rl ex ro pk br ca rf kn ((m_th r_1 0)) mdr n9 capr fnr vs h0r hn9 hncr (by omega) hPI) kw_1610 kw_1612 kp_29 kw_5 kw_1613 (n := 0) (by decide +kernel) rfl ⟨⟨rfl, rfl⟩, ⟨Nat.le_of_ble_eq_true rfl, Nat.le_of_ble_eq_true rfl⟩, (by dsimp only; omega), (by dsimp only; omega)⟩ rfl (Nat.le_of_ble_eq_true rfl) ⟨fo, f0w, fRw, elw⟩ dX5_fold_82) hS (fun q z w => absurd w (Nat.not_le.mpr z)) hn (fun r_23 H locs hR hz hk hS => ?_)
              have fo := fo.kept (hk _ fo.lt (Nat.not_le.mpr fo.lt))
              have fj := fj.kept (hk _ fj.lt (Nat.not_le.mpr fj.lt))
              have fk := fk.new hk
              have fe := fe.kept (hk _ fe.lt (Nat.not_le.mpr fe.lt))
              have fr := fr.kept (hk _ fr.lt (Nat.not_le.mpr fr.lt))
              have f0w := f0w.kept (hk _ f0w.lt (Nat.not_le.mpr f0w.lt))
              have fRw := fRw.kept (hk _ fRw.lt (Nat.not_le.mpr fRw.lt))
              have elw := elw.new hk
              obtain ⟨bb24, cap24, ff24, ww24, md24, zr9_, zb9_, fl24, fR24, el24, hPQ24, hlc24, hlp24⟩ := hR
              have hcb24 := m_acB hlp24
              have s_fl24 : s.heap.size ≤ r_23 := Nat.le_trans hZ0_ zr9_
              have g_fl24 := hn _ s_fl24
              have l_fo_fl24 : mo < r_23 := Nat.lt_of_lt_of_le t_fo zr9_
              have l_fj_fl24 : ra < r_23 := Nat.lt_of_lt_of_le t_fj zr9_
              have nW_fl24 : ∀ k, k < 6 → rt k ≠ r_23 := fun k hk9 => Nat.ne_of_lt (Nat.lt_of_lt_of_le (t_fk k hk9) zr9_)
              have l_fe_fl24 : ex < r_23 := Nat.lt_of_lt_of_le t_fe zr9_
              have l_fr_fl24 : ro < r_23 := Nat.lt_of_lt_of_le t_fr zr9_
              have l_f0w_fl24 : rl < r_23 := Nat.lt_of_lt_of_le t_f0w zr9_
              have l_fRw_fl24 : br < r_23 := Nat.lt_of_lt_of_le t_fRw zr9_
              have s_fR24 : s.heap.size ≤ bb24 := Nat.le_trans hZ0_ zb9_
              have g_fR24 := hn _ s_fR24
              have l_fo_fR24 : mo < bb24 := Nat.lt_of_lt_of_le t_fo zb9_
              have l_fj_fR24 : ra < bb24 := Nat.lt_of_lt_of_le t_fj zb9_
              have nW_fR24 : ∀ k, k < 6 → rt k ≠ bb24 := fun k hk9 => Nat.ne_of_lt (Nat.lt_of_lt_of_le (t_fk k hk9) zb9_)
              have l_fe_fR24 : ex < bb24 := Nat.lt_of_lt_of_le t_fe zb9_
              have l_fr_fR24 : ro < bb24 := Nat.lt_of_lt_of_le t_fr zb9_
              have l_f0w_fR24 : rl < bb24 := Nat.lt_of_lt_of_le t_f0w zb9_
              have l_fRw_fR24 : br < bb24 := Nat.lt_of_lt_of_le t_fRw zb9_
              refine lv_aload_n (pc := 85) hx hb dX5_fold_85 rfl (lv_at hl 0 rfl) ?_
              refine r_get (pc := 86) E hC fo 1 (v := .ref rl) rfl rfl (by decide) uX5 (List.mem_cons_of_mem _ kw_1210) (fun _ h => h) dX5_fold_86 ?_
              refine k_i (pc := 89) (k_V E hC hS hA hl.1 (c1.recv hC f0w rfl) rfl (c_Jx4a65c_size_8abf5 l D tk N0 sa H.size rl br n9 mdr) kw_1546 kw_1547 kw_1548 kw_8 kw_1549 (n := 0) (by decide +kernel) rfl ⟨⟨rfl, rfl⟩, ⟨Nat.le_of_ble_eq_true rfl, Nat.le_of_ble_eq_true rfl⟩, (by dsimp only; omega), (by dsimp only; omega)⟩ rfl (Nat.le_of_ble_eq_true rfl) f0w dX5_fold_89) hS (fun q z w => absurd w (Nat.not_le.mpr z)) hn (fun r_25 H locs hR hz hk hS => ?_)
              have fo := fo.kept (hk _ fo.lt (Nat.not_le.mpr fo.lt))
              have fj := fj.kept (hk _ fj.lt (Nat.not_le.mpr fj.lt))
              have fk := fk.new hk
              have fe := fe.kept (hk _ fe.lt (Nat.not_le.mpr fe.lt))
              have fr := fr.kept (hk _ fr.lt (Nat.not_le.mpr fr.lt))
              have f0w := f0w.kept (hk _ f0w.lt (Nat.not_le.mpr f0w.lt))
              have fRw := fRw.kept (hk _ fRw.lt (Nat.not_le.mpr fRw.lt))
              have elw := elw.new hk
              have fR24 := fR24.kept (hk _ fR24.lt (Nat.not_le.mpr fR24.lt))
              have fl24 := fl24.kept (hk _ fl24.lt (Nat.not_le.mpr fl24.lt))
              have el24 := el24.new hk
              rw [show r_25 = nI n9 from hR]
              have hZ0_ := hS.1
              have t_fo := fo.lt
              have t_fj := fj.lt
              have t_fk := fun k (hk9 : k < 6) => (fk k hk9).lt
              have t_fe := fe.lt
              have t_fr := fr.lt
              have t_f0w := f0w.lt
              have t_fRw := fRw.lt
              have t_fR24 := fR24.lt
              have t_fl24 := fl24.lt
              refine k_o (pc := 92) (k_S E hC hS hA hl.1 (c_X5_folded l D tk N0 sa H.size r_23 bb24 n9 cap24 md24 (nI n9) ff24 ww24 n9 _ (by omega) (by omega) rfl (by omega) (by omega) (hPQ24.pf hPI (fun i g1 g2 => (hz9.resolve_left (fun q9 => c_19 q9.1)).2 i g1 (by omega))) hPQ24.rw) kw_1566 kw_1567 kw_5 kw_1568 (n := 2) (by decide +kernel) rfl ⟨⟨rfl, rfl⟩, ⟨Nat.le_of_ble_eq_true rfl, Nat.le_of_ble_eq_true rfl⟩, (by dsimp only; omega), (by dsimp only; omega)⟩ rfl (Nat.le_of_ble_eq_true rfl) ⟨fl24, fR24, el24⟩ dX5_fold_92) hS (fun q z w => absurd w (Nat.not_le.mpr z)) hn (fun r_26 H locs hR hz hk hS => ?_)
              have fo := fo.kept (hk _ fo.lt (Nat.not_le.mpr fo.lt))
              have fj := fj.kept (hk _ fj.lt (Nat.not_le.mpr fj.lt))
              have fk := fk.new hk
              have fe := fe.kept (hk _ fe.lt (Nat.not_le.mpr fe.lt))
              have fr := fr.kept (hk _ fr.lt (Nat.not_le.mpr fr.lt))
              have f0w := f0w.kept (hk _ f0w.lt (Nat.not_le.mpr f0w.lt))
              have fRw := fRw.kept (hk _ fRw.lt (Nat.not_le.mpr fRw.lt))
              have elw := elw.new hk
              have fR24 := fR24.kept (hk _ fR24.lt (Nat.not_le.mpr fR24.lt))
              have fl24 := fl24.kept (hk _ fl24.lt (Nat.not_le.mpr fl24.lt))
              have el24 := el24.new hk
              rcases hR with ⟨rfl, hv_f27⟩ | ⟨q_f27, tt_f27, bb_f27, rfl, z9_, f27, hb_f27, hv_f27⟩
              · refine lv_goto (pc := 95) (tgt := 99) hx hb dX5_fold_95 (by decide) ?_
                have hZ0_ := hS.1
                have t_fo := fo.lt
                have t_fj := fj.lt
                have t_fk := fun k (hk9 : k < 6) => (fk k hk9).lt
                have t_fe := fe.lt
                have t_fr := fr.lt
                have t_f0w := f0w.lt
                have t_fRw := fRw.lt
                have t_fR24 := fR24.lt
                have t_fl24 := fl24.lt
                obtain ⟨hx_28, hk_28⟩ := m_noN (er_1.symm.trans (m_fl0 (er_3.symm.trans c_4)).1)
                refine k_i (pc := 99) (k_V E hC hS hA hl.1 (c1.recv hC fo rfl) rfl (c_X5_become_N l D tk N0 sa H.size P hPN (fun q h9 => hPs q (Nat.le_trans hS.1 h9)) mo n9 kn ((m_th r_1 0)) tt bb eT eB oT oB pk ca rf vs x1 (nn x1) hx_28 hk_28 ) kw_1255 kw_1257 kp_21 kw_5 kw_1258 (n := 2) (by decide +kernel) rfl ⟨⟨rfl, rfl⟩, ⟨Nat.le_of_ble_eq_true rfl, Nat.le_of_ble_eq_true rfl⟩, (by dsimp only; omega), (by dsimp only; omega)⟩ rfl (Nat.le_of_ble_eq_true rfl) ⟨_, _, _, _, _, fo, fj, fk, fe, fr, (Or.inr ⟨_, _, _, _, hPb, f0w, fRw, elw, hPI, hncr, hmcr⟩), ⟨hPm, hPa, hPl, hPe, hPr, hPk⟩, hFk, hFe, hFr, hpk, hn9⟩ dX5_fold_99) hS (fun q _ h => h) hn (fun r_29 H locs hR hz hk hS => ?_)
                obtain ⟨tt_30, bb_30, rf_30, hM, hBE_30⟩ := hR
                obtain ⟨ra, rl, ex, ro, rt, fo, fj, fk, fe, fr, fw, ⟨hPm, hPa, hPl, hPe, hPr, hPk⟩, hFk, hFe, hFr, hpk, hn9⟩ := hM
                have g_fo := hPm
                have g_fj := hPa
                try rw [hQ]
                refine r_iret (pc := 102) E hr hlk hS (by omega) (by omega) ?_ dX5_fold_102
                exact ⟨_, _, _, _, _, ⟨_, _, _, _, _, fo, fj, fk, fe, fr, fw, ⟨hPm, hPa, hPl, hPe, hPr, hPk⟩, hFk, hFe, hFr, hpk, hn9⟩, AC.ok (by subst er_1 er_3; first | rfl | (simp [m_or, m_not, m_is0, m_lt0, m_fl, c_4, c_18, Int32.not_lt.mpr c_18, c_19]; done)) (by subst er_1 er_3; first | rfl | (simp [m_or, m_not, m_is0, m_lt0, m_fl, c_4, c_18, Int32.not_lt.mpr c_18, c_19]; done)) (er_3.symm.trans c_4) hBE_30, fun _ => m_isz.fo1 (by rw [show n9 = k by omega]; exact hz9) c_19 (by omega) hv_f27⟩
              · have s_f27 : s.heap.size ≤ q_f27 := Nat.le_trans hZ0_ z9_
                have g_f27 := hn _ s_f27
                have l_fo_f27 : mo < q_f27 := Nat.lt_of_lt_of_le t_fo z9_
                have l_fj_f27 : ra < q_f27 := Nat.lt_of_lt_of_le t_fj z9_
                have nW_f27 : ∀ k, k < 6 → rt k ≠ q_f27 := fun k hk9 => Nat.ne_of_lt (Nat.lt_of_lt_of_le (t_fk k hk9) z9_)
                have l_fe_f27 : ex < q_f27 := Nat.lt_of_lt_of_le t_fe z9_
                have l_fr_f27 : ro < q_f27 := Nat.lt_of_lt_of_le t_fr z9_
                have l_f0w_f27 : rl < q_f27 := Nat.lt_of_lt_of_le t_f0w z9_
                have l_fRw_f27 : br < q_f27 := Nat.lt_of_lt_of_le t_fRw z9_
                have l_fR24_f27 : bb24 < q_f27 := Nat.lt_of_lt_of_le t_fR24 z9_
                have l_fl24_f27 : r_23 < q_f27 := Nat.lt_of_lt_of_le t_fl24 z9_
                refine lv_goto (pc := 95) (tgt := 99) hx hb dX5_fold_95 (by decide) ?_
                have hZ0_ := hS.1
                have t_fo := fo.lt
                have t_fj := fj.lt
                have t_fk := fun k (hk9 : k < 6) => (fk k hk9).lt
                have t_fe := fe.lt
                have t_fr := fr.lt
                have t_f0w := f0w.lt
                have t_fRw := fRw.lt
                have t_fR24 := fR24.lt
                have t_fl24 := fl24.lt
                have t_f27 := f27.lt
                obtain ⟨hx_31, hk_31⟩ := m_noN (er_1.symm.trans (m_fl0 (er_3.symm.trans c_4)).1)
                refine k_i (pc := 99) (k_V E hC hS hA hl.1 (c1.recv hC fo rfl) rfl (c_X5_become l D tk N0 sa H.size P hPN (fun q h9 => hPs q (Nat.le_trans hS.1 h9)) mo n9 kn ((m_th r_1 0)) tt bb eT eB oT oB pk ca rf vs x1 (nn x1) hx_31 hk_31 q_f27 tt_f27 bb_f27 (hPs _ s_f27) hb_f27) kw_1255 kw_1257 kp_21 kw_5 kw_1258 (n := 2) (by decide +kernel) rfl ⟨⟨rfl, rfl⟩, ⟨Nat.le_of_ble_eq_true rfl, Nat.le_of_ble_eq_true rfl⟩, (by dsimp only; omega), (by dsimp only; omega)⟩ rfl (Nat.le_of_ble_eq_true rfl) ⟨⟨_, _, _, _, _, fo, fj, fk, fe, fr, (Or.inr ⟨_, _, _, _, hPb, f0w, fRw, elw, hPI, hncr, hmcr⟩), ⟨hPm, hPa, hPl, hPe, hPr, hPk⟩, hFk, hFe, hFr, hpk, hn9⟩, f27⟩ dX5_fold_99) hS (fun q _ h => h) hn (fun r_32 H locs hR hz hk hS => ?_)
                obtain ⟨tt_33, bb_33, rf_33, hM, hBE_33⟩ := hR
                obtain ⟨ra, rl, ex, ro, rt, fo, fj, fk, fe, fr, fw, ⟨hPm, hPa, hPl, hPe, hPr, hPk⟩, hFk, hFe, hFr, hpk, hn9⟩ := hM
                have g_fo := hPm
                have g_fj := hPa
                try rw [hQ]
                refine r_iret (pc := 102) E hr hlk hS (by omega) (by omega) ?_ dX5_fold_102
                exact ⟨_, _, _, _, _, ⟨_, _, _, _, _, fo, fj, fk, fe, fr, fw, ⟨hPm, hPa, hPl, hPe, hPr, hPk⟩, hFk, hFe, hFr, hpk, hn9⟩, AC.ok (by subst er_1 er_3; first | rfl | (simp [m_or, m_not, m_is0, m_lt0, m_fl, c_4, c_18, Int32.not_lt.mpr c_18, c_19]; done)) (by subst er_1 er_3; first | rfl | (simp [m_or, m_not, m_is0, m_lt0, m_fl, c_4, c_18, Int32.not_lt.mpr c_18, c_19]; done)) (er_3.symm.trans c_4) hBE_33, fun _ => m_isz.fo1 (by rw [show n9 = k by omega]; exact hz9) c_19 (by omega) hv_f27⟩
          · have hkn : k < n9 := Nat.not_le.mp (fun z9 => c_18 (by rw [hx9]; exact nI_le z9 (by omega)))
            refine lv_iload_n (pc := 43) hx hb dX5_fold_43 rfl (lv_at hl 2 rfl) ?_
            refine lv_aload_n (pc := 44) hx hb dX5_fold_44 rfl (lv_at hl 0 rfl) ?_
            refine r_get (pc := 45) E hC fo 1 (v := .ref rl) rfl rfl (by decide) uX5 (List.mem_cons_of_mem _ kw_1210) (fun _ h => h) dX5_fold_45 ?_
            refine lv_iload_n (pc := 48) hx hb dX5_fold_48 rfl (lv_at hl 3 rfl) ?_
            obtain ⟨qe34, hq34, he34⟩ := elw k hkn
            obtain ⟨xe34, ev34, pv34⟩ := hPI k hkn
            rw [ev34] at he34
            refine k_r (pc := 49) (k_V E hC hS hA hl.1 (c1.recv hC f0w rfl) rfl (c_Jx4a65c_get_915e3 l D tk N0 sa H.size rl br n9 capr k qe34 mdr y9 fnr hx9 hkn hncr (by omega) hq34) kw_1550 kw_1551 kw_1552 kw_8 kw_1553 (n := 1) (by decide +kernel) rfl ⟨⟨rfl, rfl⟩, ⟨Nat.le_of_ble_eq_true rfl, Nat.le_of_ble_eq_true rfl⟩, (by dsimp only; omega), (by dsimp only; omega)⟩ rfl (Nat.le_of_ble_eq_true rfl) ⟨f0w, fRw⟩ dX5_fold_49) hS (fun q z w => absurd w (Nat.not_le.mpr z)) hn (fun r_35 H locs hR hz hk hS => ?_)
            have fo := fo.kept (hk _ fo.lt (Nat.not_le.mpr fo.lt))
            have fj := fj.kept (hk _ fj.lt (Nat.not_le.mpr fj.lt))
            have fk := fk.new hk
            have fe := fe.kept (hk _ fe.lt (Nat.not_le.mpr fe.lt))
            have fr := fr.kept (hk _ fr.lt (Nat.not_le.mpr fr.lt))
            have f0w := f0w.kept (hk _ f0w.lt (Nat.not_le.mpr f0w.lt))
            have fRw := fRw.kept (hk _ fRw.lt (Nat.not_le.mpr fRw.lt))
            have elw := elw.new hk
            have he34 := he34.kept (hk _ he34.lt (Nat.not_le.mpr he34.lt))
            rw [show r_35 = qe34 from hR]
            refine r_castO (pc := 52) E hC he34 rfl kw_1614 dX5_fold_52 ?_
            refine k_i (pc := 55) (k_V E hC hS hA hl.1 (xf.recv hC he34 rfl) rfl (c_J6_intValue_8abf5 l D tk N0 sa H.size qe34 xe34) kw_1615 kw_1616 kw_1617 kw_22 kw_1618 (n := 0) (by decide +kernel) rfl ⟨⟨rfl, rfl⟩, ⟨Nat.le_of_ble_eq_true rfl, Nat.le_of_ble_eq_true rfl⟩, (by dsimp only; omega), (by dsimp only; omega)⟩ rfl (Nat.le_of_ble_eq_true rfl) he34 dX5_fold_55) hS (fun q z w => absurd w (Nat.not_le.mpr z)) hn (fun r_36 H locs hR hz hk hS => ?_)
            have fo := fo.kept (hk _ fo.lt (Nat.not_le.mpr fo.lt))
            have fj := fj.kept (hk _ fj.lt (Nat.not_le.mpr fj.lt))
            have fk := fk.new hk
            have fe := fe.kept (hk _ fe.lt (Nat.not_le.mpr fe.lt))
            have fr := fr.kept (hk _ fr.lt (Nat.not_le.mpr fr.lt))
            have f0w := f0w.kept (hk _ f0w.lt (Nat.not_le.mpr f0w.lt))
            have fRw := fRw.kept (hk _ fRw.lt (Nat.not_le.mpr fRw.lt))
            have elw := elw.new hk
            have he34 := he34.kept (hk _ he34.lt (Nat.not_le.mpr he34.lt))
            have er_36 : r_36 = xe34 := hR
            refine lv_iconst (pc := 58) (v := 1) hx hb dX5_fold_58 (by decide) ?_
            refine lv_icmp_lt (pc := 59) (tgt := 66) hx hb dX5_fold_59 (by decide) (fun c_37 => ?_) (fun c_37 => ?_)
            · refine lv_iconst (pc := 66) (v := 0) hx hb dX5_fold_66 (by decide) ?_
              refine lv_iand (pc := 67) hx hb dX5_fold_67 ?_
              obtain ⟨x_38, ex_38⟩ : ∃ z9 : Int32, z9 = u9 &&& 0 := ⟨_, rfl⟩
              rw [← ex_38]
              refine lv_istore_n (pc := 68) (lv' := [(2, .int x_38), (0, .ref mo), (1, .int x1), (3, .int y9)]) hx hb dX5_fold_68 rfl hl (by decide) rfl (fun ls hl => ?_)
              obtain ⟨x_39, ex_39⟩ : ∃ z9 : Int32, z9 = y9 + 1 := ⟨_, rfl⟩
              refine lv_iinc (pc := 69) (v := x_39) (lv' := [(3, .int x_39), (2, .int x_38), (0, .ref mo), (1, .int x1)]) hx hb dX5_fold_69 hl (k := 3) rfl (by rw [ex_39]; rfl) (by decide) rfl (fun ls hl => ?_)
              refine lv_goto (pc := 72) (tgt := 32) hx hb dX5_fold_72 (by decide) ?_
              refine W.widen (k := 0) (n := 0) (by omega) (by omega) ?_
              exact ih_32  (k + 1)  x_38 x_39 (by omega) (by omega) (i_up hx9 ex_39) (hz9.bad hk9.1 ev34 (by rw [← er_36]; exact c_37) (ex_38.trans (m_and0 _))) _ _ _ hS fo fj fk fe fr f0w fRw elw (lv_sub hl [2, 3, 1, 0] rfl)
            · refine lv_iconst (pc := 62) (v := 1) hx hb dX5_fold_62 (by decide) ?_
              refine lv_goto (pc := 63) (tgt := 67) hx hb dX5_fold_63 (by decide) ?_
              refine lv_iand (pc := 67) hx hb dX5_fold_67 ?_
              obtain ⟨x_40, ex_40⟩ : ∃ z9 : Int32, z9 = u9 &&& 1 := ⟨_, rfl⟩
              rw [← ex_40]
              refine lv_istore_n (pc := 68) (lv' := [(2, .int x_40), (0, .ref mo), (1, .int x1), (3, .int y9)]) hx hb dX5_fold_68 rfl hl (by decide) rfl (fun ls hl => ?_)
              obtain ⟨x_41, ex_41⟩ : ∃ z9 : Int32, z9 = y9 + 1 := ⟨_, rfl⟩
              refine lv_iinc (pc := 69) (v := x_41) (lv' := [(3, .int x_41), (2, .int x_40), (0, .ref mo), (1, .int x1)]) hx hb dX5_fold_69 hl (k := 3) rfl (by rw [ex_41]; rfl) (by decide) rfl (fun ls hl => ?_)
              refine lv_goto (pc := 72) (tgt := 32) hx hb dX5_fold_72 (by decide) ?_
              refine W.widen (k := 0) (n := 0) (by omega) (by omega) ?_
              exact ih_32  (k + 1)  x_40 x_41 (by omega) (by omega) (i_up hx9 ex_41) (hz9.add ev34 (by rw [← er_36]; exact Int32.not_lt.mp c_37) ex_40) _ _ _ hS fo fj fk fe fr f0w fRw elw (lv_sub hl [2, 3, 1, 0] rfl)
      refine W.widen (k := 0) (n := 0) (by omega) (by omega) ?_
      exact loop_32 17 1  1 1 (by omega) (by omega) (by decide) (Or.inr ⟨rfl, fun i g1 g2 => absurd g1 (by omega)⟩) _ _ _ hS fo fj fk fe fr f0w fRw elw (lv_sub hl [2, 3, 1, 0] rfl)
  · refine lv_iconst (pc := 12) (v := 0) hx hb dX5_fold_12 (by decide) ?_
    try rw [hQ]
    refine r_iret (pc := 13) E hr hlk hS (by omega) (by omega) ?_ dX5_fold_13
    exact ⟨_, _, _, _, none, ⟨_, _, _, _, _, fo, fj, fk, fe, fr, fw, ⟨hPm, hPa, hPl, hPe, hPr, hPk⟩, hFk, hFe, hFr, hpk, hn9⟩, AC.fail (by subst er_1 er_3; first | rfl | (simp [m_or, m_not, m_is0, m_lt0, m_fl, c_4]; done)) (by subst er_1 er_3; first | rfl | (simp [m_or, m_not, m_is0, m_lt0, m_fl, c_4]; done)) (fun z9 => c_4 (er_3.trans z9)), fun z9 => absurd z9 (AC7 (by subst er_1 er_3; first | rfl | (simp [m_or, m_not, m_is0, m_lt0, m_fl, c_4]; done)) rfl (fun z9 => c_4 (er_3.trans z9)))⟩
set_option maxHeartbeats 4000000 in
set_option maxRecDepth 100000 in
/-- BestratiosModel.depthNow(I)I -/
theorem c_X5_depthNow (l : Launch) (D : va_G) (tk : Nat → ClassId) (N0 : Nat) (sa : Nat → Nat)  (sz : Nat) (P : Nat → Prop) (hPN : ∀ q, P q → N0 ≤ q) (mo n9 : Nat) (kn th : Int32) (tt bb : Nat → Int64) (eT eB oT oB : Int64) (pk : Nat) (ca rf : Int32) (vs : Nat → Value) (x : Int32) (k_x : Nat) (hx_x : x = nI k_x) (hk_x : k_x < 6) : Met l yX5_depthNow (wsy yX5_depthNow cX5_depthNow 7 (some .int)) ({ frames := 8, cells := 50, slots := 179, locals := 186 } : Room) (cP D tk N0 sa [.ref mo, .int x] sz (fun H => MI D tk sa P mo tt bb eT eB oT oB pk ca rf vs kn n9 th H)) (kQi (fun r H => r = m_DP (tt k_x) (bb k_x)) (nwA sz)) (50) (179) (nwA sz) := by
  refine mStart RX5 rfl (by decide +kernel) (Nat.le_of_ble_eq_true rfl) ?_
  intro p e s m args below meth c E hr hlk hnm hsz hC hF ls hl
  subst hsz
  obtain ⟨hx, hb, -⟩ := id E
  have hA : ∀ q, (nwA s.heap.size) q → N0 ≤ q := fun q h => Nat.le_trans hC.2.1 h
  have hn : ∀ q, s.heap.size ≤ q → (nwA s.heap.size) q := fun q h => h
  have hS : va_S (nwA s.heap.size) s.heap s.heap [] := va_S.rf
  have hl : lv_has ls 7 [(0, .ref mo), (1, .int x)] := hl
  obtain ⟨Q, hQ⟩ : ∃ Q, Q = MQ below (kQi (fun r H => r = m_DP (tt k_x) (bb k_x)) (nwA s.heap.size)) args s (50) (179) (nwA s.heap.size) := ⟨_, rfl⟩
  rw [← hQ]
  have hM : MI D tk sa P mo tt bb eT eB oT oB pk ca rf vs kn n9 th s.heap := hF
  obtain ⟨ra, rl, ex, ro, rt, fo, fj, fk, fe, fr, fw, ⟨hPm, hPa, hPl, hPe, hPr, hPk⟩, hFk, hFe, hFr, hpk, hn9⟩ := hM
  refine lv_aload_n (pc := 0) hx hb dX5_depthNow_0 rfl (lv_at hl 0 rfl) ?_
  refine r_get (pc := 1) E hC fo 0 (v := .ref ra) rfl rfl (by decide) uX5 (List.mem_cons_of_mem _ kw_1209) (fun _ h => h) dX5_depthNow_1 ?_
  refine lv_iload_n (pc := 4) hx hb dX5_depthNow_4 rfl (lv_at hl 1 rfl) ?_
  refine r_aaldJ (pc := 5) E hC fj k_x hx_x hk_x (by decide) rfl dX5_depthNow_5 ?_
  have fL1 := fk k_x hk_x
  have mF_fL1 := hFk k_x hk_x
  have Pq_fL1 := hPk k_x hk_x
  have hZ0_ := hS.1
  have t_fo := fo.lt
  have t_fj := fj.lt
  have t_fk := fun k (hk9 : k < 6) => (fk k hk9).lt
  have t_fe := fe.lt
  have t_fr := fr.lt
  have t_fL1 := fL1.lt
  refine k_i (pc := 6) (k_S E hC hS hA hl.1 (c_X5_isAbove l D tk N0 sa s.heap.size (rt k_x) (tt k_x) (bb k_x) ) kw_1645 kw_1646 kw_5 kw_1647 (n := 1) (by decide +kernel) rfl ⟨⟨rfl, rfl⟩, ⟨Nat.le_of_ble_eq_true rfl, Nat.le_of_ble_eq_true rfl⟩, (by dsimp only; omega), (by dsimp only; omega)⟩ rfl (Nat.le_of_ble_eq_true rfl) fL1 dX5_depthNow_6) hS (fun q z w => absurd w (Nat.not_le.mpr z)) hn (fun r_2 H locs hR hz hk hS => ?_)
  have fw := fw.new hk
  have fo := fo.kept (hk _ fo.lt (Nat.not_le.mpr fo.lt))
  have fj := fj.kept (hk _ fj.lt (Nat.not_le.mpr fj.lt))
  have fk := fk.new hk
  have fe := fe.kept (hk _ fe.lt (Nat.not_le.mpr fe.lt))
  have fr := fr.kept (hk _ fr.lt (Nat.not_le.mpr fr.lt))
  have fL1 := fL1.kept (hk _ fL1.lt (Nat.not_le.mpr fL1.lt))
  have er_2 := hR
  refine lv_if_ne (pc := 9) (tgt := 15) hx hb dX5_depthNow_9 (by decide) (fun c_3 => ?_) (fun c_3 => ?_)
  · refine lv_ldc2 (pc := 15) (v := (-1)) hx hb E.2.2.2.1 (E.2.2.2.2 _ (List.mem_cons_of_mem _ kw_1208)) dX5_depthNow_15 ?_
    refine lv_lstore_n (pc := 18) (lv' := [(2, .long ((-1))), (0, .ref mo), (1, .int x)]) hx hb dX5_depthNow_18 rfl hl (by decide) rfl (fun ls hl => ?_)
    refine lv_aload_n (pc := 19) hx hb dX5_depthNow_19 rfl (lv_at hl 1 rfl) ?_
    refine r_get (pc := 20) E hC fo 0 (v := .ref ra) rfl rfl (by decide) uX5 (List.mem_cons_of_mem _ kw_1209) (fun _ h => h) dX5_depthNow_20 ?_
    refine lv_iload_n (pc := 23) hx hb dX5_depthNow_23 rfl (lv_at hl 2 rfl) ?_
    refine r_aaldJ (pc := 24) E hC fj k_x hx_x hk_x (by decide) rfl dX5_depthNow_24 ?_
    have fL4 := fk k_x hk_x
    have mF_fL4 := hFk k_x hk_x
    have Pq_fL4 := hPk k_x hk_x
    have hZ0_ := hS.1
    have t_fo := fo.lt
    have t_fj := fj.lt
    have t_fk := fun k (hk9 : k < 6) => (fk k hk9).lt
    have t_fe := fe.lt
    have t_fr := fr.lt
    have t_fL1 := fL1.lt
    have t_fL4 := fL4.lt
    refine k_r (pc := 25) (k_S E hC hS hA hl.1 (c_X5_termsOf l D tk N0 sa H.size (rt k_x) (tt k_x) (bb k_x) mF_fL4) kw_1411 kw_1412 kw_5 kw_1413 (n := 1) (by decide +kernel) rfl ⟨⟨rfl, rfl⟩, ⟨Nat.le_of_ble_eq_true rfl, Nat.le_of_ble_eq_true rfl⟩, (by dsimp only; omega), (by dsimp only; omega)⟩ rfl (Nat.le_of_ble_eq_true rfl) fL4 dX5_depthNow_25) hS (fun q z w => absurd w (Nat.not_le.mpr z)) hn (fun r_5 H locs hR hz hk hS => ?_)
    have fw := fw.new hk
    have fo := fo.kept (hk _ fo.lt (Nat.not_le.mpr fo.lt))
    have fj := fj.kept (hk _ fj.lt (Nat.not_le.mpr fj.lt))
    have fk := fk.new hk
    have fe := fe.kept (hk _ fe.lt (Nat.not_le.mpr fe.lt))
    have fr := fr.kept (hk _ fr.lt (Nat.not_le.mpr fr.lt))
    have fL1 := fL1.kept (hk _ fL1.lt (Nat.not_le.mpr fL1.lt))
    have fL4 := fL4.kept (hk _ fL4.lt (Nat.not_le.mpr fL4.lt))
    obtain ⟨nl6, bb6, cap6, ff6, ww6, md6, zr9_, zb9_, fl6, fR6, el6, hPT6, hln6, hlm6, hlc6, hlp6, ⟨hTL6, hTA6⟩, gg6, hEU6⟩ := hR
    have hcb6 := m_acB hlp6
    have s_fl6 : s.heap.size ≤ r_5 := Nat.le_trans hZ0_ zr9_
    have g_fl6 := hn _ s_fl6
    have l_fo_fl6 : mo < r_5 := Nat.lt_of_lt_of_le t_fo zr9_
    have l_fj_fl6 : ra < r_5 := Nat.lt_of_lt_of_le t_fj zr9_
    have nW_fl6 : ∀ k, k < 6 → rt k ≠ r_5 := fun k hk9 => Nat.ne_of_lt (Nat.lt_of_lt_of_le (t_fk k hk9) zr9_)
    have l_fe_fl6 : ex < r_5 := Nat.lt_of_lt_of_le t_fe zr9_
    have l_fr_fl6 : ro < r_5 := Nat.lt_of_lt_of_le t_fr zr9_
    have l_fL1_fl6 : rt k_x < r_5 := Nat.lt_of_lt_of_le t_fL1 zr9_
    have l_fL4_fl6 : rt k_x < r_5 := Nat.lt_of_lt_of_le t_fL4 zr9_
    have s_fR6 : s.heap.size ≤ bb6 := Nat.le_trans hZ0_ zb9_
    have g_fR6 := hn _ s_fR6
    have l_fo_fR6 : mo < bb6 := Nat.lt_of_lt_of_le t_fo zb9_
    have l_fj_fR6 : ra < bb6 := Nat.lt_of_lt_of_le t_fj zb9_
    have nW_fR6 : ∀ k, k < 6 → rt k ≠ bb6 := fun k hk9 => Nat.ne_of_lt (Nat.lt_of_lt_of_le (t_fk k hk9) zb9_)
    have l_fe_fR6 : ex < bb6 := Nat.lt_of_lt_of_le t_fe zb9_
    have l_fr_fR6 : ro < bb6 := Nat.lt_of_lt_of_le t_fr zb9_
    have l_fL1_fR6 : rt k_x < bb6 := Nat.lt_of_lt_of_le t_fL1 zb9_
    have l_fL4_fR6 : rt k_x < bb6 := Nat.lt_of_lt_of_le t_fL4 zb9_
    have hZ0_ := hS.1
    have t_fl6 := fl6.lt
    have t_fR6 := fR6.lt
    refine k_r (pc := 28) (k_V E hC hS hA hl.1 (c1.recv hC fl6 rfl) rfl (c_Jx4a65c_iterator_32c93 l D tk N0 sa H.size r_5 bb6 nl6 md6) kw_1486 kw_1487 kw_1488 kw_8 kw_1489 (n := 0) (by decide +kernel) rfl ⟨⟨rfl, rfl⟩, ⟨Nat.le_of_ble_eq_true rfl, Nat.le_of_ble_eq_true rfl⟩, (by dsimp only; omega), (by dsimp only; omega)⟩ rfl (Nat.le_of_ble_eq_true rfl) fl6 dX5_depthNow_28) hS (fun q z w => absurd w (Nat.not_le.mpr z)) hn (fun r_7 H locs hR hz hk hS => ?_)
    have fl6 := fl6.kept (hk _ fl6.lt (Nat.not_le.mpr fl6.lt))
    have fR6 := fR6.kept (hk _ fR6.lt (Nat.not_le.mpr fR6.lt))
    have el6 := el6.new hk
    obtain ⟨z9_, f8⟩ := hR
    have s_f8 : s.heap.size ≤ r_7 := Nat.le_trans hZ0_ z9_
    have g_f8 := hn _ s_f8
    have l_fl6_f8 : r_5 < r_7 := Nat.lt_of_lt_of_le t_fl6 z9_
    have l_fR6_f8 : bb6 < r_7 := Nat.lt_of_lt_of_le t_fR6 z9_
    refine lv_astore (pc := 31) (lv' := [(4, .ref r_7), (2, .long ((-1))), (0, .ref mo), (1, .int x)]) hx hb dX5_depthNow_31 hl (by decide) rfl (fun ls hl => ?_)
    have loop_33 : ∀ (n : Nat) (k : Nat) (lr : Int32)(d9 : Int64), 44 - k < n → k ≤ nl6 → m_sm ((m_TE (tt k_x) (bb k_x)).drop k) d9 = m_sm (m_TE (tt k_x) (bb k_x)) (-1) → ∀ (H : Heap) (locs : List Loc) (ls : Array Slot), va_S (nwA s.heap.size) s.heap H locs → c1 D r_5 (.inr (7, [.int md6, .ref bb6, .int (nI nl6)])) H → c1 D bb6 (.inl (tk 4, cap6, .inr (.inr (.inr (.inr (ff6)))))) H → EL D 3 nl6 ff6 ww6 H → c1 D r_7 (.inr (6, [.int (nI k), .int lr, .int md6, .ref r_5])) H → lv_has ls 7 [(0, .ref mo), (1, .int x), (2, .long d9), (4, .ref r_7)] → W p l e ({ frames := 8, cells := 50, slots := 179, locals := 186 } : Room) s m args below meth c H locs (50) (179) Q (F0 m 33 ls []) := by
      intro n
      induction n with
      | zero =>
        intro k lr d9 hf9 hk9 hg9 H locs ls hS fl6 fR6 el6 f8 hl
        omega
      | succ n ih_33 =>
        intro k lr d9 hf9 hk9 hg9 H locs ls hS fl6 fR6 el6 f8 hl
        refine lv_aload (pc := 33) hx hb dX5_depthNow_33 (lv_at hl 3 rfl) ?_
        refine k5_i (pc := 35) (k_F (ci := 6) rfl hC.xt.2.2.2.1 E hC hS hA hl.1 (c1.recv hC f8 rfl) (c_Jx35411_hasNext_aae02 l D tk N0 sa H.size r_7 r_5 bb6 nl6 k md6 lr (by omega) (by omega)) kw_1510 kw_1516 kw_1514 kw_29 kw_1518 (n := 0) (by decide +kernel) rfl ⟨⟨rfl, rfl⟩, ⟨Nat.le_of_ble_eq_true rfl, Nat.le_of_ble_eq_true rfl⟩, (by dsimp only; omega), (by dsimp only; omega)⟩ rfl (Nat.le_of_ble_eq_true rfl) ⟨f8, fl6⟩ dX5_depthNow_35) hS (fun q z w => absurd w (Nat.not_le.mpr z)) hn (fun r_9 H locs hR hz hk hS => ?_)
        have fl6 := fl6.kept (hk _ fl6.lt (Nat.not_le.mpr fl6.lt))
        have fR6 := fR6.kept (hk _ fR6.lt (Nat.not_le.mpr fR6.lt))
        have el6 := el6.new hk
        have f8 := f8.kept (hk _ f8.lt (Nat.not_le.mpr f8.lt))
        have hn_r_9 := hR
        refine lv_if_eq (pc := 40) (tgt := 66) hx hb dX5_depthNow_40 (by decide) (fun c_10 => ?_) (fun c_10 => ?_)
        · refine lv_lload_n (pc := 66) hx hb dX5_depthNow_66 rfl (lv_at hl 2 rfl) ?_
          refine lv_l2i (pc := 67) (v := d9.toInt32) hx hb dX5_depthNow_67 rfl ?_
          try rw [hQ]
          refine r_iret (pc := 68) E hr hlk hS (by omega) (by omega) ?_ dX5_depthNow_68
          have hkz : k = nl6 := hn_r_9.elim (fun z9 => z9.2) (fun z9 => absurd (z9.1.symm.trans c_10) (by decide))
          have hde := m_smE (by rw [← hTL6, hkz]; exact Nat.le_refl _) hg9
          unfold m_DP
          rw [if_neg (fun z9 => c_3 (er_2.trans z9)), ← hde]
        · have hkn : k < nl6 := by
            rcases hn_r_9 with ⟨h9, _⟩ | ⟨_, h9⟩
            · exact absurd h9 c_10
            · omega
          refine lv_aload (pc := 43) hx hb dX5_depthNow_43 (lv_at hl 3 rfl) ?_
          obtain ⟨qe11, hq11, he11⟩ := el6 k hkn
          obtain ⟨xe11, ev11, pv11⟩ := hPT6.pv k hkn
          rw [ev11] at he11
          refine k5_r (pc := 45) (k_F (ci := 6) rfl hC.xt.2.2.2.2 E hC hS hA hl.1 (c1.recv hC f8 rfl) (c_Jx35411_next_0502b l D tk N0 sa H.size r_7 r_5 bb6 nl6 k cap6 qe11 md6 lr ff6 (hA _ g_f8) hkn (by omega) (by omega) hq11) kw_1520 kw_1525 kw_1523 kw_29 kw_1527 (n := 0) (by decide +kernel) rfl ⟨⟨rfl, rfl⟩, ⟨Nat.le_of_ble_eq_true rfl, Nat.le_of_ble_eq_true rfl⟩, (by dsimp only; omega), (by dsimp only; omega)⟩ rfl (Nat.le_of_ble_eq_true rfl) ⟨f8, fl6, fR6⟩ dX5_depthNow_45) hS (inA1.to g_f8) hn (fun r_12 H locs hR hz hk hS => ?_)
          have fl6 := fl6.kept (hk _ fl6.lt (inA1.not (clA.ne fl6.cl f8.cl (hC.oo 7 6 rfl rfl (by decide))) fl6.lt))
          have fR6 := fR6.kept (hk _ fR6.lt (inA1.not (clA.ne fR6.cla f8.cl (hC.ao 6 4 rfl rfl)) fR6.lt))
          have el6 := el6.keep1 hk (fun q9 h9 => clA.ne h9 f8.cl (hC.ceo (Or.inl rfl) 6 rfl (by decide)))
          have he11 := he11.kept (hk _ he11.lt (inA1.not (clA.ne he11.cl f8.cl (hC.oo 3 6 rfl rfl (by decide))) he11.lt))
          obtain ⟨hr9, f8⟩ := hR
          rw [hr9]
          refine r_castO (pc := 50) E hC he11 rfl kw_1532 dX5_depthNow_50 ?_
          refine k_l (pc := 53) (k_V E hC hS hA hl.1 (xf.recv hC he11 rfl) rfl (c_J13_longValue_f9912 l D tk N0 sa H.size qe11 xe11) kw_1533 kw_1534 kw_1535 kw_17 kw_1536 (n := 0) (by decide +kernel) rfl ⟨⟨rfl, rfl⟩, ⟨Nat.le_of_ble_eq_true rfl, Nat.le_of_ble_eq_true rfl⟩, (by dsimp only; omega), (by dsimp only; omega)⟩ rfl (Nat.le_of_ble_eq_true rfl) he11 dX5_depthNow_53) hS (fun q z w => absurd w (Nat.not_le.mpr z)) hn (fun r_13 H locs hR hz hk hS => ?_)
          have fl6 := fl6.kept (hk _ fl6.lt (Nat.not_le.mpr fl6.lt))
          have fR6 := fR6.kept (hk _ fR6.lt (Nat.not_le.mpr fR6.lt))
          have el6 := el6.new hk
          have f8 := f8.kept (hk _ f8.lt (Nat.not_le.mpr f8.lt))
          have he11 := he11.kept (hk _ he11.lt (Nat.not_le.mpr he11.lt))
          have er_13 : r_13 = xe11 := hR
          refine lv_lstore (pc := 56) (lv' := [(5, .long r_13), (0, .ref mo), (1, .int x), (2, .long d9), (4, .ref r_7)]) hx hb dX5_depthNow_56 hl (by decide) rfl (fun ls hl => ?_)
          refine lv_lload_n (pc := 58) hx hb dX5_depthNow_58 rfl (lv_at hl 3 rfl) ?_
          refine lv_lload (pc := 59) hx hb dX5_depthNow_59 (lv_at hl 0 rfl) ?_
          refine lv_ladd (pc := 61) hx hb dX5_depthNow_61 ?_
          obtain ⟨x_14, ex_14⟩ : ∃ z9 : Int64, z9 = d9 + r_13 := ⟨_, rfl⟩
          rw [← ex_14]
          refine lv_lstore_n (pc := 62) (lv' := [(2, .long x_14), (5, .long r_13), (0, .ref mo), (1, .int x), (4, .ref r_7)]) hx hb dX5_depthNow_62 rfl hl (by decide) rfl (fun ls hl => ?_)
          refine lv_goto (pc := 63) (tgt := 33) hx hb dX5_depthNow_63 (by decide) ?_
          refine W.widen (k := 50) (n := 179) (by omega) (by omega) ?_
          exact ih_33  (k + 1) _  x_14 (by omega) (by omega) (m_smS (by rw [← hTL6]; exact hkn) hg9 (by rw [ex_14, er_13, m_lgI ev11 (hTA6 k hkn)])) _ _ _ hS fl6 fR6 el6 f8 (lv_sub hl [2, 3, 0, 4] rfl)
    refine W.widen (k := 50) (n := 179) (by omega) (by omega) ?_
    exact loop_33 45 0 _  ((-1)) (by omega) (by omega) rfl _ _ _ hS fl6 fR6 el6 f8 (lv_sub hl [2, 3, 1, 0] rfl)
  · refine lv_bipush (pc := 12) (v := (-9)) hx hb dX5_depthNow_12 (by decide) ?_
    try rw [hQ]
    refine r_iret (pc := 14) E hr hlk hS (by omega) (by omega) ?_ dX5_depthNow_14
    unfold m_DP
    rw [if_pos (er_2.symm.trans c_3)]
set_option maxHeartbeats 4000000 in
set_option maxRecDepth 100000 in
/-- BestratiosModel.depth(I)I -/
theorem c_X5_depth (l : Launch) (D : va_G) (tk : Nat → ClassId) (N0 : Nat) (sa : Nat → Nat)  (sz : Nat) (P : Nat → Prop) (hPN : ∀ q, P q → N0 ≤ q) (hPs : ∀ q, sz ≤ q → P q) (mo n9 : Nat) (kn th : Int32) (tt bb : Nat → Int64) (eT eB oT oB : Int64) (pk : Nat) (ca rf : Int32) (vs : Nat → Value) (x1 : Int32) : Met l yX5_depth (wsy yX5_depth cX5_depth 2 (some .int)) ({ frames := 9, cells := 50, slots := 179, locals := 212 } : Room) (cP D tk N0 sa [.ref mo, .int x1] sz (fun H => MI D tk sa P mo tt bb eT eB oT oB pk ca rf vs kn n9 th H)) (kQi (fun r H => ∃ th1, MI D tk sa P mo tt bb eT eB oT oB pk ca rf vs kn n9 th1 H ∧ QU (m_isNo x1) 0 (m_DP (tt (nn x1)) (bb (nn x1))) r th1) (P)) (50) (179) (P) := by
  refine mStart RX5 rfl (by decide +kernel) (Nat.le_of_ble_eq_true rfl) ?_
  intro p e s m args below meth c E hr hlk hnm hsz hC hF ls hl
  subst hsz
  obtain ⟨hx, hb, -⟩ := id E
  have hA : ∀ q, (P) q → N0 ≤ q := hPN
  have hn : ∀ q, s.heap.size ≤ q → (P) q := hPs
  have hS : va_S (P) s.heap s.heap [] := va_S.rf
  have hl : lv_has ls 2 [(0, .ref mo), (1, .int x1)] := hl
  have hM : MI D tk sa P mo tt bb eT eB oT oB pk ca rf vs kn n9 th s.heap := hF
  obtain ⟨ra, rl, ex, ro, rt, fo, fj, fk, fe, fr, fw, ⟨hPm, hPa, hPl, hPe, hPr, hPk⟩, hFk, hFe, hFr, hpk, hn9⟩ := hM
  have g_fo := hPm
  have g_fj := hPa
  refine lv_aload_n (pc := 0) hx hb dX5_depth_0 rfl (lv_at hl 0 rfl) ?_
  refine lv_iload_n (pc := 1) hx hb dX5_depth_1 rfl (lv_at hl 1 rfl) ?_
  refine k_i (pc := 2) (k_S E hC hS hA hl.1 (c_X5_isNo l D tk N0 sa s.heap.size x1 ) kw_1245 kw_1246 kw_5 kw_1247 (n := 1) (by decide +kernel) rfl ⟨⟨rfl, rfl⟩, ⟨Nat.le_of_ble_eq_true rfl, Nat.le_of_ble_eq_true rfl⟩, (by dsimp only; omega), (by dsimp only; omega)⟩ rfl (Nat.le_of_ble_eq_true rfl) trivial dX5_depth_2) hS (fun q z w => absurd w (Nat.not_le.mpr z)) hn (fun r_1 H locs hR hz hk hS => ?_)
  have er_1 := hR
  have fw := fw.new hk
  have fo := fo.kept (hk _ fo.lt (Nat.not_le.mpr fo.lt))
  have fj := fj.kept (hk _ fj.lt (Nat.not_le.mpr fj.lt))
  have fk := fk.new hk
  have fe := fe.kept (hk _ fe.lt (Nat.not_le.mpr fe.lt))
  have fr := fr.kept (hk _ fr.lt (Nat.not_le.mpr fr.lt))
  refine lv_iconst (pc := 5) (v := 0) hx hb dX5_depth_5 (by decide) ?_
  have hZ0_ := hS.1
  have t_fo := fo.lt
  have t_fj := fj.lt
  have t_fk := fun k (hk9 : k < 6) => (fk k hk9).lt
  have t_fe := fe.lt
  have t_fr := fr.lt
  refine k_i (pc := 6) (k_V E hC hS hA hl.1 (c1.recv hC fo rfl) rfl (c_X5_fails l D tk N0 sa H.size P hPN (fun q h9 => hPs q (Nat.le_trans hS.1 h9)) mo n9 kn th tt bb eT eB oT oB pk ca rf vs r_1 0 ) kw_1251 kw_1253 kp_20 kw_5 kw_1254 (n := 2) (by decide +kernel) rfl ⟨⟨rfl, rfl⟩, ⟨Nat.le_of_ble_eq_true rfl, Nat.le_of_ble_eq_true rfl⟩, (by dsimp only; omega), (by dsimp only; omega)⟩ rfl (Nat.le_of_ble_eq_true rfl) ⟨_, _, _, _, _, fo, fj, fk, fe, fr, fw, ⟨hPm, hPa, hPl, hPe, hPr, hPk⟩, hFk, hFe, hFr, hpk, hn9⟩ dX5_depth_6) hS (fun q _ h => h) hn (fun r_3 H locs hR hz hk hS => ?_)
  obtain ⟨er_3, hM⟩ := hR
  obtain ⟨ra, rl, ex, ro, rt, fo, fj, fk, fe, fr, fw, ⟨hPm, hPa, hPl, hPe, hPr, hPk⟩, hFk, hFe, hFr, hpk, hn9⟩ := hM
  have g_fo := hPm
  have g_fj := hPa
  refine lv_if_eq (pc := 9) (tgt := 16) hx hb dX5_depth_9 (by decide) (fun c_4 => ?_) (fun c_4 => ?_)
  · refine lv_aload_n (pc := 16) hx hb dX5_depth_16 rfl (lv_at hl 0 rfl) ?_
    refine lv_iload_n (pc := 17) hx hb dX5_depth_17 rfl (lv_at hl 1 rfl) ?_
    have hZ0_ := hS.1
    have t_fo := fo.lt
    have t_fj := fj.lt
    have t_fk := fun k (hk9 : k < 6) => (fk k hk9).lt
    have t_fe := fe.lt
    have t_fr := fr.lt
    obtain ⟨hx_5, hk_5⟩ := m_noN (er_1.symm.trans (m_fl0 (er_3.symm.trans c_4)).1)
    refine k_i (pc := 18) (k_V E hC hS hA hl.1 (c1.recv hC fo rfl) rfl (c_X5_depthNow l D tk N0 sa H.size P hPN mo n9 kn ((m_th r_1 0)) tt bb eT eB oT oB pk ca rf vs x1 (nn x1) hx_5 hk_5 ) kw_1670 kw_1672 kp_30 kw_5 kw_1673 (n := 1) (by decide +kernel) rfl ⟨⟨rfl, rfl⟩, ⟨Nat.le_of_ble_eq_true rfl, Nat.le_of_ble_eq_true rfl⟩, (by dsimp only; omega), (by dsimp only; omega)⟩ rfl (Nat.le_of_ble_eq_true rfl) ⟨_, _, _, _, _, fo, fj, fk, fe, fr, fw, ⟨hPm, hPa, hPl, hPe, hPr, hPk⟩, hFk, hFe, hFr, hpk, hn9⟩ dX5_depth_18) hS (fun q z w => absurd w (Nat.not_le.mpr z)) hn (fun r_6 H locs hR hz hk hS => ?_)
    have fw := fw.new hk
    have fo := fo.kept (hk _ fo.lt (Nat.not_le.mpr fo.lt))
    have fj := fj.kept (hk _ fj.lt (Nat.not_le.mpr fj.lt))
    have fk := fk.new hk
    have fe := fe.kept (hk _ fe.lt (Nat.not_le.mpr fe.lt))
    have fr := fr.kept (hk _ fr.lt (Nat.not_le.mpr fr.lt))
    have er_6 := hR
    refine r_iret (pc := 21) E hr hlk hS (by omega) (by omega) ?_ dX5_depth_21
    exact ⟨_, ⟨_, _, _, _, _, fo, fj, fk, fe, fr, fw, ⟨hPm, hPa, hPl, hPe, hPr, hPk⟩, hFk, hFe, hFr, hpk, hn9⟩, QU.ok (by subst er_1 er_3 er_6; first | rfl | (simp [m_or, m_not, m_is0, m_lt0, m_fl, c_4]; done)) (by subst er_1 er_3 er_6; first | rfl | (simp [m_or, m_not, m_is0, m_lt0, m_fl, c_4]; done)) (er_3.symm.trans c_4) (by subst er_1 er_3 er_6; first | rfl | (simp [c_4]; done))⟩
  · refine lv_iconst (pc := 12) (v := 0) hx hb dX5_depth_12 (by decide) ?_
    refine lv_goto (pc := 13) (tgt := 21) hx hb dX5_depth_13 (by decide) ?_
    refine r_iret (pc := 21) E hr hlk hS (by omega) (by omega) ?_ dX5_depth_21
    exact ⟨_, ⟨_, _, _, _, _, fo, fj, fk, fe, fr, fw, ⟨hPm, hPa, hPl, hPe, hPr, hPk⟩, hFk, hFe, hFr, hpk, hn9⟩, QU.fail (by subst er_1 er_3; first | rfl | (simp [m_or, m_not, m_is0, m_lt0, m_fl, c_4]; done)) (by subst er_1 er_3; first | rfl | (simp [m_or, m_not, m_is0, m_lt0, m_fl, c_4]; done)) (fun z9 => c_4 (er_3.trans z9))⟩
set_option maxHeartbeats 20000000 in
set_option maxRecDepth 100000 in
theorem g3_X5_wayNow {p : Program} {l : Launch} {e : Env} {s : State} {m : MethodId} {args : Array Value} {below : List Frame} {meth : Method} {c : Code} {Q : State → Prop} {D : va_G} {tk : Nat → ClassId} {N0 : Nat} {sa : Nat → Nat} (E : CallFix p m c cX5_wayNow 7 s args (wsy yX5_wayNow cX5_wayNow 7 (some (.object "java/lang/String"))) RX5) (hC : Ctx D tk N0 sa s) (hA : ∀ q, (nwA s.heap.size) q → N0 ≤ q) (hn : ∀ q, s.heap.size ≤ q → (nwA s.heap.size) q) (hr : meth.sig.returnType = (some (.object "java/lang/String"))) (hlk : meth.locks = false) (P : Nat → Prop) (hPN : ∀ q, P q → N0 ≤ q) (mo : Nat) (n9 : Nat) (kn : Int32) (th : Int32) (tt : Nat → Int64) (bb : Nat → Int64) (eT : Int64) (eB : Int64) (oT : Int64) (oB : Int64) (pk : Nat) (ca : Int32) (rf : Int32) (vs : Nat → Value) (x : Int32) (k_x : Nat) (hx_x : x = nI k_x) (hk_x : k_x < 6) (nl6 : Nat) (bb6 : Nat) (cap6 : Nat) (ff6 : Nat → Option Nat) (ww6 : Nat → Value) (md6 : Int32) (T : Nat → Int) (u2 : T (nl6 + 1) = 0) (u3 : ∀ i, i < nl6 → ∃ x : Int64, ww6 i = .long x ∧ x.toInt * T (i + 1) + T (i + 2) = T i) (u4 : ∀ i, 1 ≤ i → i ≤ nl6 → 1 ≤ T i ∧ T i ≤ 1000000000) (hlm6 : nl6 ≤ 43) (r_5 : Nat) (v_29 : Nat) (qf20 : Nat) (x_17 : Int64) (n : Nat) (k : Nat) (l9 : Nat) (E9 : Nat) (q9 : Nat) (y9 : Int32) (hf9 : 44 - k < n + 1) (hk9 : k ≤ nl6) (hx9 : y9 = nI k) (hE9 : ((10 ^ E9 : Nat) : Int) * T k ≤ 1000000000) (hZ9 : (k = 0 → E9 = 0)) (hL8 : l9 ≤ 3 * k + E9) (ih_32 : ∀ (k : Nat) (l9 : Nat) (E9 : Nat)(q9 : Nat) (y9 : Int32), 44 - k < n → k ≤ nl6 → y9 = nI k → ((10 ^ E9 : Nat) : Int) * T k ≤ 1000000000 → (k = 0 → E9 = 0) → l9 ≤ 3 * k + E9 → ∀ (H : Heap) (locs : List Loc) (ls : Array Slot), va_S (nwA s.heap.size) s.heap H locs → c1 D r_5 (.inr (7, [.int md6, .ref bb6, .int (nI nl6)])) H → c1 D bb6 (.inl (tk 4, cap6, .inr (.inr (.inr (.inr (ff6)))))) H → EL D 3 nl6 ff6 ww6 H → SX D tk q9 l9 H → lv_has ls 7 [(0, .ref mo), (1, .int x), (2, .ref r_5), (3, .ref q9), (4, .int y9)] → W p l e ({ frames := 8, cells := 393, slots := 14193, locals := 186 } : Room) s m args below meth c H locs (49 + 8 * k) (175 + m_wS k) Q (F0 m 32 ls [])) (hd11 : dgJ x_17 ≤ 11) (hdl : 1 ≤ dgJ x_17) (hEn : ((10 ^ (E9 + (dgJ x_17 - 1)) : Nat) : Int) * T (k + 1) ≤ 1000000000) (hkn : k < nl6) (b0_ : Nat) (hcA : sbC 16 (0 + l9) ≤ 500000) (hcB : sbC (sbC 16 (0 + l9)) (0 + l9 + 1) ≤ 500000) (hcC : sbC (sbC (sbC 16 (0 + l9)) (0 + l9 + 1)) (0 + l9 + 1 + 1) ≤ 500000) (hcD : sbC (sbC (sbC (sbC 16 (0 + l9)) (0 + l9 + 1)) (0 + l9 + 1 + 1)) (0 + l9 + 1 + 1 + dgJ x_17) ≤ 100000000) (hTc1 : 49 + 8 * k + 0 + 0 + 0 + 0 + 0 + 1 + 1 + (sbK 16 (0 + l9)) + 0 + (sbK (sbC 16 (0 + l9)) ((0 + l9) + 1)) + (sbK (sbC (sbC 16 (0 + l9)) ((0 + l9) + 1)) (((0 + l9) + 1) + 1)) + (sbK (sbC (sbC (sbC 16 (0 + l9)) ((0 + l9) + 1)) (((0 + l9) + 1) + 1)) ((((0 + l9) + 1) + 1) + dgJ x_17)) + 2 ≤ 393) (hTs1 : 175 + m_wS k + 0 + 0 + 0 + 0 + 0 + 4 + 16 + (sbS 16 (0 + l9)) + 0 + (sbS (sbC 16 (0 + l9)) ((0 + l9) + 1)) + (sbS (sbC (sbC 16 (0 + l9)) ((0 + l9) + 1)) (((0 + l9) + 1) + 1)) + (sbS (sbC (sbC (sbC 16 (0 + l9)) ((0 + l9) + 1)) (((0 + l9) + 1) + 1)) ((((0 + l9) + 1) + 1) + dgJ x_17)) + (4 + ((((0 + l9) + 1) + 1) + dgJ x_17)) ≤ 14193) (hWc1 : 49 + 8 * k + 0 + 0 + 0 + 0 + 0 + 1 + 1 + (sbK 16 (0 + l9)) + 0 + (sbK (sbC 16 (0 + l9)) ((0 + l9) + 1)) + (sbK (sbC (sbC 16 (0 + l9)) ((0 + l9) + 1)) (((0 + l9) + 1) + 1)) + (sbK (sbC (sbC (sbC 16 (0 + l9)) ((0 + l9) + 1)) (((0 + l9) + 1) + 1)) ((((0 + l9) + 1) + 1) + dgJ x_17)) + 2 ≤ 49 + 8 * (k + 1)) (hWs1 : 175 + m_wS k + 0 + 0 + 0 + 0 + 0 + 4 + 16 + (sbS 16 (0 + l9)) + 0 + (sbS (sbC 16 (0 + l9)) ((0 + l9) + 1)) + (sbS (sbC (sbC 16 (0 + l9)) ((0 + l9) + 1)) (((0 + l9) + 1) + 1)) + (sbS (sbC (sbC (sbC 16 (0 + l9)) ((0 + l9) + 1)) (((0 + l9) + 1) + 1)) ((((0 + l9) + 1) + 1) + dgJ x_17)) + (4 + ((((0 + l9) + 1) + 1) + dgJ x_17)) ≤ 175 + m_wS (k + 1)) (H : Heap) (locs : List Loc) (ls : Array Slot) (hS : va_S (nwA s.heap.size) s.heap H locs) (fl6 : c1 D r_5 (.inr (7, [.int md6, .ref bb6, .int (nI nl6)])) H) (fR6 : c1 D bb6 (.inl (tk 4, cap6, .inr (.inr (.inr (.inr (ff6)))))) H) (el6 : EL D 3 nl6 ff6 ww6 H) (h0s : xf D 0 q9 0 (.ref b0_) H) (h1s : xf D 0 q9 1 (.int 0) H) (h2s : BX tk b0_ l9 H) (f20 : c1 D qf20 (.inr (1, [.ref v_29, .int 0, .int 0, .int (nI ((0 + l9) + 1))])) H) (f22 : BA D tk v_29 (sbC (sbC 16 (0 + l9)) ((0 + l9) + 1)) H) (k31 : SX D tk (sa (10 + 11)) 1 H) (s_f20 : s.heap.size ≤ qf20) (g_f20 : (nwA s.heap.size) qf20) (g_f22 : (nwA s.heap.size) v_29) (l_f20_f22 : qf20 < v_29) (l_fR6_f20 : bb6 < qf20) (l_fR6_f22 : bb6 < v_29) (l_fl6_f20 : r_5 < qf20) (l_fl6_f22 : r_5 < v_29) (l_h0s_f20 : q9 < qf20) (l_h0s_f22 : q9 < v_29) (l_h1s_f20 : q9 < qf20) (l_h1s_f22 : q9 < v_29) (l_h2s_f20 : b0_ < qf20) (l_h2s_f22 : b0_ < v_29) (hl : lv_has ls 7 [(5, .long x_17), (0, .ref mo), (1, .int x), (2, .ref r_5), (3, .ref q9), (4, .int y9)]) : W p l e ({ frames := 8, cells := 393, slots := 14193, locals := 186 } : Room) s m args below meth c H locs (49 + 8 * k + 0 + 0 + 0 + 0 + 0 + 1 + 1 + (sbK 16 (0 + l9)) + 0 + (sbK (sbC 16 (0 + l9)) ((0 + l9) + 1))) (175 + m_wS k + 0 + 0 + 0 + 0 + 0 + 4 + 16 + (sbS 16 (0 + l9)) + 0 + (sbS (sbC 16 (0 + l9)) ((0 + l9) + 1))) Q (F0 m 127 ls [.ref (sa (10 + 11)), .ref qf20]) := by
  obtain ⟨hx, hb, -⟩ := id E
  have hZ0_ := hS.1
  have t_fl6 := fl6.lt
  have t_fR6 := fR6.lt
  have t_h0s := h0s.lt
  have t_h1s := h1s.lt
  have t_h2s := h2s.lt
  have t_f20 := f20.lt
  have t_f22 := f22.lt
  have t_k31 := k31.lt
  refine k_r (pc := 127) (k_V E hC hS hA hl.1 (c1.recv hC f20 rfl) rfl (c_J4_append_15ec4 l D tk N0 sa H.size qf20 v_29 (sbC (sbC 16 (0 + l9)) ((0 + l9) + 1)) ((0 + l9) + 1) (sa (10 + 11)) 1 0 (hA _ g_f20) (hA _ g_f22) (sbC_ge _ _).1 hcB (by decide)) kw_1353 kw_399 kw_400 kw_19 kw_401 (n := 1) (by decide +kernel) rfl ⟨⟨rfl, rfl⟩, ⟨Nat.le_of_ble_eq_true rfl, Nat.le_of_ble_eq_true rfl⟩, (pre1 (pre1 hTc1)), (pre1 (pre1 hTs1))⟩ rfl (Nat.le_of_ble_eq_true rfl) ⟨f20, f22, k31⟩ dX5_wayNow_127) hS (inA2.to g_f20 g_f22) hn (fun r_32 H locs hR hz hk hS => ?_)
  have fl6 := fl6.kept (hk _ fl6.lt (inA2.not (clA.ne fl6.cl f20.cl (hC.oo 7 1 rfl rfl (by decide))) (clA.ne fl6.cl f22.cl (hC.oa 7 1 rfl rfl)) fl6.lt))
  have fR6 := fR6.kept (hk _ fR6.lt (inA2.not (clA.ne fR6.cla f20.cl (hC.ao 1 4 rfl rfl)) (clA.ne fR6.cla f22.cl (hC.aa 4 1 rfl rfl (by dsimp only; decide))) fR6.lt))
  have el6 := el6.keep2 hk (fun q9 h9 => clA.ne h9 f20.cl (hC.ceo (Or.inl rfl) 1 rfl (by decide))) (fun q9 h9 => clA.ne h9 f22.cl (hC.cea (Or.inl rfl) 1 rfl))
  have h0s := h0s.kept (hk _ h0s.lt (inA2.not (clA.ne h0s.cl f20.cl (hC.oo 0 1 rfl rfl (by decide))) (clA.ne h0s.cl f22.cl (hC.oa 0 1 rfl rfl)) h0s.lt))
  have h1s := h1s.kept (hk _ h1s.lt (inA2.not (clA.ne h1s.cl f20.cl (hC.oo 0 1 rfl rfl (by decide))) (clA.ne h1s.cl f22.cl (hC.oa 0 1 rfl rfl)) h1s.lt))
  have h2s := h2s.kept (hk _ h2s.lt (inA2.not (h2s.neo hC f20.cl (ci := 1) rfl) (Nat.ne_of_lt l_h2s_f22) h2s.lt))
  obtain ⟨er9, hR⟩ := hR
  rw [er9]
  obtain ⟨v_33, hv_33, f20, f22⟩ := hR
  have g_f22 := hv_33.elim (fun e9 => e9 ▸ g_f22) (fun z9 => hn _ (Nat.le_trans hZ0_ z9))
  have l_fl6_f22 : r_5 < v_33 := hv_33.elim (fun e9 => e9 ▸ l_fl6_f22) (fun z9 => Nat.lt_of_lt_of_le t_fl6 z9)
  have l_fR6_f22 : bb6 < v_33 := hv_33.elim (fun e9 => e9 ▸ l_fR6_f22) (fun z9 => Nat.lt_of_lt_of_le t_fR6 z9)
  have l_h0s_f22 : q9 < v_33 := hv_33.elim (fun e9 => e9 ▸ l_h0s_f22) (fun z9 => Nat.lt_of_lt_of_le t_h0s z9)
  have l_h1s_f22 : q9 < v_33 := hv_33.elim (fun e9 => e9 ▸ l_h1s_f22) (fun z9 => Nat.lt_of_lt_of_le t_h1s z9)
  have l_h2s_f22 : b0_ < v_33 := hv_33.elim (fun e9 => e9 ▸ l_h2s_f22) (fun z9 => Nat.lt_of_lt_of_le t_h2s z9)
  have l_f20_f22 : qf20 < v_33 := hv_33.elim (fun e9 => e9 ▸ l_f20_f22) (fun z9 => Nat.lt_of_lt_of_le t_f20 z9)
  have hv_33 := hv_33.imp_right (fun z9 => Nat.le_trans hZ0_ z9)
  refine lv_lload (pc := 130) hx hb dX5_wayNow_130 (lv_at hl 0 rfl) ?_
  have hZ0_ := hS.1
  have t_fl6 := fl6.lt
  have t_fR6 := fR6.lt
  have t_h0s := h0s.lt
  have t_h1s := h1s.lt
  have t_h2s := h2s.lt
  have t_f20 := f20.lt
  have t_f22 := f22.lt
  refine k_r (pc := 132) (k_V E hC hS hA hl.1 (c1.recv hC f20 rfl) rfl (c_J4_append_f7089 l D tk N0 sa H.size qf20 v_33 (sbC (sbC (sbC 16 (0 + l9)) ((0 + l9) + 1)) (((0 + l9) + 1) + 1)) (((0 + l9) + 1) + 1) 0 x_17 (hA _ g_f20) (hA _ g_f22) (sbC_ge _ _).1 hcC) kw_1354 kw_1355 kw_1356 kw_19 kw_1357 (n := 1) (by decide +kernel) rfl ⟨⟨rfl, rfl⟩, ⟨Nat.le_of_ble_eq_true rfl, Nat.le_of_ble_eq_true rfl⟩, (pre1 hTc1), (pre1 hTs1)⟩ rfl (Nat.le_of_ble_eq_true rfl) ⟨f20, f22⟩ dX5_wayNow_132) hS (inA2.to g_f20 g_f22) hn (fun r_34 H locs hR hz hk hS => ?_)
  have fl6 := fl6.kept (hk _ fl6.lt (inA2.not (clA.ne fl6.cl f20.cl (hC.oo 7 1 rfl rfl (by decide))) (clA.ne fl6.cl f22.cl (hC.oa 7 1 rfl rfl)) fl6.lt))
  have fR6 := fR6.kept (hk _ fR6.lt (inA2.not (clA.ne fR6.cla f20.cl (hC.ao 1 4 rfl rfl)) (clA.ne fR6.cla f22.cl (hC.aa 4 1 rfl rfl (by dsimp only; decide))) fR6.lt))
  have el6 := el6.keep2 hk (fun q9 h9 => clA.ne h9 f20.cl (hC.ceo (Or.inl rfl) 1 rfl (by decide))) (fun q9 h9 => clA.ne h9 f22.cl (hC.cea (Or.inl rfl) 1 rfl))
  have h0s := h0s.kept (hk _ h0s.lt (inA2.not (clA.ne h0s.cl f20.cl (hC.oo 0 1 rfl rfl (by decide))) (clA.ne h0s.cl f22.cl (hC.oa 0 1 rfl rfl)) h0s.lt))
  have h1s := h1s.kept (hk _ h1s.lt (inA2.not (clA.ne h1s.cl f20.cl (hC.oo 0 1 rfl rfl (by decide))) (clA.ne h1s.cl f22.cl (hC.oa 0 1 rfl rfl)) h1s.lt))
  have h2s := h2s.kept (hk _ h2s.lt (inA2.not (h2s.neo hC f20.cl (ci := 1) rfl) (Nat.ne_of_lt l_h2s_f22) h2s.lt))
  obtain ⟨er9, hR⟩ := hR
  rw [er9]
  obtain ⟨v_35, hv_35, f20, f22⟩ := hR
  have g_f22 := hv_35.elim (fun e9 => e9 ▸ g_f22) (fun z9 => hn _ (Nat.le_trans hZ0_ z9))
  have l_fl6_f22 : r_5 < v_35 := hv_35.elim (fun e9 => e9 ▸ l_fl6_f22) (fun z9 => Nat.lt_of_lt_of_le t_fl6 z9)
  have l_fR6_f22 : bb6 < v_35 := hv_35.elim (fun e9 => e9 ▸ l_fR6_f22) (fun z9 => Nat.lt_of_lt_of_le t_fR6 z9)
  have l_h0s_f22 : q9 < v_35 := hv_35.elim (fun e9 => e9 ▸ l_h0s_f22) (fun z9 => Nat.lt_of_lt_of_le t_h0s z9)
  have l_h1s_f22 : q9 < v_35 := hv_35.elim (fun e9 => e9 ▸ l_h1s_f22) (fun z9 => Nat.lt_of_lt_of_le t_h1s z9)
  have l_h2s_f22 : b0_ < v_35 := hv_35.elim (fun e9 => e9 ▸ l_h2s_f22) (fun z9 => Nat.lt_of_lt_of_le t_h2s z9)
  have l_f20_f22 : qf20 < v_35 := hv_35.elim (fun e9 => e9 ▸ l_f20_f22) (fun z9 => Nat.lt_of_lt_of_le t_f20 z9)
  have hv_35 := hv_35.imp_right (fun z9 => Nat.le_trans hZ0_ z9)
  have hv_35 := hv_35.elim (fun e9 => e9 ▸ hv_33) Or.inr
  have hZ0_ := hS.1
  have t_fl6 := fl6.lt
  have t_fR6 := fR6.lt
  have t_h0s := h0s.lt
  have t_h1s := h1s.lt
  have t_h2s := h2s.lt
  have t_f20 := f20.lt
  have t_f22 := f22.lt
  refine k_r (pc := 135) (k_V E hC hS hA hl.1 (c1.recv hC f20 rfl) rfl (c_J4_toString_0e30d l D tk N0 sa H.size qf20 v_35 (sbC (sbC (sbC (sbC 16 (0 + l9)) ((0 + l9) + 1)) (((0 + l9) + 1) + 1)) ((((0 + l9) + 1) + 1) + dgJ x_17)) ((((0 + l9) + 1) + 1) + dgJ x_17) 0 (sbC_ge _ _).1 hcD) kw_1381 kw_316 kw_317 kw_19 kw_318 (n := 0) (by decide +kernel) rfl ⟨⟨rfl, rfl⟩, ⟨Nat.le_of_ble_eq_true rfl, Nat.le_of_ble_eq_true rfl⟩, hTc1, hTs1⟩ rfl (Nat.le_of_ble_eq_true rfl) ⟨f20, f22⟩ dX5_wayNow_135) hS (fun q z w => absurd w (Nat.not_le.mpr z)) hn (fun r_36 H locs hR hz hk hS => ?_)
  have fl6 := fl6.kept (hk _ fl6.lt (Nat.not_le.mpr fl6.lt))
  have fR6 := fR6.kept (hk _ fR6.lt (Nat.not_le.mpr fR6.lt))
  have el6 := el6.new hk
  have h0s := h0s.kept (hk _ h0s.lt (Nat.not_le.mpr h0s.lt))
  have h1s := h1s.kept (hk _ h1s.lt (Nat.not_le.mpr h1s.lt))
  have h2s := h2s.kept (hk _ h2s.lt (Nat.not_le.mpr h2s.lt))
  have f20 := f20.kept (hk _ f20.lt (Nat.not_le.mpr f20.lt))
  have f22 := f22.kept (hk _ f22.lt (Nat.not_le.mpr f22.lt))
  obtain ⟨q_f37, z9_, y9_, f37⟩ := hR
  have f37 := SM.sx f37
  have zr_f37 : s.heap.size ≤ r_36 := Nat.le_trans hZ0_ z9_
  refine lv_astore_n (pc := 138) (lv' := [(3, .ref r_36), (5, .long x_17), (0, .ref mo), (1, .int x), (2, .ref r_5), (4, .int y9)]) hx hb dX5_wayNow_138 rfl hl (by decide) rfl (fun ls hl => ?_)
  obtain ⟨x_38, ex_38⟩ : ∃ z9 : Int32, z9 = y9 + 1 := ⟨_, rfl⟩
  refine lv_iinc (pc := 139) (v := x_38) (lv' := [(4, .int x_38), (3, .ref r_36), (5, .long x_17), (0, .ref mo), (1, .int x), (2, .ref r_5)]) hx hb dX5_wayNow_139 hl (k := 5) rfl (by rw [ex_38]; rfl) (by decide) rfl (fun ls hl => ?_)
  refine lv_goto (pc := 142) (tgt := 32) hx hb dX5_wayNow_142 (by decide) ?_
  refine W.widen (k := 49 + 8 * (k + 1)) (n := 175 + m_wS (k + 1)) hWc1 hWs1 ?_
  exact ih_32  (k + 1) _ (E9 + (dgJ x_17 - 1))  r_36 x_38 (by omega) (by omega) (i_up hx9 ex_38) hEn (fun z9 => absurd z9 (by omega)) (by omega) _ _ _ hS fl6 fR6 el6 f37 (lv_sub hl [3, 4, 5, 1, 0] rfl)
set_option maxHeartbeats 20000000 in
set_option maxRecDepth 100000 in
theorem g4_X5_wayNow {p : Program} {l : Launch} {e : Env} {s : State} {m : MethodId} {args : Array Value} {below : List Frame} {meth : Method} {c : Code} {Q : State → Prop} {D : va_G} {tk : Nat → ClassId} {N0 : Nat} {sa : Nat → Nat} (E : CallFix p m c cX5_wayNow 7 s args (wsy yX5_wayNow cX5_wayNow 7 (some (.object "java/lang/String"))) RX5) (hC : Ctx D tk N0 sa s) (hA : ∀ q, (nwA s.heap.size) q → N0 ≤ q) (hn : ∀ q, s.heap.size ≤ q → (nwA s.heap.size) q) (hr : meth.sig.returnType = (some (.object "java/lang/String"))) (hlk : meth.locks = false) (P : Nat → Prop) (hPN : ∀ q, P q → N0 ≤ q) (mo : Nat) (n9 : Nat) (kn : Int32) (th : Int32) (tt : Nat → Int64) (bb : Nat → Int64) (eT : Int64) (eB : Int64) (oT : Int64) (oB : Int64) (pk : Nat) (ca : Int32) (rf : Int32) (vs : Nat → Value) (x : Int32) (k_x : Nat) (hx_x : x = nI k_x) (hk_x : k_x < 6) (nl6 : Nat) (bb6 : Nat) (cap6 : Nat) (ff6 : Nat → Option Nat) (ww6 : Nat → Value) (md6 : Int32) (T : Nat → Int) (u2 : T (nl6 + 1) = 0) (u3 : ∀ i, i < nl6 → ∃ x : Int64, ww6 i = .long x ∧ x.toInt * T (i + 1) + T (i + 2) = T i) (u4 : ∀ i, 1 ≤ i → i ≤ nl6 → 1 ≤ T i ∧ T i ≤ 1000000000) (hlm6 : nl6 ≤ 43) (r_5 : Nat) (v_29 : Nat) (qf20 : Nat) (x_17 : Int64) (n : Nat) (k : Nat) (l9 : Nat) (E9 : Nat) (q9 : Nat) (y9 : Int32) (hf9 : 44 - k < n + 1) (hk9 : k ≤ nl6) (hx9 : y9 = nI k) (hE9 : ((10 ^ E9 : Nat) : Int) * T k ≤ 1000000000) (hZ9 : (k = 0 → E9 = 0)) (hL8 : l9 ≤ 3 * k + E9) (ih_32 : ∀ (k : Nat) (l9 : Nat) (E9 : Nat)(q9 : Nat) (y9 : Int32), 44 - k < n → k ≤ nl6 → y9 = nI k → ((10 ^ E9 : Nat) : Int) * T k ≤ 1000000000 → (k = 0 → E9 = 0) → l9 ≤ 3 * k + E9 → ∀ (H : Heap) (locs : List Loc) (ls : Array Slot), va_S (nwA s.heap.size) s.heap H locs → c1 D r_5 (.inr (7, [.int md6, .ref bb6, .int (nI nl6)])) H → c1 D bb6 (.inl (tk 4, cap6, .inr (.inr (.inr (.inr (ff6)))))) H → EL D 3 nl6 ff6 ww6 H → SX D tk q9 l9 H → lv_has ls 7 [(0, .ref mo), (1, .int x), (2, .ref r_5), (3, .ref q9), (4, .int y9)] → W p l e ({ frames := 8, cells := 393, slots := 14193, locals := 186 } : Room) s m args below meth c H locs (49 + 8 * k) (175 + m_wS k) Q (F0 m 32 ls [])) (hd11 : dgJ x_17 ≤ 11) (hdl : 1 ≤ dgJ x_17) (hEn : ((10 ^ (E9 + (dgJ x_17 - 1)) : Nat) : Int) * T (k + 1) ≤ 1000000000) (hkn : k < nl6) (b0_ : Nat) (hcA : sbC 16 (0 + l9) ≤ 500000) (hcB : sbC (sbC 16 (0 + l9)) (0 + l9 + 1) ≤ 500000) (hcC : sbC (sbC (sbC 16 (0 + l9)) (0 + l9 + 1)) (0 + l9 + 1 + 1) ≤ 500000) (hcD : sbC (sbC (sbC (sbC 16 (0 + l9)) (0 + l9 + 1)) (0 + l9 + 1 + 1)) (0 + l9 + 1 + 1 + dgJ x_17) ≤ 100000000) (hTc1 : 49 + 8 * k + 0 + 0 + 0 + 0 + 0 + 1 + 1 + (sbK 16 (0 + l9)) + 0 + (sbK (sbC 16 (0 + l9)) ((0 + l9) + 1)) + (sbK (sbC (sbC 16 (0 + l9)) ((0 + l9) + 1)) (((0 + l9) + 1) + 1)) + (sbK (sbC (sbC (sbC 16 (0 + l9)) ((0 + l9) + 1)) (((0 + l9) + 1) + 1)) ((((0 + l9) + 1) + 1) + dgJ x_17)) + 2 ≤ 393) (hTs1 : 175 + m_wS k + 0 + 0 + 0 + 0 + 0 + 4 + 16 + (sbS 16 (0 + l9)) + 0 + (sbS (sbC 16 (0 + l9)) ((0 + l9) + 1)) + (sbS (sbC (sbC 16 (0 + l9)) ((0 + l9) + 1)) (((0 + l9) + 1) + 1)) + (sbS (sbC (sbC (sbC 16 (0 + l9)) ((0 + l9) + 1)) (((0 + l9) + 1) + 1)) ((((0 + l9) + 1) + 1) + dgJ x_17)) + (4 + ((((0 + l9) + 1) + 1) + dgJ x_17)) ≤ 14193) (hWc1 : 49 + 8 * k + 0 + 0 + 0 + 0 + 0 + 1 + 1 + (sbK 16 (0 + l9)) + 0 + (sbK (sbC 16 (0 + l9)) ((0 + l9) + 1)) + (sbK (sbC (sbC 16 (0 + l9)) ((0 + l9) + 1)) (((0 + l9) + 1) + 1)) + (sbK (sbC (sbC (sbC 16 (0 + l9)) ((0 + l9) + 1)) (((0 + l9) + 1) + 1)) ((((0 + l9) + 1) + 1) + dgJ x_17)) + 2 ≤ 49 + 8 * (k + 1)) (hWs1 : 175 + m_wS k + 0 + 0 + 0 + 0 + 0 + 4 + 16 + (sbS 16 (0 + l9)) + 0 + (sbS (sbC 16 (0 + l9)) ((0 + l9) + 1)) + (sbS (sbC (sbC 16 (0 + l9)) ((0 + l9) + 1)) (((0 + l9) + 1) + 1)) + (sbS (sbC (sbC (sbC 16 (0 + l9)) ((0 + l9) + 1)) (((0 + l9) + 1) + 1)) ((((0 + l9) + 1) + 1) + dgJ x_17)) + (4 + ((((0 + l9) + 1) + 1) + dgJ x_17)) ≤ 175 + m_wS (k + 1)) (H : Heap) (locs : List Loc) (ls : Array Slot) (hS : va_S (nwA s.heap.size) s.heap H locs) (fl6 : c1 D r_5 (.inr (7, [.int md6, .ref bb6, .int (nI nl6)])) H) (fR6 : c1 D bb6 (.inl (tk 4, cap6, .inr (.inr (.inr (.inr (ff6)))))) H) (el6 : EL D 3 nl6 ff6 ww6 H) (h0s : xf D 0 q9 0 (.ref b0_) H) (h1s : xf D 0 q9 1 (.int 0) H) (h2s : BX tk b0_ l9 H) (f20 : c1 D qf20 (.inr (1, [.ref v_29, .int 0, .int 0, .int (nI ((0 + l9) + 1))])) H) (f22 : BA D tk v_29 (sbC (sbC 16 (0 + l9)) ((0 + l9) + 1)) H) (k39 : SX D tk (sa (10 + 10)) 1 H) (s_f20 : s.heap.size ≤ qf20) (g_f20 : (nwA s.heap.size) qf20) (g_f22 : (nwA s.heap.size) v_29) (l_f20_f22 : qf20 < v_29) (l_fR6_f20 : bb6 < qf20) (l_fR6_f22 : bb6 < v_29) (l_fl6_f20 : r_5 < qf20) (l_fl6_f22 : r_5 < v_29) (l_h0s_f20 : q9 < qf20) (l_h0s_f22 : q9 < v_29) (l_h1s_f20 : q9 < qf20) (l_h1s_f22 : q9 < v_29) (l_h2s_f20 : b0_ < qf20) (l_h2s_f22 : b0_ < v_29) (hl : lv_has ls 7 [(5, .long x_17), (0, .ref mo), (1, .int x), (2, .ref r_5), (3, .ref q9), (4, .int y9)]) : W p l e ({ frames := 8, cells := 393, slots := 14193, locals := 186 } : Room) s m args below meth c H locs (49 + 8 * k + 0 + 0 + 0 + 0 + 0 + 1 + 1 + (sbK 16 (0 + l9)) + 0 + (sbK (sbC 16 (0 + l9)) ((0 + l9) + 1))) (175 + m_wS k + 0 + 0 + 0 + 0 + 0 + 4 + 16 + (sbS 16 (0 + l9)) + 0 + (sbS (sbC 16 (0 + l9)) ((0 + l9) + 1))) Q (F0 m 127 ls [.ref (sa (10 + 10)), .ref qf20]) := by
  obtain ⟨hx, hb, -⟩ := id E
  have hZ0_ := hS.1
  have t_fl6 := fl6.lt
  have t_fR6 := fR6.lt
  have t_h0s := h0s.lt
  have t_h1s := h1s.lt
  have t_h2s := h2s.lt
  have t_f20 := f20.lt
  have t_f22 := f22.lt
  have t_k39 := k39.lt
  refine k_r (pc := 127) (k_V E hC hS hA hl.1 (c1.recv hC f20 rfl) rfl (c_J4_append_15ec4 l D tk N0 sa H.size qf20 v_29 (sbC (sbC 16 (0 + l9)) ((0 + l9) + 1)) ((0 + l9) + 1) (sa (10 + 10)) 1 0 (hA _ g_f20) (hA _ g_f22) (sbC_ge _ _).1 hcB (by decide)) kw_1353 kw_399 kw_400 kw_19 kw_401 (n := 1) (by decide +kernel) rfl ⟨⟨rfl, rfl⟩, ⟨Nat.le_of_ble_eq_true rfl, Nat.le_of_ble_eq_true rfl⟩, (pre1 (pre1 hTc1)), (pre1 (pre1 hTs1))⟩ rfl (Nat.le_of_ble_eq_true rfl) ⟨f20, f22, k39⟩ dX5_wayNow_127) hS (inA2.to g_f20 g_f22) hn (fun r_40 H locs hR hz hk hS => ?_)
  have fl6 := fl6.kept (hk _ fl6.lt (inA2.not (clA.ne fl6.cl f20.cl (hC.oo 7 1 rfl rfl (by decide))) (clA.ne fl6.cl f22.cl (hC.oa 7 1 rfl rfl)) fl6.lt))
  have fR6 := fR6.kept (hk _ fR6.lt (inA2.not (clA.ne fR6.cla f20.cl (hC.ao 1 4 rfl rfl)) (clA.ne fR6.cla f22.cl (hC.aa 4 1 rfl rfl (by dsimp only; decide))) fR6.lt))
  have el6 := el6.keep2 hk (fun q9 h9 => clA.ne h9 f20.cl (hC.ceo (Or.inl rfl) 1 rfl (by decide))) (fun q9 h9 => clA.ne h9 f22.cl (hC.cea (Or.inl rfl) 1 rfl))
  have h0s := h0s.kept (hk _ h0s.lt (inA2.not (clA.ne h0s.cl f20.cl (hC.oo 0 1 rfl rfl (by decide))) (clA.ne h0s.cl f22.cl (hC.oa 0 1 rfl rfl)) h0s.lt))
  have h1s := h1s.kept (hk _ h1s.lt (inA2.not (clA.ne h1s.cl f20.cl (hC.oo 0 1 rfl rfl (by decide))) (clA.ne h1s.cl f22.cl (hC.oa 0 1 rfl rfl)) h1s.lt))
  have h2s := h2s.kept (hk _ h2s.lt (inA2.not (h2s.neo hC f20.cl (ci := 1) rfl) (Nat.ne_of_lt l_h2s_f22) h2s.lt))
  obtain ⟨er9, hR⟩ := hR
  rw [er9]
  obtain ⟨v_41, hv_41, f20, f22⟩ := hR
  have g_f22 := hv_41.elim (fun e9 => e9 ▸ g_f22) (fun z9 => hn _ (Nat.le_trans hZ0_ z9))
  have l_fl6_f22 : r_5 < v_41 := hv_41.elim (fun e9 => e9 ▸ l_fl6_f22) (fun z9 => Nat.lt_of_lt_of_le t_fl6 z9)
  have l_fR6_f22 : bb6 < v_41 := hv_41.elim (fun e9 => e9 ▸ l_fR6_f22) (fun z9 => Nat.lt_of_lt_of_le t_fR6 z9)
  have l_h0s_f22 : q9 < v_41 := hv_41.elim (fun e9 => e9 ▸ l_h0s_f22) (fun z9 => Nat.lt_of_lt_of_le t_h0s z9)
  have l_h1s_f22 : q9 < v_41 := hv_41.elim (fun e9 => e9 ▸ l_h1s_f22) (fun z9 => Nat.lt_of_lt_of_le t_h1s z9)
  have l_h2s_f22 : b0_ < v_41 := hv_41.elim (fun e9 => e9 ▸ l_h2s_f22) (fun z9 => Nat.lt_of_lt_of_le t_h2s z9)
  have l_f20_f22 : qf20 < v_41 := hv_41.elim (fun e9 => e9 ▸ l_f20_f22) (fun z9 => Nat.lt_of_lt_of_le t_f20 z9)
  have hv_41 := hv_41.imp_right (fun z9 => Nat.le_trans hZ0_ z9)
  refine lv_lload (pc := 130) hx hb dX5_wayNow_130 (lv_at hl 0 rfl) ?_
  have hZ0_ := hS.1
  have t_fl6 := fl6.lt
  have t_fR6 := fR6.lt
  have t_h0s := h0s.lt
  have t_h1s := h1s.lt
  have t_h2s := h2s.lt
  have t_f20 := f20.lt
  have t_f22 := f22.lt
  refine k_r (pc := 132) (k_V E hC hS hA hl.1 (c1.recv hC f20 rfl) rfl (c_J4_append_f7089 l D tk N0 sa H.size qf20 v_41 (sbC (sbC (sbC 16 (0 + l9)) ((0 + l9) + 1)) (((0 + l9) + 1) + 1)) (((0 + l9) + 1) + 1) 0 x_17 (hA _ g_f20) (hA _ g_f22) (sbC_ge _ _).1 hcC) kw_1354 kw_1355 kw_1356 kw_19 kw_1357 (n := 1) (by decide +kernel) rfl ⟨⟨rfl, rfl⟩, ⟨Nat.le_of_ble_eq_true rfl, Nat.le_of_ble_eq_true rfl⟩, (pre1 hTc1), (pre1 hTs1)⟩ rfl (Nat.le_of_ble_eq_true rfl) ⟨f20, f22⟩ dX5_wayNow_132) hS (inA2.to g_f20 g_f22) hn (fun r_42 H locs hR hz hk hS => ?_)
  have fl6 := fl6.kept (hk _ fl6.lt (inA2.not (clA.ne fl6.cl f20.cl (hC.oo 7 1 rfl rfl (by decide))) (clA.ne fl6.cl f22.cl (hC.oa 7 1 rfl rfl)) fl6.lt))
  have fR6 := fR6.kept (hk _ fR6.lt (inA2.not (clA.ne fR6.cla f20.cl (hC.ao 1 4 rfl rfl)) (clA.ne fR6.cla f22.cl (hC.aa 4 1 rfl rfl (by dsimp only; decide))) fR6.lt))
  have el6 := el6.keep2 hk (fun q9 h9 => clA.ne h9 f20.cl (hC.ceo (Or.inl rfl) 1 rfl (by decide))) (fun q9 h9 => clA.ne h9 f22.cl (hC.cea (Or.inl rfl) 1 rfl))
  have h0s := h0s.kept (hk _ h0s.lt (inA2.not (clA.ne h0s.cl f20.cl (hC.oo 0 1 rfl rfl (by decide))) (clA.ne h0s.cl f22.cl (hC.oa 0 1 rfl rfl)) h0s.lt))
  have h1s := h1s.kept (hk _ h1s.lt (inA2.not (clA.ne h1s.cl f20.cl (hC.oo 0 1 rfl rfl (by decide))) (clA.ne h1s.cl f22.cl (hC.oa 0 1 rfl rfl)) h1s.lt))
  have h2s := h2s.kept (hk _ h2s.lt (inA2.not (h2s.neo hC f20.cl (ci := 1) rfl) (Nat.ne_of_lt l_h2s_f22) h2s.lt))
  obtain ⟨er9, hR⟩ := hR
  rw [er9]
  obtain ⟨v_43, hv_43, f20, f22⟩ := hR
  have g_f22 := hv_43.elim (fun e9 => e9 ▸ g_f22) (fun z9 => hn _ (Nat.le_trans hZ0_ z9))
  have l_fl6_f22 : r_5 < v_43 := hv_43.elim (fun e9 => e9 ▸ l_fl6_f22) (fun z9 => Nat.lt_of_lt_of_le t_fl6 z9)
  have l_fR6_f22 : bb6 < v_43 := hv_43.elim (fun e9 => e9 ▸ l_fR6_f22) (fun z9 => Nat.lt_of_lt_of_le t_fR6 z9)
  have l_h0s_f22 : q9 < v_43 := hv_43.elim (fun e9 => e9 ▸ l_h0s_f22) (fun z9 => Nat.lt_of_lt_of_le t_h0s z9)
  have l_h1s_f22 : q9 < v_43 := hv_43.elim (fun e9 => e9 ▸ l_h1s_f22) (fun z9 => Nat.lt_of_lt_of_le t_h1s z9)
  have l_h2s_f22 : b0_ < v_43 := hv_43.elim (fun e9 => e9 ▸ l_h2s_f22) (fun z9 => Nat.lt_of_lt_of_le t_h2s z9)
  have l_f20_f22 : qf20 < v_43 := hv_43.elim (fun e9 => e9 ▸ l_f20_f22) (fun z9 => Nat.lt_of_lt_of_le t_f20 z9)
  have hv_43 := hv_43.imp_right (fun z9 => Nat.le_trans hZ0_ z9)
  have hv_43 := hv_43.elim (fun e9 => e9 ▸ hv_41) Or.inr
  have hZ0_ := hS.1
  have t_fl6 := fl6.lt
  have t_fR6 := fR6.lt
  have t_h0s := h0s.lt
  have t_h1s := h1s.lt
  have t_h2s := h2s.lt
  have t_f20 := f20.lt
  have t_f22 := f22.lt
  refine k_r (pc := 135) (k_V E hC hS hA hl.1 (c1.recv hC f20 rfl) rfl (c_J4_toString_0e30d l D tk N0 sa H.size qf20 v_43 (sbC (sbC (sbC (sbC 16 (0 + l9)) ((0 + l9) + 1)) (((0 + l9) + 1) + 1)) ((((0 + l9) + 1) + 1) + dgJ x_17)) ((((0 + l9) + 1) + 1) + dgJ x_17) 0 (sbC_ge _ _).1 hcD) kw_1381 kw_316 kw_317 kw_19 kw_318 (n := 0) (by decide +kernel) rfl ⟨⟨rfl, rfl⟩, ⟨Nat.le_of_ble_eq_true rfl, Nat.le_of_ble_eq_true rfl⟩, hTc1, hTs1⟩ rfl (Nat.le_of_ble_eq_true rfl) ⟨f20, f22⟩ dX5_wayNow_135) hS (fun q z w => absurd w (Nat.not_le.mpr z)) hn (fun r_44 H locs hR hz hk hS => ?_)
  have fl6 := fl6.kept (hk _ fl6.lt (Nat.not_le.mpr fl6.lt))
  have fR6 := fR6.kept (hk _ fR6.lt (Nat.not_le.mpr fR6.lt))
  have el6 := el6.new hk
  have h0s := h0s.kept (hk _ h0s.lt (Nat.not_le.mpr h0s.lt))
  have h1s := h1s.kept (hk _ h1s.lt (Nat.not_le.mpr h1s.lt))
  have h2s := h2s.kept (hk _ h2s.lt (Nat.not_le.mpr h2s.lt))
  have f20 := f20.kept (hk _ f20.lt (Nat.not_le.mpr f20.lt))
  have f22 := f22.kept (hk _ f22.lt (Nat.not_le.mpr f22.lt))
  obtain ⟨q_f45, z9_, y9_, f45⟩ := hR
  have f45 := SM.sx f45
  have zr_f45 : s.heap.size ≤ r_44 := Nat.le_trans hZ0_ z9_
  refine lv_astore_n (pc := 138) (lv' := [(3, .ref r_44), (5, .long x_17), (0, .ref mo), (1, .int x), (2, .ref r_5), (4, .int y9)]) hx hb dX5_wayNow_138 rfl hl (by decide) rfl (fun ls hl => ?_)
  obtain ⟨x_46, ex_46⟩ : ∃ z9 : Int32, z9 = y9 + 1 := ⟨_, rfl⟩
  refine lv_iinc (pc := 139) (v := x_46) (lv' := [(4, .int x_46), (3, .ref r_44), (5, .long x_17), (0, .ref mo), (1, .int x), (2, .ref r_5)]) hx hb dX5_wayNow_139 hl (k := 5) rfl (by rw [ex_46]; rfl) (by decide) rfl (fun ls hl => ?_)
  refine lv_goto (pc := 142) (tgt := 32) hx hb dX5_wayNow_142 (by decide) ?_
  refine W.widen (k := 49 + 8 * (k + 1)) (n := 175 + m_wS (k + 1)) hWc1 hWs1 ?_
  exact ih_32  (k + 1) _ (E9 + (dgJ x_17 - 1))  r_44 x_46 (by omega) (by omega) (i_up hx9 ex_46) hEn (fun z9 => absurd z9 (by omega)) (by omega) _ _ _ hS fl6 fR6 el6 f45 (lv_sub hl [3, 4, 5, 1, 0] rfl)
set_option maxHeartbeats 20000000 in
set_option maxRecDepth 100000 in
theorem g2_X5_wayNow {p : Program} {l : Launch} {e : Env} {s : State} {m : MethodId} {args : Array Value} {below : List Frame} {meth : Method} {c : Code} {Q : State → Prop} {D : va_G} {tk : Nat → ClassId} {N0 : Nat} {sa : Nat → Nat} (E : CallFix p m c cX5_wayNow 7 s args (wsy yX5_wayNow cX5_wayNow 7 (some (.object "java/lang/String"))) RX5) (hC : Ctx D tk N0 sa s) (hA : ∀ q, (nwA s.heap.size) q → N0 ≤ q) (hn : ∀ q, s.heap.size ≤ q → (nwA s.heap.size) q) (hr : meth.sig.returnType = (some (.object "java/lang/String"))) (hlk : meth.locks = false) (P : Nat → Prop) (hPN : ∀ q, P q → N0 ≤ q) (mo : Nat) (n9 : Nat) (kn : Int32) (th : Int32) (tt : Nat → Int64) (bb : Nat → Int64) (eT : Int64) (eB : Int64) (oT : Int64) (oB : Int64) (pk : Nat) (ca : Int32) (rf : Int32) (vs : Nat → Value) (x : Int32) (k_x : Nat) (hx_x : x = nI k_x) (hk_x : k_x < 6) (nl6 : Nat) (bb6 : Nat) (cap6 : Nat) (ff6 : Nat → Option Nat) (ww6 : Nat → Value) (md6 : Int32) (T : Nat → Int) (u2 : T (nl6 + 1) = 0) (u3 : ∀ i, i < nl6 → ∃ x : Int64, ww6 i = .long x ∧ x.toInt * T (i + 1) + T (i + 2) = T i) (u4 : ∀ i, 1 ≤ i → i ≤ nl6 → 1 ≤ T i ∧ T i ≤ 1000000000) (hlm6 : nl6 ≤ 43) (r_5 : Nat) (v_24 : Nat) (qf20 : Nat) (x_17 : Int64) (n : Nat) (k : Nat) (l9 : Nat) (E9 : Nat) (q9 : Nat) (y9 : Int32) (hf9 : 44 - k < n + 1) (hk9 : k ≤ nl6) (hx9 : y9 = nI k) (hE9 : ((10 ^ E9 : Nat) : Int) * T k ≤ 1000000000) (hZ9 : (k = 0 → E9 = 0)) (hL8 : l9 ≤ 3 * k + E9) (ih_32 : ∀ (k : Nat) (l9 : Nat) (E9 : Nat)(q9 : Nat) (y9 : Int32), 44 - k < n → k ≤ nl6 → y9 = nI k → ((10 ^ E9 : Nat) : Int) * T k ≤ 1000000000 → (k = 0 → E9 = 0) → l9 ≤ 3 * k + E9 → ∀ (H : Heap) (locs : List Loc) (ls : Array Slot), va_S (nwA s.heap.size) s.heap H locs → c1 D r_5 (.inr (7, [.int md6, .ref bb6, .int (nI nl6)])) H → c1 D bb6 (.inl (tk 4, cap6, .inr (.inr (.inr (.inr (ff6)))))) H → EL D 3 nl6 ff6 ww6 H → SX D tk q9 l9 H → lv_has ls 7 [(0, .ref mo), (1, .int x), (2, .ref r_5), (3, .ref q9), (4, .int y9)] → W p l e ({ frames := 8, cells := 393, slots := 14193, locals := 186 } : Room) s m args below meth c H locs (49 + 8 * k) (175 + m_wS k) Q (F0 m 32 ls [])) (hd11 : dgJ x_17 ≤ 11) (hdl : 1 ≤ dgJ x_17) (hEn : ((10 ^ (E9 + (dgJ x_17 - 1)) : Nat) : Int) * T (k + 1) ≤ 1000000000) (hkn : k < nl6) (b0_ : Nat) (hcA : sbC 16 (0 + l9) ≤ 500000) (hcB : sbC (sbC 16 (0 + l9)) (0 + l9 + 1) ≤ 500000) (hcC : sbC (sbC (sbC 16 (0 + l9)) (0 + l9 + 1)) (0 + l9 + 1 + 1) ≤ 500000) (hcD : sbC (sbC (sbC (sbC 16 (0 + l9)) (0 + l9 + 1)) (0 + l9 + 1 + 1)) (0 + l9 + 1 + 1 + dgJ x_17) ≤ 100000000) (hTc1 : 49 + 8 * k + 0 + 0 + 0 + 0 + 0 + 1 + 1 + (sbK 16 (0 + l9)) + 0 + (sbK (sbC 16 (0 + l9)) ((0 + l9) + 1)) + (sbK (sbC (sbC 16 (0 + l9)) ((0 + l9) + 1)) (((0 + l9) + 1) + 1)) + (sbK (sbC (sbC (sbC 16 (0 + l9)) ((0 + l9) + 1)) (((0 + l9) + 1) + 1)) ((((0 + l9) + 1) + 1) + dgJ x_17)) + 2 ≤ 393) (hTs1 : 175 + m_wS k + 0 + 0 + 0 + 0 + 0 + 4 + 16 + (sbS 16 (0 + l9)) + 0 + (sbS (sbC 16 (0 + l9)) ((0 + l9) + 1)) + (sbS (sbC (sbC 16 (0 + l9)) ((0 + l9) + 1)) (((0 + l9) + 1) + 1)) + (sbS (sbC (sbC (sbC 16 (0 + l9)) ((0 + l9) + 1)) (((0 + l9) + 1) + 1)) ((((0 + l9) + 1) + 1) + dgJ x_17)) + (4 + ((((0 + l9) + 1) + 1) + dgJ x_17)) ≤ 14193) (hWc1 : 49 + 8 * k + 0 + 0 + 0 + 0 + 0 + 1 + 1 + (sbK 16 (0 + l9)) + 0 + (sbK (sbC 16 (0 + l9)) ((0 + l9) + 1)) + (sbK (sbC (sbC 16 (0 + l9)) ((0 + l9) + 1)) (((0 + l9) + 1) + 1)) + (sbK (sbC (sbC (sbC 16 (0 + l9)) ((0 + l9) + 1)) (((0 + l9) + 1) + 1)) ((((0 + l9) + 1) + 1) + dgJ x_17)) + 2 ≤ 49 + 8 * (k + 1)) (hWs1 : 175 + m_wS k + 0 + 0 + 0 + 0 + 0 + 4 + 16 + (sbS 16 (0 + l9)) + 0 + (sbS (sbC 16 (0 + l9)) ((0 + l9) + 1)) + (sbS (sbC (sbC 16 (0 + l9)) ((0 + l9) + 1)) (((0 + l9) + 1) + 1)) + (sbS (sbC (sbC (sbC 16 (0 + l9)) ((0 + l9) + 1)) (((0 + l9) + 1) + 1)) ((((0 + l9) + 1) + 1) + dgJ x_17)) + (4 + ((((0 + l9) + 1) + 1) + dgJ x_17)) ≤ 175 + m_wS (k + 1)) (hTc2 : 49 + 8 * k + 0 + 0 + 0 + 0 + 0 + 1 + 1 + (sbK 16 (0 + l9)) + 0 + (sbK (sbC 16 (0 + l9)) ((0 + l9) + 0)) + (sbK (sbC (sbC 16 (0 + l9)) ((0 + l9) + 0)) (((0 + l9) + 0) + 1)) + (sbK (sbC (sbC (sbC 16 (0 + l9)) ((0 + l9) + 0)) (((0 + l9) + 0) + 1)) ((((0 + l9) + 0) + 1) + dgJ x_17)) + 2 ≤ 393) (hTs2 : 175 + m_wS k + 0 + 0 + 0 + 0 + 0 + 4 + 16 + (sbS 16 (0 + l9)) + 0 + (sbS (sbC 16 (0 + l9)) ((0 + l9) + 0)) + (sbS (sbC (sbC 16 (0 + l9)) ((0 + l9) + 0)) (((0 + l9) + 0) + 1)) + (sbS (sbC (sbC (sbC 16 (0 + l9)) ((0 + l9) + 0)) (((0 + l9) + 0) + 1)) ((((0 + l9) + 0) + 1) + dgJ x_17)) + (4 + ((((0 + l9) + 0) + 1) + dgJ x_17)) ≤ 14193) (hWc2 : 49 + 8 * k + 0 + 0 + 0 + 0 + 0 + 1 + 1 + (sbK 16 (0 + l9)) + 0 + (sbK (sbC 16 (0 + l9)) ((0 + l9) + 0)) + (sbK (sbC (sbC 16 (0 + l9)) ((0 + l9) + 0)) (((0 + l9) + 0) + 1)) + (sbK (sbC (sbC (sbC 16 (0 + l9)) ((0 + l9) + 0)) (((0 + l9) + 0) + 1)) ((((0 + l9) + 0) + 1) + dgJ x_17)) + 2 ≤ 49 + 8 * (k + 1)) (hWs2 : 175 + m_wS k + 0 + 0 + 0 + 0 + 0 + 4 + 16 + (sbS 16 (0 + l9)) + 0 + (sbS (sbC 16 (0 + l9)) ((0 + l9) + 0)) + (sbS (sbC (sbC 16 (0 + l9)) ((0 + l9) + 0)) (((0 + l9) + 0) + 1)) + (sbS (sbC (sbC (sbC 16 (0 + l9)) ((0 + l9) + 0)) (((0 + l9) + 0) + 1)) ((((0 + l9) + 0) + 1) + dgJ x_17)) + (4 + ((((0 + l9) + 0) + 1) + dgJ x_17)) ≤ 175 + m_wS (k + 1)) (H : Heap) (locs : List Loc) (ls : Array Slot) (hS : va_S (nwA s.heap.size) s.heap H locs) (fl6 : c1 D r_5 (.inr (7, [.int md6, .ref bb6, .int (nI nl6)])) H) (fR6 : c1 D bb6 (.inl (tk 4, cap6, .inr (.inr (.inr (.inr (ff6)))))) H) (el6 : EL D 3 nl6 ff6 ww6 H) (h0s : xf D 0 q9 0 (.ref b0_) H) (h1s : xf D 0 q9 1 (.int 0) H) (h2s : BX tk b0_ l9 H) (f20 : c1 D qf20 (.inr (1, [.ref v_24, .int 0, .int 0, .int (nI (0 + l9))])) H) (f22 : BA D tk v_24 (sbC 16 (0 + l9)) H) (k27 : SX D tk (sa (10 + 8)) 1 H) (s_f20 : s.heap.size ≤ qf20) (g_f20 : (nwA s.heap.size) qf20) (g_f22 : (nwA s.heap.size) v_24) (l_f20_f22 : qf20 < v_24) (l_fR6_f20 : bb6 < qf20) (l_fR6_f22 : bb6 < v_24) (l_fl6_f20 : r_5 < qf20) (l_fl6_f22 : r_5 < v_24) (l_h0s_f20 : q9 < qf20) (l_h0s_f22 : q9 < v_24) (l_h1s_f20 : q9 < qf20) (l_h1s_f22 : q9 < v_24) (l_h2s_f20 : b0_ < qf20) (l_h2s_f22 : b0_ < v_24) (hl : lv_has ls 7 [(5, .long x_17), (0, .ref mo), (1, .int x), (2, .ref r_5), (3, .ref q9), (4, .int y9)]) : W p l e ({ frames := 8, cells := 393, slots := 14193, locals := 186 } : Room) s m args below meth c H locs (49 + 8 * k + 0 + 0 + 0 + 0 + 0 + 1 + 1 + (sbK 16 (0 + l9)) + 0) (175 + m_wS k + 0 + 0 + 0 + 0 + 0 + 4 + 16 + (sbS 16 (0 + l9)) + 0) Q (F0 m 108 ls [.ref (sa (10 + 8)), .ref qf20]) := by
  obtain ⟨hx, hb, -⟩ := id E
  have hZ0_ := hS.1
  have t_fl6 := fl6.lt
  have t_fR6 := fR6.lt
  have t_h0s := h0s.lt
  have t_h1s := h1s.lt
  have t_h2s := h2s.lt
  have t_f20 := f20.lt
  have t_f22 := f22.lt
  have t_k27 := k27.lt
  refine k_r (pc := 108) (k_V E hC hS hA hl.1 (c1.recv hC f20 rfl) rfl (c_J4_append_15ec4 l D tk N0 sa H.size qf20 v_24 (sbC 16 (0 + l9)) (0 + l9) (sa (10 + 8)) 1 0 (hA _ g_f20) (hA _ g_f22) (sbC_ge _ _).1 hcA (by decide)) kw_1353 kw_399 kw_400 kw_19 kw_401 (n := 1) (by decide +kernel) rfl ⟨⟨rfl, rfl⟩, ⟨Nat.le_of_ble_eq_true rfl, Nat.le_of_ble_eq_true rfl⟩, (pre1 (pre1 (pre1 hTc1))), (pre1 (pre1 (pre1 hTs1)))⟩ rfl (Nat.le_of_ble_eq_true rfl) ⟨f20, f22, k27⟩ dX5_wayNow_108) hS (inA2.to g_f20 g_f22) hn (fun r_28 H locs hR hz hk hS => ?_)
  have fl6 := fl6.kept (hk _ fl6.lt (inA2.not (clA.ne fl6.cl f20.cl (hC.oo 7 1 rfl rfl (by decide))) (clA.ne fl6.cl f22.cl (hC.oa 7 1 rfl rfl)) fl6.lt))
  have fR6 := fR6.kept (hk _ fR6.lt (inA2.not (clA.ne fR6.cla f20.cl (hC.ao 1 4 rfl rfl)) (clA.ne fR6.cla f22.cl (hC.aa 4 1 rfl rfl (by dsimp only; decide))) fR6.lt))
  have el6 := el6.keep2 hk (fun q9 h9 => clA.ne h9 f20.cl (hC.ceo (Or.inl rfl) 1 rfl (by decide))) (fun q9 h9 => clA.ne h9 f22.cl (hC.cea (Or.inl rfl) 1 rfl))
  have h0s := h0s.kept (hk _ h0s.lt (inA2.not (clA.ne h0s.cl f20.cl (hC.oo 0 1 rfl rfl (by decide))) (clA.ne h0s.cl f22.cl (hC.oa 0 1 rfl rfl)) h0s.lt))
  have h1s := h1s.kept (hk _ h1s.lt (inA2.not (clA.ne h1s.cl f20.cl (hC.oo 0 1 rfl rfl (by decide))) (clA.ne h1s.cl f22.cl (hC.oa 0 1 rfl rfl)) h1s.lt))
  have h2s := h2s.kept (hk _ h2s.lt (inA2.not (h2s.neo hC f20.cl (ci := 1) rfl) (Nat.ne_of_lt l_h2s_f22) h2s.lt))
  obtain ⟨er9, hR⟩ := hR
  rw [er9]
  obtain ⟨v_29, hv_29, f20, f22⟩ := hR
  have g_f22 := hv_29.elim (fun e9 => e9 ▸ g_f22) (fun z9 => hn _ (Nat.le_trans hZ0_ z9))
  have l_fl6_f22 : r_5 < v_29 := hv_29.elim (fun e9 => e9 ▸ l_fl6_f22) (fun z9 => Nat.lt_of_lt_of_le t_fl6 z9)
  have l_fR6_f22 : bb6 < v_29 := hv_29.elim (fun e9 => e9 ▸ l_fR6_f22) (fun z9 => Nat.lt_of_lt_of_le t_fR6 z9)
  have l_h0s_f22 : q9 < v_29 := hv_29.elim (fun e9 => e9 ▸ l_h0s_f22) (fun z9 => Nat.lt_of_lt_of_le t_h0s z9)
  have l_h1s_f22 : q9 < v_29 := hv_29.elim (fun e9 => e9 ▸ l_h1s_f22) (fun z9 => Nat.lt_of_lt_of_le t_h1s z9)
  have l_h2s_f22 : b0_ < v_29 := hv_29.elim (fun e9 => e9 ▸ l_h2s_f22) (fun z9 => Nat.lt_of_lt_of_le t_h2s z9)
  have l_f20_f22 : qf20 < v_29 := hv_29.elim (fun e9 => e9 ▸ l_f20_f22) (fun z9 => Nat.lt_of_lt_of_le t_f20 z9)
  have hv_29 := hv_29.imp_right (fun z9 => Nat.le_trans hZ0_ z9)
  refine lv_iload (pc := 111) hx hb dX5_wayNow_111 (lv_at hl 5 rfl) ?_
  refine lv_iconst (pc := 113) (v := 2) hx hb dX5_wayNow_113 (by decide) ?_
  refine lv_irem (pc := 114) hx hb dX5_wayNow_114 (by decide) ?_
  refine lv_if_ne (pc := 115) (tgt := 124) hx hb dX5_wayNow_115 (by decide) (fun c_30 => ?_) (fun c_30 => ?_)
  · refine r_ldcwS (pc := 124) E hC 11 _ rfl rfl rfl dX5_wayNow_124 ?_
    have k31 : SX D tk (sa (10 + 11)) 1 H := hC.str hS hA 11 _ rfl (by decide)
    exact g3_X5_wayNow E hC hA hn hr hlk P hPN mo n9 kn th tt bb eT eB oT oB pk ca rf vs x k_x hx_x hk_x nl6 bb6 cap6 ff6 ww6 md6 T u2 u3 u4 hlm6 r_5 v_29 qf20 x_17 n k l9 E9 q9 y9 hf9 hk9 hx9 hE9 hZ9 hL8 ih_32 hd11 hdl hEn hkn b0_ hcA hcB hcC hcD hTc1 hTs1 hWc1 hWs1 _ _ _ hS fl6 fR6 el6 h0s h1s h2s f20 f22 k31 s_f20 g_f20 g_f22 l_f20_f22 l_fR6_f20 l_fR6_f22 l_fl6_f20 l_fl6_f22 l_h0s_f20 l_h0s_f22 l_h1s_f20 l_h1s_f22 l_h2s_f20 l_h2s_f22 hl
  · refine r_ldcwS (pc := 118) E hC 10 _ rfl rfl rfl dX5_wayNow_118 ?_
    have k39 : SX D tk (sa (10 + 10)) 1 H := hC.str hS hA 10 _ rfl (by decide)
    refine lv_goto (pc := 121) (tgt := 127) hx hb dX5_wayNow_121 (by decide) ?_
    exact g4_X5_wayNow E hC hA hn hr hlk P hPN mo n9 kn th tt bb eT eB oT oB pk ca rf vs x k_x hx_x hk_x nl6 bb6 cap6 ff6 ww6 md6 T u2 u3 u4 hlm6 r_5 v_29 qf20 x_17 n k l9 E9 q9 y9 hf9 hk9 hx9 hE9 hZ9 hL8 ih_32 hd11 hdl hEn hkn b0_ hcA hcB hcC hcD hTc1 hTs1 hWc1 hWs1 _ _ _ hS fl6 fR6 el6 h0s h1s h2s f20 f22 k39 s_f20 g_f20 g_f22 l_f20_f22 l_fR6_f20 l_fR6_f22 l_fl6_f20 l_fl6_f22 l_h0s_f20 l_h0s_f22 l_h1s_f20 l_h1s_f22 l_h2s_f20 l_h2s_f22 hl
set_option maxHeartbeats 20000000 in
set_option maxRecDepth 100000 in
theorem g6_X5_wayNow {p : Program} {l : Launch} {e : Env} {s : State} {m : MethodId} {args : Array Value} {below : List Frame} {meth : Method} {c : Code} {Q : State → Prop} {D : va_G} {tk : Nat → ClassId} {N0 : Nat} {sa : Nat → Nat} (E : CallFix p m c cX5_wayNow 7 s args (wsy yX5_wayNow cX5_wayNow 7 (some (.object "java/lang/String"))) RX5) (hC : Ctx D tk N0 sa s) (hA : ∀ q, (nwA s.heap.size) q → N0 ≤ q) (hn : ∀ q, s.heap.size ≤ q → (nwA s.heap.size) q) (hr : meth.sig.returnType = (some (.object "java/lang/String"))) (hlk : meth.locks = false) (P : Nat → Prop) (hPN : ∀ q, P q → N0 ≤ q) (mo : Nat) (n9 : Nat) (kn : Int32) (th : Int32) (tt : Nat → Int64) (bb : Nat → Int64) (eT : Int64) (eB : Int64) (oT : Int64) (oB : Int64) (pk : Nat) (ca : Int32) (rf : Int32) (vs : Nat → Value) (x : Int32) (k_x : Nat) (hx_x : x = nI k_x) (hk_x : k_x < 6) (nl6 : Nat) (bb6 : Nat) (cap6 : Nat) (ff6 : Nat → Option Nat) (ww6 : Nat → Value) (md6 : Int32) (T : Nat → Int) (u2 : T (nl6 + 1) = 0) (u3 : ∀ i, i < nl6 → ∃ x : Int64, ww6 i = .long x ∧ x.toInt * T (i + 1) + T (i + 2) = T i) (u4 : ∀ i, 1 ≤ i → i ≤ nl6 → 1 ≤ T i ∧ T i ≤ 1000000000) (hlm6 : nl6 ≤ 43) (r_5 : Nat) (v_49 : Nat) (qf20 : Nat) (x_17 : Int64) (n : Nat) (k : Nat) (l9 : Nat) (E9 : Nat) (q9 : Nat) (y9 : Int32) (hf9 : 44 - k < n + 1) (hk9 : k ≤ nl6) (hx9 : y9 = nI k) (hE9 : ((10 ^ E9 : Nat) : Int) * T k ≤ 1000000000) (hZ9 : (k = 0 → E9 = 0)) (hL8 : l9 ≤ 3 * k + E9) (ih_32 : ∀ (k : Nat) (l9 : Nat) (E9 : Nat)(q9 : Nat) (y9 : Int32), 44 - k < n → k ≤ nl6 → y9 = nI k → ((10 ^ E9 : Nat) : Int) * T k ≤ 1000000000 → (k = 0 → E9 = 0) → l9 ≤ 3 * k + E9 → ∀ (H : Heap) (locs : List Loc) (ls : Array Slot), va_S (nwA s.heap.size) s.heap H locs → c1 D r_5 (.inr (7, [.int md6, .ref bb6, .int (nI nl6)])) H → c1 D bb6 (.inl (tk 4, cap6, .inr (.inr (.inr (.inr (ff6)))))) H → EL D 3 nl6 ff6 ww6 H → SX D tk q9 l9 H → lv_has ls 7 [(0, .ref mo), (1, .int x), (2, .ref r_5), (3, .ref q9), (4, .int y9)] → W p l e ({ frames := 8, cells := 393, slots := 14193, locals := 186 } : Room) s m args below meth c H locs (49 + 8 * k) (175 + m_wS k) Q (F0 m 32 ls [])) (hd11 : dgJ x_17 ≤ 11) (hdl : 1 ≤ dgJ x_17) (hEn : ((10 ^ (E9 + (dgJ x_17 - 1)) : Nat) : Int) * T (k + 1) ≤ 1000000000) (hkn : k < nl6) (b0_ : Nat) (hcA : sbC 16 (0 + l9) ≤ 500000) (hcB : sbC (sbC 16 (0 + l9)) (0 + l9 + 0) ≤ 500000) (hcC : sbC (sbC (sbC 16 (0 + l9)) (0 + l9 + 0)) (0 + l9 + 0 + 1) ≤ 500000) (hcD : sbC (sbC (sbC (sbC 16 (0 + l9)) (0 + l9 + 0)) (0 + l9 + 0 + 1)) (0 + l9 + 0 + 1 + dgJ x_17) ≤ 100000000) (hTc2 : 49 + 8 * k + 0 + 0 + 0 + 0 + 0 + 1 + 1 + (sbK 16 (0 + l9)) + 0 + (sbK (sbC 16 (0 + l9)) ((0 + l9) + 0)) + (sbK (sbC (sbC 16 (0 + l9)) ((0 + l9) + 0)) (((0 + l9) + 0) + 1)) + (sbK (sbC (sbC (sbC 16 (0 + l9)) ((0 + l9) + 0)) (((0 + l9) + 0) + 1)) ((((0 + l9) + 0) + 1) + dgJ x_17)) + 2 ≤ 393) (hTs2 : 175 + m_wS k + 0 + 0 + 0 + 0 + 0 + 4 + 16 + (sbS 16 (0 + l9)) + 0 + (sbS (sbC 16 (0 + l9)) ((0 + l9) + 0)) + (sbS (sbC (sbC 16 (0 + l9)) ((0 + l9) + 0)) (((0 + l9) + 0) + 1)) + (sbS (sbC (sbC (sbC 16 (0 + l9)) ((0 + l9) + 0)) (((0 + l9) + 0) + 1)) ((((0 + l9) + 0) + 1) + dgJ x_17)) + (4 + ((((0 + l9) + 0) + 1) + dgJ x_17)) ≤ 14193) (hWc2 : 49 + 8 * k + 0 + 0 + 0 + 0 + 0 + 1 + 1 + (sbK 16 (0 + l9)) + 0 + (sbK (sbC 16 (0 + l9)) ((0 + l9) + 0)) + (sbK (sbC (sbC 16 (0 + l9)) ((0 + l9) + 0)) (((0 + l9) + 0) + 1)) + (sbK (sbC (sbC (sbC 16 (0 + l9)) ((0 + l9) + 0)) (((0 + l9) + 0) + 1)) ((((0 + l9) + 0) + 1) + dgJ x_17)) + 2 ≤ 49 + 8 * (k + 1)) (hWs2 : 175 + m_wS k + 0 + 0 + 0 + 0 + 0 + 4 + 16 + (sbS 16 (0 + l9)) + 0 + (sbS (sbC 16 (0 + l9)) ((0 + l9) + 0)) + (sbS (sbC (sbC 16 (0 + l9)) ((0 + l9) + 0)) (((0 + l9) + 0) + 1)) + (sbS (sbC (sbC (sbC 16 (0 + l9)) ((0 + l9) + 0)) (((0 + l9) + 0) + 1)) ((((0 + l9) + 0) + 1) + dgJ x_17)) + (4 + ((((0 + l9) + 0) + 1) + dgJ x_17)) ≤ 175 + m_wS (k + 1)) (H : Heap) (locs : List Loc) (ls : Array Slot) (hS : va_S (nwA s.heap.size) s.heap H locs) (fl6 : c1 D r_5 (.inr (7, [.int md6, .ref bb6, .int (nI nl6)])) H) (fR6 : c1 D bb6 (.inl (tk 4, cap6, .inr (.inr (.inr (.inr (ff6)))))) H) (el6 : EL D 3 nl6 ff6 ww6 H) (h0s : xf D 0 q9 0 (.ref b0_) H) (h1s : xf D 0 q9 1 (.int 0) H) (h2s : BX tk b0_ l9 H) (f20 : c1 D qf20 (.inr (1, [.ref v_49, .int 0, .int 0, .int (nI ((0 + l9) + 0))])) H) (f22 : BA D tk v_49 (sbC (sbC 16 (0 + l9)) ((0 + l9) + 0)) H) (k51 : SX D tk (sa (10 + 11)) 1 H) (s_f20 : s.heap.size ≤ qf20) (g_f20 : (nwA s.heap.size) qf20) (g_f22 : (nwA s.heap.size) v_49) (l_f20_f22 : qf20 < v_49) (l_fR6_f20 : bb6 < qf20) (l_fR6_f22 : bb6 < v_49) (l_fl6_f20 : r_5 < qf20) (l_fl6_f22 : r_5 < v_49) (l_h0s_f20 : q9 < qf20) (l_h0s_f22 : q9 < v_49) (l_h1s_f20 : q9 < qf20) (l_h1s_f22 : q9 < v_49) (l_h2s_f20 : b0_ < qf20) (l_h2s_f22 : b0_ < v_49) (hl : lv_has ls 7 [(5, .long x_17), (0, .ref mo), (1, .int x), (2, .ref r_5), (3, .ref q9), (4, .int y9)]) : W p l e ({ frames := 8, cells := 393, slots := 14193, locals := 186 } : Room) s m args below meth c H locs (49 + 8 * k + 0 + 0 + 0 + 0 + 0 + 1 + 1 + (sbK 16 (0 + l9)) + 0 + (sbK (sbC 16 (0 + l9)) ((0 + l9) + 0))) (175 + m_wS k + 0 + 0 + 0 + 0 + 0 + 4 + 16 + (sbS 16 (0 + l9)) + 0 + (sbS (sbC 16 (0 + l9)) ((0 + l9) + 0))) Q (F0 m 127 ls [.ref (sa (10 + 11)), .ref qf20]) := by
  obtain ⟨hx, hb, -⟩ := id E
  have hZ0_ := hS.1
  have t_fl6 := fl6.lt
  have t_fR6 := fR6.lt
  have t_h0s := h0s.lt
  have t_h1s := h1s.lt
  have t_h2s := h2s.lt
  have t_f20 := f20.lt
  have t_f22 := f22.lt
  have t_k51 := k51.lt
  refine k_r (pc := 127) (k_V E hC hS hA hl.1 (c1.recv hC f20 rfl) rfl (c_J4_append_15ec4 l D tk N0 sa H.size qf20 v_49 (sbC (sbC 16 (0 + l9)) ((0 + l9) + 0)) ((0 + l9) + 0) (sa (10 + 11)) 1 0 (hA _ g_f20) (hA _ g_f22) (sbC_ge _ _).1 hcB (by decide)) kw_1353 kw_399 kw_400 kw_19 kw_401 (n := 1) (by decide +kernel) rfl ⟨⟨rfl, rfl⟩, ⟨Nat.le_of_ble_eq_true rfl, Nat.le_of_ble_eq_true rfl⟩, (pre1 (pre1 hTc2)), (pre1 (pre1 hTs2))⟩ rfl (Nat.le_of_ble_eq_true rfl) ⟨f20, f22, k51⟩ dX5_wayNow_127) hS (inA2.to g_f20 g_f22) hn (fun r_52 H locs hR hz hk hS => ?_)
  have fl6 := fl6.kept (hk _ fl6.lt (inA2.not (clA.ne fl6.cl f20.cl (hC.oo 7 1 rfl rfl (by decide))) (clA.ne fl6.cl f22.cl (hC.oa 7 1 rfl rfl)) fl6.lt))
  have fR6 := fR6.kept (hk _ fR6.lt (inA2.not (clA.ne fR6.cla f20.cl (hC.ao 1 4 rfl rfl)) (clA.ne fR6.cla f22.cl (hC.aa 4 1 rfl rfl (by dsimp only; decide))) fR6.lt))
  have el6 := el6.keep2 hk (fun q9 h9 => clA.ne h9 f20.cl (hC.ceo (Or.inl rfl) 1 rfl (by decide))) (fun q9 h9 => clA.ne h9 f22.cl (hC.cea (Or.inl rfl) 1 rfl))
  have h0s := h0s.kept (hk _ h0s.lt (inA2.not (clA.ne h0s.cl f20.cl (hC.oo 0 1 rfl rfl (by decide))) (clA.ne h0s.cl f22.cl (hC.oa 0 1 rfl rfl)) h0s.lt))
  have h1s := h1s.kept (hk _ h1s.lt (inA2.not (clA.ne h1s.cl f20.cl (hC.oo 0 1 rfl rfl (by decide))) (clA.ne h1s.cl f22.cl (hC.oa 0 1 rfl rfl)) h1s.lt))
  have h2s := h2s.kept (hk _ h2s.lt (inA2.not (h2s.neo hC f20.cl (ci := 1) rfl) (Nat.ne_of_lt l_h2s_f22) h2s.lt))
  obtain ⟨er9, hR⟩ := hR
  rw [er9]
  obtain ⟨v_53, hv_53, f20, f22⟩ := hR
  have g_f22 := hv_53.elim (fun e9 => e9 ▸ g_f22) (fun z9 => hn _ (Nat.le_trans hZ0_ z9))
  have l_fl6_f22 : r_5 < v_53 := hv_53.elim (fun e9 => e9 ▸ l_fl6_f22) (fun z9 => Nat.lt_of_lt_of_le t_fl6 z9)
  have l_fR6_f22 : bb6 < v_53 := hv_53.elim (fun e9 => e9 ▸ l_fR6_f22) (fun z9 => Nat.lt_of_lt_of_le t_fR6 z9)
  have l_h0s_f22 : q9 < v_53 := hv_53.elim (fun e9 => e9 ▸ l_h0s_f22) (fun z9 => Nat.lt_of_lt_of_le t_h0s z9)
  have l_h1s_f22 : q9 < v_53 := hv_53.elim (fun e9 => e9 ▸ l_h1s_f22) (fun z9 => Nat.lt_of_lt_of_le t_h1s z9)
  have l_h2s_f22 : b0_ < v_53 := hv_53.elim (fun e9 => e9 ▸ l_h2s_f22) (fun z9 => Nat.lt_of_lt_of_le t_h2s z9)
  have l_f20_f22 : qf20 < v_53 := hv_53.elim (fun e9 => e9 ▸ l_f20_f22) (fun z9 => Nat.lt_of_lt_of_le t_f20 z9)
  have hv_53 := hv_53.imp_right (fun z9 => Nat.le_trans hZ0_ z9)
  refine lv_lload (pc := 130) hx hb dX5_wayNow_130 (lv_at hl 0 rfl) ?_
  have hZ0_ := hS.1
  have t_fl6 := fl6.lt
  have t_fR6 := fR6.lt
  have t_h0s := h0s.lt
  have t_h1s := h1s.lt
  have t_h2s := h2s.lt
  have t_f20 := f20.lt
  have t_f22 := f22.lt
  refine k_r (pc := 132) (k_V E hC hS hA hl.1 (c1.recv hC f20 rfl) rfl (c_J4_append_f7089 l D tk N0 sa H.size qf20 v_53 (sbC (sbC (sbC 16 (0 + l9)) ((0 + l9) + 0)) (((0 + l9) + 0) + 1)) (((0 + l9) + 0) + 1) 0 x_17 (hA _ g_f20) (hA _ g_f22) (sbC_ge _ _).1 hcC) kw_1354 kw_1355 kw_1356 kw_19 kw_1357 (n := 1) (by decide +kernel) rfl ⟨⟨rfl, rfl⟩, ⟨Nat.le_of_ble_eq_true rfl, Nat.le_of_ble_eq_true rfl⟩, (pre1 hTc2), (pre1 hTs2)⟩ rfl (Nat.le_of_ble_eq_true rfl) ⟨f20, f22⟩ dX5_wayNow_132) hS (inA2.to g_f20 g_f22) hn (fun r_54 H locs hR hz hk hS => ?_)
  have fl6 := fl6.kept (hk _ fl6.lt (inA2.not (clA.ne fl6.cl f20.cl (hC.oo 7 1 rfl rfl (by decide))) (clA.ne fl6.cl f22.cl (hC.oa 7 1 rfl rfl)) fl6.lt))
  have fR6 := fR6.kept (hk _ fR6.lt (inA2.not (clA.ne fR6.cla f20.cl (hC.ao 1 4 rfl rfl)) (clA.ne fR6.cla f22.cl (hC.aa 4 1 rfl rfl (by dsimp only; decide))) fR6.lt))
  have el6 := el6.keep2 hk (fun q9 h9 => clA.ne h9 f20.cl (hC.ceo (Or.inl rfl) 1 rfl (by decide))) (fun q9 h9 => clA.ne h9 f22.cl (hC.cea (Or.inl rfl) 1 rfl))
  have h0s := h0s.kept (hk _ h0s.lt (inA2.not (clA.ne h0s.cl f20.cl (hC.oo 0 1 rfl rfl (by decide))) (clA.ne h0s.cl f22.cl (hC.oa 0 1 rfl rfl)) h0s.lt))
  have h1s := h1s.kept (hk _ h1s.lt (inA2.not (clA.ne h1s.cl f20.cl (hC.oo 0 1 rfl rfl (by decide))) (clA.ne h1s.cl f22.cl (hC.oa 0 1 rfl rfl)) h1s.lt))
  have h2s := h2s.kept (hk _ h2s.lt (inA2.not (h2s.neo hC f20.cl (ci := 1) rfl) (Nat.ne_of_lt l_h2s_f22) h2s.lt))
  obtain ⟨er9, hR⟩ := hR
  rw [er9]
  obtain ⟨v_55, hv_55, f20, f22⟩ := hR
  have g_f22 := hv_55.elim (fun e9 => e9 ▸ g_f22) (fun z9 => hn _ (Nat.le_trans hZ0_ z9))
  have l_fl6_f22 : r_5 < v_55 := hv_55.elim (fun e9 => e9 ▸ l_fl6_f22) (fun z9 => Nat.lt_of_lt_of_le t_fl6 z9)
  have l_fR6_f22 : bb6 < v_55 := hv_55.elim (fun e9 => e9 ▸ l_fR6_f22) (fun z9 => Nat.lt_of_lt_of_le t_fR6 z9)
  have l_h0s_f22 : q9 < v_55 := hv_55.elim (fun e9 => e9 ▸ l_h0s_f22) (fun z9 => Nat.lt_of_lt_of_le t_h0s z9)
  have l_h1s_f22 : q9 < v_55 := hv_55.elim (fun e9 => e9 ▸ l_h1s_f22) (fun z9 => Nat.lt_of_lt_of_le t_h1s z9)
  have l_h2s_f22 : b0_ < v_55 := hv_55.elim (fun e9 => e9 ▸ l_h2s_f22) (fun z9 => Nat.lt_of_lt_of_le t_h2s z9)
  have l_f20_f22 : qf20 < v_55 := hv_55.elim (fun e9 => e9 ▸ l_f20_f22) (fun z9 => Nat.lt_of_lt_of_le t_f20 z9)
  have hv_55 := hv_55.imp_right (fun z9 => Nat.le_trans hZ0_ z9)
  have hv_55 := hv_55.elim (fun e9 => e9 ▸ hv_53) Or.inr
  have hZ0_ := hS.1
  have t_fl6 := fl6.lt
  have t_fR6 := fR6.lt
  have t_h0s := h0s.lt
  have t_h1s := h1s.lt
  have t_h2s := h2s.lt
  have t_f20 := f20.lt
  have t_f22 := f22.lt
  refine k_r (pc := 135) (k_V E hC hS hA hl.1 (c1.recv hC f20 rfl) rfl (c_J4_toString_0e30d l D tk N0 sa H.size qf20 v_55 (sbC (sbC (sbC (sbC 16 (0 + l9)) ((0 + l9) + 0)) (((0 + l9) + 0) + 1)) ((((0 + l9) + 0) + 1) + dgJ x_17)) ((((0 + l9) + 0) + 1) + dgJ x_17) 0 (sbC_ge _ _).1 hcD) kw_1381 kw_316 kw_317 kw_19 kw_318 (n := 0) (by decide +kernel) rfl ⟨⟨rfl, rfl⟩, ⟨Nat.le_of_ble_eq_true rfl, Nat.le_of_ble_eq_true rfl⟩, hTc2, hTs2⟩ rfl (Nat.le_of_ble_eq_true rfl) ⟨f20, f22⟩ dX5_wayNow_135) hS (fun q z w => absurd w (Nat.not_le.mpr z)) hn (fun r_56 H locs hR hz hk hS => ?_)
  have fl6 := fl6.kept (hk _ fl6.lt (Nat.not_le.mpr fl6.lt))
  have fR6 := fR6.kept (hk _ fR6.lt (Nat.not_le.mpr fR6.lt))
  have el6 := el6.new hk
  have h0s := h0s.kept (hk _ h0s.lt (Nat.not_le.mpr h0s.lt))
  have h1s := h1s.kept (hk _ h1s.lt (Nat.not_le.mpr h1s.lt))
  have h2s := h2s.kept (hk _ h2s.lt (Nat.not_le.mpr h2s.lt))
  have f20 := f20.kept (hk _ f20.lt (Nat.not_le.mpr f20.lt))
  have f22 := f22.kept (hk _ f22.lt (Nat.not_le.mpr f22.lt))
  obtain ⟨q_f57, z9_, y9_, f57⟩ := hR
  have f57 := SM.sx f57
  have zr_f57 : s.heap.size ≤ r_56 := Nat.le_trans hZ0_ z9_
  refine lv_astore_n (pc := 138) (lv' := [(3, .ref r_56), (5, .long x_17), (0, .ref mo), (1, .int x), (2, .ref r_5), (4, .int y9)]) hx hb dX5_wayNow_138 rfl hl (by decide) rfl (fun ls hl => ?_)
  obtain ⟨x_58, ex_58⟩ : ∃ z9 : Int32, z9 = y9 + 1 := ⟨_, rfl⟩
  refine lv_iinc (pc := 139) (v := x_58) (lv' := [(4, .int x_58), (3, .ref r_56), (5, .long x_17), (0, .ref mo), (1, .int x), (2, .ref r_5)]) hx hb dX5_wayNow_139 hl (k := 5) rfl (by rw [ex_58]; rfl) (by decide) rfl (fun ls hl => ?_)
  refine lv_goto (pc := 142) (tgt := 32) hx hb dX5_wayNow_142 (by decide) ?_
  refine W.widen (k := 49 + 8 * (k + 1)) (n := 175 + m_wS (k + 1)) hWc2 hWs2 ?_
  exact ih_32  (k + 1) _ (E9 + (dgJ x_17 - 1))  r_56 x_58 (by omega) (by omega) (i_up hx9 ex_58) hEn (fun z9 => absurd z9 (by omega)) (by omega) _ _ _ hS fl6 fR6 el6 f57 (lv_sub hl [3, 4, 5, 1, 0] rfl)
set_option maxHeartbeats 20000000 in
set_option maxRecDepth 100000 in
theorem g7_X5_wayNow {p : Program} {l : Launch} {e : Env} {s : State} {m : MethodId} {args : Array Value} {below : List Frame} {meth : Method} {c : Code} {Q : State → Prop} {D : va_G} {tk : Nat → ClassId} {N0 : Nat} {sa : Nat → Nat} (E : CallFix p m c cX5_wayNow 7 s args (wsy yX5_wayNow cX5_wayNow 7 (some (.object "java/lang/String"))) RX5) (hC : Ctx D tk N0 sa s) (hA : ∀ q, (nwA s.heap.size) q → N0 ≤ q) (hn : ∀ q, s.heap.size ≤ q → (nwA s.heap.size) q) (hr : meth.sig.returnType = (some (.object "java/lang/String"))) (hlk : meth.locks = false) (P : Nat → Prop) (hPN : ∀ q, P q → N0 ≤ q) (mo : Nat) (n9 : Nat) (kn : Int32) (th : Int32) (tt : Nat → Int64) (bb : Nat → Int64) (eT : Int64) (eB : Int64) (oT : Int64) (oB : Int64) (pk : Nat) (ca : Int32) (rf : Int32) (vs : Nat → Value) (x : Int32) (k_x : Nat) (hx_x : x = nI k_x) (hk_x : k_x < 6) (nl6 : Nat) (bb6 : Nat) (cap6 : Nat) (ff6 : Nat → Option Nat) (ww6 : Nat → Value) (md6 : Int32) (T : Nat → Int) (u2 : T (nl6 + 1) = 0) (u3 : ∀ i, i < nl6 → ∃ x : Int64, ww6 i = .long x ∧ x.toInt * T (i + 1) + T (i + 2) = T i) (u4 : ∀ i, 1 ≤ i → i ≤ nl6 → 1 ≤ T i ∧ T i ≤ 1000000000) (hlm6 : nl6 ≤ 43) (r_5 : Nat) (v_49 : Nat) (qf20 : Nat) (x_17 : Int64) (n : Nat) (k : Nat) (l9 : Nat) (E9 : Nat) (q9 : Nat) (y9 : Int32) (hf9 : 44 - k < n + 1) (hk9 : k ≤ nl6) (hx9 : y9 = nI k) (hE9 : ((10 ^ E9 : Nat) : Int) * T k ≤ 1000000000) (hZ9 : (k = 0 → E9 = 0)) (hL8 : l9 ≤ 3 * k + E9) (ih_32 : ∀ (k : Nat) (l9 : Nat) (E9 : Nat)(q9 : Nat) (y9 : Int32), 44 - k < n → k ≤ nl6 → y9 = nI k → ((10 ^ E9 : Nat) : Int) * T k ≤ 1000000000 → (k = 0 → E9 = 0) → l9 ≤ 3 * k + E9 → ∀ (H : Heap) (locs : List Loc) (ls : Array Slot), va_S (nwA s.heap.size) s.heap H locs → c1 D r_5 (.inr (7, [.int md6, .ref bb6, .int (nI nl6)])) H → c1 D bb6 (.inl (tk 4, cap6, .inr (.inr (.inr (.inr (ff6)))))) H → EL D 3 nl6 ff6 ww6 H → SX D tk q9 l9 H → lv_has ls 7 [(0, .ref mo), (1, .int x), (2, .ref r_5), (3, .ref q9), (4, .int y9)] → W p l e ({ frames := 8, cells := 393, slots := 14193, locals := 186 } : Room) s m args below meth c H locs (49 + 8 * k) (175 + m_wS k) Q (F0 m 32 ls [])) (hd11 : dgJ x_17 ≤ 11) (hdl : 1 ≤ dgJ x_17) (hEn : ((10 ^ (E9 + (dgJ x_17 - 1)) : Nat) : Int) * T (k + 1) ≤ 1000000000) (hkn : k < nl6) (b0_ : Nat) (hcA : sbC 16 (0 + l9) ≤ 500000) (hcB : sbC (sbC 16 (0 + l9)) (0 + l9 + 0) ≤ 500000) (hcC : sbC (sbC (sbC 16 (0 + l9)) (0 + l9 + 0)) (0 + l9 + 0 + 1) ≤ 500000) (hcD : sbC (sbC (sbC (sbC 16 (0 + l9)) (0 + l9 + 0)) (0 + l9 + 0 + 1)) (0 + l9 + 0 + 1 + dgJ x_17) ≤ 100000000) (hTc2 : 49 + 8 * k + 0 + 0 + 0 + 0 + 0 + 1 + 1 + (sbK 16 (0 + l9)) + 0 + (sbK (sbC 16 (0 + l9)) ((0 + l9) + 0)) + (sbK (sbC (sbC 16 (0 + l9)) ((0 + l9) + 0)) (((0 + l9) + 0) + 1)) + (sbK (sbC (sbC (sbC 16 (0 + l9)) ((0 + l9) + 0)) (((0 + l9) + 0) + 1)) ((((0 + l9) + 0) + 1) + dgJ x_17)) + 2 ≤ 393) (hTs2 : 175 + m_wS k + 0 + 0 + 0 + 0 + 0 + 4 + 16 + (sbS 16 (0 + l9)) + 0 + (sbS (sbC 16 (0 + l9)) ((0 + l9) + 0)) + (sbS (sbC (sbC 16 (0 + l9)) ((0 + l9) + 0)) (((0 + l9) + 0) + 1)) + (sbS (sbC (sbC (sbC 16 (0 + l9)) ((0 + l9) + 0)) (((0 + l9) + 0) + 1)) ((((0 + l9) + 0) + 1) + dgJ x_17)) + (4 + ((((0 + l9) + 0) + 1) + dgJ x_17)) ≤ 14193) (hWc2 : 49 + 8 * k + 0 + 0 + 0 + 0 + 0 + 1 + 1 + (sbK 16 (0 + l9)) + 0 + (sbK (sbC 16 (0 + l9)) ((0 + l9) + 0)) + (sbK (sbC (sbC 16 (0 + l9)) ((0 + l9) + 0)) (((0 + l9) + 0) + 1)) + (sbK (sbC (sbC (sbC 16 (0 + l9)) ((0 + l9) + 0)) (((0 + l9) + 0) + 1)) ((((0 + l9) + 0) + 1) + dgJ x_17)) + 2 ≤ 49 + 8 * (k + 1)) (hWs2 : 175 + m_wS k + 0 + 0 + 0 + 0 + 0 + 4 + 16 + (sbS 16 (0 + l9)) + 0 + (sbS (sbC 16 (0 + l9)) ((0 + l9) + 0)) + (sbS (sbC (sbC 16 (0 + l9)) ((0 + l9) + 0)) (((0 + l9) + 0) + 1)) + (sbS (sbC (sbC (sbC 16 (0 + l9)) ((0 + l9) + 0)) (((0 + l9) + 0) + 1)) ((((0 + l9) + 0) + 1) + dgJ x_17)) + (4 + ((((0 + l9) + 0) + 1) + dgJ x_17)) ≤ 175 + m_wS (k + 1)) (H : Heap) (locs : List Loc) (ls : Array Slot) (hS : va_S (nwA s.heap.size) s.heap H locs) (fl6 : c1 D r_5 (.inr (7, [.int md6, .ref bb6, .int (nI nl6)])) H) (fR6 : c1 D bb6 (.inl (tk 4, cap6, .inr (.inr (.inr (.inr (ff6)))))) H) (el6 : EL D 3 nl6 ff6 ww6 H) (h0s : xf D 0 q9 0 (.ref b0_) H) (h1s : xf D 0 q9 1 (.int 0) H) (h2s : BX tk b0_ l9 H) (f20 : c1 D qf20 (.inr (1, [.ref v_49, .int 0, .int 0, .int (nI ((0 + l9) + 0))])) H) (f22 : BA D tk v_49 (sbC (sbC 16 (0 + l9)) ((0 + l9) + 0)) H) (k59 : SX D tk (sa (10 + 10)) 1 H) (s_f20 : s.heap.size ≤ qf20) (g_f20 : (nwA s.heap.size) qf20) (g_f22 : (nwA s.heap.size) v_49) (l_f20_f22 : qf20 < v_49) (l_fR6_f20 : bb6 < qf20) (l_fR6_f22 : bb6 < v_49) (l_fl6_f20 : r_5 < qf20) (l_fl6_f22 : r_5 < v_49) (l_h0s_f20 : q9 < qf20) (l_h0s_f22 : q9 < v_49) (l_h1s_f20 : q9 < qf20) (l_h1s_f22 : q9 < v_49) (l_h2s_f20 : b0_ < qf20) (l_h2s_f22 : b0_ < v_49) (hl : lv_has ls 7 [(5, .long x_17), (0, .ref mo), (1, .int x), (2, .ref r_5), (3, .ref q9), (4, .int y9)]) : W p l e ({ frames := 8, cells := 393, slots := 14193, locals := 186 } : Room) s m args below meth c H locs (49 + 8 * k + 0 + 0 + 0 + 0 + 0 + 1 + 1 + (sbK 16 (0 + l9)) + 0 + (sbK (sbC 16 (0 + l9)) ((0 + l9) + 0))) (175 + m_wS k + 0 + 0 + 0 + 0 + 0 + 4 + 16 + (sbS 16 (0 + l9)) + 0 + (sbS (sbC 16 (0 + l9)) ((0 + l9) + 0))) Q (F0 m 127 ls [.ref (sa (10 + 10)), .ref qf20]) := by
  obtain ⟨hx, hb, -⟩ := id E
  have hZ0_ := hS.1
  have t_fl6 := fl6.lt
  have t_fR6 := fR6.lt
  have t_h0s := h0s.lt
  have t_h1s := h1s.lt
  have t_h2s := h2s.lt
  have t_f20 := f20.lt
  have t_f22 := f22.lt
  have t_k59 := k59.lt
  refine k_r (pc := 127) (k_V E hC hS hA hl.1 (c1.recv hC f20 rfl) rfl (c_J4_append_15ec4 l D tk N0 sa H.size qf20 v_49 (sbC (sbC 16 (0 + l9)) ((0 + l9) + 0)) ((0 + l9) + 0) (sa (10 + 10)) 1 0 (hA _ g_f20) (hA _ g_f22) (sbC_ge _ _).1 hcB (by decide)) kw_1353 kw_399 kw_400 kw_19 kw_401 (n := 1) (by decide +kernel) rfl ⟨⟨rfl, rfl⟩, ⟨Nat.le_of_ble_eq_true rfl, Nat.le_of_ble_eq_true rfl⟩, (pre1 (pre1 hTc2)), (pre1 (pre1 hTs2))⟩ rfl (Nat.le_of_ble_eq_true rfl) ⟨f20, f22, k59⟩ dX5_wayNow_127) hS (inA2.to g_f20 g_f22) hn (fun r_60 H locs hR hz hk hS => ?_)
  have fl6 := fl6.kept (hk _ fl6.lt (inA2.not (clA.ne fl6.cl f20.cl (hC.oo 7 1 rfl rfl (by decide))) (clA.ne fl6.cl f22.cl (hC.oa 7 1 rfl rfl)) fl6.lt))
  have fR6 := fR6.kept (hk _ fR6.lt (inA2.not (clA.ne fR6.cla f20.cl (hC.ao 1 4 rfl rfl)) (clA.ne fR6.cla f22.cl (hC.aa 4 1 rfl rfl (by dsimp only; decide))) fR6.lt))
  have el6 := el6.keep2 hk (fun q9 h9 => clA.ne h9 f20.cl (hC.ceo (Or.inl rfl) 1 rfl (by decide))) (fun q9 h9 => clA.ne h9 f22.cl (hC.cea (Or.inl rfl) 1 rfl))
  have h0s := h0s.kept (hk _ h0s.lt (inA2.not (clA.ne h0s.cl f20.cl (hC.oo 0 1 rfl rfl (by decide))) (clA.ne h0s.cl f22.cl (hC.oa 0 1 rfl rfl)) h0s.lt))
  have h1s := h1s.kept (hk _ h1s.lt (inA2.not (clA.ne h1s.cl f20.cl (hC.oo 0 1 rfl rfl (by decide))) (clA.ne h1s.cl f22.cl (hC.oa 0 1 rfl rfl)) h1s.lt))
  have h2s := h2s.kept (hk _ h2s.lt (inA2.not (h2s.neo hC f20.cl (ci := 1) rfl) (Nat.ne_of_lt l_h2s_f22) h2s.lt))
  obtain ⟨er9, hR⟩ := hR
  rw [er9]
  obtain ⟨v_61, hv_61, f20, f22⟩ := hR
  have g_f22 := hv_61.elim (fun e9 => e9 ▸ g_f22) (fun z9 => hn _ (Nat.le_trans hZ0_ z9))
  have l_fl6_f22 : r_5 < v_61 := hv_61.elim (fun e9 => e9 ▸ l_fl6_f22) (fun z9 => Nat.lt_of_lt_of_le t_fl6 z9)
  have l_fR6_f22 : bb6 < v_61 := hv_61.elim (fun e9 => e9 ▸ l_fR6_f22) (fun z9 => Nat.lt_of_lt_of_le t_fR6 z9)
  have l_h0s_f22 : q9 < v_61 := hv_61.elim (fun e9 => e9 ▸ l_h0s_f22) (fun z9 => Nat.lt_of_lt_of_le t_h0s z9)
  have l_h1s_f22 : q9 < v_61 := hv_61.elim (fun e9 => e9 ▸ l_h1s_f22) (fun z9 => Nat.lt_of_lt_of_le t_h1s z9)
  have l_h2s_f22 : b0_ < v_61 := hv_61.elim (fun e9 => e9 ▸ l_h2s_f22) (fun z9 => Nat.lt_of_lt_of_le t_h2s z9)
  have l_f20_f22 : qf20 < v_61 := hv_61.elim (fun e9 => e9 ▸ l_f20_f22) (fun z9 => Nat.lt_of_lt_of_le t_f20 z9)
  have hv_61 := hv_61.imp_right (fun z9 => Nat.le_trans hZ0_ z9)
  refine lv_lload (pc := 130) hx hb dX5_wayNow_130 (lv_at hl 0 rfl) ?_
  have hZ0_ := hS.1
  have t_fl6 := fl6.lt
  have t_fR6 := fR6.lt
  have t_h0s := h0s.lt
  have t_h1s := h1s.lt
  have t_h2s := h2s.lt
  have t_f20 := f20.lt
  have t_f22 := f22.lt
  refine k_r (pc := 132) (k_V E hC hS hA hl.1 (c1.recv hC f20 rfl) rfl (c_J4_append_f7089 l D tk N0 sa H.size qf20 v_61 (sbC (sbC (sbC 16 (0 + l9)) ((0 + l9) + 0)) (((0 + l9) + 0) + 1)) (((0 + l9) + 0) + 1) 0 x_17 (hA _ g_f20) (hA _ g_f22) (sbC_ge _ _).1 hcC) kw_1354 kw_1355 kw_1356 kw_19 kw_1357 (n := 1) (by decide +kernel) rfl ⟨⟨rfl, rfl⟩, ⟨Nat.le_of_ble_eq_true rfl, Nat.le_of_ble_eq_true rfl⟩, (pre1 hTc2), (pre1 hTs2)⟩ rfl (Nat.le_of_ble_eq_true rfl) ⟨f20, f22⟩ dX5_wayNow_132) hS (inA2.to g_f20 g_f22) hn (fun r_62 H locs hR hz hk hS => ?_)
  have fl6 := fl6.kept (hk _ fl6.lt (inA2.not (clA.ne fl6.cl f20.cl (hC.oo 7 1 rfl rfl (by decide))) (clA.ne fl6.cl f22.cl (hC.oa 7 1 rfl rfl)) fl6.lt))
  have fR6 := fR6.kept (hk _ fR6.lt (inA2.not (clA.ne fR6.cla f20.cl (hC.ao 1 4 rfl rfl)) (clA.ne fR6.cla f22.cl (hC.aa 4 1 rfl rfl (by dsimp only; decide))) fR6.lt))
  have el6 := el6.keep2 hk (fun q9 h9 => clA.ne h9 f20.cl (hC.ceo (Or.inl rfl) 1 rfl (by decide))) (fun q9 h9 => clA.ne h9 f22.cl (hC.cea (Or.inl rfl) 1 rfl))
  have h0s := h0s.kept (hk _ h0s.lt (inA2.not (clA.ne h0s.cl f20.cl (hC.oo 0 1 rfl rfl (by decide))) (clA.ne h0s.cl f22.cl (hC.oa 0 1 rfl rfl)) h0s.lt))
  have h1s := h1s.kept (hk _ h1s.lt (inA2.not (clA.ne h1s.cl f20.cl (hC.oo 0 1 rfl rfl (by decide))) (clA.ne h1s.cl f22.cl (hC.oa 0 1 rfl rfl)) h1s.lt))
  have h2s := h2s.kept (hk _ h2s.lt (inA2.not (h2s.neo hC f20.cl (ci := 1) rfl) (Nat.ne_of_lt l_h2s_f22) h2s.lt))
  obtain ⟨er9, hR⟩ := hR
  rw [er9]
  obtain ⟨v_63, hv_63, f20, f22⟩ := hR
  have g_f22 := hv_63.elim (fun e9 => e9 ▸ g_f22) (fun z9 => hn _ (Nat.le_trans hZ0_ z9))
  have l_fl6_f22 : r_5 < v_63 := hv_63.elim (fun e9 => e9 ▸ l_fl6_f22) (fun z9 => Nat.lt_of_lt_of_le t_fl6 z9)
  have l_fR6_f22 : bb6 < v_63 := hv_63.elim (fun e9 => e9 ▸ l_fR6_f22) (fun z9 => Nat.lt_of_lt_of_le t_fR6 z9)
  have l_h0s_f22 : q9 < v_63 := hv_63.elim (fun e9 => e9 ▸ l_h0s_f22) (fun z9 => Nat.lt_of_lt_of_le t_h0s z9)
  have l_h1s_f22 : q9 < v_63 := hv_63.elim (fun e9 => e9 ▸ l_h1s_f22) (fun z9 => Nat.lt_of_lt_of_le t_h1s z9)
  have l_h2s_f22 : b0_ < v_63 := hv_63.elim (fun e9 => e9 ▸ l_h2s_f22) (fun z9 => Nat.lt_of_lt_of_le t_h2s z9)
  have l_f20_f22 : qf20 < v_63 := hv_63.elim (fun e9 => e9 ▸ l_f20_f22) (fun z9 => Nat.lt_of_lt_of_le t_f20 z9)
  have hv_63 := hv_63.imp_right (fun z9 => Nat.le_trans hZ0_ z9)
  have hv_63 := hv_63.elim (fun e9 => e9 ▸ hv_61) Or.inr
  have hZ0_ := hS.1
  have t_fl6 := fl6.lt
  have t_fR6 := fR6.lt
  have t_h0s := h0s.lt
  have t_h1s := h1s.lt
  have t_h2s := h2s.lt
  have t_f20 := f20.lt
  have t_f22 := f22.lt
  refine k_r (pc := 135) (k_V E hC hS hA hl.1 (c1.recv hC f20 rfl) rfl (c_J4_toString_0e30d l D tk N0 sa H.size qf20 v_63 (sbC (sbC (sbC (sbC 16 (0 + l9)) ((0 + l9) + 0)) (((0 + l9) + 0) + 1)) ((((0 + l9) + 0) + 1) + dgJ x_17)) ((((0 + l9) + 0) + 1) + dgJ x_17) 0 (sbC_ge _ _).1 hcD) kw_1381 kw_316 kw_317 kw_19 kw_318 (n := 0) (by decide +kernel) rfl ⟨⟨rfl, rfl⟩, ⟨Nat.le_of_ble_eq_true rfl, Nat.le_of_ble_eq_true rfl⟩, hTc2, hTs2⟩ rfl (Nat.le_of_ble_eq_true rfl) ⟨f20, f22⟩ dX5_wayNow_135) hS (fun q z w => absurd w (Nat.not_le.mpr z)) hn (fun r_64 H locs hR hz hk hS => ?_)
  have fl6 := fl6.kept (hk _ fl6.lt (Nat.not_le.mpr fl6.lt))
  have fR6 := fR6.kept (hk _ fR6.lt (Nat.not_le.mpr fR6.lt))
  have el6 := el6.new hk
  have h0s := h0s.kept (hk _ h0s.lt (Nat.not_le.mpr h0s.lt))
  have h1s := h1s.kept (hk _ h1s.lt (Nat.not_le.mpr h1s.lt))
  have h2s := h2s.kept (hk _ h2s.lt (Nat.not_le.mpr h2s.lt))
  have f20 := f20.kept (hk _ f20.lt (Nat.not_le.mpr f20.lt))
  have f22 := f22.kept (hk _ f22.lt (Nat.not_le.mpr f22.lt))
  obtain ⟨q_f65, z9_, y9_, f65⟩ := hR
  have f65 := SM.sx f65
  have zr_f65 : s.heap.size ≤ r_64 := Nat.le_trans hZ0_ z9_
  refine lv_astore_n (pc := 138) (lv' := [(3, .ref r_64), (5, .long x_17), (0, .ref mo), (1, .int x), (2, .ref r_5), (4, .int y9)]) hx hb dX5_wayNow_138 rfl hl (by decide) rfl (fun ls hl => ?_)
  obtain ⟨x_66, ex_66⟩ : ∃ z9 : Int32, z9 = y9 + 1 := ⟨_, rfl⟩
  refine lv_iinc (pc := 139) (v := x_66) (lv' := [(4, .int x_66), (3, .ref r_64), (5, .long x_17), (0, .ref mo), (1, .int x), (2, .ref r_5)]) hx hb dX5_wayNow_139 hl (k := 5) rfl (by rw [ex_66]; rfl) (by decide) rfl (fun ls hl => ?_)
  refine lv_goto (pc := 142) (tgt := 32) hx hb dX5_wayNow_142 (by decide) ?_
  refine W.widen (k := 49 + 8 * (k + 1)) (n := 175 + m_wS (k + 1)) hWc2 hWs2 ?_
  exact ih_32  (k + 1) _ (E9 + (dgJ x_17 - 1))  r_64 x_66 (by omega) (by omega) (i_up hx9 ex_66) hEn (fun z9 => absurd z9 (by omega)) (by omega) _ _ _ hS fl6 fR6 el6 f65 (lv_sub hl [3, 4, 5, 1, 0] rfl)
set_option maxHeartbeats 20000000 in
set_option maxRecDepth 100000 in
theorem g5_X5_wayNow {p : Program} {l : Launch} {e : Env} {s : State} {m : MethodId} {args : Array Value} {below : List Frame} {meth : Method} {c : Code} {Q : State → Prop} {D : va_G} {tk : Nat → ClassId} {N0 : Nat} {sa : Nat → Nat} (E : CallFix p m c cX5_wayNow 7 s args (wsy yX5_wayNow cX5_wayNow 7 (some (.object "java/lang/String"))) RX5) (hC : Ctx D tk N0 sa s) (hA : ∀ q, (nwA s.heap.size) q → N0 ≤ q) (hn : ∀ q, s.heap.size ≤ q → (nwA s.heap.size) q) (hr : meth.sig.returnType = (some (.object "java/lang/String"))) (hlk : meth.locks = false) (P : Nat → Prop) (hPN : ∀ q, P q → N0 ≤ q) (mo : Nat) (n9 : Nat) (kn : Int32) (th : Int32) (tt : Nat → Int64) (bb : Nat → Int64) (eT : Int64) (eB : Int64) (oT : Int64) (oB : Int64) (pk : Nat) (ca : Int32) (rf : Int32) (vs : Nat → Value) (x : Int32) (k_x : Nat) (hx_x : x = nI k_x) (hk_x : k_x < 6) (nl6 : Nat) (bb6 : Nat) (cap6 : Nat) (ff6 : Nat → Option Nat) (ww6 : Nat → Value) (md6 : Int32) (T : Nat → Int) (u2 : T (nl6 + 1) = 0) (u3 : ∀ i, i < nl6 → ∃ x : Int64, ww6 i = .long x ∧ x.toInt * T (i + 1) + T (i + 2) = T i) (u4 : ∀ i, 1 ≤ i → i ≤ nl6 → 1 ≤ T i ∧ T i ≤ 1000000000) (hlm6 : nl6 ≤ 43) (r_5 : Nat) (v_24 : Nat) (qf20 : Nat) (x_17 : Int64) (n : Nat) (k : Nat) (l9 : Nat) (E9 : Nat) (q9 : Nat) (y9 : Int32) (hf9 : 44 - k < n + 1) (hk9 : k ≤ nl6) (hx9 : y9 = nI k) (hE9 : ((10 ^ E9 : Nat) : Int) * T k ≤ 1000000000) (hZ9 : (k = 0 → E9 = 0)) (hL8 : l9 ≤ 3 * k + E9) (ih_32 : ∀ (k : Nat) (l9 : Nat) (E9 : Nat)(q9 : Nat) (y9 : Int32), 44 - k < n → k ≤ nl6 → y9 = nI k → ((10 ^ E9 : Nat) : Int) * T k ≤ 1000000000 → (k = 0 → E9 = 0) → l9 ≤ 3 * k + E9 → ∀ (H : Heap) (locs : List Loc) (ls : Array Slot), va_S (nwA s.heap.size) s.heap H locs → c1 D r_5 (.inr (7, [.int md6, .ref bb6, .int (nI nl6)])) H → c1 D bb6 (.inl (tk 4, cap6, .inr (.inr (.inr (.inr (ff6)))))) H → EL D 3 nl6 ff6 ww6 H → SX D tk q9 l9 H → lv_has ls 7 [(0, .ref mo), (1, .int x), (2, .ref r_5), (3, .ref q9), (4, .int y9)] → W p l e ({ frames := 8, cells := 393, slots := 14193, locals := 186 } : Room) s m args below meth c H locs (49 + 8 * k) (175 + m_wS k) Q (F0 m 32 ls [])) (hd11 : dgJ x_17 ≤ 11) (hdl : 1 ≤ dgJ x_17) (hEn : ((10 ^ (E9 + (dgJ x_17 - 1)) : Nat) : Int) * T (k + 1) ≤ 1000000000) (hkn : k < nl6) (b0_ : Nat) (hcA : sbC 16 (0 + l9) ≤ 500000) (hcB : sbC (sbC 16 (0 + l9)) (0 + l9 + 0) ≤ 500000) (hcC : sbC (sbC (sbC 16 (0 + l9)) (0 + l9 + 0)) (0 + l9 + 0 + 1) ≤ 500000) (hcD : sbC (sbC (sbC (sbC 16 (0 + l9)) (0 + l9 + 0)) (0 + l9 + 0 + 1)) (0 + l9 + 0 + 1 + dgJ x_17) ≤ 100000000) (hTc1 : 49 + 8 * k + 0 + 0 + 0 + 0 + 0 + 1 + 1 + (sbK 16 (0 + l9)) + 0 + (sbK (sbC 16 (0 + l9)) ((0 + l9) + 1)) + (sbK (sbC (sbC 16 (0 + l9)) ((0 + l9) + 1)) (((0 + l9) + 1) + 1)) + (sbK (sbC (sbC (sbC 16 (0 + l9)) ((0 + l9) + 1)) (((0 + l9) + 1) + 1)) ((((0 + l9) + 1) + 1) + dgJ x_17)) + 2 ≤ 393) (hTs1 : 175 + m_wS k + 0 + 0 + 0 + 0 + 0 + 4 + 16 + (sbS 16 (0 + l9)) + 0 + (sbS (sbC 16 (0 + l9)) ((0 + l9) + 1)) + (sbS (sbC (sbC 16 (0 + l9)) ((0 + l9) + 1)) (((0 + l9) + 1) + 1)) + (sbS (sbC (sbC (sbC 16 (0 + l9)) ((0 + l9) + 1)) (((0 + l9) + 1) + 1)) ((((0 + l9) + 1) + 1) + dgJ x_17)) + (4 + ((((0 + l9) + 1) + 1) + dgJ x_17)) ≤ 14193) (hWc1 : 49 + 8 * k + 0 + 0 + 0 + 0 + 0 + 1 + 1 + (sbK 16 (0 + l9)) + 0 + (sbK (sbC 16 (0 + l9)) ((0 + l9) + 1)) + (sbK (sbC (sbC 16 (0 + l9)) ((0 + l9) + 1)) (((0 + l9) + 1) + 1)) + (sbK (sbC (sbC (sbC 16 (0 + l9)) ((0 + l9) + 1)) (((0 + l9) + 1) + 1)) ((((0 + l9) + 1) + 1) + dgJ x_17)) + 2 ≤ 49 + 8 * (k + 1)) (hWs1 : 175 + m_wS k + 0 + 0 + 0 + 0 + 0 + 4 + 16 + (sbS 16 (0 + l9)) + 0 + (sbS (sbC 16 (0 + l9)) ((0 + l9) + 1)) + (sbS (sbC (sbC 16 (0 + l9)) ((0 + l9) + 1)) (((0 + l9) + 1) + 1)) + (sbS (sbC (sbC (sbC 16 (0 + l9)) ((0 + l9) + 1)) (((0 + l9) + 1) + 1)) ((((0 + l9) + 1) + 1) + dgJ x_17)) + (4 + ((((0 + l9) + 1) + 1) + dgJ x_17)) ≤ 175 + m_wS (k + 1)) (hTc2 : 49 + 8 * k + 0 + 0 + 0 + 0 + 0 + 1 + 1 + (sbK 16 (0 + l9)) + 0 + (sbK (sbC 16 (0 + l9)) ((0 + l9) + 0)) + (sbK (sbC (sbC 16 (0 + l9)) ((0 + l9) + 0)) (((0 + l9) + 0) + 1)) + (sbK (sbC (sbC (sbC 16 (0 + l9)) ((0 + l9) + 0)) (((0 + l9) + 0) + 1)) ((((0 + l9) + 0) + 1) + dgJ x_17)) + 2 ≤ 393) (hTs2 : 175 + m_wS k + 0 + 0 + 0 + 0 + 0 + 4 + 16 + (sbS 16 (0 + l9)) + 0 + (sbS (sbC 16 (0 + l9)) ((0 + l9) + 0)) + (sbS (sbC (sbC 16 (0 + l9)) ((0 + l9) + 0)) (((0 + l9) + 0) + 1)) + (sbS (sbC (sbC (sbC 16 (0 + l9)) ((0 + l9) + 0)) (((0 + l9) + 0) + 1)) ((((0 + l9) + 0) + 1) + dgJ x_17)) + (4 + ((((0 + l9) + 0) + 1) + dgJ x_17)) ≤ 14193) (hWc2 : 49 + 8 * k + 0 + 0 + 0 + 0 + 0 + 1 + 1 + (sbK 16 (0 + l9)) + 0 + (sbK (sbC 16 (0 + l9)) ((0 + l9) + 0)) + (sbK (sbC (sbC 16 (0 + l9)) ((0 + l9) + 0)) (((0 + l9) + 0) + 1)) + (sbK (sbC (sbC (sbC 16 (0 + l9)) ((0 + l9) + 0)) (((0 + l9) + 0) + 1)) ((((0 + l9) + 0) + 1) + dgJ x_17)) + 2 ≤ 49 + 8 * (k + 1)) (hWs2 : 175 + m_wS k + 0 + 0 + 0 + 0 + 0 + 4 + 16 + (sbS 16 (0 + l9)) + 0 + (sbS (sbC 16 (0 + l9)) ((0 + l9) + 0)) + (sbS (sbC (sbC 16 (0 + l9)) ((0 + l9) + 0)) (((0 + l9) + 0) + 1)) + (sbS (sbC (sbC (sbC 16 (0 + l9)) ((0 + l9) + 0)) (((0 + l9) + 0) + 1)) ((((0 + l9) + 0) + 1) + dgJ x_17)) + (4 + ((((0 + l9) + 0) + 1) + dgJ x_17)) ≤ 175 + m_wS (k + 1)) (H : Heap) (locs : List Loc) (ls : Array Slot) (hS : va_S (nwA s.heap.size) s.heap H locs) (fl6 : c1 D r_5 (.inr (7, [.int md6, .ref bb6, .int (nI nl6)])) H) (fR6 : c1 D bb6 (.inl (tk 4, cap6, .inr (.inr (.inr (.inr (ff6)))))) H) (el6 : EL D 3 nl6 ff6 ww6 H) (h0s : xf D 0 q9 0 (.ref b0_) H) (h1s : xf D 0 q9 1 (.int 0) H) (h2s : BX tk b0_ l9 H) (f20 : c1 D qf20 (.inr (1, [.ref v_24, .int 0, .int 0, .int (nI (0 + l9))])) H) (f22 : BA D tk v_24 (sbC 16 (0 + l9)) H) (k47 : SX D tk (sa (10 + 6)) 0 H) (s_f20 : s.heap.size ≤ qf20) (g_f20 : (nwA s.heap.size) qf20) (g_f22 : (nwA s.heap.size) v_24) (l_f20_f22 : qf20 < v_24) (l_fR6_f20 : bb6 < qf20) (l_fR6_f22 : bb6 < v_24) (l_fl6_f20 : r_5 < qf20) (l_fl6_f22 : r_5 < v_24) (l_h0s_f20 : q9 < qf20) (l_h0s_f22 : q9 < v_24) (l_h1s_f20 : q9 < qf20) (l_h1s_f22 : q9 < v_24) (l_h2s_f20 : b0_ < qf20) (l_h2s_f22 : b0_ < v_24) (hl : lv_has ls 7 [(5, .long x_17), (0, .ref mo), (1, .int x), (2, .ref r_5), (3, .ref q9), (4, .int y9)]) : W p l e ({ frames := 8, cells := 393, slots := 14193, locals := 186 } : Room) s m args below meth c H locs (49 + 8 * k + 0 + 0 + 0 + 0 + 0 + 1 + 1 + (sbK 16 (0 + l9)) + 0) (175 + m_wS k + 0 + 0 + 0 + 0 + 0 + 4 + 16 + (sbS 16 (0 + l9)) + 0) Q (F0 m 108 ls [.ref (sa (10 + 6)), .ref qf20]) := by
  obtain ⟨hx, hb, -⟩ := id E
  have hZ0_ := hS.1
  have t_fl6 := fl6.lt
  have t_fR6 := fR6.lt
  have t_h0s := h0s.lt
  have t_h1s := h1s.lt
  have t_h2s := h2s.lt
  have t_f20 := f20.lt
  have t_f22 := f22.lt
  have t_k47 := k47.lt
  refine k_r (pc := 108) (k_V E hC hS hA hl.1 (c1.recv hC f20 rfl) rfl (c_J4_append_15ec4 l D tk N0 sa H.size qf20 v_24 (sbC 16 (0 + l9)) (0 + l9) (sa (10 + 6)) 0 0 (hA _ g_f20) (hA _ g_f22) (sbC_ge _ _).1 hcA (by decide)) kw_1353 kw_399 kw_400 kw_19 kw_401 (n := 1) (by decide +kernel) rfl ⟨⟨rfl, rfl⟩, ⟨Nat.le_of_ble_eq_true rfl, Nat.le_of_ble_eq_true rfl⟩, (pre1 (pre1 (pre1 hTc2))), (pre1 (pre1 (pre1 hTs2)))⟩ rfl (Nat.le_of_ble_eq_true rfl) ⟨f20, f22, k47⟩ dX5_wayNow_108) hS (inA2.to g_f20 g_f22) hn (fun r_48 H locs hR hz hk hS => ?_)
  have fl6 := fl6.kept (hk _ fl6.lt (inA2.not (clA.ne fl6.cl f20.cl (hC.oo 7 1 rfl rfl (by decide))) (clA.ne fl6.cl f22.cl (hC.oa 7 1 rfl rfl)) fl6.lt))
  have fR6 := fR6.kept (hk _ fR6.lt (inA2.not (clA.ne fR6.cla f20.cl (hC.ao 1 4 rfl rfl)) (clA.ne fR6.cla f22.cl (hC.aa 4 1 rfl rfl (by dsimp only; decide))) fR6.lt))
  have el6 := el6.keep2 hk (fun q9 h9 => clA.ne h9 f20.cl (hC.ceo (Or.inl rfl) 1 rfl (by decide))) (fun q9 h9 => clA.ne h9 f22.cl (hC.cea (Or.inl rfl) 1 rfl))
  have h0s := h0s.kept (hk _ h0s.lt (inA2.not (clA.ne h0s.cl f20.cl (hC.oo 0 1 rfl rfl (by decide))) (clA.ne h0s.cl f22.cl (hC.oa 0 1 rfl rfl)) h0s.lt))
  have h1s := h1s.kept (hk _ h1s.lt (inA2.not (clA.ne h1s.cl f20.cl (hC.oo 0 1 rfl rfl (by decide))) (clA.ne h1s.cl f22.cl (hC.oa 0 1 rfl rfl)) h1s.lt))
  have h2s := h2s.kept (hk _ h2s.lt (inA2.not (h2s.neo hC f20.cl (ci := 1) rfl) (Nat.ne_of_lt l_h2s_f22) h2s.lt))
  obtain ⟨er9, hR⟩ := hR
  rw [er9]
  obtain ⟨v_49, hv_49, f20, f22⟩ := hR
  have g_f22 := hv_49.elim (fun e9 => e9 ▸ g_f22) (fun z9 => hn _ (Nat.le_trans hZ0_ z9))
  have l_fl6_f22 : r_5 < v_49 := hv_49.elim (fun e9 => e9 ▸ l_fl6_f22) (fun z9 => Nat.lt_of_lt_of_le t_fl6 z9)
  have l_fR6_f22 : bb6 < v_49 := hv_49.elim (fun e9 => e9 ▸ l_fR6_f22) (fun z9 => Nat.lt_of_lt_of_le t_fR6 z9)
  have l_h0s_f22 : q9 < v_49 := hv_49.elim (fun e9 => e9 ▸ l_h0s_f22) (fun z9 => Nat.lt_of_lt_of_le t_h0s z9)
  have l_h1s_f22 : q9 < v_49 := hv_49.elim (fun e9 => e9 ▸ l_h1s_f22) (fun z9 => Nat.lt_of_lt_of_le t_h1s z9)
  have l_h2s_f22 : b0_ < v_49 := hv_49.elim (fun e9 => e9 ▸ l_h2s_f22) (fun z9 => Nat.lt_of_lt_of_le t_h2s z9)
  have l_f20_f22 : qf20 < v_49 := hv_49.elim (fun e9 => e9 ▸ l_f20_f22) (fun z9 => Nat.lt_of_lt_of_le t_f20 z9)
  have hv_49 := hv_49.imp_right (fun z9 => Nat.le_trans hZ0_ z9)
  refine lv_iload (pc := 111) hx hb dX5_wayNow_111 (lv_at hl 5 rfl) ?_
  refine lv_iconst (pc := 113) (v := 2) hx hb dX5_wayNow_113 (by decide) ?_
  refine lv_irem (pc := 114) hx hb dX5_wayNow_114 (by decide) ?_
  refine lv_if_ne (pc := 115) (tgt := 124) hx hb dX5_wayNow_115 (by decide) (fun c_50 => ?_) (fun c_50 => ?_)
  · refine r_ldcwS (pc := 124) E hC 11 _ rfl rfl rfl dX5_wayNow_124 ?_
    have k51 : SX D tk (sa (10 + 11)) 1 H := hC.str hS hA 11 _ rfl (by decide)
    exact g6_X5_wayNow E hC hA hn hr hlk P hPN mo n9 kn th tt bb eT eB oT oB pk ca rf vs x k_x hx_x hk_x nl6 bb6 cap6 ff6 ww6 md6 T u2 u3 u4 hlm6 r_5 v_49 qf20 x_17 n k l9 E9 q9 y9 hf9 hk9 hx9 hE9 hZ9 hL8 ih_32 hd11 hdl hEn hkn b0_ hcA hcB hcC hcD hTc2 hTs2 hWc2 hWs2 _ _ _ hS fl6 fR6 el6 h0s h1s h2s f20 f22 k51 s_f20 g_f20 g_f22 l_f20_f22 l_fR6_f20 l_fR6_f22 l_fl6_f20 l_fl6_f22 l_h0s_f20 l_h0s_f22 l_h1s_f20 l_h1s_f22 l_h2s_f20 l_h2s_f22 hl
  · refine r_ldcwS (pc := 118) E hC 10 _ rfl rfl rfl dX5_wayNow_118 ?_
    have k59 : SX D tk (sa (10 + 10)) 1 H := hC.str hS hA 10 _ rfl (by decide)
    refine lv_goto (pc := 121) (tgt := 127) hx hb dX5_wayNow_121 (by decide) ?_
    exact g7_X5_wayNow E hC hA hn hr hlk P hPN mo n9 kn th tt bb eT eB oT oB pk ca rf vs x k_x hx_x hk_x nl6 bb6 cap6 ff6 ww6 md6 T u2 u3 u4 hlm6 r_5 v_49 qf20 x_17 n k l9 E9 q9 y9 hf9 hk9 hx9 hE9 hZ9 hL8 ih_32 hd11 hdl hEn hkn b0_ hcA hcB hcC hcD hTc2 hTs2 hWc2 hWs2 _ _ _ hS fl6 fR6 el6 h0s h1s h2s f20 f22 k59 s_f20 g_f20 g_f22 l_f20_f22 l_fR6_f20 l_fR6_f22 l_fl6_f20 l_fl6_f22 l_h0s_f20 l_h0s_f22 l_h1s_f20 l_h1s_f22 l_h2s_f20 l_h2s_f22 hl
set_option maxHeartbeats 20000000 in
set_option maxRecDepth 100000 in
theorem g1_X5_wayNow {p : Program} {l : Launch} {e : Env} {s : State} {m : MethodId} {args : Array Value} {below : List Frame} {meth : Method} {c : Code} {Q : State → Prop} {D : va_G} {tk : Nat → ClassId} {N0 : Nat} {sa : Nat → Nat} (E : CallFix p m c cX5_wayNow 7 s args (wsy yX5_wayNow cX5_wayNow 7 (some (.object "java/lang/String"))) RX5) (hC : Ctx D tk N0 sa s) (hA : ∀ q, (nwA s.heap.size) q → N0 ≤ q) (hn : ∀ q, s.heap.size ≤ q → (nwA s.heap.size) q) (hr : meth.sig.returnType = (some (.object "java/lang/String"))) (hlk : meth.locks = false) (P : Nat → Prop) (hPN : ∀ q, P q → N0 ≤ q) (mo : Nat) (n9 : Nat) (kn : Int32) (th : Int32) (tt : Nat → Int64) (bb : Nat → Int64) (eT : Int64) (eB : Int64) (oT : Int64) (oB : Int64) (pk : Nat) (ca : Int32) (rf : Int32) (vs : Nat → Value) (x : Int32) (k_x : Nat) (hx_x : x = nI k_x) (hk_x : k_x < 6) (nl6 : Nat) (bb6 : Nat) (cap6 : Nat) (ff6 : Nat → Option Nat) (ww6 : Nat → Value) (md6 : Int32) (T : Nat → Int) (u2 : T (nl6 + 1) = 0) (u3 : ∀ i, i < nl6 → ∃ x : Int64, ww6 i = .long x ∧ x.toInt * T (i + 1) + T (i + 2) = T i) (u4 : ∀ i, 1 ≤ i → i ≤ nl6 → 1 ≤ T i ∧ T i ≤ 1000000000) (hlm6 : nl6 ≤ 43) (r_5 : Nat) (x_17 : Int64) (n : Nat) (k : Nat) (l9 : Nat) (E9 : Nat) (q9 : Nat) (y9 : Int32) (hf9 : 44 - k < n + 1) (hk9 : k ≤ nl6) (hx9 : y9 = nI k) (hE9 : ((10 ^ E9 : Nat) : Int) * T k ≤ 1000000000) (hZ9 : (k = 0 → E9 = 0)) (hL8 : l9 ≤ 3 * k + E9) (ih_32 : ∀ (k : Nat) (l9 : Nat) (E9 : Nat)(q9 : Nat) (y9 : Int32), 44 - k < n → k ≤ nl6 → y9 = nI k → ((10 ^ E9 : Nat) : Int) * T k ≤ 1000000000 → (k = 0 → E9 = 0) → l9 ≤ 3 * k + E9 → ∀ (H : Heap) (locs : List Loc) (ls : Array Slot), va_S (nwA s.heap.size) s.heap H locs → c1 D r_5 (.inr (7, [.int md6, .ref bb6, .int (nI nl6)])) H → c1 D bb6 (.inl (tk 4, cap6, .inr (.inr (.inr (.inr (ff6)))))) H → EL D 3 nl6 ff6 ww6 H → SX D tk q9 l9 H → lv_has ls 7 [(0, .ref mo), (1, .int x), (2, .ref r_5), (3, .ref q9), (4, .int y9)] → W p l e ({ frames := 8, cells := 393, slots := 14193, locals := 186 } : Room) s m args below meth c H locs (49 + 8 * k) (175 + m_wS k) Q (F0 m 32 ls [])) (b0_ : Nat) (xe10 : Int64) (hkn : k < nl6) (hmn : x_17.toInt ≤ xe10.toInt ∧ xe10.toInt ≤ x_17.toInt + 1 ∧ x_17.toInt.natAbs < 10000000000) (hST : xe10.toInt * T (k + 1) + T (k + 2) = T k ∧ 1 ≤ T (k + 1) ∧ T (k + 1) ≤ 1000000000 ∧ 0 ≤ T (k + 2)) (c_18 : ¬ (x_17 ≤ 0)) (H : Heap) (locs : List Loc) (ls : Array Slot) (hS : va_S (nwA s.heap.size) s.heap H locs) (fl6 : c1 D r_5 (.inr (7, [.int md6, .ref bb6, .int (nI nl6)])) H) (fR6 : c1 D bb6 (.inl (tk 4, cap6, .inr (.inr (.inr (.inr (ff6)))))) H) (el6 : EL D 3 nl6 ff6 ww6 H) (h0s : xf D 0 q9 0 (.ref b0_) H) (h1s : xf D 0 q9 1 (.int 0) H) (h2s : BX tk b0_ l9 H) (hl : lv_has ls 7 [(5, .long x_17), (0, .ref mo), (1, .int x), (2, .ref r_5), (3, .ref q9), (4, .int y9)]) : W p l e ({ frames := 8, cells := 393, slots := 14193, locals := 186 } : Room) s m args below meth c H locs (49 + 8 * k + 0 + 0 + 0 + 0 + 0) (175 + m_wS k + 0 + 0 + 0 + 0 + 0) Q (F0 m 83 ls []) := by
  obtain ⟨hx, hb, -⟩ := id E
  have hy1 : 1 ≤ x_17.toInt := by
    have h9 := Int64.lt_iff_toInt_lt.mp (Int64.not_le.mp c_18)
    have e0 : (0 : Int64).toInt = 0 := rfl
    omega
  have hdl := m_dgL hy1
  have hEn := m_stE hE9 hST.1 hST.2.1 hST.2.2.2 hdl.2 hmn.1
  have hE8 := m_E9 hEn hST.2.1
  have hd11 : dgJ x_17 ≤ 11 := m_dg hmn.2.2
  have hws : m_wS (k + 1) = m_wS k + (12 * k + 74) := rfl
  have hwb := m_wSB (k := k + 1) (by omega)
  have hl2 : l9 ≤ 2000 := by omega
  have hl4 : l9 ≤ 400000 := by omega
  have hct0 := m_cat4 0 1 hl2 (d1 := dgJ x_17) (by omega)
  have hct1 := m_cat4 1 1 hl2 (d1 := dgJ x_17) (by omega)
  have hNc : 49 + 8 * (k + 1) ≤ 393 := by omega
  have hNs : 175 + m_wS (k + 1) ≤ 14193 := by omega
  have hWc1 : 49 + 8 * k + 0 + 0 + 0 + 0 + 0 + 1 + 1 + (sbK 16 (0 + l9)) + 0 + (sbK (sbC 16 (0 + l9)) ((0 + l9) + 1)) + (sbK (sbC (sbC 16 (0 + l9)) ((0 + l9) + 1)) (((0 + l9) + 1) + 1)) + (sbK (sbC (sbC (sbC 16 (0 + l9)) ((0 + l9) + 1)) (((0 + l9) + 1) + 1)) ((((0 + l9) + 1) + 1) + dgJ x_17)) + 2 ≤ 49 + 8 * (k + 1) := by have k0_ := tx_k1 16 (0 + l9); have k1_ := tx_k1 (sbC 16 (0 + l9)) ((0 + l9) + 1); have k2_ := tx_k1 (sbC (sbC 16 (0 + l9)) ((0 + l9) + 1)) (((0 + l9) + 1) + 1); have k3_ := tx_k1 (sbC (sbC (sbC 16 (0 + l9)) ((0 + l9) + 1)) (((0 + l9) + 1) + 1)) ((((0 + l9) + 1) + 1) + dgJ x_17); omega
  have hWs1 : 175 + m_wS k + 0 + 0 + 0 + 0 + 0 + 4 + 16 + (sbS 16 (0 + l9)) + 0 + (sbS (sbC 16 (0 + l9)) ((0 + l9) + 1)) + (sbS (sbC (sbC 16 (0 + l9)) ((0 + l9) + 1)) (((0 + l9) + 1) + 1)) + (sbS (sbC (sbC (sbC 16 (0 + l9)) ((0 + l9) + 1)) (((0 + l9) + 1) + 1)) ((((0 + l9) + 1) + 1) + dgJ x_17)) + (4 + ((((0 + l9) + 1) + 1) + dgJ x_17)) ≤ 175 + m_wS (k + 1) := by have h7 := hct1.2.1; omega
  have hTc1 : 49 + 8 * k + 0 + 0 + 0 + 0 + 0 + 1 + 1 + (sbK 16 (0 + l9)) + 0 + (sbK (sbC 16 (0 + l9)) ((0 + l9) + 1)) + (sbK (sbC (sbC 16 (0 + l9)) ((0 + l9) + 1)) (((0 + l9) + 1) + 1)) + (sbK (sbC (sbC (sbC 16 (0 + l9)) ((0 + l9) + 1)) (((0 + l9) + 1) + 1)) ((((0 + l9) + 1) + 1) + dgJ x_17)) + 2 ≤ 393 := Nat.le_trans hWc1 hNc
  have hTs1 : 175 + m_wS k + 0 + 0 + 0 + 0 + 0 + 4 + 16 + (sbS 16 (0 + l9)) + 0 + (sbS (sbC 16 (0 + l9)) ((0 + l9) + 1)) + (sbS (sbC (sbC 16 (0 + l9)) ((0 + l9) + 1)) (((0 + l9) + 1) + 1)) + (sbS (sbC (sbC (sbC 16 (0 + l9)) ((0 + l9) + 1)) (((0 + l9) + 1) + 1)) ((((0 + l9) + 1) + 1) + dgJ x_17)) + (4 + ((((0 + l9) + 1) + 1) + dgJ x_17)) ≤ 14193 := Nat.le_trans hWs1 hNs
  have hWc2 : 49 + 8 * k + 0 + 0 + 0 + 0 + 0 + 1 + 1 + (sbK 16 (0 + l9)) + 0 + (sbK (sbC 16 (0 + l9)) ((0 + l9) + 0)) + (sbK (sbC (sbC 16 (0 + l9)) ((0 + l9) + 0)) (((0 + l9) + 0) + 1)) + (sbK (sbC (sbC (sbC 16 (0 + l9)) ((0 + l9) + 0)) (((0 + l9) + 0) + 1)) ((((0 + l9) + 0) + 1) + dgJ x_17)) + 2 ≤ 49 + 8 * (k + 1) := by have k0_ := tx_k1 16 (0 + l9); have k1_ := tx_k1 (sbC 16 (0 + l9)) ((0 + l9) + 0); have k2_ := tx_k1 (sbC (sbC 16 (0 + l9)) ((0 + l9) + 0)) (((0 + l9) + 0) + 1); have k3_ := tx_k1 (sbC (sbC (sbC 16 (0 + l9)) ((0 + l9) + 0)) (((0 + l9) + 0) + 1)) ((((0 + l9) + 0) + 1) + dgJ x_17); omega
  have hWs2 : 175 + m_wS k + 0 + 0 + 0 + 0 + 0 + 4 + 16 + (sbS 16 (0 + l9)) + 0 + (sbS (sbC 16 (0 + l9)) ((0 + l9) + 0)) + (sbS (sbC (sbC 16 (0 + l9)) ((0 + l9) + 0)) (((0 + l9) + 0) + 1)) + (sbS (sbC (sbC (sbC 16 (0 + l9)) ((0 + l9) + 0)) (((0 + l9) + 0) + 1)) ((((0 + l9) + 0) + 1) + dgJ x_17)) + (4 + ((((0 + l9) + 0) + 1) + dgJ x_17)) ≤ 175 + m_wS (k + 1) := by have h7 := hct0.2.1; omega
  have hTc2 : 49 + 8 * k + 0 + 0 + 0 + 0 + 0 + 1 + 1 + (sbK 16 (0 + l9)) + 0 + (sbK (sbC 16 (0 + l9)) ((0 + l9) + 0)) + (sbK (sbC (sbC 16 (0 + l9)) ((0 + l9) + 0)) (((0 + l9) + 0) + 1)) + (sbK (sbC (sbC (sbC 16 (0 + l9)) ((0 + l9) + 0)) (((0 + l9) + 0) + 1)) ((((0 + l9) + 0) + 1) + dgJ x_17)) + 2 ≤ 393 := Nat.le_trans hWc2 hNc
  have hTs2 : 175 + m_wS k + 0 + 0 + 0 + 0 + 0 + 4 + 16 + (sbS 16 (0 + l9)) + 0 + (sbS (sbC 16 (0 + l9)) ((0 + l9) + 0)) + (sbS (sbC (sbC 16 (0 + l9)) ((0 + l9) + 0)) (((0 + l9) + 0) + 1)) + (sbS (sbC (sbC (sbC 16 (0 + l9)) ((0 + l9) + 0)) (((0 + l9) + 0) + 1)) ((((0 + l9) + 0) + 1) + dgJ x_17)) + (4 + ((((0 + l9) + 0) + 1) + dgJ x_17)) ≤ 14193 := Nat.le_trans hWs2 hNs
  have hS0_ := hS
  refine r_new (pc := 83) E hC hS tyJ4_ok uJ4 (List.mem_cons_of_mem _ kw_1351) (List.mem_cons_of_mem _ kw_150) (List.mem_cons_of_mem _ kw_19) (ci := 1) rfl (fs := [.null, .int 0, .int 0, .int 0]) (by decide) (pre1 (pre1 (pre1 (pre1 (pre1 (pre1 (pre1 hTc1))))))) (pre1 (pre1 (pre1 (pre1 (pre1 (pre1 (pre1 hTs1))))))) dX5_wayNow_83 (fun qf20 H zq_ n_ ho_ hS => ?_)
  have l_fl6_f20 : r_5 < qf20 := zq_ ▸ fl6.lt
  have fl6 := fl6.kept (ho_ _ fl6.lt)
  have l_fR6_f20 : bb6 < qf20 := zq_ ▸ fR6.lt
  have fR6 := fR6.kept (ho_ _ fR6.lt)
  have el6 := el6.old ho_
  have l_h0s_f20 : q9 < qf20 := zq_ ▸ h0s.lt
  have h0s := h0s.kept (ho_ _ h0s.lt)
  have l_h1s_f20 : q9 < qf20 := zq_ ▸ h1s.lt
  have h1s := h1s.kept (ho_ _ h1s.lt)
  have l_h2s_f20 : b0_ < qf20 := zq_ ▸ h2s.lt
  have h2s := h2s.kept (ho_ _ h2s.lt)
  have f20 := n_
  have s_f20 : s.heap.size ≤ qf20 := zq_ ▸ hS0_.1
  have g_f20 := hn _ s_f20
  refine lv_dup (pc := 86) hx hb dX5_wayNow_86 rfl ?_
  have hZ0_ := hS.1
  have t_fl6 := fl6.lt
  have t_fR6 := fR6.lt
  have t_h0s := h0s.lt
  have t_h1s := h1s.lt
  have t_h2s := h2s.lt
  have t_f20 := f20.lt
  refine k_v (pc := 87) (k_I E hC hS hA hl.1 (c_J4_init_da8c8 l D tk N0 sa H.size qf20 (hA _ g_f20)) kw_1352 kw_152 kw_19 kw_153 rfl (n := 0) (by decide +kernel) rfl ⟨⟨rfl, rfl⟩, ⟨Nat.le_of_ble_eq_true rfl, Nat.le_of_ble_eq_true rfl⟩, (pre1 (pre1 (pre1 (pre1 (pre1 (pre1 hTc1)))))), (pre1 (pre1 (pre1 (pre1 (pre1 (pre1 hTs1))))))⟩ rfl (Nat.le_of_ble_eq_true rfl) f20 dX5_wayNow_87) hS (inA1.to g_f20) hn (fun H locs hR hz hk hS => ?_)
  have fl6 := fl6.kept (hk _ fl6.lt (inA1.not (clA.ne fl6.cl f20.cl (hC.oo 7 1 rfl rfl (by decide))) fl6.lt))
  have fR6 := fR6.kept (hk _ fR6.lt (inA1.not (clA.ne fR6.cla f20.cl (hC.ao 1 4 rfl rfl)) fR6.lt))
  have el6 := el6.keep1 hk (fun q9 h9 => clA.ne h9 f20.cl (hC.ceo (Or.inl rfl) 1 rfl (by decide)))
  have h0s := h0s.kept (hk _ h0s.lt (inA1.not (clA.ne h0s.cl f20.cl (hC.oo 0 1 rfl rfl (by decide))) h0s.lt))
  have h1s := h1s.kept (hk _ h1s.lt (inA1.not (clA.ne h1s.cl f20.cl (hC.oo 0 1 rfl rfl (by decide))) h1s.lt))
  have h2s := h2s.kept (hk _ h2s.lt (inA1.not (h2s.neo hC f20.cl (ci := 1) rfl) h2s.lt))
  obtain ⟨q_f22, z9_, f20, f22⟩ := hR
  have s_f22 : s.heap.size ≤ q_f22 := Nat.le_trans hZ0_ z9_
  have g_f22 := hn _ s_f22
  have l_fl6_f22 : r_5 < q_f22 := Nat.lt_of_lt_of_le t_fl6 z9_
  have l_fR6_f22 : bb6 < q_f22 := Nat.lt_of_lt_of_le t_fR6 z9_
  have l_h0s_f22 : q9 < q_f22 := Nat.lt_of_lt_of_le t_h0s z9_
  have l_h1s_f22 : q9 < q_f22 := Nat.lt_of_lt_of_le t_h1s z9_
  have l_h2s_f22 : b0_ < q_f22 := Nat.lt_of_lt_of_le t_h2s z9_
  have l_f20_f22 : qf20 < q_f22 := Nat.lt_of_lt_of_le t_f20 z9_
  refine lv_aload_n (pc := 90) hx hb dX5_wayNow_90 rfl (lv_at hl 4 rfl) ?_
  have hZ0_ := hS.1
  have t_fl6 := fl6.lt
  have t_fR6 := fR6.lt
  have t_h0s := h0s.lt
  have t_h1s := h1s.lt
  have t_h2s := h2s.lt
  have t_f20 := f20.lt
  have t_f22 := f22.lt
  refine k_r (pc := 91) (k_V E hC hS hA hl.1 (c1.recv hC f20 rfl) rfl (c_J4_append_15ec4 l D tk N0 sa H.size qf20 q_f22 16 0 q9 l9 0 (hA _ g_f20) (hA _ g_f22) (Nat.zero_le _) (by decide) hl4) kw_1353 kw_399 kw_400 kw_19 kw_401 (n := 1) (by decide +kernel) rfl ⟨⟨rfl, rfl⟩, ⟨Nat.le_of_ble_eq_true rfl, Nat.le_of_ble_eq_true rfl⟩, (pre1 (pre1 (pre1 (pre1 (pre1 hTc1))))), (pre1 (pre1 (pre1 (pre1 (pre1 hTs1)))))⟩ rfl (Nat.le_of_ble_eq_true rfl) ⟨f20, f22, ⟨_, h0s, h1s, h2s⟩⟩ dX5_wayNow_91) hS (inA2.to g_f20 g_f22) hn (fun r_23 H locs hR hz hk hS => ?_)
  have fl6 := fl6.kept (hk _ fl6.lt (inA2.not (clA.ne fl6.cl f20.cl (hC.oo 7 1 rfl rfl (by decide))) (clA.ne fl6.cl f22.cl (hC.oa 7 1 rfl rfl)) fl6.lt))
  have fR6 := fR6.kept (hk _ fR6.lt (inA2.not (clA.ne fR6.cla f20.cl (hC.ao 1 4 rfl rfl)) (clA.ne fR6.cla f22.cl (hC.aa 4 1 rfl rfl (by dsimp only; decide))) fR6.lt))
  have el6 := el6.keep2 hk (fun q9 h9 => clA.ne h9 f20.cl (hC.ceo (Or.inl rfl) 1 rfl (by decide))) (fun q9 h9 => clA.ne h9 f22.cl (hC.cea (Or.inl rfl) 1 rfl))
  have h0s := h0s.kept (hk _ h0s.lt (inA2.not (clA.ne h0s.cl f20.cl (hC.oo 0 1 rfl rfl (by decide))) (clA.ne h0s.cl f22.cl (hC.oa 0 1 rfl rfl)) h0s.lt))
  have h1s := h1s.kept (hk _ h1s.lt (inA2.not (clA.ne h1s.cl f20.cl (hC.oo 0 1 rfl rfl (by decide))) (clA.ne h1s.cl f22.cl (hC.oa 0 1 rfl rfl)) h1s.lt))
  have h2s := h2s.kept (hk _ h2s.lt (inA2.not (h2s.neo hC f20.cl (ci := 1) rfl) (Nat.ne_of_lt l_h2s_f22) h2s.lt))
  obtain ⟨er9, hR⟩ := hR
  rw [er9]
  obtain ⟨v_24, hv_24, f20, f22⟩ := hR
  have g_f22 := hv_24.elim (fun e9 => e9 ▸ g_f22) (fun z9 => hn _ (Nat.le_trans hZ0_ z9))
  have l_fl6_f22 : r_5 < v_24 := hv_24.elim (fun e9 => e9 ▸ l_fl6_f22) (fun z9 => Nat.lt_of_lt_of_le t_fl6 z9)
  have l_fR6_f22 : bb6 < v_24 := hv_24.elim (fun e9 => e9 ▸ l_fR6_f22) (fun z9 => Nat.lt_of_lt_of_le t_fR6 z9)
  have l_h0s_f22 : q9 < v_24 := hv_24.elim (fun e9 => e9 ▸ l_h0s_f22) (fun z9 => Nat.lt_of_lt_of_le t_h0s z9)
  have l_h1s_f22 : q9 < v_24 := hv_24.elim (fun e9 => e9 ▸ l_h1s_f22) (fun z9 => Nat.lt_of_lt_of_le t_h1s z9)
  have l_h2s_f22 : b0_ < v_24 := hv_24.elim (fun e9 => e9 ▸ l_h2s_f22) (fun z9 => Nat.lt_of_lt_of_le t_h2s z9)
  have l_f20_f22 : qf20 < v_24 := hv_24.elim (fun e9 => e9 ▸ l_f20_f22) (fun z9 => Nat.lt_of_lt_of_le t_f20 z9)
  have hv_24 := hv_24.imp_right (fun z9 => Nat.le_trans hZ0_ z9)
  refine lv_aload_n (pc := 94) hx hb dX5_wayNow_94 rfl (lv_at hl 4 rfl) ?_
  refine k_i (pc := 95) (k_V E hC hS hA hl.1 (xf.recv hC h0s rfl) rfl (c_J0_isEmpty_aae02 l D tk N0 sa H.size q9 l9 (by omega)) kw_1537 kw_1538 kw_1539 kw_20 kw_1540 (n := 0) (by decide +kernel) rfl ⟨⟨rfl, rfl⟩, ⟨Nat.le_of_ble_eq_true rfl, Nat.le_of_ble_eq_true rfl⟩, (pre1 (pre1 (pre1 (pre1 hTc1)))), (pre1 (pre1 (pre1 (pre1 hTs1))))⟩ rfl (Nat.le_of_ble_eq_true rfl) ⟨_, h0s, h1s, h2s⟩ dX5_wayNow_95) hS (fun q z w => absurd w (Nat.not_le.mpr z)) hn (fun r_25 H locs hR hz hk hS => ?_)
  have fl6 := fl6.kept (hk _ fl6.lt (Nat.not_le.mpr fl6.lt))
  have fR6 := fR6.kept (hk _ fR6.lt (Nat.not_le.mpr fR6.lt))
  have el6 := el6.new hk
  have h0s := h0s.kept (hk _ h0s.lt (Nat.not_le.mpr h0s.lt))
  have h1s := h1s.kept (hk _ h1s.lt (Nat.not_le.mpr h1s.lt))
  have h2s := h2s.kept (hk _ h2s.lt (Nat.not_le.mpr h2s.lt))
  have f20 := f20.kept (hk _ f20.lt (Nat.not_le.mpr f20.lt))
  have f22 := f22.kept (hk _ f22.lt (Nat.not_le.mpr f22.lt))
  have em_r_25 := hR
  refine lv_if_eq (pc := 98) (tgt := 106) hx hb dX5_wayNow_98 (by decide) (fun c_26 => ?_) (fun c_26 => ?_)
  · have hcA := hct1.2.2.1
    have hcB := hct1.2.2.2.1
    have hcC := hct1.2.2.2.2.1
    have hcD := hct1.2.2.2.2.2
    refine va_ldcS (pc := 106) hx hb E.2.2.2.1 (hC.2.2.2.2.1 8 _ rfl).1 dX5_wayNow_106 ?_
    have k27 : SX D tk (sa (10 + 8)) 1 H := hC.str hS hA 8 _ rfl (by decide)
    exact g2_X5_wayNow E hC hA hn hr hlk P hPN mo n9 kn th tt bb eT eB oT oB pk ca rf vs x k_x hx_x hk_x nl6 bb6 cap6 ff6 ww6 md6 T u2 u3 u4 hlm6 r_5 v_24 qf20 x_17 n k l9 E9 q9 y9 hf9 hk9 hx9 hE9 hZ9 hL8 ih_32 hd11 hdl.1 hEn hkn b0_ hcA hcB hcC hcD hTc1 hTs1 hWc1 hWs1 hTc2 hTs2 hWc2 hWs2 _ _ _ hS fl6 fR6 el6 h0s h1s h2s f20 f22 k27 s_f20 g_f20 g_f22 l_f20_f22 l_fR6_f20 l_fR6_f22 l_fl6_f20 l_fl6_f22 l_h0s_f20 l_h0s_f22 l_h1s_f20 l_h1s_f22 l_h2s_f20 l_h2s_f22 hl
  · have hcA := hct0.2.2.1
    have hcB := hct0.2.2.2.1
    have hcC := hct0.2.2.2.2.1
    have hcD := hct0.2.2.2.2.2
    refine va_ldcS (pc := 101) hx hb E.2.2.2.1 (hC.2.2.2.2.1 6 _ rfl).1 dX5_wayNow_101 ?_
    have k47 : SX D tk (sa (10 + 6)) 0 H := hC.str hS hA 6 _ rfl (by decide)
    refine lv_goto (pc := 103) (tgt := 108) hx hb dX5_wayNow_103 (by decide) ?_
    exact g5_X5_wayNow E hC hA hn hr hlk P hPN mo n9 kn th tt bb eT eB oT oB pk ca rf vs x k_x hx_x hk_x nl6 bb6 cap6 ff6 ww6 md6 T u2 u3 u4 hlm6 r_5 v_24 qf20 x_17 n k l9 E9 q9 y9 hf9 hk9 hx9 hE9 hZ9 hL8 ih_32 hd11 hdl.1 hEn hkn b0_ hcA hcB hcC hcD hTc1 hTs1 hWc1 hWs1 hTc2 hTs2 hWc2 hWs2 _ _ _ hS fl6 fR6 el6 h0s h1s h2s f20 f22 k47 s_f20 g_f20 g_f22 l_f20_f22 l_fR6_f20 l_fR6_f22 l_fl6_f20 l_fl6_f22 l_h0s_f20 l_h0s_f22 l_h1s_f20 l_h1s_f22 l_h2s_f20 l_h2s_f22 hl
set_option maxHeartbeats 20000000 in
set_option maxRecDepth 100000 in
theorem g10_X5_wayNow {p : Program} {l : Launch} {e : Env} {s : State} {m : MethodId} {args : Array Value} {below : List Frame} {meth : Method} {c : Code} {Q : State → Prop} {D : va_G} {tk : Nat → ClassId} {N0 : Nat} {sa : Nat → Nat} (E : CallFix p m c cX5_wayNow 7 s args (wsy yX5_wayNow cX5_wayNow 7 (some (.object "java/lang/String"))) RX5) (hC : Ctx D tk N0 sa s) (hA : ∀ q, (nwA s.heap.size) q → N0 ≤ q) (hn : ∀ q, s.heap.size ≤ q → (nwA s.heap.size) q) (hr : meth.sig.returnType = (some (.object "java/lang/String"))) (hlk : meth.locks = false) (P : Nat → Prop) (hPN : ∀ q, P q → N0 ≤ q) (mo : Nat) (n9 : Nat) (kn : Int32) (th : Int32) (tt : Nat → Int64) (bb : Nat → Int64) (eT : Int64) (eB : Int64) (oT : Int64) (oB : Int64) (pk : Nat) (ca : Int32) (rf : Int32) (vs : Nat → Value) (x : Int32) (k_x : Nat) (hx_x : x = nI k_x) (hk_x : k_x < 6) (nl6 : Nat) (bb6 : Nat) (cap6 : Nat) (ff6 : Nat → Option Nat) (ww6 : Nat → Value) (md6 : Int32) (T : Nat → Int) (u2 : T (nl6 + 1) = 0) (u3 : ∀ i, i < nl6 → ∃ x : Int64, ww6 i = .long x ∧ x.toInt * T (i + 1) + T (i + 2) = T i) (u4 : ∀ i, 1 ≤ i → i ≤ nl6 → 1 ≤ T i ∧ T i ≤ 1000000000) (hlm6 : nl6 ≤ 43) (r_5 : Nat) (v_81 : Nat) (qf72 : Nat) (x_69 : Int64) (n : Nat) (k : Nat) (l9 : Nat) (E9 : Nat) (q9 : Nat) (y9 : Int32) (hf9 : 44 - k < n + 1) (hk9 : k ≤ nl6) (hx9 : y9 = nI k) (hE9 : ((10 ^ E9 : Nat) : Int) * T k ≤ 1000000000) (hZ9 : (k = 0 → E9 = 0)) (hL8 : l9 ≤ 3 * k + E9) (ih_32 : ∀ (k : Nat) (l9 : Nat) (E9 : Nat)(q9 : Nat) (y9 : Int32), 44 - k < n → k ≤ nl6 → y9 = nI k → ((10 ^ E9 : Nat) : Int) * T k ≤ 1000000000 → (k = 0 → E9 = 0) → l9 ≤ 3 * k + E9 → ∀ (H : Heap) (locs : List Loc) (ls : Array Slot), va_S (nwA s.heap.size) s.heap H locs → c1 D r_5 (.inr (7, [.int md6, .ref bb6, .int (nI nl6)])) H → c1 D bb6 (.inl (tk 4, cap6, .inr (.inr (.inr (.inr (ff6)))))) H → EL D 3 nl6 ff6 ww6 H → SX D tk q9 l9 H → lv_has ls 7 [(0, .ref mo), (1, .int x), (2, .ref r_5), (3, .ref q9), (4, .int y9)] → W p l e ({ frames := 8, cells := 393, slots := 14193, locals := 186 } : Room) s m args below meth c H locs (49 + 8 * k) (175 + m_wS k) Q (F0 m 32 ls [])) (hd11 : dgJ x_69 ≤ 11) (hdl : 1 ≤ dgJ x_69) (hEn : ((10 ^ (E9 + (dgJ x_69 - 1)) : Nat) : Int) * T (k + 1) ≤ 1000000000) (hkn : k < nl6) (b0_ : Nat) (hcA : sbC 16 (0 + l9) ≤ 500000) (hcB : sbC (sbC 16 (0 + l9)) (0 + l9 + 1) ≤ 500000) (hcC : sbC (sbC (sbC 16 (0 + l9)) (0 + l9 + 1)) (0 + l9 + 1 + 1) ≤ 500000) (hcD : sbC (sbC (sbC (sbC 16 (0 + l9)) (0 + l9 + 1)) (0 + l9 + 1 + 1)) (0 + l9 + 1 + 1 + dgJ x_69) ≤ 100000000) (hTc1 : 49 + 8 * k + 0 + 0 + 0 + 0 + 0 + 1 + 1 + (sbK 16 (0 + l9)) + 0 + (sbK (sbC 16 (0 + l9)) ((0 + l9) + 1)) + (sbK (sbC (sbC 16 (0 + l9)) ((0 + l9) + 1)) (((0 + l9) + 1) + 1)) + (sbK (sbC (sbC (sbC 16 (0 + l9)) ((0 + l9) + 1)) (((0 + l9) + 1) + 1)) ((((0 + l9) + 1) + 1) + dgJ x_69)) + 2 ≤ 393) (hTs1 : 175 + m_wS k + 0 + 0 + 0 + 0 + 0 + 4 + 16 + (sbS 16 (0 + l9)) + 0 + (sbS (sbC 16 (0 + l9)) ((0 + l9) + 1)) + (sbS (sbC (sbC 16 (0 + l9)) ((0 + l9) + 1)) (((0 + l9) + 1) + 1)) + (sbS (sbC (sbC (sbC 16 (0 + l9)) ((0 + l9) + 1)) (((0 + l9) + 1) + 1)) ((((0 + l9) + 1) + 1) + dgJ x_69)) + (4 + ((((0 + l9) + 1) + 1) + dgJ x_69)) ≤ 14193) (hWc1 : 49 + 8 * k + 0 + 0 + 0 + 0 + 0 + 1 + 1 + (sbK 16 (0 + l9)) + 0 + (sbK (sbC 16 (0 + l9)) ((0 + l9) + 1)) + (sbK (sbC (sbC 16 (0 + l9)) ((0 + l9) + 1)) (((0 + l9) + 1) + 1)) + (sbK (sbC (sbC (sbC 16 (0 + l9)) ((0 + l9) + 1)) (((0 + l9) + 1) + 1)) ((((0 + l9) + 1) + 1) + dgJ x_69)) + 2 ≤ 49 + 8 * (k + 1)) (hWs1 : 175 + m_wS k + 0 + 0 + 0 + 0 + 0 + 4 + 16 + (sbS 16 (0 + l9)) + 0 + (sbS (sbC 16 (0 + l9)) ((0 + l9) + 1)) + (sbS (sbC (sbC 16 (0 + l9)) ((0 + l9) + 1)) (((0 + l9) + 1) + 1)) + (sbS (sbC (sbC (sbC 16 (0 + l9)) ((0 + l9) + 1)) (((0 + l9) + 1) + 1)) ((((0 + l9) + 1) + 1) + dgJ x_69)) + (4 + ((((0 + l9) + 1) + 1) + dgJ x_69)) ≤ 175 + m_wS (k + 1)) (H : Heap) (locs : List Loc) (ls : Array Slot) (hS : va_S (nwA s.heap.size) s.heap H locs) (fl6 : c1 D r_5 (.inr (7, [.int md6, .ref bb6, .int (nI nl6)])) H) (fR6 : c1 D bb6 (.inl (tk 4, cap6, .inr (.inr (.inr (.inr (ff6)))))) H) (el6 : EL D 3 nl6 ff6 ww6 H) (h0s : xf D 0 q9 0 (.ref b0_) H) (h1s : xf D 0 q9 1 (.int 0) H) (h2s : BX tk b0_ l9 H) (f72 : c1 D qf72 (.inr (1, [.ref v_81, .int 0, .int 0, .int (nI ((0 + l9) + 1))])) H) (f74 : BA D tk v_81 (sbC (sbC 16 (0 + l9)) ((0 + l9) + 1)) H) (k83 : SX D tk (sa (10 + 11)) 1 H) (s_f72 : s.heap.size ≤ qf72) (g_f72 : (nwA s.heap.size) qf72) (g_f74 : (nwA s.heap.size) v_81) (l_f72_f74 : qf72 < v_81) (l_fR6_f72 : bb6 < qf72) (l_fR6_f74 : bb6 < v_81) (l_fl6_f72 : r_5 < qf72) (l_fl6_f74 : r_5 < v_81) (l_h0s_f72 : q9 < qf72) (l_h0s_f74 : q9 < v_81) (l_h1s_f72 : q9 < qf72) (l_h1s_f74 : q9 < v_81) (l_h2s_f72 : b0_ < qf72) (l_h2s_f74 : b0_ < v_81) (hl : lv_has ls 7 [(5, .long x_69), (0, .ref mo), (1, .int x), (2, .ref r_5), (3, .ref q9), (4, .int y9)]) : W p l e ({ frames := 8, cells := 393, slots := 14193, locals := 186 } : Room) s m args below meth c H locs (49 + 8 * k + 0 + 0 + 0 + 0 + 0 + 1 + 1 + (sbK 16 (0 + l9)) + 0 + (sbK (sbC 16 (0 + l9)) ((0 + l9) + 1))) (175 + m_wS k + 0 + 0 + 0 + 0 + 0 + 4 + 16 + (sbS 16 (0 + l9)) + 0 + (sbS (sbC 16 (0 + l9)) ((0 + l9) + 1))) Q (F0 m 127 ls [.ref (sa (10 + 11)), .ref qf72]) := by
  obtain ⟨hx, hb, -⟩ := id E
  have hZ0_ := hS.1
  have t_fl6 := fl6.lt
  have t_fR6 := fR6.lt
  have t_h0s := h0s.lt
  have t_h1s := h1s.lt
  have t_h2s := h2s.lt
  have t_f72 := f72.lt
  have t_f74 := f74.lt
  have t_k83 := k83.lt
  refine k_r (pc := 127) (k_V E hC hS hA hl.1 (c1.recv hC f72 rfl) rfl (c_J4_append_15ec4 l D tk N0 sa H.size qf72 v_81 (sbC (sbC 16 (0 + l9)) ((0 + l9) + 1)) ((0 + l9) + 1) (sa (10 + 11)) 1 0 (hA _ g_f72) (hA _ g_f74) (sbC_ge _ _).1 hcB (by decide)) kw_1353 kw_399 kw_400 kw_19 kw_401 (n := 1) (by decide +kernel) rfl ⟨⟨rfl, rfl⟩, ⟨Nat.le_of_ble_eq_true rfl, Nat.le_of_ble_eq_true rfl⟩, (pre1 (pre1 hTc1)), (pre1 (pre1 hTs1))⟩ rfl (Nat.le_of_ble_eq_true rfl) ⟨f72, f74, k83⟩ dX5_wayNow_127) hS (inA2.to g_f72 g_f74) hn (fun r_84 H locs hR hz hk hS => ?_)
  have fl6 := fl6.kept (hk _ fl6.lt (inA2.not (clA.ne fl6.cl f72.cl (hC.oo 7 1 rfl rfl (by decide))) (clA.ne fl6.cl f74.cl (hC.oa 7 1 rfl rfl)) fl6.lt))
  have fR6 := fR6.kept (hk _ fR6.lt (inA2.not (clA.ne fR6.cla f72.cl (hC.ao 1 4 rfl rfl)) (clA.ne fR6.cla f74.cl (hC.aa 4 1 rfl rfl (by dsimp only; decide))) fR6.lt))
  have el6 := el6.keep2 hk (fun q9 h9 => clA.ne h9 f72.cl (hC.ceo (Or.inl rfl) 1 rfl (by decide))) (fun q9 h9 => clA.ne h9 f74.cl (hC.cea (Or.inl rfl) 1 rfl))
  have h0s := h0s.kept (hk _ h0s.lt (inA2.not (clA.ne h0s.cl f72.cl (hC.oo 0 1 rfl rfl (by decide))) (clA.ne h0s.cl f74.cl (hC.oa 0 1 rfl rfl)) h0s.lt))
  have h1s := h1s.kept (hk _ h1s.lt (inA2.not (clA.ne h1s.cl f72.cl (hC.oo 0 1 rfl rfl (by decide))) (clA.ne h1s.cl f74.cl (hC.oa 0 1 rfl rfl)) h1s.lt))
  have h2s := h2s.kept (hk _ h2s.lt (inA2.not (h2s.neo hC f72.cl (ci := 1) rfl) (Nat.ne_of_lt l_h2s_f74) h2s.lt))
  obtain ⟨er9, hR⟩ := hR
  rw [er9]
  obtain ⟨v_85, hv_85, f72, f74⟩ := hR
  have g_f74 := hv_85.elim (fun e9 => e9 ▸ g_f74) (fun z9 => hn _ (Nat.le_trans hZ0_ z9))
  have l_fl6_f74 : r_5 < v_85 := hv_85.elim (fun e9 => e9 ▸ l_fl6_f74) (fun z9 => Nat.lt_of_lt_of_le t_fl6 z9)
  have l_fR6_f74 : bb6 < v_85 := hv_85.elim (fun e9 => e9 ▸ l_fR6_f74) (fun z9 => Nat.lt_of_lt_of_le t_fR6 z9)
  have l_h0s_f74 : q9 < v_85 := hv_85.elim (fun e9 => e9 ▸ l_h0s_f74) (fun z9 => Nat.lt_of_lt_of_le t_h0s z9)
  have l_h1s_f74 : q9 < v_85 := hv_85.elim (fun e9 => e9 ▸ l_h1s_f74) (fun z9 => Nat.lt_of_lt_of_le t_h1s z9)
  have l_h2s_f74 : b0_ < v_85 := hv_85.elim (fun e9 => e9 ▸ l_h2s_f74) (fun z9 => Nat.lt_of_lt_of_le t_h2s z9)
  have l_f72_f74 : qf72 < v_85 := hv_85.elim (fun e9 => e9 ▸ l_f72_f74) (fun z9 => Nat.lt_of_lt_of_le t_f72 z9)
  have hv_85 := hv_85.imp_right (fun z9 => Nat.le_trans hZ0_ z9)
  refine lv_lload (pc := 130) hx hb dX5_wayNow_130 (lv_at hl 0 rfl) ?_
  have hZ0_ := hS.1
  have t_fl6 := fl6.lt
  have t_fR6 := fR6.lt
  have t_h0s := h0s.lt
  have t_h1s := h1s.lt
  have t_h2s := h2s.lt
  have t_f72 := f72.lt
  have t_f74 := f74.lt
  refine k_r (pc := 132) (k_V E hC hS hA hl.1 (c1.recv hC f72 rfl) rfl (c_J4_append_f7089 l D tk N0 sa H.size qf72 v_85 (sbC (sbC (sbC 16 (0 + l9)) ((0 + l9) + 1)) (((0 + l9) + 1) + 1)) (((0 + l9) + 1) + 1) 0 x_69 (hA _ g_f72) (hA _ g_f74) (sbC_ge _ _).1 hcC) kw_1354 kw_1355 kw_1356 kw_19 kw_1357 (n := 1) (by decide +kernel) rfl ⟨⟨rfl, rfl⟩, ⟨Nat.le_of_ble_eq_true rfl, Nat.le_of_ble_eq_true rfl⟩, (pre1 hTc1), (pre1 hTs1)⟩ rfl (Nat.le_of_ble_eq_true rfl) ⟨f72, f74⟩ dX5_wayNow_132) hS (inA2.to g_f72 g_f74) hn (fun r_86 H locs hR hz hk hS => ?_)
  have fl6 := fl6.kept (hk _ fl6.lt (inA2.not (clA.ne fl6.cl f72.cl (hC.oo 7 1 rfl rfl (by decide))) (clA.ne fl6.cl f74.cl (hC.oa 7 1 rfl rfl)) fl6.lt))
  have fR6 := fR6.kept (hk _ fR6.lt (inA2.not (clA.ne fR6.cla f72.cl (hC.ao 1 4 rfl rfl)) (clA.ne fR6.cla f74.cl (hC.aa 4 1 rfl rfl (by dsimp only; decide))) fR6.lt))
  have el6 := el6.keep2 hk (fun q9 h9 => clA.ne h9 f72.cl (hC.ceo (Or.inl rfl) 1 rfl (by decide))) (fun q9 h9 => clA.ne h9 f74.cl (hC.cea (Or.inl rfl) 1 rfl))
  have h0s := h0s.kept (hk _ h0s.lt (inA2.not (clA.ne h0s.cl f72.cl (hC.oo 0 1 rfl rfl (by decide))) (clA.ne h0s.cl f74.cl (hC.oa 0 1 rfl rfl)) h0s.lt))
  have h1s := h1s.kept (hk _ h1s.lt (inA2.not (clA.ne h1s.cl f72.cl (hC.oo 0 1 rfl rfl (by decide))) (clA.ne h1s.cl f74.cl (hC.oa 0 1 rfl rfl)) h1s.lt))
  have h2s := h2s.kept (hk _ h2s.lt (inA2.not (h2s.neo hC f72.cl (ci := 1) rfl) (Nat.ne_of_lt l_h2s_f74) h2s.lt))
  obtain ⟨er9, hR⟩ := hR
  rw [er9]
  obtain ⟨v_87, hv_87, f72, f74⟩ := hR
  have g_f74 := hv_87.elim (fun e9 => e9 ▸ g_f74) (fun z9 => hn _ (Nat.le_trans hZ0_ z9))
  have l_fl6_f74 : r_5 < v_87 := hv_87.elim (fun e9 => e9 ▸ l_fl6_f74) (fun z9 => Nat.lt_of_lt_of_le t_fl6 z9)
  have l_fR6_f74 : bb6 < v_87 := hv_87.elim (fun e9 => e9 ▸ l_fR6_f74) (fun z9 => Nat.lt_of_lt_of_le t_fR6 z9)
  have l_h0s_f74 : q9 < v_87 := hv_87.elim (fun e9 => e9 ▸ l_h0s_f74) (fun z9 => Nat.lt_of_lt_of_le t_h0s z9)
  have l_h1s_f74 : q9 < v_87 := hv_87.elim (fun e9 => e9 ▸ l_h1s_f74) (fun z9 => Nat.lt_of_lt_of_le t_h1s z9)
  have l_h2s_f74 : b0_ < v_87 := hv_87.elim (fun e9 => e9 ▸ l_h2s_f74) (fun z9 => Nat.lt_of_lt_of_le t_h2s z9)
  have l_f72_f74 : qf72 < v_87 := hv_87.elim (fun e9 => e9 ▸ l_f72_f74) (fun z9 => Nat.lt_of_lt_of_le t_f72 z9)
  have hv_87 := hv_87.imp_right (fun z9 => Nat.le_trans hZ0_ z9)
  have hv_87 := hv_87.elim (fun e9 => e9 ▸ hv_85) Or.inr
  have hZ0_ := hS.1
  have t_fl6 := fl6.lt
  have t_fR6 := fR6.lt
  have t_h0s := h0s.lt
  have t_h1s := h1s.lt
  have t_h2s := h2s.lt
  have t_f72 := f72.lt
  have t_f74 := f74.lt
  refine k_r (pc := 135) (k_V E hC hS hA hl.1 (c1.recv hC f72 rfl) rfl (c_J4_toString_0e30d l D tk N0 sa H.size qf72 v_87 (sbC (sbC (sbC (sbC 16 (0 + l9)) ((0 + l9) + 1)) (((0 + l9) + 1) + 1)) ((((0 + l9) + 1) + 1) + dgJ x_69)) ((((0 + l9) + 1) + 1) + dgJ x_69) 0 (sbC_ge _ _).1 hcD) kw_1381 kw_316 kw_317 kw_19 kw_318 (n := 0) (by decide +kernel) rfl ⟨⟨rfl, rfl⟩, ⟨Nat.le_of_ble_eq_true rfl, Nat.le_of_ble_eq_true rfl⟩, hTc1, hTs1⟩ rfl (Nat.le_of_ble_eq_true rfl) ⟨f72, f74⟩ dX5_wayNow_135) hS (fun q z w => absurd w (Nat.not_le.mpr z)) hn (fun r_88 H locs hR hz hk hS => ?_)
  have fl6 := fl6.kept (hk _ fl6.lt (Nat.not_le.mpr fl6.lt))
  have fR6 := fR6.kept (hk _ fR6.lt (Nat.not_le.mpr fR6.lt))
  have el6 := el6.new hk
  have h0s := h0s.kept (hk _ h0s.lt (Nat.not_le.mpr h0s.lt))
  have h1s := h1s.kept (hk _ h1s.lt (Nat.not_le.mpr h1s.lt))
  have h2s := h2s.kept (hk _ h2s.lt (Nat.not_le.mpr h2s.lt))
  have f72 := f72.kept (hk _ f72.lt (Nat.not_le.mpr f72.lt))
  have f74 := f74.kept (hk _ f74.lt (Nat.not_le.mpr f74.lt))
  obtain ⟨q_f89, z9_, y9_, f89⟩ := hR
  have f89 := SM.sx f89
  have zr_f89 : s.heap.size ≤ r_88 := Nat.le_trans hZ0_ z9_
  refine lv_astore_n (pc := 138) (lv' := [(3, .ref r_88), (5, .long x_69), (0, .ref mo), (1, .int x), (2, .ref r_5), (4, .int y9)]) hx hb dX5_wayNow_138 rfl hl (by decide) rfl (fun ls hl => ?_)
  obtain ⟨x_90, ex_90⟩ : ∃ z9 : Int32, z9 = y9 + 1 := ⟨_, rfl⟩
  refine lv_iinc (pc := 139) (v := x_90) (lv' := [(4, .int x_90), (3, .ref r_88), (5, .long x_69), (0, .ref mo), (1, .int x), (2, .ref r_5)]) hx hb dX5_wayNow_139 hl (k := 5) rfl (by rw [ex_90]; rfl) (by decide) rfl (fun ls hl => ?_)
  refine lv_goto (pc := 142) (tgt := 32) hx hb dX5_wayNow_142 (by decide) ?_
  refine W.widen (k := 49 + 8 * (k + 1)) (n := 175 + m_wS (k + 1)) hWc1 hWs1 ?_
  exact ih_32  (k + 1) _ (E9 + (dgJ x_69 - 1))  r_88 x_90 (by omega) (by omega) (i_up hx9 ex_90) hEn (fun z9 => absurd z9 (by omega)) (by omega) _ _ _ hS fl6 fR6 el6 f89 (lv_sub hl [3, 4, 5, 1, 0] rfl)
set_option maxHeartbeats 20000000 in
set_option maxRecDepth 100000 in
theorem g11_X5_wayNow {p : Program} {l : Launch} {e : Env} {s : State} {m : MethodId} {args : Array Value} {below : List Frame} {meth : Method} {c : Code} {Q : State → Prop} {D : va_G} {tk : Nat → ClassId} {N0 : Nat} {sa : Nat → Nat} (E : CallFix p m c cX5_wayNow 7 s args (wsy yX5_wayNow cX5_wayNow 7 (some (.object "java/lang/String"))) RX5) (hC : Ctx D tk N0 sa s) (hA : ∀ q, (nwA s.heap.size) q → N0 ≤ q) (hn : ∀ q, s.heap.size ≤ q → (nwA s.heap.size) q) (hr : meth.sig.returnType = (some (.object "java/lang/String"))) (hlk : meth.locks = false) (P : Nat → Prop) (hPN : ∀ q, P q → N0 ≤ q) (mo : Nat) (n9 : Nat) (kn : Int32) (th : Int32) (tt : Nat → Int64) (bb : Nat → Int64) (eT : Int64) (eB : Int64) (oT : Int64) (oB : Int64) (pk : Nat) (ca : Int32) (rf : Int32) (vs : Nat → Value) (x : Int32) (k_x : Nat) (hx_x : x = nI k_x) (hk_x : k_x < 6) (nl6 : Nat) (bb6 : Nat) (cap6 : Nat) (ff6 : Nat → Option Nat) (ww6 : Nat → Value) (md6 : Int32) (T : Nat → Int) (u2 : T (nl6 + 1) = 0) (u3 : ∀ i, i < nl6 → ∃ x : Int64, ww6 i = .long x ∧ x.toInt * T (i + 1) + T (i + 2) = T i) (u4 : ∀ i, 1 ≤ i → i ≤ nl6 → 1 ≤ T i ∧ T i ≤ 1000000000) (hlm6 : nl6 ≤ 43) (r_5 : Nat) (v_81 : Nat) (qf72 : Nat) (x_69 : Int64) (n : Nat) (k : Nat) (l9 : Nat) (E9 : Nat) (q9 : Nat) (y9 : Int32) (hf9 : 44 - k < n + 1) (hk9 : k ≤ nl6) (hx9 : y9 = nI k) (hE9 : ((10 ^ E9 : Nat) : Int) * T k ≤ 1000000000) (hZ9 : (k = 0 → E9 = 0)) (hL8 : l9 ≤ 3 * k + E9) (ih_32 : ∀ (k : Nat) (l9 : Nat) (E9 : Nat)(q9 : Nat) (y9 : Int32), 44 - k < n → k ≤ nl6 → y9 = nI k → ((10 ^ E9 : Nat) : Int) * T k ≤ 1000000000 → (k = 0 → E9 = 0) → l9 ≤ 3 * k + E9 → ∀ (H : Heap) (locs : List Loc) (ls : Array Slot), va_S (nwA s.heap.size) s.heap H locs → c1 D r_5 (.inr (7, [.int md6, .ref bb6, .int (nI nl6)])) H → c1 D bb6 (.inl (tk 4, cap6, .inr (.inr (.inr (.inr (ff6)))))) H → EL D 3 nl6 ff6 ww6 H → SX D tk q9 l9 H → lv_has ls 7 [(0, .ref mo), (1, .int x), (2, .ref r_5), (3, .ref q9), (4, .int y9)] → W p l e ({ frames := 8, cells := 393, slots := 14193, locals := 186 } : Room) s m args below meth c H locs (49 + 8 * k) (175 + m_wS k) Q (F0 m 32 ls [])) (hd11 : dgJ x_69 ≤ 11) (hdl : 1 ≤ dgJ x_69) (hEn : ((10 ^ (E9 + (dgJ x_69 - 1)) : Nat) : Int) * T (k + 1) ≤ 1000000000) (hkn : k < nl6) (b0_ : Nat) (hcA : sbC 16 (0 + l9) ≤ 500000) (hcB : sbC (sbC 16 (0 + l9)) (0 + l9 + 1) ≤ 500000) (hcC : sbC (sbC (sbC 16 (0 + l9)) (0 + l9 + 1)) (0 + l9 + 1 + 1) ≤ 500000) (hcD : sbC (sbC (sbC (sbC 16 (0 + l9)) (0 + l9 + 1)) (0 + l9 + 1 + 1)) (0 + l9 + 1 + 1 + dgJ x_69) ≤ 100000000) (hTc1 : 49 + 8 * k + 0 + 0 + 0 + 0 + 0 + 1 + 1 + (sbK 16 (0 + l9)) + 0 + (sbK (sbC 16 (0 + l9)) ((0 + l9) + 1)) + (sbK (sbC (sbC 16 (0 + l9)) ((0 + l9) + 1)) (((0 + l9) + 1) + 1)) + (sbK (sbC (sbC (sbC 16 (0 + l9)) ((0 + l9) + 1)) (((0 + l9) + 1) + 1)) ((((0 + l9) + 1) + 1) + dgJ x_69)) + 2 ≤ 393) (hTs1 : 175 + m_wS k + 0 + 0 + 0 + 0 + 0 + 4 + 16 + (sbS 16 (0 + l9)) + 0 + (sbS (sbC 16 (0 + l9)) ((0 + l9) + 1)) + (sbS (sbC (sbC 16 (0 + l9)) ((0 + l9) + 1)) (((0 + l9) + 1) + 1)) + (sbS (sbC (sbC (sbC 16 (0 + l9)) ((0 + l9) + 1)) (((0 + l9) + 1) + 1)) ((((0 + l9) + 1) + 1) + dgJ x_69)) + (4 + ((((0 + l9) + 1) + 1) + dgJ x_69)) ≤ 14193) (hWc1 : 49 + 8 * k + 0 + 0 + 0 + 0 + 0 + 1 + 1 + (sbK 16 (0 + l9)) + 0 + (sbK (sbC 16 (0 + l9)) ((0 + l9) + 1)) + (sbK (sbC (sbC 16 (0 + l9)) ((0 + l9) + 1)) (((0 + l9) + 1) + 1)) + (sbK (sbC (sbC (sbC 16 (0 + l9)) ((0 + l9) + 1)) (((0 + l9) + 1) + 1)) ((((0 + l9) + 1) + 1) + dgJ x_69)) + 2 ≤ 49 + 8 * (k + 1)) (hWs1 : 175 + m_wS k + 0 + 0 + 0 + 0 + 0 + 4 + 16 + (sbS 16 (0 + l9)) + 0 + (sbS (sbC 16 (0 + l9)) ((0 + l9) + 1)) + (sbS (sbC (sbC 16 (0 + l9)) ((0 + l9) + 1)) (((0 + l9) + 1) + 1)) + (sbS (sbC (sbC (sbC 16 (0 + l9)) ((0 + l9) + 1)) (((0 + l9) + 1) + 1)) ((((0 + l9) + 1) + 1) + dgJ x_69)) + (4 + ((((0 + l9) + 1) + 1) + dgJ x_69)) ≤ 175 + m_wS (k + 1)) (H : Heap) (locs : List Loc) (ls : Array Slot) (hS : va_S (nwA s.heap.size) s.heap H locs) (fl6 : c1 D r_5 (.inr (7, [.int md6, .ref bb6, .int (nI nl6)])) H) (fR6 : c1 D bb6 (.inl (tk 4, cap6, .inr (.inr (.inr (.inr (ff6)))))) H) (el6 : EL D 3 nl6 ff6 ww6 H) (h0s : xf D 0 q9 0 (.ref b0_) H) (h1s : xf D 0 q9 1 (.int 0) H) (h2s : BX tk b0_ l9 H) (f72 : c1 D qf72 (.inr (1, [.ref v_81, .int 0, .int 0, .int (nI ((0 + l9) + 1))])) H) (f74 : BA D tk v_81 (sbC (sbC 16 (0 + l9)) ((0 + l9) + 1)) H) (k91 : SX D tk (sa (10 + 10)) 1 H) (s_f72 : s.heap.size ≤ qf72) (g_f72 : (nwA s.heap.size) qf72) (g_f74 : (nwA s.heap.size) v_81) (l_f72_f74 : qf72 < v_81) (l_fR6_f72 : bb6 < qf72) (l_fR6_f74 : bb6 < v_81) (l_fl6_f72 : r_5 < qf72) (l_fl6_f74 : r_5 < v_81) (l_h0s_f72 : q9 < qf72) (l_h0s_f74 : q9 < v_81) (l_h1s_f72 : q9 < qf72) (l_h1s_f74 : q9 < v_81) (l_h2s_f72 : b0_ < qf72) (l_h2s_f74 : b0_ < v_81) (hl : lv_has ls 7 [(5, .long x_69), (0, .ref mo), (1, .int x), (2, .ref r_5), (3, .ref q9), (4, .int y9)]) : W p l e ({ frames := 8, cells := 393, slots := 14193, locals := 186 } : Room) s m args below meth c H locs (49 + 8 * k + 0 + 0 + 0 + 0 + 0 + 1 + 1 + (sbK 16 (0 + l9)) + 0 + (sbK (sbC 16 (0 + l9)) ((0 + l9) + 1))) (175 + m_wS k + 0 + 0 + 0 + 0 + 0 + 4 + 16 + (sbS 16 (0 + l9)) + 0 + (sbS (sbC 16 (0 + l9)) ((0 + l9) + 1))) Q (F0 m 127 ls [.ref (sa (10 + 10)), .ref qf72]) := by
  obtain ⟨hx, hb, -⟩ := id E
  have hZ0_ := hS.1
  have t_fl6 := fl6.lt
  have t_fR6 := fR6.lt
  have t_h0s := h0s.lt
  have t_h1s := h1s.lt
  have t_h2s := h2s.lt
  have t_f72 := f72.lt
  have t_f74 := f74.lt
  have t_k91 := k91.lt
  refine k_r (pc := 127) (k_V E hC hS hA hl.1 (c1.recv hC f72 rfl) rfl (c_J4_append_15ec4 l D tk N0 sa H.size qf72 v_81 (sbC (sbC 16 (0 + l9)) ((0 + l9) + 1)) ((0 + l9) + 1) (sa (10 + 10)) 1 0 (hA _ g_f72) (hA _ g_f74) (sbC_ge _ _).1 hcB (by decide)) kw_1353 kw_399 kw_400 kw_19 kw_401 (n := 1) (by decide +kernel) rfl ⟨⟨rfl, rfl⟩, ⟨Nat.le_of_ble_eq_true rfl, Nat.le_of_ble_eq_true rfl⟩, (pre1 (pre1 hTc1)), (pre1 (pre1 hTs1))⟩ rfl (Nat.le_of_ble_eq_true rfl) ⟨f72, f74, k91⟩ dX5_wayNow_127) hS (inA2.to g_f72 g_f74) hn (fun r_92 H locs hR hz hk hS => ?_)
  have fl6 := fl6.kept (hk _ fl6.lt (inA2.not (clA.ne fl6.cl f72.cl (hC.oo 7 1 rfl rfl (by decide))) (clA.ne fl6.cl f74.cl (hC.oa 7 1 rfl rfl)) fl6.lt))
  have fR6 := fR6.kept (hk _ fR6.lt (inA2.not (clA.ne fR6.cla f72.cl (hC.ao 1 4 rfl rfl)) (clA.ne fR6.cla f74.cl (hC.aa 4 1 rfl rfl (by dsimp only; decide))) fR6.lt))
  have el6 := el6.keep2 hk (fun q9 h9 => clA.ne h9 f72.cl (hC.ceo (Or.inl rfl) 1 rfl (by decide))) (fun q9 h9 => clA.ne h9 f74.cl (hC.cea (Or.inl rfl) 1 rfl))
  have h0s := h0s.kept (hk _ h0s.lt (inA2.not (clA.ne h0s.cl f72.cl (hC.oo 0 1 rfl rfl (by decide))) (clA.ne h0s.cl f74.cl (hC.oa 0 1 rfl rfl)) h0s.lt))
  have h1s := h1s.kept (hk _ h1s.lt (inA2.not (clA.ne h1s.cl f72.cl (hC.oo 0 1 rfl rfl (by decide))) (clA.ne h1s.cl f74.cl (hC.oa 0 1 rfl rfl)) h1s.lt))
  have h2s := h2s.kept (hk _ h2s.lt (inA2.not (h2s.neo hC f72.cl (ci := 1) rfl) (Nat.ne_of_lt l_h2s_f74) h2s.lt))
  obtain ⟨er9, hR⟩ := hR
  rw [er9]
  obtain ⟨v_93, hv_93, f72, f74⟩ := hR
  have g_f74 := hv_93.elim (fun e9 => e9 ▸ g_f74) (fun z9 => hn _ (Nat.le_trans hZ0_ z9))
  have l_fl6_f74 : r_5 < v_93 := hv_93.elim (fun e9 => e9 ▸ l_fl6_f74) (fun z9 => Nat.lt_of_lt_of_le t_fl6 z9)
  have l_fR6_f74 : bb6 < v_93 := hv_93.elim (fun e9 => e9 ▸ l_fR6_f74) (fun z9 => Nat.lt_of_lt_of_le t_fR6 z9)
  have l_h0s_f74 : q9 < v_93 := hv_93.elim (fun e9 => e9 ▸ l_h0s_f74) (fun z9 => Nat.lt_of_lt_of_le t_h0s z9)
  have l_h1s_f74 : q9 < v_93 := hv_93.elim (fun e9 => e9 ▸ l_h1s_f74) (fun z9 => Nat.lt_of_lt_of_le t_h1s z9)
  have l_h2s_f74 : b0_ < v_93 := hv_93.elim (fun e9 => e9 ▸ l_h2s_f74) (fun z9 => Nat.lt_of_lt_of_le t_h2s z9)
  have l_f72_f74 : qf72 < v_93 := hv_93.elim (fun e9 => e9 ▸ l_f72_f74) (fun z9 => Nat.lt_of_lt_of_le t_f72 z9)
  have hv_93 := hv_93.imp_right (fun z9 => Nat.le_trans hZ0_ z9)
  refine lv_lload (pc := 130) hx hb dX5_wayNow_130 (lv_at hl 0 rfl) ?_
  have hZ0_ := hS.1
  have t_fl6 := fl6.lt
  have t_fR6 := fR6.lt
  have t_h0s := h0s.lt
  have t_h1s := h1s.lt
  have t_h2s := h2s.lt
  have t_f72 := f72.lt
  have t_f74 := f74.lt
  refine k_r (pc := 132) (k_V E hC hS hA hl.1 (c1.recv hC f72 rfl) rfl (c_J4_append_f7089 l D tk N0 sa H.size qf72 v_93 (sbC (sbC (sbC 16 (0 + l9)) ((0 + l9) + 1)) (((0 + l9) + 1) + 1)) (((0 + l9) + 1) + 1) 0 x_69 (hA _ g_f72) (hA _ g_f74) (sbC_ge _ _).1 hcC) kw_1354 kw_1355 kw_1356 kw_19 kw_1357 (n := 1) (by decide +kernel) rfl ⟨⟨rfl, rfl⟩, ⟨Nat.le_of_ble_eq_true rfl, Nat.le_of_ble_eq_true rfl⟩, (pre1 hTc1), (pre1 hTs1)⟩ rfl (Nat.le_of_ble_eq_true rfl) ⟨f72, f74⟩ dX5_wayNow_132) hS (inA2.to g_f72 g_f74) hn (fun r_94 H locs hR hz hk hS => ?_)
  have fl6 := fl6.kept (hk _ fl6.lt (inA2.not (clA.ne fl6.cl f72.cl (hC.oo 7 1 rfl rfl (by decide))) (clA.ne fl6.cl f74.cl (hC.oa 7 1 rfl rfl)) fl6.lt))
  have fR6 := fR6.kept (hk _ fR6.lt (inA2.not (clA.ne fR6.cla f72.cl (hC.ao 1 4 rfl rfl)) (clA.ne fR6.cla f74.cl (hC.aa 4 1 rfl rfl (by dsimp only; decide))) fR6.lt))
  have el6 := el6.keep2 hk (fun q9 h9 => clA.ne h9 f72.cl (hC.ceo (Or.inl rfl) 1 rfl (by decide))) (fun q9 h9 => clA.ne h9 f74.cl (hC.cea (Or.inl rfl) 1 rfl))
  have h0s := h0s.kept (hk _ h0s.lt (inA2.not (clA.ne h0s.cl f72.cl (hC.oo 0 1 rfl rfl (by decide))) (clA.ne h0s.cl f74.cl (hC.oa 0 1 rfl rfl)) h0s.lt))
  have h1s := h1s.kept (hk _ h1s.lt (inA2.not (clA.ne h1s.cl f72.cl (hC.oo 0 1 rfl rfl (by decide))) (clA.ne h1s.cl f74.cl (hC.oa 0 1 rfl rfl)) h1s.lt))
  have h2s := h2s.kept (hk _ h2s.lt (inA2.not (h2s.neo hC f72.cl (ci := 1) rfl) (Nat.ne_of_lt l_h2s_f74) h2s.lt))
  obtain ⟨er9, hR⟩ := hR
  rw [er9]
  obtain ⟨v_95, hv_95, f72, f74⟩ := hR
  have g_f74 := hv_95.elim (fun e9 => e9 ▸ g_f74) (fun z9 => hn _ (Nat.le_trans hZ0_ z9))
  have l_fl6_f74 : r_5 < v_95 := hv_95.elim (fun e9 => e9 ▸ l_fl6_f74) (fun z9 => Nat.lt_of_lt_of_le t_fl6 z9)
  have l_fR6_f74 : bb6 < v_95 := hv_95.elim (fun e9 => e9 ▸ l_fR6_f74) (fun z9 => Nat.lt_of_lt_of_le t_fR6 z9)
  have l_h0s_f74 : q9 < v_95 := hv_95.elim (fun e9 => e9 ▸ l_h0s_f74) (fun z9 => Nat.lt_of_lt_of_le t_h0s z9)
  have l_h1s_f74 : q9 < v_95 := hv_95.elim (fun e9 => e9 ▸ l_h1s_f74) (fun z9 => Nat.lt_of_lt_of_le t_h1s z9)
  have l_h2s_f74 : b0_ < v_95 := hv_95.elim (fun e9 => e9 ▸ l_h2s_f74) (fun z9 => Nat.lt_of_lt_of_le t_h2s z9)
  have l_f72_f74 : qf72 < v_95 := hv_95.elim (fun e9 => e9 ▸ l_f72_f74) (fun z9 => Nat.lt_of_lt_of_le t_f72 z9)
  have hv_95 := hv_95.imp_right (fun z9 => Nat.le_trans hZ0_ z9)
  have hv_95 := hv_95.elim (fun e9 => e9 ▸ hv_93) Or.inr
  have hZ0_ := hS.1
  have t_fl6 := fl6.lt
  have t_fR6 := fR6.lt
  have t_h0s := h0s.lt
  have t_h1s := h1s.lt
  have t_h2s := h2s.lt
  have t_f72 := f72.lt
  have t_f74 := f74.lt
  refine k_r (pc := 135) (k_V E hC hS hA hl.1 (c1.recv hC f72 rfl) rfl (c_J4_toString_0e30d l D tk N0 sa H.size qf72 v_95 (sbC (sbC (sbC (sbC 16 (0 + l9)) ((0 + l9) + 1)) (((0 + l9) + 1) + 1)) ((((0 + l9) + 1) + 1) + dgJ x_69)) ((((0 + l9) + 1) + 1) + dgJ x_69) 0 (sbC_ge _ _).1 hcD) kw_1381 kw_316 kw_317 kw_19 kw_318 (n := 0) (by decide +kernel) rfl ⟨⟨rfl, rfl⟩, ⟨Nat.le_of_ble_eq_true rfl, Nat.le_of_ble_eq_true rfl⟩, hTc1, hTs1⟩ rfl (Nat.le_of_ble_eq_true rfl) ⟨f72, f74⟩ dX5_wayNow_135) hS (fun q z w => absurd w (Nat.not_le.mpr z)) hn (fun r_96 H locs hR hz hk hS => ?_)
  have fl6 := fl6.kept (hk _ fl6.lt (Nat.not_le.mpr fl6.lt))
  have fR6 := fR6.kept (hk _ fR6.lt (Nat.not_le.mpr fR6.lt))
  have el6 := el6.new hk
  have h0s := h0s.kept (hk _ h0s.lt (Nat.not_le.mpr h0s.lt))
  have h1s := h1s.kept (hk _ h1s.lt (Nat.not_le.mpr h1s.lt))
  have h2s := h2s.kept (hk _ h2s.lt (Nat.not_le.mpr h2s.lt))
  have f72 := f72.kept (hk _ f72.lt (Nat.not_le.mpr f72.lt))
  have f74 := f74.kept (hk _ f74.lt (Nat.not_le.mpr f74.lt))
  obtain ⟨q_f97, z9_, y9_, f97⟩ := hR
  have f97 := SM.sx f97
  have zr_f97 : s.heap.size ≤ r_96 := Nat.le_trans hZ0_ z9_
  refine lv_astore_n (pc := 138) (lv' := [(3, .ref r_96), (5, .long x_69), (0, .ref mo), (1, .int x), (2, .ref r_5), (4, .int y9)]) hx hb dX5_wayNow_138 rfl hl (by decide) rfl (fun ls hl => ?_)
  obtain ⟨x_98, ex_98⟩ : ∃ z9 : Int32, z9 = y9 + 1 := ⟨_, rfl⟩
  refine lv_iinc (pc := 139) (v := x_98) (lv' := [(4, .int x_98), (3, .ref r_96), (5, .long x_69), (0, .ref mo), (1, .int x), (2, .ref r_5)]) hx hb dX5_wayNow_139 hl (k := 5) rfl (by rw [ex_98]; rfl) (by decide) rfl (fun ls hl => ?_)
  refine lv_goto (pc := 142) (tgt := 32) hx hb dX5_wayNow_142 (by decide) ?_
  refine W.widen (k := 49 + 8 * (k + 1)) (n := 175 + m_wS (k + 1)) hWc1 hWs1 ?_
  exact ih_32  (k + 1) _ (E9 + (dgJ x_69 - 1))  r_96 x_98 (by omega) (by omega) (i_up hx9 ex_98) hEn (fun z9 => absurd z9 (by omega)) (by omega) _ _ _ hS fl6 fR6 el6 f97 (lv_sub hl [3, 4, 5, 1, 0] rfl)
set_option maxHeartbeats 20000000 in
set_option maxRecDepth 100000 in
theorem g9_X5_wayNow {p : Program} {l : Launch} {e : Env} {s : State} {m : MethodId} {args : Array Value} {below : List Frame} {meth : Method} {c : Code} {Q : State → Prop} {D : va_G} {tk : Nat → ClassId} {N0 : Nat} {sa : Nat → Nat} (E : CallFix p m c cX5_wayNow 7 s args (wsy yX5_wayNow cX5_wayNow 7 (some (.object "java/lang/String"))) RX5) (hC : Ctx D tk N0 sa s) (hA : ∀ q, (nwA s.heap.size) q → N0 ≤ q) (hn : ∀ q, s.heap.size ≤ q → (nwA s.heap.size) q) (hr : meth.sig.returnType = (some (.object "java/lang/String"))) (hlk : meth.locks = false) (P : Nat → Prop) (hPN : ∀ q, P q → N0 ≤ q) (mo : Nat) (n9 : Nat) (kn : Int32) (th : Int32) (tt : Nat → Int64) (bb : Nat → Int64) (eT : Int64) (eB : Int64) (oT : Int64) (oB : Int64) (pk : Nat) (ca : Int32) (rf : Int32) (vs : Nat → Value) (x : Int32) (k_x : Nat) (hx_x : x = nI k_x) (hk_x : k_x < 6) (nl6 : Nat) (bb6 : Nat) (cap6 : Nat) (ff6 : Nat → Option Nat) (ww6 : Nat → Value) (md6 : Int32) (T : Nat → Int) (u2 : T (nl6 + 1) = 0) (u3 : ∀ i, i < nl6 → ∃ x : Int64, ww6 i = .long x ∧ x.toInt * T (i + 1) + T (i + 2) = T i) (u4 : ∀ i, 1 ≤ i → i ≤ nl6 → 1 ≤ T i ∧ T i ≤ 1000000000) (hlm6 : nl6 ≤ 43) (r_5 : Nat) (v_76 : Nat) (qf72 : Nat) (x_69 : Int64) (n : Nat) (k : Nat) (l9 : Nat) (E9 : Nat) (q9 : Nat) (y9 : Int32) (hf9 : 44 - k < n + 1) (hk9 : k ≤ nl6) (hx9 : y9 = nI k) (hE9 : ((10 ^ E9 : Nat) : Int) * T k ≤ 1000000000) (hZ9 : (k = 0 → E9 = 0)) (hL8 : l9 ≤ 3 * k + E9) (ih_32 : ∀ (k : Nat) (l9 : Nat) (E9 : Nat)(q9 : Nat) (y9 : Int32), 44 - k < n → k ≤ nl6 → y9 = nI k → ((10 ^ E9 : Nat) : Int) * T k ≤ 1000000000 → (k = 0 → E9 = 0) → l9 ≤ 3 * k + E9 → ∀ (H : Heap) (locs : List Loc) (ls : Array Slot), va_S (nwA s.heap.size) s.heap H locs → c1 D r_5 (.inr (7, [.int md6, .ref bb6, .int (nI nl6)])) H → c1 D bb6 (.inl (tk 4, cap6, .inr (.inr (.inr (.inr (ff6)))))) H → EL D 3 nl6 ff6 ww6 H → SX D tk q9 l9 H → lv_has ls 7 [(0, .ref mo), (1, .int x), (2, .ref r_5), (3, .ref q9), (4, .int y9)] → W p l e ({ frames := 8, cells := 393, slots := 14193, locals := 186 } : Room) s m args below meth c H locs (49 + 8 * k) (175 + m_wS k) Q (F0 m 32 ls [])) (hd11 : dgJ x_69 ≤ 11) (hdl : 1 ≤ dgJ x_69) (hEn : ((10 ^ (E9 + (dgJ x_69 - 1)) : Nat) : Int) * T (k + 1) ≤ 1000000000) (hkn : k < nl6) (b0_ : Nat) (hcA : sbC 16 (0 + l9) ≤ 500000) (hcB : sbC (sbC 16 (0 + l9)) (0 + l9 + 1) ≤ 500000) (hcC : sbC (sbC (sbC 16 (0 + l9)) (0 + l9 + 1)) (0 + l9 + 1 + 1) ≤ 500000) (hcD : sbC (sbC (sbC (sbC 16 (0 + l9)) (0 + l9 + 1)) (0 + l9 + 1 + 1)) (0 + l9 + 1 + 1 + dgJ x_69) ≤ 100000000) (hTc1 : 49 + 8 * k + 0 + 0 + 0 + 0 + 0 + 1 + 1 + (sbK 16 (0 + l9)) + 0 + (sbK (sbC 16 (0 + l9)) ((0 + l9) + 1)) + (sbK (sbC (sbC 16 (0 + l9)) ((0 + l9) + 1)) (((0 + l9) + 1) + 1)) + (sbK (sbC (sbC (sbC 16 (0 + l9)) ((0 + l9) + 1)) (((0 + l9) + 1) + 1)) ((((0 + l9) + 1) + 1) + dgJ x_69)) + 2 ≤ 393) (hTs1 : 175 + m_wS k + 0 + 0 + 0 + 0 + 0 + 4 + 16 + (sbS 16 (0 + l9)) + 0 + (sbS (sbC 16 (0 + l9)) ((0 + l9) + 1)) + (sbS (sbC (sbC 16 (0 + l9)) ((0 + l9) + 1)) (((0 + l9) + 1) + 1)) + (sbS (sbC (sbC (sbC 16 (0 + l9)) ((0 + l9) + 1)) (((0 + l9) + 1) + 1)) ((((0 + l9) + 1) + 1) + dgJ x_69)) + (4 + ((((0 + l9) + 1) + 1) + dgJ x_69)) ≤ 14193) (hWc1 : 49 + 8 * k + 0 + 0 + 0 + 0 + 0 + 1 + 1 + (sbK 16 (0 + l9)) + 0 + (sbK (sbC 16 (0 + l9)) ((0 + l9) + 1)) + (sbK (sbC (sbC 16 (0 + l9)) ((0 + l9) + 1)) (((0 + l9) + 1) + 1)) + (sbK (sbC (sbC (sbC 16 (0 + l9)) ((0 + l9) + 1)) (((0 + l9) + 1) + 1)) ((((0 + l9) + 1) + 1) + dgJ x_69)) + 2 ≤ 49 + 8 * (k + 1)) (hWs1 : 175 + m_wS k + 0 + 0 + 0 + 0 + 0 + 4 + 16 + (sbS 16 (0 + l9)) + 0 + (sbS (sbC 16 (0 + l9)) ((0 + l9) + 1)) + (sbS (sbC (sbC 16 (0 + l9)) ((0 + l9) + 1)) (((0 + l9) + 1) + 1)) + (sbS (sbC (sbC (sbC 16 (0 + l9)) ((0 + l9) + 1)) (((0 + l9) + 1) + 1)) ((((0 + l9) + 1) + 1) + dgJ x_69)) + (4 + ((((0 + l9) + 1) + 1) + dgJ x_69)) ≤ 175 + m_wS (k + 1)) (hTc2 : 49 + 8 * k + 0 + 0 + 0 + 0 + 0 + 1 + 1 + (sbK 16 (0 + l9)) + 0 + (sbK (sbC 16 (0 + l9)) ((0 + l9) + 0)) + (sbK (sbC (sbC 16 (0 + l9)) ((0 + l9) + 0)) (((0 + l9) + 0) + 1)) + (sbK (sbC (sbC (sbC 16 (0 + l9)) ((0 + l9) + 0)) (((0 + l9) + 0) + 1)) ((((0 + l9) + 0) + 1) + dgJ x_69)) + 2 ≤ 393) (hTs2 : 175 + m_wS k + 0 + 0 + 0 + 0 + 0 + 4 + 16 + (sbS 16 (0 + l9)) + 0 + (sbS (sbC 16 (0 + l9)) ((0 + l9) + 0)) + (sbS (sbC (sbC 16 (0 + l9)) ((0 + l9) + 0)) (((0 + l9) + 0) + 1)) + (sbS (sbC (sbC (sbC 16 (0 + l9)) ((0 + l9) + 0)) (((0 + l9) + 0) + 1)) ((((0 + l9) + 0) + 1) + dgJ x_69)) + (4 + ((((0 + l9) + 0) + 1) + dgJ x_69)) ≤ 14193) (hWc2 : 49 + 8 * k + 0 + 0 + 0 + 0 + 0 + 1 + 1 + (sbK 16 (0 + l9)) + 0 + (sbK (sbC 16 (0 + l9)) ((0 + l9) + 0)) + (sbK (sbC (sbC 16 (0 + l9)) ((0 + l9) + 0)) (((0 + l9) + 0) + 1)) + (sbK (sbC (sbC (sbC 16 (0 + l9)) ((0 + l9) + 0)) (((0 + l9) + 0) + 1)) ((((0 + l9) + 0) + 1) + dgJ x_69)) + 2 ≤ 49 + 8 * (k + 1)) (hWs2 : 175 + m_wS k + 0 + 0 + 0 + 0 + 0 + 4 + 16 + (sbS 16 (0 + l9)) + 0 + (sbS (sbC 16 (0 + l9)) ((0 + l9) + 0)) + (sbS (sbC (sbC 16 (0 + l9)) ((0 + l9) + 0)) (((0 + l9) + 0) + 1)) + (sbS (sbC (sbC (sbC 16 (0 + l9)) ((0 + l9) + 0)) (((0 + l9) + 0) + 1)) ((((0 + l9) + 0) + 1) + dgJ x_69)) + (4 + ((((0 + l9) + 0) + 1) + dgJ x_69)) ≤ 175 + m_wS (k + 1)) (H : Heap) (locs : List Loc) (ls : Array Slot) (hS : va_S (nwA s.heap.size) s.heap H locs) (fl6 : c1 D r_5 (.inr (7, [.int md6, .ref bb6, .int (nI nl6)])) H) (fR6 : c1 D bb6 (.inl (tk 4, cap6, .inr (.inr (.inr (.inr (ff6)))))) H) (el6 : EL D 3 nl6 ff6 ww6 H) (h0s : xf D 0 q9 0 (.ref b0_) H) (h1s : xf D 0 q9 1 (.int 0) H) (h2s : BX tk b0_ l9 H) (f72 : c1 D qf72 (.inr (1, [.ref v_76, .int 0, .int 0, .int (nI (0 + l9))])) H) (f74 : BA D tk v_76 (sbC 16 (0 + l9)) H) (k79 : SX D tk (sa (10 + 8)) 1 H) (s_f72 : s.heap.size ≤ qf72) (g_f72 : (nwA s.heap.size) qf72) (g_f74 : (nwA s.heap.size) v_76) (l_f72_f74 : qf72 < v_76) (l_fR6_f72 : bb6 < qf72) (l_fR6_f74 : bb6 < v_76) (l_fl6_f72 : r_5 < qf72) (l_fl6_f74 : r_5 < v_76) (l_h0s_f72 : q9 < qf72) (l_h0s_f74 : q9 < v_76) (l_h1s_f72 : q9 < qf72) (l_h1s_f74 : q9 < v_76) (l_h2s_f72 : b0_ < qf72) (l_h2s_f74 : b0_ < v_76) (hl : lv_has ls 7 [(5, .long x_69), (0, .ref mo), (1, .int x), (2, .ref r_5), (3, .ref q9), (4, .int y9)]) : W p l e ({ frames := 8, cells := 393, slots := 14193, locals := 186 } : Room) s m args below meth c H locs (49 + 8 * k + 0 + 0 + 0 + 0 + 0 + 1 + 1 + (sbK 16 (0 + l9)) + 0) (175 + m_wS k + 0 + 0 + 0 + 0 + 0 + 4 + 16 + (sbS 16 (0 + l9)) + 0) Q (F0 m 108 ls [.ref (sa (10 + 8)), .ref qf72]) := by
  obtain ⟨hx, hb, -⟩ := id E
  have hZ0_ := hS.1
  have t_fl6 := fl6.lt
  have t_fR6 := fR6.lt
  have t_h0s := h0s.lt
  have t_h1s := h1s.lt
  have t_h2s := h2s.lt
  have t_f72 := f72.lt
  have t_f74 := f74.lt
  have t_k79 := k79.lt
  refine k_r (pc := 108) (k_V E hC hS hA hl.1 (c1.recv hC f72 rfl) rfl (c_J4_append_15ec4 l D tk N0 sa H.size qf72 v_76 (sbC 16 (0 + l9)) (0 + l9) (sa (10 + 8)) 1 0 (hA _ g_f72) (hA _ g_f74) (sbC_ge _ _).1 hcA (by decide)) kw_1353 kw_399 kw_400 kw_19 kw_401 (n := 1) (by decide +kernel) rfl ⟨⟨rfl, rfl⟩, ⟨Nat.le_of_ble_eq_true rfl, Nat.le_of_ble_eq_true rfl⟩, (pre1 (pre1 (pre1 hTc1))), (pre1 (pre1 (pre1 hTs1)))⟩ rfl (Nat.le_of_ble_eq_true rfl) ⟨f72, f74, k79⟩ dX5_wayNow_108) hS (inA2.to g_f72 g_f74) hn (fun r_80 H locs hR hz hk hS => ?_)
  have fl6 := fl6.kept (hk _ fl6.lt (inA2.not (clA.ne fl6.cl f72.cl (hC.oo 7 1 rfl rfl (by decide))) (clA.ne fl6.cl f74.cl (hC.oa 7 1 rfl rfl)) fl6.lt))
  have fR6 := fR6.kept (hk _ fR6.lt (inA2.not (clA.ne fR6.cla f72.cl (hC.ao 1 4 rfl rfl)) (clA.ne fR6.cla f74.cl (hC.aa 4 1 rfl rfl (by dsimp only; decide))) fR6.lt))
  have el6 := el6.keep2 hk (fun q9 h9 => clA.ne h9 f72.cl (hC.ceo (Or.inl rfl) 1 rfl (by decide))) (fun q9 h9 => clA.ne h9 f74.cl (hC.cea (Or.inl rfl) 1 rfl))
  have h0s := h0s.kept (hk _ h0s.lt (inA2.not (clA.ne h0s.cl f72.cl (hC.oo 0 1 rfl rfl (by decide))) (clA.ne h0s.cl f74.cl (hC.oa 0 1 rfl rfl)) h0s.lt))
  have h1s := h1s.kept (hk _ h1s.lt (inA2.not (clA.ne h1s.cl f72.cl (hC.oo 0 1 rfl rfl (by decide))) (clA.ne h1s.cl f74.cl (hC.oa 0 1 rfl rfl)) h1s.lt))
  have h2s := h2s.kept (hk _ h2s.lt (inA2.not (h2s.neo hC f72.cl (ci := 1) rfl) (Nat.ne_of_lt l_h2s_f74) h2s.lt))
  obtain ⟨er9, hR⟩ := hR
  rw [er9]
  obtain ⟨v_81, hv_81, f72, f74⟩ := hR
  have g_f74 := hv_81.elim (fun e9 => e9 ▸ g_f74) (fun z9 => hn _ (Nat.le_trans hZ0_ z9))
  have l_fl6_f74 : r_5 < v_81 := hv_81.elim (fun e9 => e9 ▸ l_fl6_f74) (fun z9 => Nat.lt_of_lt_of_le t_fl6 z9)
  have l_fR6_f74 : bb6 < v_81 := hv_81.elim (fun e9 => e9 ▸ l_fR6_f74) (fun z9 => Nat.lt_of_lt_of_le t_fR6 z9)
  have l_h0s_f74 : q9 < v_81 := hv_81.elim (fun e9 => e9 ▸ l_h0s_f74) (fun z9 => Nat.lt_of_lt_of_le t_h0s z9)
  have l_h1s_f74 : q9 < v_81 := hv_81.elim (fun e9 => e9 ▸ l_h1s_f74) (fun z9 => Nat.lt_of_lt_of_le t_h1s z9)
  have l_h2s_f74 : b0_ < v_81 := hv_81.elim (fun e9 => e9 ▸ l_h2s_f74) (fun z9 => Nat.lt_of_lt_of_le t_h2s z9)
  have l_f72_f74 : qf72 < v_81 := hv_81.elim (fun e9 => e9 ▸ l_f72_f74) (fun z9 => Nat.lt_of_lt_of_le t_f72 z9)
  have hv_81 := hv_81.imp_right (fun z9 => Nat.le_trans hZ0_ z9)
  refine lv_iload (pc := 111) hx hb dX5_wayNow_111 (lv_at hl 5 rfl) ?_
  refine lv_iconst (pc := 113) (v := 2) hx hb dX5_wayNow_113 (by decide) ?_
  refine lv_irem (pc := 114) hx hb dX5_wayNow_114 (by decide) ?_
  refine lv_if_ne (pc := 115) (tgt := 124) hx hb dX5_wayNow_115 (by decide) (fun c_82 => ?_) (fun c_82 => ?_)
  · refine r_ldcwS (pc := 124) E hC 11 _ rfl rfl rfl dX5_wayNow_124 ?_
    have k83 : SX D tk (sa (10 + 11)) 1 H := hC.str hS hA 11 _ rfl (by decide)
    exact g10_X5_wayNow E hC hA hn hr hlk P hPN mo n9 kn th tt bb eT eB oT oB pk ca rf vs x k_x hx_x hk_x nl6 bb6 cap6 ff6 ww6 md6 T u2 u3 u4 hlm6 r_5 v_81 qf72 x_69 n k l9 E9 q9 y9 hf9 hk9 hx9 hE9 hZ9 hL8 ih_32 hd11 hdl hEn hkn b0_ hcA hcB hcC hcD hTc1 hTs1 hWc1 hWs1 _ _ _ hS fl6 fR6 el6 h0s h1s h2s f72 f74 k83 s_f72 g_f72 g_f74 l_f72_f74 l_fR6_f72 l_fR6_f74 l_fl6_f72 l_fl6_f74 l_h0s_f72 l_h0s_f74 l_h1s_f72 l_h1s_f74 l_h2s_f72 l_h2s_f74 hl
  · refine r_ldcwS (pc := 118) E hC 10 _ rfl rfl rfl dX5_wayNow_118 ?_
    have k91 : SX D tk (sa (10 + 10)) 1 H := hC.str hS hA 10 _ rfl (by decide)
    refine lv_goto (pc := 121) (tgt := 127) hx hb dX5_wayNow_121 (by decide) ?_
    exact g11_X5_wayNow E hC hA hn hr hlk P hPN mo n9 kn th tt bb eT eB oT oB pk ca rf vs x k_x hx_x hk_x nl6 bb6 cap6 ff6 ww6 md6 T u2 u3 u4 hlm6 r_5 v_81 qf72 x_69 n k l9 E9 q9 y9 hf9 hk9 hx9 hE9 hZ9 hL8 ih_32 hd11 hdl hEn hkn b0_ hcA hcB hcC hcD hTc1 hTs1 hWc1 hWs1 _ _ _ hS fl6 fR6 el6 h0s h1s h2s f72 f74 k91 s_f72 g_f72 g_f74 l_f72_f74 l_fR6_f72 l_fR6_f74 l_fl6_f72 l_fl6_f74 l_h0s_f72 l_h0s_f74 l_h1s_f72 l_h1s_f74 l_h2s_f72 l_h2s_f74 hl
set_option maxHeartbeats 20000000 in
set_option maxRecDepth 100000 in
theorem g13_X5_wayNow {p : Program} {l : Launch} {e : Env} {s : State} {m : MethodId} {args : Array Value} {below : List Frame} {meth : Method} {c : Code} {Q : State → Prop} {D : va_G} {tk : Nat → ClassId} {N0 : Nat} {sa : Nat → Nat} (E : CallFix p m c cX5_wayNow 7 s args (wsy yX5_wayNow cX5_wayNow 7 (some (.object "java/lang/String"))) RX5) (hC : Ctx D tk N0 sa s) (hA : ∀ q, (nwA s.heap.size) q → N0 ≤ q) (hn : ∀ q, s.heap.size ≤ q → (nwA s.heap.size) q) (hr : meth.sig.returnType = (some (.object "java/lang/String"))) (hlk : meth.locks = false) (P : Nat → Prop) (hPN : ∀ q, P q → N0 ≤ q) (mo : Nat) (n9 : Nat) (kn : Int32) (th : Int32) (tt : Nat → Int64) (bb : Nat → Int64) (eT : Int64) (eB : Int64) (oT : Int64) (oB : Int64) (pk : Nat) (ca : Int32) (rf : Int32) (vs : Nat → Value) (x : Int32) (k_x : Nat) (hx_x : x = nI k_x) (hk_x : k_x < 6) (nl6 : Nat) (bb6 : Nat) (cap6 : Nat) (ff6 : Nat → Option Nat) (ww6 : Nat → Value) (md6 : Int32) (T : Nat → Int) (u2 : T (nl6 + 1) = 0) (u3 : ∀ i, i < nl6 → ∃ x : Int64, ww6 i = .long x ∧ x.toInt * T (i + 1) + T (i + 2) = T i) (u4 : ∀ i, 1 ≤ i → i ≤ nl6 → 1 ≤ T i ∧ T i ≤ 1000000000) (hlm6 : nl6 ≤ 43) (r_5 : Nat) (v_101 : Nat) (qf72 : Nat) (x_69 : Int64) (n : Nat) (k : Nat) (l9 : Nat) (E9 : Nat) (q9 : Nat) (y9 : Int32) (hf9 : 44 - k < n + 1) (hk9 : k ≤ nl6) (hx9 : y9 = nI k) (hE9 : ((10 ^ E9 : Nat) : Int) * T k ≤ 1000000000) (hZ9 : (k = 0 → E9 = 0)) (hL8 : l9 ≤ 3 * k + E9) (ih_32 : ∀ (k : Nat) (l9 : Nat) (E9 : Nat)(q9 : Nat) (y9 : Int32), 44 - k < n → k ≤ nl6 → y9 = nI k → ((10 ^ E9 : Nat) : Int) * T k ≤ 1000000000 → (k = 0 → E9 = 0) → l9 ≤ 3 * k + E9 → ∀ (H : Heap) (locs : List Loc) (ls : Array Slot), va_S (nwA s.heap.size) s.heap H locs → c1 D r_5 (.inr (7, [.int md6, .ref bb6, .int (nI nl6)])) H → c1 D bb6 (.inl (tk 4, cap6, .inr (.inr (.inr (.inr (ff6)))))) H → EL D 3 nl6 ff6 ww6 H → SX D tk q9 l9 H → lv_has ls 7 [(0, .ref mo), (1, .int x), (2, .ref r_5), (3, .ref q9), (4, .int y9)] → W p l e ({ frames := 8, cells := 393, slots := 14193, locals := 186 } : Room) s m args below meth c H locs (49 + 8 * k) (175 + m_wS k) Q (F0 m 32 ls [])) (hd11 : dgJ x_69 ≤ 11) (hdl : 1 ≤ dgJ x_69) (hEn : ((10 ^ (E9 + (dgJ x_69 - 1)) : Nat) : Int) * T (k + 1) ≤ 1000000000) (hkn : k < nl6) (b0_ : Nat) (hcA : sbC 16 (0 + l9) ≤ 500000) (hcB : sbC (sbC 16 (0 + l9)) (0 + l9 + 0) ≤ 500000) (hcC : sbC (sbC (sbC 16 (0 + l9)) (0 + l9 + 0)) (0 + l9 + 0 + 1) ≤ 500000) (hcD : sbC (sbC (sbC (sbC 16 (0 + l9)) (0 + l9 + 0)) (0 + l9 + 0 + 1)) (0 + l9 + 0 + 1 + dgJ x_69) ≤ 100000000) (hTc2 : 49 + 8 * k + 0 + 0 + 0 + 0 + 0 + 1 + 1 + (sbK 16 (0 + l9)) + 0 + (sbK (sbC 16 (0 + l9)) ((0 + l9) + 0)) + (sbK (sbC (sbC 16 (0 + l9)) ((0 + l9) + 0)) (((0 + l9) + 0) + 1)) + (sbK (sbC (sbC (sbC 16 (0 + l9)) ((0 + l9) + 0)) (((0 + l9) + 0) + 1)) ((((0 + l9) + 0) + 1) + dgJ x_69)) + 2 ≤ 393) (hTs2 : 175 + m_wS k + 0 + 0 + 0 + 0 + 0 + 4 + 16 + (sbS 16 (0 + l9)) + 0 + (sbS (sbC 16 (0 + l9)) ((0 + l9) + 0)) + (sbS (sbC (sbC 16 (0 + l9)) ((0 + l9) + 0)) (((0 + l9) + 0) + 1)) + (sbS (sbC (sbC (sbC 16 (0 + l9)) ((0 + l9) + 0)) (((0 + l9) + 0) + 1)) ((((0 + l9) + 0) + 1) + dgJ x_69)) + (4 + ((((0 + l9) + 0) + 1) + dgJ x_69)) ≤ 14193) (hWc2 : 49 + 8 * k + 0 + 0 + 0 + 0 + 0 + 1 + 1 + (sbK 16 (0 + l9)) + 0 + (sbK (sbC 16 (0 + l9)) ((0 + l9) + 0)) + (sbK (sbC (sbC 16 (0 + l9)) ((0 + l9) + 0)) (((0 + l9) + 0) + 1)) + (sbK (sbC (sbC (sbC 16 (0 + l9)) ((0 + l9) + 0)) (((0 + l9) + 0) + 1)) ((((0 + l9) + 0) + 1) + dgJ x_69)) + 2 ≤ 49 + 8 * (k + 1)) (hWs2 : 175 + m_wS k + 0 + 0 + 0 + 0 + 0 + 4 + 16 + (sbS 16 (0 + l9)) + 0 + (sbS (sbC 16 (0 + l9)) ((0 + l9) + 0)) + (sbS (sbC (sbC 16 (0 + l9)) ((0 + l9) + 0)) (((0 + l9) + 0) + 1)) + (sbS (sbC (sbC (sbC 16 (0 + l9)) ((0 + l9) + 0)) (((0 + l9) + 0) + 1)) ((((0 + l9) + 0) + 1) + dgJ x_69)) + (4 + ((((0 + l9) + 0) + 1) + dgJ x_69)) ≤ 175 + m_wS (k + 1)) (H : Heap) (locs : List Loc) (ls : Array Slot) (hS : va_S (nwA s.heap.size) s.heap H locs) (fl6 : c1 D r_5 (.inr (7, [.int md6, .ref bb6, .int (nI nl6)])) H) (fR6 : c1 D bb6 (.inl (tk 4, cap6, .inr (.inr (.inr (.inr (ff6)))))) H) (el6 : EL D 3 nl6 ff6 ww6 H) (h0s : xf D 0 q9 0 (.ref b0_) H) (h1s : xf D 0 q9 1 (.int 0) H) (h2s : BX tk b0_ l9 H) (f72 : c1 D qf72 (.inr (1, [.ref v_101, .int 0, .int 0, .int (nI ((0 + l9) + 0))])) H) (f74 : BA D tk v_101 (sbC (sbC 16 (0 + l9)) ((0 + l9) + 0)) H) (k103 : SX D tk (sa (10 + 11)) 1 H) (s_f72 : s.heap.size ≤ qf72) (g_f72 : (nwA s.heap.size) qf72) (g_f74 : (nwA s.heap.size) v_101) (l_f72_f74 : qf72 < v_101) (l_fR6_f72 : bb6 < qf72) (l_fR6_f74 : bb6 < v_101) (l_fl6_f72 : r_5 < qf72) (l_fl6_f74 : r_5 < v_101) (l_h0s_f72 : q9 < qf72) (l_h0s_f74 : q9 < v_101) (l_h1s_f72 : q9 < qf72) (l_h1s_f74 : q9 < v_101) (l_h2s_f72 : b0_ < qf72) (l_h2s_f74 : b0_ < v_101) (hl : lv_has ls 7 [(5, .long x_69), (0, .ref mo), (1, .int x), (2, .ref r_5), (3, .ref q9), (4, .int y9)]) : W p l e ({ frames := 8, cells := 393, slots := 14193, locals := 186 } : Room) s m args below meth c H locs (49 + 8 * k + 0 + 0 + 0 + 0 + 0 + 1 + 1 + (sbK 16 (0 + l9)) + 0 + (sbK (sbC 16 (0 + l9)) ((0 + l9) + 0))) (175 + m_wS k + 0 + 0 + 0 + 0 + 0 + 4 + 16 + (sbS 16 (0 + l9)) + 0 + (sbS (sbC 16 (0 + l9)) ((0 + l9) + 0))) Q (F0 m 127 ls [.ref (sa (10 + 11)), .ref qf72]) := by
  obtain ⟨hx, hb, -⟩ := id E
  have hZ0_ := hS.1
  have t_fl6 := fl6.lt
  have t_fR6 := fR6.lt
  have t_h0s := h0s.lt
  have t_h1s := h1s.lt
  have t_h2s := h2s.lt
  have t_f72 := f72.lt
  have t_f74 := f74.lt
  have t_k103 := k103.lt
  refine k_r (pc := 127) (k_V E hC hS hA hl.1 (c1.recv hC f72 rfl) rfl (c_J4_append_15ec4 l D tk N0 sa H.size qf72 v_101 (sbC (sbC 16 (0 + l9)) ((0 + l9) + 0)) ((0 + l9) + 0) (sa (10 + 11)) 1 0 (hA _ g_f72) (hA _ g_f74) (sbC_ge _ _).1 hcB (by decide)) kw_1353 kw_399 kw_400 kw_19 kw_401 (n := 1) (by decide +kernel) rfl ⟨⟨rfl, rfl⟩, ⟨Nat.le_of_ble_eq_true rfl, Nat.le_of_ble_eq_true rfl⟩, (pre1 (pre1 hTc2)), (pre1 (pre1 hTs2))⟩ rfl (Nat.le_of_ble_eq_true rfl) ⟨f72, f74, k103⟩ dX5_wayNow_127) hS (inA2.to g_f72 g_f74) hn (fun r_104 H locs hR hz hk hS => ?_)
  have fl6 := fl6.kept (hk _ fl6.lt (inA2.not (clA.ne fl6.cl f72.cl (hC.oo 7 1 rfl rfl (by decide))) (clA.ne fl6.cl f74.cl (hC.oa 7 1 rfl rfl)) fl6.lt))
  have fR6 := fR6.kept (hk _ fR6.lt (inA2.not (clA.ne fR6.cla f72.cl (hC.ao 1 4 rfl rfl)) (clA.ne fR6.cla f74.cl (hC.aa 4 1 rfl rfl (by dsimp only; decide))) fR6.lt))
  have el6 := el6.keep2 hk (fun q9 h9 => clA.ne h9 f72.cl (hC.ceo (Or.inl rfl) 1 rfl (by decide))) (fun q9 h9 => clA.ne h9 f74.cl (hC.cea (Or.inl rfl) 1 rfl))
  have h0s := h0s.kept (hk _ h0s.lt (inA2.not (clA.ne h0s.cl f72.cl (hC.oo 0 1 rfl rfl (by decide))) (clA.ne h0s.cl f74.cl (hC.oa 0 1 rfl rfl)) h0s.lt))
  have h1s := h1s.kept (hk _ h1s.lt (inA2.not (clA.ne h1s.cl f72.cl (hC.oo 0 1 rfl rfl (by decide))) (clA.ne h1s.cl f74.cl (hC.oa 0 1 rfl rfl)) h1s.lt))
  have h2s := h2s.kept (hk _ h2s.lt (inA2.not (h2s.neo hC f72.cl (ci := 1) rfl) (Nat.ne_of_lt l_h2s_f74) h2s.lt))
  obtain ⟨er9, hR⟩ := hR
  rw [er9]
  obtain ⟨v_105, hv_105, f72, f74⟩ := hR
  have g_f74 := hv_105.elim (fun e9 => e9 ▸ g_f74) (fun z9 => hn _ (Nat.le_trans hZ0_ z9))
  have l_fl6_f74 : r_5 < v_105 := hv_105.elim (fun e9 => e9 ▸ l_fl6_f74) (fun z9 => Nat.lt_of_lt_of_le t_fl6 z9)
  have l_fR6_f74 : bb6 < v_105 := hv_105.elim (fun e9 => e9 ▸ l_fR6_f74) (fun z9 => Nat.lt_of_lt_of_le t_fR6 z9)
  have l_h0s_f74 : q9 < v_105 := hv_105.elim (fun e9 => e9 ▸ l_h0s_f74) (fun z9 => Nat.lt_of_lt_of_le t_h0s z9)
  have l_h1s_f74 : q9 < v_105 := hv_105.elim (fun e9 => e9 ▸ l_h1s_f74) (fun z9 => Nat.lt_of_lt_of_le t_h1s z9)
  have l_h2s_f74 : b0_ < v_105 := hv_105.elim (fun e9 => e9 ▸ l_h2s_f74) (fun z9 => Nat.lt_of_lt_of_le t_h2s z9)
  have l_f72_f74 : qf72 < v_105 := hv_105.elim (fun e9 => e9 ▸ l_f72_f74) (fun z9 => Nat.lt_of_lt_of_le t_f72 z9)
  have hv_105 := hv_105.imp_right (fun z9 => Nat.le_trans hZ0_ z9)
  refine lv_lload (pc := 130) hx hb dX5_wayNow_130 (lv_at hl 0 rfl) ?_
  have hZ0_ := hS.1
  have t_fl6 := fl6.lt
  have t_fR6 := fR6.lt
  have t_h0s := h0s.lt
  have t_h1s := h1s.lt
  have t_h2s := h2s.lt
  have t_f72 := f72.lt
  have t_f74 := f74.lt
  refine k_r (pc := 132) (k_V E hC hS hA hl.1 (c1.recv hC f72 rfl) rfl (c_J4_append_f7089 l D tk N0 sa H.size qf72 v_105 (sbC (sbC (sbC 16 (0 + l9)) ((0 + l9) + 0)) (((0 + l9) + 0) + 1)) (((0 + l9) + 0) + 1) 0 x_69 (hA _ g_f72) (hA _ g_f74) (sbC_ge _ _).1 hcC) kw_1354 kw_1355 kw_1356 kw_19 kw_1357 (n := 1) (by decide +kernel) rfl ⟨⟨rfl, rfl⟩, ⟨Nat.le_of_ble_eq_true rfl, Nat.le_of_ble_eq_true rfl⟩, (pre1 hTc2), (pre1 hTs2)⟩ rfl (Nat.le_of_ble_eq_true rfl) ⟨f72, f74⟩ dX5_wayNow_132) hS (inA2.to g_f72 g_f74) hn (fun r_106 H locs hR hz hk hS => ?_)
  have fl6 := fl6.kept (hk _ fl6.lt (inA2.not (clA.ne fl6.cl f72.cl (hC.oo 7 1 rfl rfl (by decide))) (clA.ne fl6.cl f74.cl (hC.oa 7 1 rfl rfl)) fl6.lt))
  have fR6 := fR6.kept (hk _ fR6.lt (inA2.not (clA.ne fR6.cla f72.cl (hC.ao 1 4 rfl rfl)) (clA.ne fR6.cla f74.cl (hC.aa 4 1 rfl rfl (by dsimp only; decide))) fR6.lt))
  have el6 := el6.keep2 hk (fun q9 h9 => clA.ne h9 f72.cl (hC.ceo (Or.inl rfl) 1 rfl (by decide))) (fun q9 h9 => clA.ne h9 f74.cl (hC.cea (Or.inl rfl) 1 rfl))
  have h0s := h0s.kept (hk _ h0s.lt (inA2.not (clA.ne h0s.cl f72.cl (hC.oo 0 1 rfl rfl (by decide))) (clA.ne h0s.cl f74.cl (hC.oa 0 1 rfl rfl)) h0s.lt))
  have h1s := h1s.kept (hk _ h1s.lt (inA2.not (clA.ne h1s.cl f72.cl (hC.oo 0 1 rfl rfl (by decide))) (clA.ne h1s.cl f74.cl (hC.oa 0 1 rfl rfl)) h1s.lt))
  have h2s := h2s.kept (hk _ h2s.lt (inA2.not (h2s.neo hC f72.cl (ci := 1) rfl) (Nat.ne_of_lt l_h2s_f74) h2s.lt))
  obtain ⟨er9, hR⟩ := hR
  rw [er9]
  obtain ⟨v_107, hv_107, f72, f74⟩ := hR
  have g_f74 := hv_107.elim (fun e9 => e9 ▸ g_f74) (fun z9 => hn _ (Nat.le_trans hZ0_ z9))
  have l_fl6_f74 : r_5 < v_107 := hv_107.elim (fun e9 => e9 ▸ l_fl6_f74) (fun z9 => Nat.lt_of_lt_of_le t_fl6 z9)
  have l_fR6_f74 : bb6 < v_107 := hv_107.elim (fun e9 => e9 ▸ l_fR6_f74) (fun z9 => Nat.lt_of_lt_of_le t_fR6 z9)
  have l_h0s_f74 : q9 < v_107 := hv_107.elim (fun e9 => e9 ▸ l_h0s_f74) (fun z9 => Nat.lt_of_lt_of_le t_h0s z9)
  have l_h1s_f74 : q9 < v_107 := hv_107.elim (fun e9 => e9 ▸ l_h1s_f74) (fun z9 => Nat.lt_of_lt_of_le t_h1s z9)
  have l_h2s_f74 : b0_ < v_107 := hv_107.elim (fun e9 => e9 ▸ l_h2s_f74) (fun z9 => Nat.lt_of_lt_of_le t_h2s z9)
  have l_f72_f74 : qf72 < v_107 := hv_107.elim (fun e9 => e9 ▸ l_f72_f74) (fun z9 => Nat.lt_of_lt_of_le t_f72 z9)
  have hv_107 := hv_107.imp_right (fun z9 => Nat.le_trans hZ0_ z9)
  have hv_107 := hv_107.elim (fun e9 => e9 ▸ hv_105) Or.inr
  have hZ0_ := hS.1
  have t_fl6 := fl6.lt
  have t_fR6 := fR6.lt
  have t_h0s := h0s.lt
  have t_h1s := h1s.lt
  have t_h2s := h2s.lt
  have t_f72 := f72.lt
  have t_f74 := f74.lt
  refine k_r (pc := 135) (k_V E hC hS hA hl.1 (c1.recv hC f72 rfl) rfl (c_J4_toString_0e30d l D tk N0 sa H.size qf72 v_107 (sbC (sbC (sbC (sbC 16 (0 + l9)) ((0 + l9) + 0)) (((0 + l9) + 0) + 1)) ((((0 + l9) + 0) + 1) + dgJ x_69)) ((((0 + l9) + 0) + 1) + dgJ x_69) 0 (sbC_ge _ _).1 hcD) kw_1381 kw_316 kw_317 kw_19 kw_318 (n := 0) (by decide +kernel) rfl ⟨⟨rfl, rfl⟩, ⟨Nat.le_of_ble_eq_true rfl, Nat.le_of_ble_eq_true rfl⟩, hTc2, hTs2⟩ rfl (Nat.le_of_ble_eq_true rfl) ⟨f72, f74⟩ dX5_wayNow_135) hS (fun q z w => absurd w (Nat.not_le.mpr z)) hn (fun r_108 H locs hR hz hk hS => ?_)
  have fl6 := fl6.kept (hk _ fl6.lt (Nat.not_le.mpr fl6.lt))
  have fR6 := fR6.kept (hk _ fR6.lt (Nat.not_le.mpr fR6.lt))
  have el6 := el6.new hk
  have h0s := h0s.kept (hk _ h0s.lt (Nat.not_le.mpr h0s.lt))
  have h1s := h1s.kept (hk _ h1s.lt (Nat.not_le.mpr h1s.lt))
  have h2s := h2s.kept (hk _ h2s.lt (Nat.not_le.mpr h2s.lt))
  have f72 := f72.kept (hk _ f72.lt (Nat.not_le.mpr f72.lt))
  have f74 := f74.kept (hk _ f74.lt (Nat.not_le.mpr f74.lt))
  obtain ⟨q_f109, z9_, y9_, f109⟩ := hR
  have f109 := SM.sx f109
  have zr_f109 : s.heap.size ≤ r_108 := Nat.le_trans hZ0_ z9_
  refine lv_astore_n (pc := 138) (lv' := [(3, .ref r_108), (5, .long x_69), (0, .ref mo), (1, .int x), (2, .ref r_5), (4, .int y9)]) hx hb dX5_wayNow_138 rfl hl (by decide) rfl (fun ls hl => ?_)
  obtain ⟨x_110, ex_110⟩ : ∃ z9 : Int32, z9 = y9 + 1 := ⟨_, rfl⟩
  refine lv_iinc (pc := 139) (v := x_110) (lv' := [(4, .int x_110), (3, .ref r_108), (5, .long x_69), (0, .ref mo), (1, .int x), (2, .ref r_5)]) hx hb dX5_wayNow_139 hl (k := 5) rfl (by rw [ex_110]; rfl) (by decide) rfl (fun ls hl => ?_)
  refine lv_goto (pc := 142) (tgt := 32) hx hb dX5_wayNow_142 (by decide) ?_
  refine W.widen (k := 49 + 8 * (k + 1)) (n := 175 + m_wS (k + 1)) hWc2 hWs2 ?_
  exact ih_32  (k + 1) _ (E9 + (dgJ x_69 - 1))  r_108 x_110 (by omega) (by omega) (i_up hx9 ex_110) hEn (fun z9 => absurd z9 (by omega)) (by omega) _ _ _ hS fl6 fR6 el6 f109 (lv_sub hl [3, 4, 5, 1, 0] rfl)
set_option maxHeartbeats 20000000 in
set_option maxRecDepth 100000 in
theorem g14_X5_wayNow {p : Program} {l : Launch} {e : Env} {s : State} {m : MethodId} {args : Array Value} {below : List Frame} {meth : Method} {c : Code} {Q : State → Prop} {D : va_G} {tk : Nat → ClassId} {N0 : Nat} {sa : Nat → Nat} (E : CallFix p m c cX5_wayNow 7 s args (wsy yX5_wayNow cX5_wayNow 7 (some (.object "java/lang/String"))) RX5) (hC : Ctx D tk N0 sa s) (hA : ∀ q, (nwA s.heap.size) q → N0 ≤ q) (hn : ∀ q, s.heap.size ≤ q → (nwA s.heap.size) q) (hr : meth.sig.returnType = (some (.object "java/lang/String"))) (hlk : meth.locks = false) (P : Nat → Prop) (hPN : ∀ q, P q → N0 ≤ q) (mo : Nat) (n9 : Nat) (kn : Int32) (th : Int32) (tt : Nat → Int64) (bb : Nat → Int64) (eT : Int64) (eB : Int64) (oT : Int64) (oB : Int64) (pk : Nat) (ca : Int32) (rf : Int32) (vs : Nat → Value) (x : Int32) (k_x : Nat) (hx_x : x = nI k_x) (hk_x : k_x < 6) (nl6 : Nat) (bb6 : Nat) (cap6 : Nat) (ff6 : Nat → Option Nat) (ww6 : Nat → Value) (md6 : Int32) (T : Nat → Int) (u2 : T (nl6 + 1) = 0) (u3 : ∀ i, i < nl6 → ∃ x : Int64, ww6 i = .long x ∧ x.toInt * T (i + 1) + T (i + 2) = T i) (u4 : ∀ i, 1 ≤ i → i ≤ nl6 → 1 ≤ T i ∧ T i ≤ 1000000000) (hlm6 : nl6 ≤ 43) (r_5 : Nat) (v_101 : Nat) (qf72 : Nat) (x_69 : Int64) (n : Nat) (k : Nat) (l9 : Nat) (E9 : Nat) (q9 : Nat) (y9 : Int32) (hf9 : 44 - k < n + 1) (hk9 : k ≤ nl6) (hx9 : y9 = nI k) (hE9 : ((10 ^ E9 : Nat) : Int) * T k ≤ 1000000000) (hZ9 : (k = 0 → E9 = 0)) (hL8 : l9 ≤ 3 * k + E9) (ih_32 : ∀ (k : Nat) (l9 : Nat) (E9 : Nat)(q9 : Nat) (y9 : Int32), 44 - k < n → k ≤ nl6 → y9 = nI k → ((10 ^ E9 : Nat) : Int) * T k ≤ 1000000000 → (k = 0 → E9 = 0) → l9 ≤ 3 * k + E9 → ∀ (H : Heap) (locs : List Loc) (ls : Array Slot), va_S (nwA s.heap.size) s.heap H locs → c1 D r_5 (.inr (7, [.int md6, .ref bb6, .int (nI nl6)])) H → c1 D bb6 (.inl (tk 4, cap6, .inr (.inr (.inr (.inr (ff6)))))) H → EL D 3 nl6 ff6 ww6 H → SX D tk q9 l9 H → lv_has ls 7 [(0, .ref mo), (1, .int x), (2, .ref r_5), (3, .ref q9), (4, .int y9)] → W p l e ({ frames := 8, cells := 393, slots := 14193, locals := 186 } : Room) s m args below meth c H locs (49 + 8 * k) (175 + m_wS k) Q (F0 m 32 ls [])) (hd11 : dgJ x_69 ≤ 11) (hdl : 1 ≤ dgJ x_69) (hEn : ((10 ^ (E9 + (dgJ x_69 - 1)) : Nat) : Int) * T (k + 1) ≤ 1000000000) (hkn : k < nl6) (b0_ : Nat) (hcA : sbC 16 (0 + l9) ≤ 500000) (hcB : sbC (sbC 16 (0 + l9)) (0 + l9 + 0) ≤ 500000) (hcC : sbC (sbC (sbC 16 (0 + l9)) (0 + l9 + 0)) (0 + l9 + 0 + 1) ≤ 500000) (hcD : sbC (sbC (sbC (sbC 16 (0 + l9)) (0 + l9 + 0)) (0 + l9 + 0 + 1)) (0 + l9 + 0 + 1 + dgJ x_69) ≤ 100000000) (hTc2 : 49 + 8 * k + 0 + 0 + 0 + 0 + 0 + 1 + 1 + (sbK 16 (0 + l9)) + 0 + (sbK (sbC 16 (0 + l9)) ((0 + l9) + 0)) + (sbK (sbC (sbC 16 (0 + l9)) ((0 + l9) + 0)) (((0 + l9) + 0) + 1)) + (sbK (sbC (sbC (sbC 16 (0 + l9)) ((0 + l9) + 0)) (((0 + l9) + 0) + 1)) ((((0 + l9) + 0) + 1) + dgJ x_69)) + 2 ≤ 393) (hTs2 : 175 + m_wS k + 0 + 0 + 0 + 0 + 0 + 4 + 16 + (sbS 16 (0 + l9)) + 0 + (sbS (sbC 16 (0 + l9)) ((0 + l9) + 0)) + (sbS (sbC (sbC 16 (0 + l9)) ((0 + l9) + 0)) (((0 + l9) + 0) + 1)) + (sbS (sbC (sbC (sbC 16 (0 + l9)) ((0 + l9) + 0)) (((0 + l9) + 0) + 1)) ((((0 + l9) + 0) + 1) + dgJ x_69)) + (4 + ((((0 + l9) + 0) + 1) + dgJ x_69)) ≤ 14193) (hWc2 : 49 + 8 * k + 0 + 0 + 0 + 0 + 0 + 1 + 1 + (sbK 16 (0 + l9)) + 0 + (sbK (sbC 16 (0 + l9)) ((0 + l9) + 0)) + (sbK (sbC (sbC 16 (0 + l9)) ((0 + l9) + 0)) (((0 + l9) + 0) + 1)) + (sbK (sbC (sbC (sbC 16 (0 + l9)) ((0 + l9) + 0)) (((0 + l9) + 0) + 1)) ((((0 + l9) + 0) + 1) + dgJ x_69)) + 2 ≤ 49 + 8 * (k + 1)) (hWs2 : 175 + m_wS k + 0 + 0 + 0 + 0 + 0 + 4 + 16 + (sbS 16 (0 + l9)) + 0 + (sbS (sbC 16 (0 + l9)) ((0 + l9) + 0)) + (sbS (sbC (sbC 16 (0 + l9)) ((0 + l9) + 0)) (((0 + l9) + 0) + 1)) + (sbS (sbC (sbC (sbC 16 (0 + l9)) ((0 + l9) + 0)) (((0 + l9) + 0) + 1)) ((((0 + l9) + 0) + 1) + dgJ x_69)) + (4 + ((((0 + l9) + 0) + 1) + dgJ x_69)) ≤ 175 + m_wS (k + 1)) (H : Heap) (locs : List Loc) (ls : Array Slot) (hS : va_S (nwA s.heap.size) s.heap H locs) (fl6 : c1 D r_5 (.inr (7, [.int md6, .ref bb6, .int (nI nl6)])) H) (fR6 : c1 D bb6 (.inl (tk 4, cap6, .inr (.inr (.inr (.inr (ff6)))))) H) (el6 : EL D 3 nl6 ff6 ww6 H) (h0s : xf D 0 q9 0 (.ref b0_) H) (h1s : xf D 0 q9 1 (.int 0) H) (h2s : BX tk b0_ l9 H) (f72 : c1 D qf72 (.inr (1, [.ref v_101, .int 0, .int 0, .int (nI ((0 + l9) + 0))])) H) (f74 : BA D tk v_101 (sbC (sbC 16 (0 + l9)) ((0 + l9) + 0)) H) (k111 : SX D tk (sa (10 + 10)) 1 H) (s_f72 : s.heap.size ≤ qf72) (g_f72 : (nwA s.heap.size) qf72) (g_f74 : (nwA s.heap.size) v_101) (l_f72_f74 : qf72 < v_101) (l_fR6_f72 : bb6 < qf72) (l_fR6_f74 : bb6 < v_101) (l_fl6_f72 : r_5 < qf72) (l_fl6_f74 : r_5 < v_101) (l_h0s_f72 : q9 < qf72) (l_h0s_f74 : q9 < v_101) (l_h1s_f72 : q9 < qf72) (l_h1s_f74 : q9 < v_101) (l_h2s_f72 : b0_ < qf72) (l_h2s_f74 : b0_ < v_101) (hl : lv_has ls 7 [(5, .long x_69), (0, .ref mo), (1, .int x), (2, .ref r_5), (3, .ref q9), (4, .int y9)]) : W p l e ({ frames := 8, cells := 393, slots := 14193, locals := 186 } : Room) s m args below meth c H locs (49 + 8 * k + 0 + 0 + 0 + 0 + 0 + 1 + 1 + (sbK 16 (0 + l9)) + 0 + (sbK (sbC 16 (0 + l9)) ((0 + l9) + 0))) (175 + m_wS k + 0 + 0 + 0 + 0 + 0 + 4 + 16 + (sbS 16 (0 + l9)) + 0 + (sbS (sbC 16 (0 + l9)) ((0 + l9) + 0))) Q (F0 m 127 ls [.ref (sa (10 + 10)), .ref qf72]) := by
  obtain ⟨hx, hb, -⟩ := id E
  have hZ0_ := hS.1
  have t_fl6 := fl6.lt
  have t_fR6 := fR6.lt
  have t_h0s := h0s.lt
  have t_h1s := h1s.lt
  have t_h2s := h2s.lt
  have t_f72 := f72.lt
  have t_f74 := f74.lt
  have t_k111 := k111.lt
  refine k_r (pc := 127) (k_V E hC hS hA hl.1 (c1.recv hC f72 rfl) rfl (c_J4_append_15ec4 l D tk N0 sa H.size qf72 v_101 (sbC (sbC 16 (0 + l9)) ((0 + l9) + 0)) ((0 + l9) + 0) (sa (10 + 10)) 1 0 (hA _ g_f72) (hA _ g_f74) (sbC_ge _ _).1 hcB (by decide)) kw_1353 kw_399 kw_400 kw_19 kw_401 (n := 1) (by decide +kernel) rfl ⟨⟨rfl, rfl⟩, ⟨Nat.le_of_ble_eq_true rfl, Nat.le_of_ble_eq_true rfl⟩, (pre1 (pre1 hTc2)), (pre1 (pre1 hTs2))⟩ rfl (Nat.le_of_ble_eq_true rfl) ⟨f72, f74, k111⟩ dX5_wayNow_127) hS (inA2.to g_f72 g_f74) hn (fun r_112 H locs hR hz hk hS => ?_)
  have fl6 := fl6.kept (hk _ fl6.lt (inA2.not (clA.ne fl6.cl f72.cl (hC.oo 7 1 rfl rfl (by decide))) (clA.ne fl6.cl f74.cl (hC.oa 7 1 rfl rfl)) fl6.lt))
  have fR6 := fR6.kept (hk _ fR6.lt (inA2.not (clA.ne fR6.cla f72.cl (hC.ao 1 4 rfl rfl)) (clA.ne fR6.cla f74.cl (hC.aa 4 1 rfl rfl (by dsimp only; decide))) fR6.lt))
  have el6 := el6.keep2 hk (fun q9 h9 => clA.ne h9 f72.cl (hC.ceo (Or.inl rfl) 1 rfl (by decide))) (fun q9 h9 => clA.ne h9 f74.cl (hC.cea (Or.inl rfl) 1 rfl))
  have h0s := h0s.kept (hk _ h0s.lt (inA2.not (clA.ne h0s.cl f72.cl (hC.oo 0 1 rfl rfl (by decide))) (clA.ne h0s.cl f74.cl (hC.oa 0 1 rfl rfl)) h0s.lt))
  have h1s := h1s.kept (hk _ h1s.lt (inA2.not (clA.ne h1s.cl f72.cl (hC.oo 0 1 rfl rfl (by decide))) (clA.ne h1s.cl f74.cl (hC.oa 0 1 rfl rfl)) h1s.lt))
  have h2s := h2s.kept (hk _ h2s.lt (inA2.not (h2s.neo hC f72.cl (ci := 1) rfl) (Nat.ne_of_lt l_h2s_f74) h2s.lt))
  obtain ⟨er9, hR⟩ := hR
  rw [er9]
  obtain ⟨v_113, hv_113, f72, f74⟩ := hR
  have g_f74 := hv_113.elim (fun e9 => e9 ▸ g_f74) (fun z9 => hn _ (Nat.le_trans hZ0_ z9))
  have l_fl6_f74 : r_5 < v_113 := hv_113.elim (fun e9 => e9 ▸ l_fl6_f74) (fun z9 => Nat.lt_of_lt_of_le t_fl6 z9)
  have l_fR6_f74 : bb6 < v_113 := hv_113.elim (fun e9 => e9 ▸ l_fR6_f74) (fun z9 => Nat.lt_of_lt_of_le t_fR6 z9)
  have l_h0s_f74 : q9 < v_113 := hv_113.elim (fun e9 => e9 ▸ l_h0s_f74) (fun z9 => Nat.lt_of_lt_of_le t_h0s z9)
  have l_h1s_f74 : q9 < v_113 := hv_113.elim (fun e9 => e9 ▸ l_h1s_f74) (fun z9 => Nat.lt_of_lt_of_le t_h1s z9)
  have l_h2s_f74 : b0_ < v_113 := hv_113.elim (fun e9 => e9 ▸ l_h2s_f74) (fun z9 => Nat.lt_of_lt_of_le t_h2s z9)
  have l_f72_f74 : qf72 < v_113 := hv_113.elim (fun e9 => e9 ▸ l_f72_f74) (fun z9 => Nat.lt_of_lt_of_le t_f72 z9)
  have hv_113 := hv_113.imp_right (fun z9 => Nat.le_trans hZ0_ z9)
  refine lv_lload (pc := 130) hx hb dX5_wayNow_130 (lv_at hl 0 rfl) ?_
  have hZ0_ := hS.1
  have t_fl6 := fl6.lt
  have t_fR6 := fR6.lt
  have t_h0s := h0s.lt
  have t_h1s := h1s.lt
  have t_h2s := h2s.lt
  have t_f72 := f72.lt
  have t_f74 := f74.lt
  refine k_r (pc := 132) (k_V E hC hS hA hl.1 (c1.recv hC f72 rfl) rfl (c_J4_append_f7089 l D tk N0 sa H.size qf72 v_113 (sbC (sbC (sbC 16 (0 + l9)) ((0 + l9) + 0)) (((0 + l9) + 0) + 1)) (((0 + l9) + 0) + 1) 0 x_69 (hA _ g_f72) (hA _ g_f74) (sbC_ge _ _).1 hcC) kw_1354 kw_1355 kw_1356 kw_19 kw_1357 (n := 1) (by decide +kernel) rfl ⟨⟨rfl, rfl⟩, ⟨Nat.le_of_ble_eq_true rfl, Nat.le_of_ble_eq_true rfl⟩, (pre1 hTc2), (pre1 hTs2)⟩ rfl (Nat.le_of_ble_eq_true rfl) ⟨f72, f74⟩ dX5_wayNow_132) hS (inA2.to g_f72 g_f74) hn (fun r_114 H locs hR hz hk hS => ?_)
  have fl6 := fl6.kept (hk _ fl6.lt (inA2.not (clA.ne fl6.cl f72.cl (hC.oo 7 1 rfl rfl (by decide))) (clA.ne fl6.cl f74.cl (hC.oa 7 1 rfl rfl)) fl6.lt))
  have fR6 := fR6.kept (hk _ fR6.lt (inA2.not (clA.ne fR6.cla f72.cl (hC.ao 1 4 rfl rfl)) (clA.ne fR6.cla f74.cl (hC.aa 4 1 rfl rfl (by dsimp only; decide))) fR6.lt))
  have el6 := el6.keep2 hk (fun q9 h9 => clA.ne h9 f72.cl (hC.ceo (Or.inl rfl) 1 rfl (by decide))) (fun q9 h9 => clA.ne h9 f74.cl (hC.cea (Or.inl rfl) 1 rfl))
  have h0s := h0s.kept (hk _ h0s.lt (inA2.not (clA.ne h0s.cl f72.cl (hC.oo 0 1 rfl rfl (by decide))) (clA.ne h0s.cl f74.cl (hC.oa 0 1 rfl rfl)) h0s.lt))
  have h1s := h1s.kept (hk _ h1s.lt (inA2.not (clA.ne h1s.cl f72.cl (hC.oo 0 1 rfl rfl (by decide))) (clA.ne h1s.cl f74.cl (hC.oa 0 1 rfl rfl)) h1s.lt))
  have h2s := h2s.kept (hk _ h2s.lt (inA2.not (h2s.neo hC f72.cl (ci := 1) rfl) (Nat.ne_of_lt l_h2s_f74) h2s.lt))
  obtain ⟨er9, hR⟩ := hR
  rw [er9]
  obtain ⟨v_115, hv_115, f72, f74⟩ := hR
  have g_f74 := hv_115.elim (fun e9 => e9 ▸ g_f74) (fun z9 => hn _ (Nat.le_trans hZ0_ z9))
  have l_fl6_f74 : r_5 < v_115 := hv_115.elim (fun e9 => e9 ▸ l_fl6_f74) (fun z9 => Nat.lt_of_lt_of_le t_fl6 z9)
  have l_fR6_f74 : bb6 < v_115 := hv_115.elim (fun e9 => e9 ▸ l_fR6_f74) (fun z9 => Nat.lt_of_lt_of_le t_fR6 z9)
  have l_h0s_f74 : q9 < v_115 := hv_115.elim (fun e9 => e9 ▸ l_h0s_f74) (fun z9 => Nat.lt_of_lt_of_le t_h0s z9)
  have l_h1s_f74 : q9 < v_115 := hv_115.elim (fun e9 => e9 ▸ l_h1s_f74) (fun z9 => Nat.lt_of_lt_of_le t_h1s z9)
  have l_h2s_f74 : b0_ < v_115 := hv_115.elim (fun e9 => e9 ▸ l_h2s_f74) (fun z9 => Nat.lt_of_lt_of_le t_h2s z9)
  have l_f72_f74 : qf72 < v_115 := hv_115.elim (fun e9 => e9 ▸ l_f72_f74) (fun z9 => Nat.lt_of_lt_of_le t_f72 z9)
  have hv_115 := hv_115.imp_right (fun z9 => Nat.le_trans hZ0_ z9)
  have hv_115 := hv_115.elim (fun e9 => e9 ▸ hv_113) Or.inr
  have hZ0_ := hS.1
  have t_fl6 := fl6.lt
  have t_fR6 := fR6.lt
  have t_h0s := h0s.lt
  have t_h1s := h1s.lt
  have t_h2s := h2s.lt
  have t_f72 := f72.lt
  have t_f74 := f74.lt
  refine k_r (pc := 135) (k_V E hC hS hA hl.1 (c1.recv hC f72 rfl) rfl (c_J4_toString_0e30d l D tk N0 sa H.size qf72 v_115 (sbC (sbC (sbC (sbC 16 (0 + l9)) ((0 + l9) + 0)) (((0 + l9) + 0) + 1)) ((((0 + l9) + 0) + 1) + dgJ x_69)) ((((0 + l9) + 0) + 1) + dgJ x_69) 0 (sbC_ge _ _).1 hcD) kw_1381 kw_316 kw_317 kw_19 kw_318 (n := 0) (by decide +kernel) rfl ⟨⟨rfl, rfl⟩, ⟨Nat.le_of_ble_eq_true rfl, Nat.le_of_ble_eq_true rfl⟩, hTc2, hTs2⟩ rfl (Nat.le_of_ble_eq_true rfl) ⟨f72, f74⟩ dX5_wayNow_135) hS (fun q z w => absurd w (Nat.not_le.mpr z)) hn (fun r_116 H locs hR hz hk hS => ?_)
  have fl6 := fl6.kept (hk _ fl6.lt (Nat.not_le.mpr fl6.lt))
  have fR6 := fR6.kept (hk _ fR6.lt (Nat.not_le.mpr fR6.lt))
  have el6 := el6.new hk
  have h0s := h0s.kept (hk _ h0s.lt (Nat.not_le.mpr h0s.lt))
  have h1s := h1s.kept (hk _ h1s.lt (Nat.not_le.mpr h1s.lt))
  have h2s := h2s.kept (hk _ h2s.lt (Nat.not_le.mpr h2s.lt))
  have f72 := f72.kept (hk _ f72.lt (Nat.not_le.mpr f72.lt))
  have f74 := f74.kept (hk _ f74.lt (Nat.not_le.mpr f74.lt))
  obtain ⟨q_f117, z9_, y9_, f117⟩ := hR
  have f117 := SM.sx f117
  have zr_f117 : s.heap.size ≤ r_116 := Nat.le_trans hZ0_ z9_
  refine lv_astore_n (pc := 138) (lv' := [(3, .ref r_116), (5, .long x_69), (0, .ref mo), (1, .int x), (2, .ref r_5), (4, .int y9)]) hx hb dX5_wayNow_138 rfl hl (by decide) rfl (fun ls hl => ?_)
  obtain ⟨x_118, ex_118⟩ : ∃ z9 : Int32, z9 = y9 + 1 := ⟨_, rfl⟩
  refine lv_iinc (pc := 139) (v := x_118) (lv' := [(4, .int x_118), (3, .ref r_116), (5, .long x_69), (0, .ref mo), (1, .int x), (2, .ref r_5)]) hx hb dX5_wayNow_139 hl (k := 5) rfl (by rw [ex_118]; rfl) (by decide) rfl (fun ls hl => ?_)
  refine lv_goto (pc := 142) (tgt := 32) hx hb dX5_wayNow_142 (by decide) ?_
  refine W.widen (k := 49 + 8 * (k + 1)) (n := 175 + m_wS (k + 1)) hWc2 hWs2 ?_
  exact ih_32  (k + 1) _ (E9 + (dgJ x_69 - 1))  r_116 x_118 (by omega) (by omega) (i_up hx9 ex_118) hEn (fun z9 => absurd z9 (by omega)) (by omega) _ _ _ hS fl6 fR6 el6 f117 (lv_sub hl [3, 4, 5, 1, 0] rfl)
set_option maxHeartbeats 20000000 in
set_option maxRecDepth 100000 in
theorem g12_X5_wayNow {p : Program} {l : Launch} {e : Env} {s : State} {m : MethodId} {args : Array Value} {below : List Frame} {meth : Method} {c : Code} {Q : State → Prop} {D : va_G} {tk : Nat → ClassId} {N0 : Nat} {sa : Nat → Nat} (E : CallFix p m c cX5_wayNow 7 s args (wsy yX5_wayNow cX5_wayNow 7 (some (.object "java/lang/String"))) RX5) (hC : Ctx D tk N0 sa s) (hA : ∀ q, (nwA s.heap.size) q → N0 ≤ q) (hn : ∀ q, s.heap.size ≤ q → (nwA s.heap.size) q) (hr : meth.sig.returnType = (some (.object "java/lang/String"))) (hlk : meth.locks = false) (P : Nat → Prop) (hPN : ∀ q, P q → N0 ≤ q) (mo : Nat) (n9 : Nat) (kn : Int32) (th : Int32) (tt : Nat → Int64) (bb : Nat → Int64) (eT : Int64) (eB : Int64) (oT : Int64) (oB : Int64) (pk : Nat) (ca : Int32) (rf : Int32) (vs : Nat → Value) (x : Int32) (k_x : Nat) (hx_x : x = nI k_x) (hk_x : k_x < 6) (nl6 : Nat) (bb6 : Nat) (cap6 : Nat) (ff6 : Nat → Option Nat) (ww6 : Nat → Value) (md6 : Int32) (T : Nat → Int) (u2 : T (nl6 + 1) = 0) (u3 : ∀ i, i < nl6 → ∃ x : Int64, ww6 i = .long x ∧ x.toInt * T (i + 1) + T (i + 2) = T i) (u4 : ∀ i, 1 ≤ i → i ≤ nl6 → 1 ≤ T i ∧ T i ≤ 1000000000) (hlm6 : nl6 ≤ 43) (r_5 : Nat) (v_76 : Nat) (qf72 : Nat) (x_69 : Int64) (n : Nat) (k : Nat) (l9 : Nat) (E9 : Nat) (q9 : Nat) (y9 : Int32) (hf9 : 44 - k < n + 1) (hk9 : k ≤ nl6) (hx9 : y9 = nI k) (hE9 : ((10 ^ E9 : Nat) : Int) * T k ≤ 1000000000) (hZ9 : (k = 0 → E9 = 0)) (hL8 : l9 ≤ 3 * k + E9) (ih_32 : ∀ (k : Nat) (l9 : Nat) (E9 : Nat)(q9 : Nat) (y9 : Int32), 44 - k < n → k ≤ nl6 → y9 = nI k → ((10 ^ E9 : Nat) : Int) * T k ≤ 1000000000 → (k = 0 → E9 = 0) → l9 ≤ 3 * k + E9 → ∀ (H : Heap) (locs : List Loc) (ls : Array Slot), va_S (nwA s.heap.size) s.heap H locs → c1 D r_5 (.inr (7, [.int md6, .ref bb6, .int (nI nl6)])) H → c1 D bb6 (.inl (tk 4, cap6, .inr (.inr (.inr (.inr (ff6)))))) H → EL D 3 nl6 ff6 ww6 H → SX D tk q9 l9 H → lv_has ls 7 [(0, .ref mo), (1, .int x), (2, .ref r_5), (3, .ref q9), (4, .int y9)] → W p l e ({ frames := 8, cells := 393, slots := 14193, locals := 186 } : Room) s m args below meth c H locs (49 + 8 * k) (175 + m_wS k) Q (F0 m 32 ls [])) (hd11 : dgJ x_69 ≤ 11) (hdl : 1 ≤ dgJ x_69) (hEn : ((10 ^ (E9 + (dgJ x_69 - 1)) : Nat) : Int) * T (k + 1) ≤ 1000000000) (hkn : k < nl6) (b0_ : Nat) (hcA : sbC 16 (0 + l9) ≤ 500000) (hcB : sbC (sbC 16 (0 + l9)) (0 + l9 + 0) ≤ 500000) (hcC : sbC (sbC (sbC 16 (0 + l9)) (0 + l9 + 0)) (0 + l9 + 0 + 1) ≤ 500000) (hcD : sbC (sbC (sbC (sbC 16 (0 + l9)) (0 + l9 + 0)) (0 + l9 + 0 + 1)) (0 + l9 + 0 + 1 + dgJ x_69) ≤ 100000000) (hTc1 : 49 + 8 * k + 0 + 0 + 0 + 0 + 0 + 1 + 1 + (sbK 16 (0 + l9)) + 0 + (sbK (sbC 16 (0 + l9)) ((0 + l9) + 1)) + (sbK (sbC (sbC 16 (0 + l9)) ((0 + l9) + 1)) (((0 + l9) + 1) + 1)) + (sbK (sbC (sbC (sbC 16 (0 + l9)) ((0 + l9) + 1)) (((0 + l9) + 1) + 1)) ((((0 + l9) + 1) + 1) + dgJ x_69)) + 2 ≤ 393) (hTs1 : 175 + m_wS k + 0 + 0 + 0 + 0 + 0 + 4 + 16 + (sbS 16 (0 + l9)) + 0 + (sbS (sbC 16 (0 + l9)) ((0 + l9) + 1)) + (sbS (sbC (sbC 16 (0 + l9)) ((0 + l9) + 1)) (((0 + l9) + 1) + 1)) + (sbS (sbC (sbC (sbC 16 (0 + l9)) ((0 + l9) + 1)) (((0 + l9) + 1) + 1)) ((((0 + l9) + 1) + 1) + dgJ x_69)) + (4 + ((((0 + l9) + 1) + 1) + dgJ x_69)) ≤ 14193) (hWc1 : 49 + 8 * k + 0 + 0 + 0 + 0 + 0 + 1 + 1 + (sbK 16 (0 + l9)) + 0 + (sbK (sbC 16 (0 + l9)) ((0 + l9) + 1)) + (sbK (sbC (sbC 16 (0 + l9)) ((0 + l9) + 1)) (((0 + l9) + 1) + 1)) + (sbK (sbC (sbC (sbC 16 (0 + l9)) ((0 + l9) + 1)) (((0 + l9) + 1) + 1)) ((((0 + l9) + 1) + 1) + dgJ x_69)) + 2 ≤ 49 + 8 * (k + 1)) (hWs1 : 175 + m_wS k + 0 + 0 + 0 + 0 + 0 + 4 + 16 + (sbS 16 (0 + l9)) + 0 + (sbS (sbC 16 (0 + l9)) ((0 + l9) + 1)) + (sbS (sbC (sbC 16 (0 + l9)) ((0 + l9) + 1)) (((0 + l9) + 1) + 1)) + (sbS (sbC (sbC (sbC 16 (0 + l9)) ((0 + l9) + 1)) (((0 + l9) + 1) + 1)) ((((0 + l9) + 1) + 1) + dgJ x_69)) + (4 + ((((0 + l9) + 1) + 1) + dgJ x_69)) ≤ 175 + m_wS (k + 1)) (hTc2 : 49 + 8 * k + 0 + 0 + 0 + 0 + 0 + 1 + 1 + (sbK 16 (0 + l9)) + 0 + (sbK (sbC 16 (0 + l9)) ((0 + l9) + 0)) + (sbK (sbC (sbC 16 (0 + l9)) ((0 + l9) + 0)) (((0 + l9) + 0) + 1)) + (sbK (sbC (sbC (sbC 16 (0 + l9)) ((0 + l9) + 0)) (((0 + l9) + 0) + 1)) ((((0 + l9) + 0) + 1) + dgJ x_69)) + 2 ≤ 393) (hTs2 : 175 + m_wS k + 0 + 0 + 0 + 0 + 0 + 4 + 16 + (sbS 16 (0 + l9)) + 0 + (sbS (sbC 16 (0 + l9)) ((0 + l9) + 0)) + (sbS (sbC (sbC 16 (0 + l9)) ((0 + l9) + 0)) (((0 + l9) + 0) + 1)) + (sbS (sbC (sbC (sbC 16 (0 + l9)) ((0 + l9) + 0)) (((0 + l9) + 0) + 1)) ((((0 + l9) + 0) + 1) + dgJ x_69)) + (4 + ((((0 + l9) + 0) + 1) + dgJ x_69)) ≤ 14193) (hWc2 : 49 + 8 * k + 0 + 0 + 0 + 0 + 0 + 1 + 1 + (sbK 16 (0 + l9)) + 0 + (sbK (sbC 16 (0 + l9)) ((0 + l9) + 0)) + (sbK (sbC (sbC 16 (0 + l9)) ((0 + l9) + 0)) (((0 + l9) + 0) + 1)) + (sbK (sbC (sbC (sbC 16 (0 + l9)) ((0 + l9) + 0)) (((0 + l9) + 0) + 1)) ((((0 + l9) + 0) + 1) + dgJ x_69)) + 2 ≤ 49 + 8 * (k + 1)) (hWs2 : 175 + m_wS k + 0 + 0 + 0 + 0 + 0 + 4 + 16 + (sbS 16 (0 + l9)) + 0 + (sbS (sbC 16 (0 + l9)) ((0 + l9) + 0)) + (sbS (sbC (sbC 16 (0 + l9)) ((0 + l9) + 0)) (((0 + l9) + 0) + 1)) + (sbS (sbC (sbC (sbC 16 (0 + l9)) ((0 + l9) + 0)) (((0 + l9) + 0) + 1)) ((((0 + l9) + 0) + 1) + dgJ x_69)) + (4 + ((((0 + l9) + 0) + 1) + dgJ x_69)) ≤ 175 + m_wS (k + 1)) (H : Heap) (locs : List Loc) (ls : Array Slot) (hS : va_S (nwA s.heap.size) s.heap H locs) (fl6 : c1 D r_5 (.inr (7, [.int md6, .ref bb6, .int (nI nl6)])) H) (fR6 : c1 D bb6 (.inl (tk 4, cap6, .inr (.inr (.inr (.inr (ff6)))))) H) (el6 : EL D 3 nl6 ff6 ww6 H) (h0s : xf D 0 q9 0 (.ref b0_) H) (h1s : xf D 0 q9 1 (.int 0) H) (h2s : BX tk b0_ l9 H) (f72 : c1 D qf72 (.inr (1, [.ref v_76, .int 0, .int 0, .int (nI (0 + l9))])) H) (f74 : BA D tk v_76 (sbC 16 (0 + l9)) H) (k99 : SX D tk (sa (10 + 6)) 0 H) (s_f72 : s.heap.size ≤ qf72) (g_f72 : (nwA s.heap.size) qf72) (g_f74 : (nwA s.heap.size) v_76) (l_f72_f74 : qf72 < v_76) (l_fR6_f72 : bb6 < qf72) (l_fR6_f74 : bb6 < v_76) (l_fl6_f72 : r_5 < qf72) (l_fl6_f74 : r_5 < v_76) (l_h0s_f72 : q9 < qf72) (l_h0s_f74 : q9 < v_76) (l_h1s_f72 : q9 < qf72) (l_h1s_f74 : q9 < v_76) (l_h2s_f72 : b0_ < qf72) (l_h2s_f74 : b0_ < v_76) (hl : lv_has ls 7 [(5, .long x_69), (0, .ref mo), (1, .int x), (2, .ref r_5), (3, .ref q9), (4, .int y9)]) : W p l e ({ frames := 8, cells := 393, slots := 14193, locals := 186 } : Room) s m args below meth c H locs (49 + 8 * k + 0 + 0 + 0 + 0 + 0 + 1 + 1 + (sbK 16 (0 + l9)) + 0) (175 + m_wS k + 0 + 0 + 0 + 0 + 0 + 4 + 16 + (sbS 16 (0 + l9)) + 0) Q (F0 m 108 ls [.ref (sa (10 + 6)), .ref qf72]) := by
  obtain ⟨hx, hb, -⟩ := id E
  have hZ0_ := hS.1
  have t_fl6 := fl6.lt
  have t_fR6 := fR6.lt
  have t_h0s := h0s.lt
  have t_h1s := h1s.lt
  have t_h2s := h2s.lt
  have t_f72 := f72.lt
  have t_f74 := f74.lt
  have t_k99 := k99.lt
  refine k_r (pc := 108) (k_V E hC hS hA hl.1 (c1.recv hC f72 rfl) rfl (c_J4_append_15ec4 l D tk N0 sa H.size qf72 v_76 (sbC 16 (0 + l9)) (0 + l9) (sa (10 + 6)) 0 0 (hA _ g_f72) (hA _ g_f74) (sbC_ge _ _).1 hcA (by decide)) kw_1353 kw_399 kw_400 kw_19 kw_401 (n := 1) (by decide +kernel) rfl ⟨⟨rfl, rfl⟩, ⟨Nat.le_of_ble_eq_true rfl, Nat.le_of_ble_eq_true rfl⟩, (pre1 (pre1 (pre1 hTc2))), (pre1 (pre1 (pre1 hTs2)))⟩ rfl (Nat.le_of_ble_eq_true rfl) ⟨f72, f74, k99⟩ dX5_wayNow_108) hS (inA2.to g_f72 g_f74) hn (fun r_100 H locs hR hz hk hS => ?_)
  have fl6 := fl6.kept (hk _ fl6.lt (inA2.not (clA.ne fl6.cl f72.cl (hC.oo 7 1 rfl rfl (by decide))) (clA.ne fl6.cl f74.cl (hC.oa 7 1 rfl rfl)) fl6.lt))
  have fR6 := fR6.kept (hk _ fR6.lt (inA2.not (clA.ne fR6.cla f72.cl (hC.ao 1 4 rfl rfl)) (clA.ne fR6.cla f74.cl (hC.aa 4 1 rfl rfl (by dsimp only; decide))) fR6.lt))
  have el6 := el6.keep2 hk (fun q9 h9 => clA.ne h9 f72.cl (hC.ceo (Or.inl rfl) 1 rfl (by decide))) (fun q9 h9 => clA.ne h9 f74.cl (hC.cea (Or.inl rfl) 1 rfl))
  have h0s := h0s.kept (hk _ h0s.lt (inA2.not (clA.ne h0s.cl f72.cl (hC.oo 0 1 rfl rfl (by decide))) (clA.ne h0s.cl f74.cl (hC.oa 0 1 rfl rfl)) h0s.lt))
  have h1s := h1s.kept (hk _ h1s.lt (inA2.not (clA.ne h1s.cl f72.cl (hC.oo 0 1 rfl rfl (by decide))) (clA.ne h1s.cl f74.cl (hC.oa 0 1 rfl rfl)) h1s.lt))
  have h2s := h2s.kept (hk _ h2s.lt (inA2.not (h2s.neo hC f72.cl (ci := 1) rfl) (Nat.ne_of_lt l_h2s_f74) h2s.lt))
  obtain ⟨er9, hR⟩ := hR
  rw [er9]
  obtain ⟨v_101, hv_101, f72, f74⟩ := hR
  have g_f74 := hv_101.elim (fun e9 => e9 ▸ g_f74) (fun z9 => hn _ (Nat.le_trans hZ0_ z9))
  have l_fl6_f74 : r_5 < v_101 := hv_101.elim (fun e9 => e9 ▸ l_fl6_f74) (fun z9 => Nat.lt_of_lt_of_le t_fl6 z9)
  have l_fR6_f74 : bb6 < v_101 := hv_101.elim (fun e9 => e9 ▸ l_fR6_f74) (fun z9 => Nat.lt_of_lt_of_le t_fR6 z9)
  have l_h0s_f74 : q9 < v_101 := hv_101.elim (fun e9 => e9 ▸ l_h0s_f74) (fun z9 => Nat.lt_of_lt_of_le t_h0s z9)
  have l_h1s_f74 : q9 < v_101 := hv_101.elim (fun e9 => e9 ▸ l_h1s_f74) (fun z9 => Nat.lt_of_lt_of_le t_h1s z9)
  have l_h2s_f74 : b0_ < v_101 := hv_101.elim (fun e9 => e9 ▸ l_h2s_f74) (fun z9 => Nat.lt_of_lt_of_le t_h2s z9)
  have l_f72_f74 : qf72 < v_101 := hv_101.elim (fun e9 => e9 ▸ l_f72_f74) (fun z9 => Nat.lt_of_lt_of_le t_f72 z9)
  have hv_101 := hv_101.imp_right (fun z9 => Nat.le_trans hZ0_ z9)
  refine lv_iload (pc := 111) hx hb dX5_wayNow_111 (lv_at hl 5 rfl) ?_
  refine lv_iconst (pc := 113) (v := 2) hx hb dX5_wayNow_113 (by decide) ?_
  refine lv_irem (pc := 114) hx hb dX5_wayNow_114 (by decide) ?_
  refine lv_if_ne (pc := 115) (tgt := 124) hx hb dX5_wayNow_115 (by decide) (fun c_102 => ?_) (fun c_102 => ?_)
  · refine r_ldcwS (pc := 124) E hC 11 _ rfl rfl rfl dX5_wayNow_124 ?_
    have k103 : SX D tk (sa (10 + 11)) 1 H := hC.str hS hA 11 _ rfl (by decide)
    exact g13_X5_wayNow E hC hA hn hr hlk P hPN mo n9 kn th tt bb eT eB oT oB pk ca rf vs x k_x hx_x hk_x nl6 bb6 cap6 ff6 ww6 md6 T u2 u3 u4 hlm6 r_5 v_101 qf72 x_69 n k l9 E9 q9 y9 hf9 hk9 hx9 hE9 hZ9 hL8 ih_32 hd11 hdl hEn hkn b0_ hcA hcB hcC hcD hTc2 hTs2 hWc2 hWs2 _ _ _ hS fl6 fR6 el6 h0s h1s h2s f72 f74 k103 s_f72 g_f72 g_f74 l_f72_f74 l_fR6_f72 l_fR6_f74 l_fl6_f72 l_fl6_f74 l_h0s_f72 l_h0s_f74 l_h1s_f72 l_h1s_f74 l_h2s_f72 l_h2s_f74 hl
  · refine r_ldcwS (pc := 118) E hC 10 _ rfl rfl rfl dX5_wayNow_118 ?_
    have k111 : SX D tk (sa (10 + 10)) 1 H := hC.str hS hA 10 _ rfl (by decide)
    refine lv_goto (pc := 121) (tgt := 127) hx hb dX5_wayNow_121 (by decide) ?_
    exact g14_X5_wayNow E hC hA hn hr hlk P hPN mo n9 kn th tt bb eT eB oT oB pk ca rf vs x k_x hx_x hk_x nl6 bb6 cap6 ff6 ww6 md6 T u2 u3 u4 hlm6 r_5 v_101 qf72 x_69 n k l9 E9 q9 y9 hf9 hk9 hx9 hE9 hZ9 hL8 ih_32 hd11 hdl hEn hkn b0_ hcA hcB hcC hcD hTc2 hTs2 hWc2 hWs2 _ _ _ hS fl6 fR6 el6 h0s h1s h2s f72 f74 k111 s_f72 g_f72 g_f74 l_f72_f74 l_fR6_f72 l_fR6_f74 l_fl6_f72 l_fl6_f74 l_h0s_f72 l_h0s_f74 l_h1s_f72 l_h1s_f74 l_h2s_f72 l_h2s_f74 hl
set_option maxHeartbeats 20000000 in
set_option maxRecDepth 100000 in
theorem g8_X5_wayNow {p : Program} {l : Launch} {e : Env} {s : State} {m : MethodId} {args : Array Value} {below : List Frame} {meth : Method} {c : Code} {Q : State → Prop} {D : va_G} {tk : Nat → ClassId} {N0 : Nat} {sa : Nat → Nat} (E : CallFix p m c cX5_wayNow 7 s args (wsy yX5_wayNow cX5_wayNow 7 (some (.object "java/lang/String"))) RX5) (hC : Ctx D tk N0 sa s) (hA : ∀ q, (nwA s.heap.size) q → N0 ≤ q) (hn : ∀ q, s.heap.size ≤ q → (nwA s.heap.size) q) (hr : meth.sig.returnType = (some (.object "java/lang/String"))) (hlk : meth.locks = false) (P : Nat → Prop) (hPN : ∀ q, P q → N0 ≤ q) (mo : Nat) (n9 : Nat) (kn : Int32) (th : Int32) (tt : Nat → Int64) (bb : Nat → Int64) (eT : Int64) (eB : Int64) (oT : Int64) (oB : Int64) (pk : Nat) (ca : Int32) (rf : Int32) (vs : Nat → Value) (x : Int32) (k_x : Nat) (hx_x : x = nI k_x) (hk_x : k_x < 6) (nl6 : Nat) (bb6 : Nat) (cap6 : Nat) (ff6 : Nat → Option Nat) (ww6 : Nat → Value) (md6 : Int32) (T : Nat → Int) (u2 : T (nl6 + 1) = 0) (u3 : ∀ i, i < nl6 → ∃ x : Int64, ww6 i = .long x ∧ x.toInt * T (i + 1) + T (i + 2) = T i) (u4 : ∀ i, 1 ≤ i → i ≤ nl6 → 1 ≤ T i ∧ T i ≤ 1000000000) (hlm6 : nl6 ≤ 43) (r_5 : Nat) (x_69 : Int64) (n : Nat) (k : Nat) (l9 : Nat) (E9 : Nat) (q9 : Nat) (y9 : Int32) (hf9 : 44 - k < n + 1) (hk9 : k ≤ nl6) (hx9 : y9 = nI k) (hE9 : ((10 ^ E9 : Nat) : Int) * T k ≤ 1000000000) (hZ9 : (k = 0 → E9 = 0)) (hL8 : l9 ≤ 3 * k + E9) (ih_32 : ∀ (k : Nat) (l9 : Nat) (E9 : Nat)(q9 : Nat) (y9 : Int32), 44 - k < n → k ≤ nl6 → y9 = nI k → ((10 ^ E9 : Nat) : Int) * T k ≤ 1000000000 → (k = 0 → E9 = 0) → l9 ≤ 3 * k + E9 → ∀ (H : Heap) (locs : List Loc) (ls : Array Slot), va_S (nwA s.heap.size) s.heap H locs → c1 D r_5 (.inr (7, [.int md6, .ref bb6, .int (nI nl6)])) H → c1 D bb6 (.inl (tk 4, cap6, .inr (.inr (.inr (.inr (ff6)))))) H → EL D 3 nl6 ff6 ww6 H → SX D tk q9 l9 H → lv_has ls 7 [(0, .ref mo), (1, .int x), (2, .ref r_5), (3, .ref q9), (4, .int y9)] → W p l e ({ frames := 8, cells := 393, slots := 14193, locals := 186 } : Room) s m args below meth c H locs (49 + 8 * k) (175 + m_wS k) Q (F0 m 32 ls [])) (b0_ : Nat) (xe10 : Int64) (hkn : k < nl6) (hmn : x_69.toInt ≤ xe10.toInt ∧ xe10.toInt ≤ x_69.toInt + 1 ∧ x_69.toInt.natAbs < 10000000000) (hST : xe10.toInt * T (k + 1) + T (k + 2) = T k ∧ 1 ≤ T (k + 1) ∧ T (k + 1) ≤ 1000000000 ∧ 0 ≤ T (k + 2)) (c_70 : ¬ (x_69 ≤ 0)) (H : Heap) (locs : List Loc) (ls : Array Slot) (hS : va_S (nwA s.heap.size) s.heap H locs) (fl6 : c1 D r_5 (.inr (7, [.int md6, .ref bb6, .int (nI nl6)])) H) (fR6 : c1 D bb6 (.inl (tk 4, cap6, .inr (.inr (.inr (.inr (ff6)))))) H) (el6 : EL D 3 nl6 ff6 ww6 H) (h0s : xf D 0 q9 0 (.ref b0_) H) (h1s : xf D 0 q9 1 (.int 0) H) (h2s : BX tk b0_ l9 H) (hl : lv_has ls 7 [(5, .long x_69), (0, .ref mo), (1, .int x), (2, .ref r_5), (3, .ref q9), (4, .int y9)]) : W p l e ({ frames := 8, cells := 393, slots := 14193, locals := 186 } : Room) s m args below meth c H locs (49 + 8 * k + 0 + 0 + 0 + 0 + 0) (175 + m_wS k + 0 + 0 + 0 + 0 + 0) Q (F0 m 83 ls []) := by
  obtain ⟨hx, hb, -⟩ := id E
  have hy1 : 1 ≤ x_69.toInt := by
    have h9 := Int64.lt_iff_toInt_lt.mp (Int64.not_le.mp c_70)
    have e0 : (0 : Int64).toInt = 0 := rfl
    omega
  have hdl := m_dgL hy1
  have hEn := m_stE hE9 hST.1 hST.2.1 hST.2.2.2 hdl.2 hmn.1
  have hE8 := m_E9 hEn hST.2.1
  have hd11 : dgJ x_69 ≤ 11 := m_dg hmn.2.2
  have hws : m_wS (k + 1) = m_wS k + (12 * k + 74) := rfl
  have hwb := m_wSB (k := k + 1) (by omega)
  have hl2 : l9 ≤ 2000 := by omega
  have hl4 : l9 ≤ 400000 := by omega
  have hct0 := m_cat4 0 1 hl2 (d1 := dgJ x_69) (by omega)
  have hct1 := m_cat4 1 1 hl2 (d1 := dgJ x_69) (by omega)
  have hNc : 49 + 8 * (k + 1) ≤ 393 := by omega
  have hNs : 175 + m_wS (k + 1) ≤ 14193 := by omega
  have hWc1 : 49 + 8 * k + 0 + 0 + 0 + 0 + 0 + 1 + 1 + (sbK 16 (0 + l9)) + 0 + (sbK (sbC 16 (0 + l9)) ((0 + l9) + 1)) + (sbK (sbC (sbC 16 (0 + l9)) ((0 + l9) + 1)) (((0 + l9) + 1) + 1)) + (sbK (sbC (sbC (sbC 16 (0 + l9)) ((0 + l9) + 1)) (((0 + l9) + 1) + 1)) ((((0 + l9) + 1) + 1) + dgJ x_69)) + 2 ≤ 49 + 8 * (k + 1) := by have k0_ := tx_k1 16 (0 + l9); have k1_ := tx_k1 (sbC 16 (0 + l9)) ((0 + l9) + 1); have k2_ := tx_k1 (sbC (sbC 16 (0 + l9)) ((0 + l9) + 1)) (((0 + l9) + 1) + 1); have k3_ := tx_k1 (sbC (sbC (sbC 16 (0 + l9)) ((0 + l9) + 1)) (((0 + l9) + 1) + 1)) ((((0 + l9) + 1) + 1) + dgJ x_69); omega
  have hWs1 : 175 + m_wS k + 0 + 0 + 0 + 0 + 0 + 4 + 16 + (sbS 16 (0 + l9)) + 0 + (sbS (sbC 16 (0 + l9)) ((0 + l9) + 1)) + (sbS (sbC (sbC 16 (0 + l9)) ((0 + l9) + 1)) (((0 + l9) + 1) + 1)) + (sbS (sbC (sbC (sbC 16 (0 + l9)) ((0 + l9) + 1)) (((0 + l9) + 1) + 1)) ((((0 + l9) + 1) + 1) + dgJ x_69)) + (4 + ((((0 + l9) + 1) + 1) + dgJ x_69)) ≤ 175 + m_wS (k + 1) := by have h7 := hct1.2.1; omega
  have hTc1 : 49 + 8 * k + 0 + 0 + 0 + 0 + 0 + 1 + 1 + (sbK 16 (0 + l9)) + 0 + (sbK (sbC 16 (0 + l9)) ((0 + l9) + 1)) + (sbK (sbC (sbC 16 (0 + l9)) ((0 + l9) + 1)) (((0 + l9) + 1) + 1)) + (sbK (sbC (sbC (sbC 16 (0 + l9)) ((0 + l9) + 1)) (((0 + l9) + 1) + 1)) ((((0 + l9) + 1) + 1) + dgJ x_69)) + 2 ≤ 393 := Nat.le_trans hWc1 hNc
  have hTs1 : 175 + m_wS k + 0 + 0 + 0 + 0 + 0 + 4 + 16 + (sbS 16 (0 + l9)) + 0 + (sbS (sbC 16 (0 + l9)) ((0 + l9) + 1)) + (sbS (sbC (sbC 16 (0 + l9)) ((0 + l9) + 1)) (((0 + l9) + 1) + 1)) + (sbS (sbC (sbC (sbC 16 (0 + l9)) ((0 + l9) + 1)) (((0 + l9) + 1) + 1)) ((((0 + l9) + 1) + 1) + dgJ x_69)) + (4 + ((((0 + l9) + 1) + 1) + dgJ x_69)) ≤ 14193 := Nat.le_trans hWs1 hNs
  have hWc2 : 49 + 8 * k + 0 + 0 + 0 + 0 + 0 + 1 + 1 + (sbK 16 (0 + l9)) + 0 + (sbK (sbC 16 (0 + l9)) ((0 + l9) + 0)) + (sbK (sbC (sbC 16 (0 + l9)) ((0 + l9) + 0)) (((0 + l9) + 0) + 1)) + (sbK (sbC (sbC (sbC 16 (0 + l9)) ((0 + l9) + 0)) (((0 + l9) + 0) + 1)) ((((0 + l9) + 0) + 1) + dgJ x_69)) + 2 ≤ 49 + 8 * (k + 1) := by have k0_ := tx_k1 16 (0 + l9); have k1_ := tx_k1 (sbC 16 (0 + l9)) ((0 + l9) + 0); have k2_ := tx_k1 (sbC (sbC 16 (0 + l9)) ((0 + l9) + 0)) (((0 + l9) + 0) + 1); have k3_ := tx_k1 (sbC (sbC (sbC 16 (0 + l9)) ((0 + l9) + 0)) (((0 + l9) + 0) + 1)) ((((0 + l9) + 0) + 1) + dgJ x_69); omega
  have hWs2 : 175 + m_wS k + 0 + 0 + 0 + 0 + 0 + 4 + 16 + (sbS 16 (0 + l9)) + 0 + (sbS (sbC 16 (0 + l9)) ((0 + l9) + 0)) + (sbS (sbC (sbC 16 (0 + l9)) ((0 + l9) + 0)) (((0 + l9) + 0) + 1)) + (sbS (sbC (sbC (sbC 16 (0 + l9)) ((0 + l9) + 0)) (((0 + l9) + 0) + 1)) ((((0 + l9) + 0) + 1) + dgJ x_69)) + (4 + ((((0 + l9) + 0) + 1) + dgJ x_69)) ≤ 175 + m_wS (k + 1) := by have h7 := hct0.2.1; omega
  have hTc2 : 49 + 8 * k + 0 + 0 + 0 + 0 + 0 + 1 + 1 + (sbK 16 (0 + l9)) + 0 + (sbK (sbC 16 (0 + l9)) ((0 + l9) + 0)) + (sbK (sbC (sbC 16 (0 + l9)) ((0 + l9) + 0)) (((0 + l9) + 0) + 1)) + (sbK (sbC (sbC (sbC 16 (0 + l9)) ((0 + l9) + 0)) (((0 + l9) + 0) + 1)) ((((0 + l9) + 0) + 1) + dgJ x_69)) + 2 ≤ 393 := Nat.le_trans hWc2 hNc
  have hTs2 : 175 + m_wS k + 0 + 0 + 0 + 0 + 0 + 4 + 16 + (sbS 16 (0 + l9)) + 0 + (sbS (sbC 16 (0 + l9)) ((0 + l9) + 0)) + (sbS (sbC (sbC 16 (0 + l9)) ((0 + l9) + 0)) (((0 + l9) + 0) + 1)) + (sbS (sbC (sbC (sbC 16 (0 + l9)) ((0 + l9) + 0)) (((0 + l9) + 0) + 1)) ((((0 + l9) + 0) + 1) + dgJ x_69)) + (4 + ((((0 + l9) + 0) + 1) + dgJ x_69)) ≤ 14193 := Nat.le_trans hWs2 hNs
  have hS0_ := hS
  refine r_new (pc := 83) E hC hS tyJ4_ok uJ4 (List.mem_cons_of_mem _ kw_1351) (List.mem_cons_of_mem _ kw_150) (List.mem_cons_of_mem _ kw_19) (ci := 1) rfl (fs := [.null, .int 0, .int 0, .int 0]) (by decide) (pre1 (pre1 (pre1 (pre1 (pre1 (pre1 (pre1 hTc1))))))) (pre1 (pre1 (pre1 (pre1 (pre1 (pre1 (pre1 hTs1))))))) dX5_wayNow_83 (fun qf72 H zq_ n_ ho_ hS => ?_)
  have l_fl6_f72 : r_5 < qf72 := zq_ ▸ fl6.lt
  have fl6 := fl6.kept (ho_ _ fl6.lt)
  have l_fR6_f72 : bb6 < qf72 := zq_ ▸ fR6.lt
  have fR6 := fR6.kept (ho_ _ fR6.lt)
  have el6 := el6.old ho_
  have l_h0s_f72 : q9 < qf72 := zq_ ▸ h0s.lt
  have h0s := h0s.kept (ho_ _ h0s.lt)
  have l_h1s_f72 : q9 < qf72 := zq_ ▸ h1s.lt
  have h1s := h1s.kept (ho_ _ h1s.lt)
  have l_h2s_f72 : b0_ < qf72 := zq_ ▸ h2s.lt
  have h2s := h2s.kept (ho_ _ h2s.lt)
  have f72 := n_
  have s_f72 : s.heap.size ≤ qf72 := zq_ ▸ hS0_.1
  have g_f72 := hn _ s_f72
  refine lv_dup (pc := 86) hx hb dX5_wayNow_86 rfl ?_
  have hZ0_ := hS.1
  have t_fl6 := fl6.lt
  have t_fR6 := fR6.lt
  have t_h0s := h0s.lt
  have t_h1s := h1s.lt
  have t_h2s := h2s.lt
  have t_f72 := f72.lt
  refine k_v (pc := 87) (k_I E hC hS hA hl.1 (c_J4_init_da8c8 l D tk N0 sa H.size qf72 (hA _ g_f72)) kw_1352 kw_152 kw_19 kw_153 rfl (n := 0) (by decide +kernel) rfl ⟨⟨rfl, rfl⟩, ⟨Nat.le_of_ble_eq_true rfl, Nat.le_of_ble_eq_true rfl⟩, (pre1 (pre1 (pre1 (pre1 (pre1 (pre1 hTc1)))))), (pre1 (pre1 (pre1 (pre1 (pre1 (pre1 hTs1))))))⟩ rfl (Nat.le_of_ble_eq_true rfl) f72 dX5_wayNow_87) hS (inA1.to g_f72) hn (fun H locs hR hz hk hS => ?_)
  have fl6 := fl6.kept (hk _ fl6.lt (inA1.not (clA.ne fl6.cl f72.cl (hC.oo 7 1 rfl rfl (by decide))) fl6.lt))
  have fR6 := fR6.kept (hk _ fR6.lt (inA1.not (clA.ne fR6.cla f72.cl (hC.ao 1 4 rfl rfl)) fR6.lt))
  have el6 := el6.keep1 hk (fun q9 h9 => clA.ne h9 f72.cl (hC.ceo (Or.inl rfl) 1 rfl (by decide)))
  have h0s := h0s.kept (hk _ h0s.lt (inA1.not (clA.ne h0s.cl f72.cl (hC.oo 0 1 rfl rfl (by decide))) h0s.lt))
  have h1s := h1s.kept (hk _ h1s.lt (inA1.not (clA.ne h1s.cl f72.cl (hC.oo 0 1 rfl rfl (by decide))) h1s.lt))
  have h2s := h2s.kept (hk _ h2s.lt (inA1.not (h2s.neo hC f72.cl (ci := 1) rfl) h2s.lt))
  obtain ⟨q_f74, z9_, f72, f74⟩ := hR
  have s_f74 : s.heap.size ≤ q_f74 := Nat.le_trans hZ0_ z9_
  have g_f74 := hn _ s_f74
  have l_fl6_f74 : r_5 < q_f74 := Nat.lt_of_lt_of_le t_fl6 z9_
  have l_fR6_f74 : bb6 < q_f74 := Nat.lt_of_lt_of_le t_fR6 z9_
  have l_h0s_f74 : q9 < q_f74 := Nat.lt_of_lt_of_le t_h0s z9_
  have l_h1s_f74 : q9 < q_f74 := Nat.lt_of_lt_of_le t_h1s z9_
  have l_h2s_f74 : b0_ < q_f74 := Nat.lt_of_lt_of_le t_h2s z9_
  have l_f72_f74 : qf72 < q_f74 := Nat.lt_of_lt_of_le t_f72 z9_
  refine lv_aload_n (pc := 90) hx hb dX5_wayNow_90 rfl (lv_at hl 4 rfl) ?_
  have hZ0_ := hS.1
  have t_fl6 := fl6.lt
  have t_fR6 := fR6.lt
  have t_h0s := h0s.lt
  have t_h1s := h1s.lt
  have t_h2s := h2s.lt
  have t_f72 := f72.lt
  have t_f74 := f74.lt
  refine k_r (pc := 91) (k_V E hC hS hA hl.1 (c1.recv hC f72 rfl) rfl (c_J4_append_15ec4 l D tk N0 sa H.size qf72 q_f74 16 0 q9 l9 0 (hA _ g_f72) (hA _ g_f74) (Nat.zero_le _) (by decide) hl4) kw_1353 kw_399 kw_400 kw_19 kw_401 (n := 1) (by decide +kernel) rfl ⟨⟨rfl, rfl⟩, ⟨Nat.le_of_ble_eq_true rfl, Nat.le_of_ble_eq_true rfl⟩, (pre1 (pre1 (pre1 (pre1 (pre1 hTc1))))), (pre1 (pre1 (pre1 (pre1 (pre1 hTs1)))))⟩ rfl (Nat.le_of_ble_eq_true rfl) ⟨f72, f74, ⟨_, h0s, h1s, h2s⟩⟩ dX5_wayNow_91) hS (inA2.to g_f72 g_f74) hn (fun r_75 H locs hR hz hk hS => ?_)
  have fl6 := fl6.kept (hk _ fl6.lt (inA2.not (clA.ne fl6.cl f72.cl (hC.oo 7 1 rfl rfl (by decide))) (clA.ne fl6.cl f74.cl (hC.oa 7 1 rfl rfl)) fl6.lt))
  have fR6 := fR6.kept (hk _ fR6.lt (inA2.not (clA.ne fR6.cla f72.cl (hC.ao 1 4 rfl rfl)) (clA.ne fR6.cla f74.cl (hC.aa 4 1 rfl rfl (by dsimp only; decide))) fR6.lt))
  have el6 := el6.keep2 hk (fun q9 h9 => clA.ne h9 f72.cl (hC.ceo (Or.inl rfl) 1 rfl (by decide))) (fun q9 h9 => clA.ne h9 f74.cl (hC.cea (Or.inl rfl) 1 rfl))
  have h0s := h0s.kept (hk _ h0s.lt (inA2.not (clA.ne h0s.cl f72.cl (hC.oo 0 1 rfl rfl (by decide))) (clA.ne h0s.cl f74.cl (hC.oa 0 1 rfl rfl)) h0s.lt))
  have h1s := h1s.kept (hk _ h1s.lt (inA2.not (clA.ne h1s.cl f72.cl (hC.oo 0 1 rfl rfl (by decide))) (clA.ne h1s.cl f74.cl (hC.oa 0 1 rfl rfl)) h1s.lt))
  have h2s := h2s.kept (hk _ h2s.lt (inA2.not (h2s.neo hC f72.cl (ci := 1) rfl) (Nat.ne_of_lt l_h2s_f74) h2s.lt))
  obtain ⟨er9, hR⟩ := hR
  rw [er9]
  obtain ⟨v_76, hv_76, f72, f74⟩ := hR
  have g_f74 := hv_76.elim (fun e9 => e9 ▸ g_f74) (fun z9 => hn _ (Nat.le_trans hZ0_ z9))
  have l_fl6_f74 : r_5 < v_76 := hv_76.elim (fun e9 => e9 ▸ l_fl6_f74) (fun z9 => Nat.lt_of_lt_of_le t_fl6 z9)
  have l_fR6_f74 : bb6 < v_76 := hv_76.elim (fun e9 => e9 ▸ l_fR6_f74) (fun z9 => Nat.lt_of_lt_of_le t_fR6 z9)
  have l_h0s_f74 : q9 < v_76 := hv_76.elim (fun e9 => e9 ▸ l_h0s_f74) (fun z9 => Nat.lt_of_lt_of_le t_h0s z9)
  have l_h1s_f74 : q9 < v_76 := hv_76.elim (fun e9 => e9 ▸ l_h1s_f74) (fun z9 => Nat.lt_of_lt_of_le t_h1s z9)
  have l_h2s_f74 : b0_ < v_76 := hv_76.elim (fun e9 => e9 ▸ l_h2s_f74) (fun z9 => Nat.lt_of_lt_of_le t_h2s z9)
  have l_f72_f74 : qf72 < v_76 := hv_76.elim (fun e9 => e9 ▸ l_f72_f74) (fun z9 => Nat.lt_of_lt_of_le t_f72 z9)
  have hv_76 := hv_76.imp_right (fun z9 => Nat.le_trans hZ0_ z9)
  refine lv_aload_n (pc := 94) hx hb dX5_wayNow_94 rfl (lv_at hl 4 rfl) ?_
  refine k_i (pc := 95) (k_V E hC hS hA hl.1 (xf.recv hC h0s rfl) rfl (c_J0_isEmpty_aae02 l D tk N0 sa H.size q9 l9 (by omega)) kw_1537 kw_1538 kw_1539 kw_20 kw_1540 (n := 0) (by decide +kernel) rfl ⟨⟨rfl, rfl⟩, ⟨Nat.le_of_ble_eq_true rfl, Nat.le_of_ble_eq_true rfl⟩, (pre1 (pre1 (pre1 (pre1 hTc1)))), (pre1 (pre1 (pre1 (pre1 hTs1))))⟩ rfl (Nat.le_of_ble_eq_true rfl) ⟨_, h0s, h1s, h2s⟩ dX5_wayNow_95) hS (fun q z w => absurd w (Nat.not_le.mpr z)) hn (fun r_77 H locs hR hz hk hS => ?_)
  have fl6 := fl6.kept (hk _ fl6.lt (Nat.not_le.mpr fl6.lt))
  have fR6 := fR6.kept (hk _ fR6.lt (Nat.not_le.mpr fR6.lt))
  have el6 := el6.new hk
  have h0s := h0s.kept (hk _ h0s.lt (Nat.not_le.mpr h0s.lt))
  have h1s := h1s.kept (hk _ h1s.lt (Nat.not_le.mpr h1s.lt))
  have h2s := h2s.kept (hk _ h2s.lt (Nat.not_le.mpr h2s.lt))
  have f72 := f72.kept (hk _ f72.lt (Nat.not_le.mpr f72.lt))
  have f74 := f74.kept (hk _ f74.lt (Nat.not_le.mpr f74.lt))
  have em_r_77 := hR
  refine lv_if_eq (pc := 98) (tgt := 106) hx hb dX5_wayNow_98 (by decide) (fun c_78 => ?_) (fun c_78 => ?_)
  · have hcA := hct1.2.2.1
    have hcB := hct1.2.2.2.1
    have hcC := hct1.2.2.2.2.1
    have hcD := hct1.2.2.2.2.2
    refine va_ldcS (pc := 106) hx hb E.2.2.2.1 (hC.2.2.2.2.1 8 _ rfl).1 dX5_wayNow_106 ?_
    have k79 : SX D tk (sa (10 + 8)) 1 H := hC.str hS hA 8 _ rfl (by decide)
    exact g9_X5_wayNow E hC hA hn hr hlk P hPN mo n9 kn th tt bb eT eB oT oB pk ca rf vs x k_x hx_x hk_x nl6 bb6 cap6 ff6 ww6 md6 T u2 u3 u4 hlm6 r_5 v_76 qf72 x_69 n k l9 E9 q9 y9 hf9 hk9 hx9 hE9 hZ9 hL8 ih_32 hd11 hdl.1 hEn hkn b0_ hcA hcB hcC hcD hTc1 hTs1 hWc1 hWs1 hTc2 hTs2 hWc2 hWs2 _ _ _ hS fl6 fR6 el6 h0s h1s h2s f72 f74 k79 s_f72 g_f72 g_f74 l_f72_f74 l_fR6_f72 l_fR6_f74 l_fl6_f72 l_fl6_f74 l_h0s_f72 l_h0s_f74 l_h1s_f72 l_h1s_f74 l_h2s_f72 l_h2s_f74 hl
  · have hcA := hct0.2.2.1
    have hcB := hct0.2.2.2.1
    have hcC := hct0.2.2.2.2.1
    have hcD := hct0.2.2.2.2.2
    refine va_ldcS (pc := 101) hx hb E.2.2.2.1 (hC.2.2.2.2.1 6 _ rfl).1 dX5_wayNow_101 ?_
    have k99 : SX D tk (sa (10 + 6)) 0 H := hC.str hS hA 6 _ rfl (by decide)
    refine lv_goto (pc := 103) (tgt := 108) hx hb dX5_wayNow_103 (by decide) ?_
    exact g12_X5_wayNow E hC hA hn hr hlk P hPN mo n9 kn th tt bb eT eB oT oB pk ca rf vs x k_x hx_x hk_x nl6 bb6 cap6 ff6 ww6 md6 T u2 u3 u4 hlm6 r_5 v_76 qf72 x_69 n k l9 E9 q9 y9 hf9 hk9 hx9 hE9 hZ9 hL8 ih_32 hd11 hdl.1 hEn hkn b0_ hcA hcB hcC hcD hTc1 hTs1 hWc1 hWs1 hTc2 hTs2 hWc2 hWs2 _ _ _ hS fl6 fR6 el6 h0s h1s h2s f72 f74 k99 s_f72 g_f72 g_f74 l_f72_f74 l_fR6_f72 l_fR6_f74 l_fl6_f72 l_fl6_f74 l_h0s_f72 l_h0s_f74 l_h1s_f72 l_h1s_f74 l_h2s_f72 l_h2s_f74 hl
set_option maxHeartbeats 20000000 in
set_option maxRecDepth 100000 in
/-- BestratiosModel.wayNow(I)Ljava/lang/String; -/
theorem c_X5_wayNow (l : Launch) (D : va_G) (tk : Nat → ClassId) (N0 : Nat) (sa : Nat → Nat)  (sz : Nat) (P : Nat → Prop) (hPN : ∀ q, P q → N0 ≤ q) (mo n9 : Nat) (kn th : Int32) (tt bb : Nat → Int64) (eT eB oT oB : Int64) (pk : Nat) (ca rf : Int32) (vs : Nat → Value) (x : Int32) (k_x : Nat) (hx_x : x = nI k_x) (hk_x : k_x < 6) : Met l yX5_wayNow (wsy yX5_wayNow cX5_wayNow 7 (some (.object "java/lang/String"))) ({ frames := 8, cells := 393, slots := 14193, locals := 186 } : Room) (cP D tk N0 sa [.ref mo, .int x] sz (fun H => MI D tk sa P mo tt bb eT eB oT oB pk ca rf vs kn n9 th H)) (kQr (fun r H => ∃ n1, n1 ≤ 200 ∧ SX D tk r n1 H) (nwA sz)) (393) (14193) (nwA sz) := by
  refine mStart RX5 rfl (by decide +kernel) (Nat.le_of_ble_eq_true rfl) ?_
  intro p e s m args below meth c E hr hlk hnm hsz hC hF ls hl
  subst hsz
  obtain ⟨hx, hb, -⟩ := id E
  have hA : ∀ q, (nwA s.heap.size) q → N0 ≤ q := fun q h => Nat.le_trans hC.2.1 h
  have hn : ∀ q, s.heap.size ≤ q → (nwA s.heap.size) q := fun q h => h
  have hS : va_S (nwA s.heap.size) s.heap s.heap [] := va_S.rf
  have hl : lv_has ls 7 [(0, .ref mo), (1, .int x)] := hl
  obtain ⟨Q, hQ⟩ : ∃ Q, Q = MQ below (kQr (fun r H => ∃ n1, n1 ≤ 200 ∧ SX D tk r n1 H) (nwA s.heap.size)) args s (393) (14193) (nwA s.heap.size) := ⟨_, rfl⟩
  rw [← hQ]
  have hM : MI D tk sa P mo tt bb eT eB oT oB pk ca rf vs kn n9 th s.heap := hF
  obtain ⟨ra, rl, ex, ro, rt, fo, fj, fk, fe, fr, fw, ⟨hPm, hPa, hPl, hPe, hPr, hPk⟩, hFk, hFe, hFr, hpk, hn9⟩ := hM
  refine lv_aload_n (pc := 0) hx hb dX5_wayNow_0 rfl (lv_at hl 0 rfl) ?_
  refine r_get (pc := 1) E hC fo 0 (v := .ref ra) rfl rfl (by decide) uX5 (List.mem_cons_of_mem _ kw_1209) (fun _ h => h) dX5_wayNow_1 ?_
  refine lv_iload_n (pc := 4) hx hb dX5_wayNow_4 rfl (lv_at hl 1 rfl) ?_
  refine r_aaldJ (pc := 5) E hC fj k_x hx_x hk_x (by decide) rfl dX5_wayNow_5 ?_
  have fL1 := fk k_x hk_x
  have mF_fL1 := hFk k_x hk_x
  have Pq_fL1 := hPk k_x hk_x
  have hZ0_ := hS.1
  have t_fo := fo.lt
  have t_fj := fj.lt
  have t_fk := fun k (hk9 : k < 6) => (fk k hk9).lt
  have t_fe := fe.lt
  have t_fr := fr.lt
  have t_fL1 := fL1.lt
  refine k_i (pc := 6) (k_S E hC hS hA hl.1 (c_X5_isAbove l D tk N0 sa s.heap.size (rt k_x) (tt k_x) (bb k_x) ) kw_1645 kw_1646 kw_5 kw_1647 (n := 1) (by decide +kernel) rfl ⟨⟨rfl, rfl⟩, ⟨Nat.le_of_ble_eq_true rfl, Nat.le_of_ble_eq_true rfl⟩, (by dsimp only; omega), (by dsimp only; omega)⟩ rfl (Nat.le_of_ble_eq_true rfl) fL1 dX5_wayNow_6) hS (fun q z w => absurd w (Nat.not_le.mpr z)) hn (fun r_2 H locs hR hz hk hS => ?_)
  have fw := fw.new hk
  have fo := fo.kept (hk _ fo.lt (Nat.not_le.mpr fo.lt))
  have fj := fj.kept (hk _ fj.lt (Nat.not_le.mpr fj.lt))
  have fk := fk.new hk
  have fe := fe.kept (hk _ fe.lt (Nat.not_le.mpr fe.lt))
  have fr := fr.kept (hk _ fr.lt (Nat.not_le.mpr fr.lt))
  have fL1 := fL1.kept (hk _ fL1.lt (Nat.not_le.mpr fL1.lt))
  have er_2 := hR
  refine lv_if_ne (pc := 9) (tgt := 16) hx hb dX5_wayNow_9 (by decide) (fun c_3 => ?_) (fun c_3 => ?_)
  · refine lv_aload_n (pc := 16) hx hb dX5_wayNow_16 rfl (lv_at hl 0 rfl) ?_
    refine r_get (pc := 17) E hC fo 0 (v := .ref ra) rfl rfl (by decide) uX5 (List.mem_cons_of_mem _ kw_1209) (fun _ h => h) dX5_wayNow_17 ?_
    refine lv_iload_n (pc := 20) hx hb dX5_wayNow_20 rfl (lv_at hl 1 rfl) ?_
    refine r_aaldJ (pc := 21) E hC fj k_x hx_x hk_x (by decide) rfl dX5_wayNow_21 ?_
    have fL4 := fk k_x hk_x
    have mF_fL4 := hFk k_x hk_x
    have Pq_fL4 := hPk k_x hk_x
    have hZ0_ := hS.1
    have t_fo := fo.lt
    have t_fj := fj.lt
    have t_fk := fun k (hk9 : k < 6) => (fk k hk9).lt
    have t_fe := fe.lt
    have t_fr := fr.lt
    have t_fL1 := fL1.lt
    have t_fL4 := fL4.lt
    refine k_r (pc := 22) (k_S E hC hS hA hl.1 (c_X5_termsOf l D tk N0 sa H.size (rt k_x) (tt k_x) (bb k_x) mF_fL4) kw_1411 kw_1412 kw_5 kw_1413 (n := 1) (by decide +kernel) rfl ⟨⟨rfl, rfl⟩, ⟨Nat.le_of_ble_eq_true rfl, Nat.le_of_ble_eq_true rfl⟩, (by dsimp only; omega), (by dsimp only; omega)⟩ rfl (Nat.le_of_ble_eq_true rfl) fL4 dX5_wayNow_22) hS (fun q z w => absurd w (Nat.not_le.mpr z)) hn (fun r_5 H locs hR hz hk hS => ?_)
    have fw := fw.new hk
    have fo := fo.kept (hk _ fo.lt (Nat.not_le.mpr fo.lt))
    have fj := fj.kept (hk _ fj.lt (Nat.not_le.mpr fj.lt))
    have fk := fk.new hk
    have fe := fe.kept (hk _ fe.lt (Nat.not_le.mpr fe.lt))
    have fr := fr.kept (hk _ fr.lt (Nat.not_le.mpr fr.lt))
    have fL1 := fL1.kept (hk _ fL1.lt (Nat.not_le.mpr fL1.lt))
    have fL4 := fL4.kept (hk _ fL4.lt (Nat.not_le.mpr fL4.lt))
    obtain ⟨nl6, bb6, cap6, ff6, ww6, md6, zr9_, zb9_, fl6, fR6, el6, hPT6, hln6, hlm6, hlc6, hlp6, ⟨hTL6, hTA6⟩, gg6, hEU6⟩ := hR
    have hcb6 := m_acB hlp6
    have s_fl6 : s.heap.size ≤ r_5 := Nat.le_trans hZ0_ zr9_
    have g_fl6 := hn _ s_fl6
    have l_fo_fl6 : mo < r_5 := Nat.lt_of_lt_of_le t_fo zr9_
    have l_fj_fl6 : ra < r_5 := Nat.lt_of_lt_of_le t_fj zr9_
    have nW_fl6 : ∀ k, k < 6 → rt k ≠ r_5 := fun k hk9 => Nat.ne_of_lt (Nat.lt_of_lt_of_le (t_fk k hk9) zr9_)
    have l_fe_fl6 : ex < r_5 := Nat.lt_of_lt_of_le t_fe zr9_
    have l_fr_fl6 : ro < r_5 := Nat.lt_of_lt_of_le t_fr zr9_
    have l_fL1_fl6 : rt k_x < r_5 := Nat.lt_of_lt_of_le t_fL1 zr9_
    have l_fL4_fl6 : rt k_x < r_5 := Nat.lt_of_lt_of_le t_fL4 zr9_
    have s_fR6 : s.heap.size ≤ bb6 := Nat.le_trans hZ0_ zb9_
    have g_fR6 := hn _ s_fR6
    have l_fo_fR6 : mo < bb6 := Nat.lt_of_lt_of_le t_fo zb9_
    have l_fj_fR6 : ra < bb6 := Nat.lt_of_lt_of_le t_fj zb9_
    have nW_fR6 : ∀ k, k < 6 → rt k ≠ bb6 := fun k hk9 => Nat.ne_of_lt (Nat.lt_of_lt_of_le (t_fk k hk9) zb9_)
    have l_fe_fR6 : ex < bb6 := Nat.lt_of_lt_of_le t_fe zb9_
    have l_fr_fR6 : ro < bb6 := Nat.lt_of_lt_of_le t_fr zb9_
    have l_fL1_fR6 : rt k_x < bb6 := Nat.lt_of_lt_of_le t_fL1 zb9_
    have l_fL4_fR6 : rt k_x < bb6 := Nat.lt_of_lt_of_le t_fL4 zb9_
    have hab := m_abv1 (t := tt k_x) (by rw [← er_2]; exact c_3)
    obtain ⟨T, u0, u1, u2, u3, u4⟩ := hEU6
    have hmt := mF_fL4.1
    refine lv_astore_n (pc := 25) (lv' := [(2, .ref r_5), (0, .ref mo), (1, .int x)]) hx hb dX5_wayNow_25 rfl hl (by decide) rfl (fun ls hl => ?_)
    refine va_ldcS (pc := 26) hx hb E.2.2.2.1 (hC.2.2.2.2.1 6 _ rfl).1 dX5_wayNow_26 ?_
    have k7 : SX D tk (sa (10 + 6)) 0 H := hC.str hS hA 6 _ rfl (by decide)
    refine lv_astore_n (pc := 28) (lv' := [(3, .ref (sa (10 + 6))), (2, .ref r_5), (0, .ref mo), (1, .int x)]) hx hb dX5_wayNow_28 rfl hl (by decide) rfl (fun ls hl => ?_)
    refine lv_iconst (pc := 29) (v := 0) hx hb dX5_wayNow_29 (by decide) ?_
    refine lv_istore (pc := 30) (lv' := [(4, .int 0), (3, .ref (sa (10 + 6))), (2, .ref r_5), (0, .ref mo), (1, .int x)]) hx hb dX5_wayNow_30 hl (by decide) rfl (fun ls hl => ?_)
    have loop_32 : ∀ (n : Nat) (k : Nat) (l9 : Nat) (E9 : Nat)(q9 : Nat) (y9 : Int32), 44 - k < n → k ≤ nl6 → y9 = nI k → ((10 ^ E9 : Nat) : Int) * T k ≤ 1000000000 → (k = 0 → E9 = 0) → l9 ≤ 3 * k + E9 → ∀ (H : Heap) (locs : List Loc) (ls : Array Slot), va_S (nwA s.heap.size) s.heap H locs → c1 D r_5 (.inr (7, [.int md6, .ref bb6, .int (nI nl6)])) H → c1 D bb6 (.inl (tk 4, cap6, .inr (.inr (.inr (.inr (ff6)))))) H → EL D 3 nl6 ff6 ww6 H → SX D tk q9 l9 H → lv_has ls 7 [(0, .ref mo), (1, .int x), (2, .ref r_5), (3, .ref q9), (4, .int y9)] → W p l e ({ frames := 8, cells := 393, slots := 14193, locals := 186 } : Room) s m args below meth c H locs (49 + 8 * k) (175 + m_wS k) Q (F0 m 32 ls []) := by
      intro n
      induction n with
      | zero =>
        intro k l9 E9 q9 y9 hf9 hk9 hx9 hE9 hZ9 hL8 H locs ls hS fl6 fR6 el6 fs hl
        omega
      | succ n ih_32 =>
        intro k l9 E9 q9 y9 hf9 hk9 hx9 hE9 hZ9 hL8 H locs ls hS fl6 fR6 el6 fs hl
        have hwa := m_wSB (k := k) (by omega)
        obtain ⟨b0_, h0s, h1s, h2s⟩ := fs
        refine lv_iload (pc := 32) hx hb dX5_wayNow_32 (lv_at hl 4 rfl) ?_
        refine lv_aload_n (pc := 34) hx hb dX5_wayNow_34 rfl (lv_at hl 2 rfl) ?_
        refine k_i (pc := 35) (k_V E hC hS hA hl.1 (c1.recv hC fl6 rfl) rfl (c_Jx4a65c_size_8abf5 l D tk N0 sa H.size r_5 bb6 nl6 md6) kw_1546 kw_1547 kw_1548 kw_8 kw_1549 (n := 0) (by decide +kernel) rfl ⟨⟨rfl, rfl⟩, ⟨Nat.le_of_ble_eq_true rfl, Nat.le_of_ble_eq_true rfl⟩, (by dsimp only; omega), (by dsimp only; omega)⟩ rfl (Nat.le_of_ble_eq_true rfl) fl6 dX5_wayNow_35) hS (fun q z w => absurd w (Nat.not_le.mpr z)) hn (fun r_8 H locs hR hz hk hS => ?_)
        have fl6 := fl6.kept (hk _ fl6.lt (Nat.not_le.mpr fl6.lt))
        have fR6 := fR6.kept (hk _ fR6.lt (Nat.not_le.mpr fR6.lt))
        have el6 := el6.new hk
        have h0s := h0s.kept (hk _ h0s.lt (Nat.not_le.mpr h0s.lt))
        have h1s := h1s.kept (hk _ h1s.lt (Nat.not_le.mpr h1s.lt))
        have h2s := h2s.kept (hk _ h2s.lt (Nat.not_le.mpr h2s.lt))
        rw [show r_8 = nI nl6 from hR]
        refine lv_icmp_ge (pc := 38) (tgt := 145) hx hb dX5_wayNow_38 (by decide) (fun c_9 => ?_) (fun c_9 => ?_)
        · have hkz : k = nl6 := by have h8 : nl6 ≤ k := Nat.not_lt.mp (fun z9 => absurd (nI_lt z9 (by omega)) (Int32.not_lt.mpr (by have h9 := c_9; rw [hx9] at h9; exact h9))); omega
          have hTk : 1 ≤ T k := by rw [hkz]; exact (u4 _ hln6 (Nat.le_refl _)).1
          have hE8 := m_E9 hE9 hTk
          refine lv_aload_n (pc := 145) hx hb dX5_wayNow_145 rfl (lv_at hl 3 rfl) ?_
          try rw [hQ]
          refine r_aret (pc := 146) E hr (Or.inl ⟨_, rfl⟩) hlk hS (by omega) (by omega) ?_ dX5_wayNow_146
          exact ⟨l9, by omega, ⟨_, h0s, h1s, h2s⟩⟩
        · have hkn : k < nl6 := Nat.not_le.mp (fun z9 => c_9 (by rw [hx9]; exact nI_le z9 (by omega)))
          obtain ⟨qe10, hq10, he10⟩ := el6 k hkn
          obtain ⟨xe10, ev10, pv10⟩ := hPT6 k hkn
          rw [ev10] at he10
          refine lv_aload_n (pc := 41) hx hb dX5_wayNow_41 rfl (lv_at hl 2 rfl) ?_
          refine lv_iload (pc := 42) hx hb dX5_wayNow_42 (lv_at hl 4 rfl) ?_
          refine k_r (pc := 44) (k_V E hC hS hA hl.1 (c1.recv hC fl6 rfl) rfl (c_Jx4a65c_get_915e3 l D tk N0 sa H.size r_5 bb6 nl6 cap6 k qe10 md6 y9 ff6 hx9 hkn (by omega) (by omega) hq10) kw_1550 kw_1551 kw_1552 kw_8 kw_1553 (n := 1) (by decide +kernel) rfl ⟨⟨rfl, rfl⟩, ⟨Nat.le_of_ble_eq_true rfl, Nat.le_of_ble_eq_true rfl⟩, (by dsimp only; omega), (by dsimp only; omega)⟩ rfl (Nat.le_of_ble_eq_true rfl) ⟨fl6, fR6⟩ dX5_wayNow_44) hS (fun q z w => absurd w (Nat.not_le.mpr z)) hn (fun r_11 H locs hR hz hk hS => ?_)
          have fl6 := fl6.kept (hk _ fl6.lt (Nat.not_le.mpr fl6.lt))
          have fR6 := fR6.kept (hk _ fR6.lt (Nat.not_le.mpr fR6.lt))
          have el6 := el6.new hk
          have h0s := h0s.kept (hk _ h0s.lt (Nat.not_le.mpr h0s.lt))
          have h1s := h1s.kept (hk _ h1s.lt (Nat.not_le.mpr h1s.lt))
          have h2s := h2s.kept (hk _ h2s.lt (Nat.not_le.mpr h2s.lt))
          have he10 := he10.kept (hk _ he10.lt (Nat.not_le.mpr he10.lt))
          rw [show r_11 = qe10 from hR]
          refine r_castO (pc := 47) E hC he10 rfl kw_1532 dX5_wayNow_47 ?_
          refine k_l (pc := 50) (k_V E hC hS hA hl.1 (xf.recv hC he10 rfl) rfl (c_J13_longValue_f9912 l D tk N0 sa H.size qe10 xe10) kw_1533 kw_1534 kw_1535 kw_17 kw_1536 (n := 0) (by decide +kernel) rfl ⟨⟨rfl, rfl⟩, ⟨Nat.le_of_ble_eq_true rfl, Nat.le_of_ble_eq_true rfl⟩, (by dsimp only; omega), (by dsimp only; omega)⟩ rfl (Nat.le_of_ble_eq_true rfl) he10 dX5_wayNow_50) hS (fun q z w => absurd w (Nat.not_le.mpr z)) hn (fun r_12 H locs hR hz hk hS => ?_)
          have fl6 := fl6.kept (hk _ fl6.lt (Nat.not_le.mpr fl6.lt))
          have fR6 := fR6.kept (hk _ fR6.lt (Nat.not_le.mpr fR6.lt))
          have el6 := el6.new hk
          have h0s := h0s.kept (hk _ h0s.lt (Nat.not_le.mpr h0s.lt))
          have h1s := h1s.kept (hk _ h1s.lt (Nat.not_le.mpr h1s.lt))
          have h2s := h2s.kept (hk _ h2s.lt (Nat.not_le.mpr h2s.lt))
          have he10 := he10.kept (hk _ he10.lt (Nat.not_le.mpr he10.lt))
          have er_12 : r_12 = xe10 := hR
          refine lv_iload (pc := 53) hx hb dX5_wayNow_53 (lv_at hl 4 rfl) ?_
          refine lv_aload_n (pc := 55) hx hb dX5_wayNow_55 rfl (lv_at hl 2 rfl) ?_
          refine k_i (pc := 56) (k_V E hC hS hA hl.1 (c1.recv hC fl6 rfl) rfl (c_Jx4a65c_size_8abf5 l D tk N0 sa H.size r_5 bb6 nl6 md6) kw_1546 kw_1547 kw_1548 kw_8 kw_1549 (n := 0) (by decide +kernel) rfl ⟨⟨rfl, rfl⟩, ⟨Nat.le_of_ble_eq_true rfl, Nat.le_of_ble_eq_true rfl⟩, (by dsimp only; omega), (by dsimp only; omega)⟩ rfl (Nat.le_of_ble_eq_true rfl) fl6 dX5_wayNow_56) hS (fun q z w => absurd w (Nat.not_le.mpr z)) hn (fun r_13 H locs hR hz hk hS => ?_)
          have fl6 := fl6.kept (hk _ fl6.lt (Nat.not_le.mpr fl6.lt))
          have fR6 := fR6.kept (hk _ fR6.lt (Nat.not_le.mpr fR6.lt))
          have el6 := el6.new hk
          have h0s := h0s.kept (hk _ h0s.lt (Nat.not_le.mpr h0s.lt))
          have h1s := h1s.kept (hk _ h1s.lt (Nat.not_le.mpr h1s.lt))
          have h2s := h2s.kept (hk _ h2s.lt (Nat.not_le.mpr h2s.lt))
          have he10 := he10.kept (hk _ he10.lt (Nat.not_le.mpr he10.lt))
          rw [show r_13 = nI nl6 from hR]
          refine lv_iconst (pc := 59) (v := 1) hx hb dX5_wayNow_59 (by decide) ?_
          refine lv_isub (pc := 60) hx hb dX5_wayNow_60 ?_
          refine lv_icmp_ne (pc := 61) (tgt := 68) hx hb dX5_wayNow_61 (by decide) (fun c_14 => ?_) (fun c_14 => ?_)
          · refine lv_iconst (pc := 68) (v := 0) hx hb dX5_wayNow_68 (by decide) ?_
            refine k_i (pc := 69) (k_S E hC hS hA hl.1 (c_X5_bit l D tk N0 sa H.size 0 ) kw_1271 kw_1272 kw_5 kw_1273 (n := 1) (by decide +kernel) rfl ⟨⟨rfl, rfl⟩, ⟨Nat.le_of_ble_eq_true rfl, Nat.le_of_ble_eq_true rfl⟩, (by dsimp only; omega), (by dsimp only; omega)⟩ rfl (Nat.le_of_ble_eq_true rfl) trivial dX5_wayNow_69) hS (fun q z w => absurd w (Nat.not_le.mpr z)) hn (fun r_15 H locs hR hz hk hS => ?_)
            have er_15 := hR
            have fl6 := fl6.kept (hk _ fl6.lt (Nat.not_le.mpr fl6.lt))
            have fR6 := fR6.kept (hk _ fR6.lt (Nat.not_le.mpr fR6.lt))
            have el6 := el6.new hk
            have h0s := h0s.kept (hk _ h0s.lt (Nat.not_le.mpr h0s.lt))
            have h1s := h1s.kept (hk _ h1s.lt (Nat.not_le.mpr h1s.lt))
            have h2s := h2s.kept (hk _ h2s.lt (Nat.not_le.mpr h2s.lt))
            have he10 := he10.kept (hk _ he10.lt (Nat.not_le.mpr he10.lt))
            refine lv_i2l (pc := 72) (v := r_15.toInt64) hx hb dX5_wayNow_72 rfl ?_
            refine lv_lsub (pc := 73) hx hb dX5_wayNow_73 ?_
            obtain ⟨x_17, ex_17⟩ : ∃ z9 : Int64, z9 = r_12 - r_15.toInt64 := ⟨_, rfl⟩
            rw [← ex_17]
            refine lv_lstore (pc := 74) (lv' := [(5, .long x_17), (0, .ref mo), (1, .int x), (2, .ref r_5), (3, .ref q9), (4, .int y9)]) hx hb dX5_wayNow_74 hl (by decide) rfl (fun ls hl => ?_)
            have hmn := m_many er_12 ex_17 (by rw [er_15]; decide) (by have := pv10; omega)
            have hST := EU.step u2 u3 u4 hkn ev10
            refine lv_lload (pc := 76) hx hb dX5_wayNow_76 (lv_at hl 0 rfl) ?_
            refine lv_lconst (pc := 78) (v := 0) hx hb dX5_wayNow_78 (by decide) ?_
            refine r_lcle (pc := 79) (tgt := 139) E dX5_wayNow_79 dX5_wayNow_80 (by decide) (fun c_18 => ?_) (fun c_18 => ?_)
            · have hEs : ((10 ^ E9 : Nat) : Int) * T (k + 1) ≤ 1000000000 := by
                rcases Nat.eq_zero_or_pos k with z9 | z9
                · rw [hZ9 z9, Nat.pow_zero]
                  have := hST.2.2.1
                  omega
                · have := pv10.2.1 z9
                  exact m_stE (d := 0) hE9 hST.1 hST.2.1 hST.2.2.2 (by decide) (show (1 : Int) ≤ xe10.toInt by omega)
              obtain ⟨x_19, ex_19⟩ : ∃ z9 : Int32, z9 = y9 + 1 := ⟨_, rfl⟩
              refine lv_iinc (pc := 139) (v := x_19) (lv' := [(4, .int x_19), (5, .long x_17), (0, .ref mo), (1, .int x), (2, .ref r_5), (3, .ref q9)]) hx hb dX5_wayNow_139 hl (k := 5) rfl (by rw [ex_19]; rfl) (by decide) rfl (fun ls hl => ?_)
              refine lv_goto (pc := 142) (tgt := 32) hx hb dX5_wayNow_142 (by decide) ?_
              have hws : m_wS (k + 1) = m_wS k + (12 * k + 74) := rfl
              refine W.widen (k := 49 + 8 * (k + 1)) (n := 175 + m_wS (k + 1)) (by omega) (by omega) ?_
              exact ih_32  (k + 1) _ E9  q9 x_19 (by omega) (by omega) (i_up hx9 ex_19) hEs (fun z9 => absurd z9 (by omega)) (by omega) _ _ _ hS fl6 fR6 el6 ⟨_, h0s, h1s, h2s⟩ (lv_sub hl [2, 3, 4, 5, 0] rfl)
            · exact g1_X5_wayNow E hC hA hn hr hlk P hPN mo n9 kn th tt bb eT eB oT oB pk ca rf vs x k_x hx_x hk_x nl6 bb6 cap6 ff6 ww6 md6 T u2 u3 u4 hlm6 r_5 x_17 n k l9 E9 q9 y9 hf9 hk9 hx9 hE9 hZ9 hL8 ih_32 b0_ xe10 hkn hmn hST c_18 _ _ _ hS fl6 fR6 el6 h0s h1s h2s hl
          · refine lv_iconst (pc := 64) (v := 1) hx hb dX5_wayNow_64 (by decide) ?_
            refine lv_goto (pc := 65) (tgt := 69) hx hb dX5_wayNow_65 (by decide) ?_
            refine k_i (pc := 69) (k_S E hC hS hA hl.1 (c_X5_bit l D tk N0 sa H.size 1 ) kw_1271 kw_1272 kw_5 kw_1273 (n := 1) (by decide +kernel) rfl ⟨⟨rfl, rfl⟩, ⟨Nat.le_of_ble_eq_true rfl, Nat.le_of_ble_eq_true rfl⟩, (by dsimp only; omega), (by dsimp only; omega)⟩ rfl (Nat.le_of_ble_eq_true rfl) trivial dX5_wayNow_69) hS (fun q z w => absurd w (Nat.not_le.mpr z)) hn (fun r_67 H locs hR hz hk hS => ?_)
            have er_67 := hR
            have fl6 := fl6.kept (hk _ fl6.lt (Nat.not_le.mpr fl6.lt))
            have fR6 := fR6.kept (hk _ fR6.lt (Nat.not_le.mpr fR6.lt))
            have el6 := el6.new hk
            have h0s := h0s.kept (hk _ h0s.lt (Nat.not_le.mpr h0s.lt))
            have h1s := h1s.kept (hk _ h1s.lt (Nat.not_le.mpr h1s.lt))
            have h2s := h2s.kept (hk _ h2s.lt (Nat.not_le.mpr h2s.lt))
            have he10 := he10.kept (hk _ he10.lt (Nat.not_le.mpr he10.lt))
            refine lv_i2l (pc := 72) (v := r_67.toInt64) hx hb dX5_wayNow_72 rfl ?_
            refine lv_lsub (pc := 73) hx hb dX5_wayNow_73 ?_
            obtain ⟨x_69, ex_69⟩ : ∃ z9 : Int64, z9 = r_12 - r_67.toInt64 := ⟨_, rfl⟩
            rw [← ex_69]
            refine lv_lstore (pc := 74) (lv' := [(5, .long x_69), (0, .ref mo), (1, .int x), (2, .ref r_5), (3, .ref q9), (4, .int y9)]) hx hb dX5_wayNow_74 hl (by decide) rfl (fun ls hl => ?_)
            have hmn := m_many er_12 ex_69 (by rw [er_67]; decide) (by have := pv10; omega)
            have hST := EU.step u2 u3 u4 hkn ev10
            refine lv_lload (pc := 76) hx hb dX5_wayNow_76 (lv_at hl 0 rfl) ?_
            refine lv_lconst (pc := 78) (v := 0) hx hb dX5_wayNow_78 (by decide) ?_
            refine r_lcle (pc := 79) (tgt := 139) E dX5_wayNow_79 dX5_wayNow_80 (by decide) (fun c_70 => ?_) (fun c_70 => ?_)
            · have hEs : ((10 ^ E9 : Nat) : Int) * T (k + 1) ≤ 1000000000 := by
                rcases Nat.eq_zero_or_pos k with z9 | z9
                · rw [hZ9 z9, Nat.pow_zero]
                  have := hST.2.2.1
                  omega
                · have := pv10.2.1 z9
                  exact m_stE (d := 0) hE9 hST.1 hST.2.1 hST.2.2.2 (by decide) (show (1 : Int) ≤ xe10.toInt by omega)
              obtain ⟨x_71, ex_71⟩ : ∃ z9 : Int32, z9 = y9 + 1 := ⟨_, rfl⟩
              refine lv_iinc (pc := 139) (v := x_71) (lv' := [(4, .int x_71), (5, .long x_69), (0, .ref mo), (1, .int x), (2, .ref r_5), (3, .ref q9)]) hx hb dX5_wayNow_139 hl (k := 5) rfl (by rw [ex_71]; rfl) (by decide) rfl (fun ls hl => ?_)
              refine lv_goto (pc := 142) (tgt := 32) hx hb dX5_wayNow_142 (by decide) ?_
              have hws : m_wS (k + 1) = m_wS k + (12 * k + 74) := rfl
              refine W.widen (k := 49 + 8 * (k + 1)) (n := 175 + m_wS (k + 1)) (by omega) (by omega) ?_
              exact ih_32  (k + 1) _ E9  q9 x_71 (by omega) (by omega) (i_up hx9 ex_71) hEs (fun z9 => absurd z9 (by omega)) (by omega) _ _ _ hS fl6 fR6 el6 ⟨_, h0s, h1s, h2s⟩ (lv_sub hl [2, 3, 4, 5, 0] rfl)
            · exact g8_X5_wayNow E hC hA hn hr hlk P hPN mo n9 kn th tt bb eT eB oT oB pk ca rf vs x k_x hx_x hk_x nl6 bb6 cap6 ff6 ww6 md6 T u2 u3 u4 hlm6 r_5 x_69 n k l9 E9 q9 y9 hf9 hk9 hx9 hE9 hZ9 hL8 ih_32 b0_ xe10 hkn hmn hST c_70 _ _ _ hS fl6 fR6 el6 h0s h1s h2s hl
    refine W.widen (k := 49 + 8 * 0) (n := 175 + m_wS 0) (by omega) (by show _ ≤ 175 + 0; omega) ?_
    exact loop_32 45 0 _ 0  (sa (10 + 6)) 0 (by omega) (by omega) nI_0.symm (m_E0 (by rw [u0]; omega)) (fun _ => rfl) (by omega) _ _ _ hS fl6 fR6 el6 k7 (lv_sub hl [3, 4, 2, 1, 0] rfl)
  · refine r_ldcwS (pc := 12) E hC 9 _ rfl rfl rfl dX5_wayNow_12 ?_
    have k119 : SX D tk (sa (10 + 9)) 1 H := hC.str hS hA 9 _ rfl (by decide)
    try rw [hQ]
    refine r_aret (pc := 15) E hr (Or.inl ⟨_, rfl⟩) hlk hS (by omega) (by omega) ?_ dX5_wayNow_15
    exact ⟨1, by omega, k119⟩
set_option maxHeartbeats 4000000 in
set_option maxRecDepth 100000 in
/-- BestratiosModel.way(I)Ljava/lang/String; -/
theorem c_X5_way (l : Launch) (D : va_G) (tk : Nat → ClassId) (N0 : Nat) (sa : Nat → Nat)  (sz : Nat) (P : Nat → Prop) (hPN : ∀ q, P q → N0 ≤ q) (hPs : ∀ q, sz ≤ q → P q) (mo n9 : Nat) (kn th : Int32) (tt bb : Nat → Int64) (eT eB oT oB : Int64) (pk : Nat) (ca rf : Int32) (vs : Nat → Value) (x1 : Int32) : Met l yX5_way (wsy yX5_way cX5_way 2 (some (.object "java/lang/String"))) ({ frames := 9, cells := 393, slots := 14193, locals := 212 } : Room) (cP D tk N0 sa [.ref mo, .int x1] sz (fun H => MI D tk sa P mo tt bb eT eB oT oB pk ca rf vs kn n9 th H)) (kQr (fun r H => ∃ th1, MI D tk sa P mo tt bb eT eB oT oB pk ca rf vs kn n9 th1 H) (P)) (393) (14193) (P) := by
  refine mStart RX5 rfl (by decide +kernel) (Nat.le_of_ble_eq_true rfl) ?_
  intro p e s m args below meth c E hr hlk hnm hsz hC hF ls hl
  subst hsz
  obtain ⟨hx, hb, -⟩ := id E
  have hA : ∀ q, (P) q → N0 ≤ q := hPN
  have hn : ∀ q, s.heap.size ≤ q → (P) q := hPs
  have hS : va_S (P) s.heap s.heap [] := va_S.rf
  have hl : lv_has ls 2 [(0, .ref mo), (1, .int x1)] := hl
  have hM : MI D tk sa P mo tt bb eT eB oT oB pk ca rf vs kn n9 th s.heap := hF
  obtain ⟨ra, rl, ex, ro, rt, fo, fj, fk, fe, fr, fw, ⟨hPm, hPa, hPl, hPe, hPr, hPk⟩, hFk, hFe, hFr, hpk, hn9⟩ := hM
  have g_fo := hPm
  have g_fj := hPa
  refine lv_aload_n (pc := 0) hx hb dX5_way_0 rfl (lv_at hl 0 rfl) ?_
  refine lv_iload_n (pc := 1) hx hb dX5_way_1 rfl (lv_at hl 1 rfl) ?_
  refine k_i (pc := 2) (k_S E hC hS hA hl.1 (c_X5_isNo l D tk N0 sa s.heap.size x1 ) kw_1245 kw_1246 kw_5 kw_1247 (n := 1) (by decide +kernel) rfl ⟨⟨rfl, rfl⟩, ⟨Nat.le_of_ble_eq_true rfl, Nat.le_of_ble_eq_true rfl⟩, (by dsimp only; omega), (by dsimp only; omega)⟩ rfl (Nat.le_of_ble_eq_true rfl) trivial dX5_way_2) hS (fun q z w => absurd w (Nat.not_le.mpr z)) hn (fun r_1 H locs hR hz hk hS => ?_)
  have er_1 := hR
  have fw := fw.new hk
  have fo := fo.kept (hk _ fo.lt (Nat.not_le.mpr fo.lt))
  have fj := fj.kept (hk _ fj.lt (Nat.not_le.mpr fj.lt))
  have fk := fk.new hk
  have fe := fe.kept (hk _ fe.lt (Nat.not_le.mpr fe.lt))
  have fr := fr.kept (hk _ fr.lt (Nat.not_le.mpr fr.lt))
  refine lv_iconst (pc := 5) (v := 0) hx hb dX5_way_5 (by decide) ?_
  have hZ0_ := hS.1
  have t_fo := fo.lt
  have t_fj := fj.lt
  have t_fk := fun k (hk9 : k < 6) => (fk k hk9).lt
  have t_fe := fe.lt
  have t_fr := fr.lt
  refine k_i (pc := 6) (k_V E hC hS hA hl.1 (c1.recv hC fo rfl) rfl (c_X5_fails l D tk N0 sa H.size P hPN (fun q h9 => hPs q (Nat.le_trans hS.1 h9)) mo n9 kn th tt bb eT eB oT oB pk ca rf vs r_1 0 ) kw_1251 kw_1253 kp_20 kw_5 kw_1254 (n := 2) (by decide +kernel) rfl ⟨⟨rfl, rfl⟩, ⟨Nat.le_of_ble_eq_true rfl, Nat.le_of_ble_eq_true rfl⟩, (by dsimp only; omega), (by dsimp only; omega)⟩ rfl (Nat.le_of_ble_eq_true rfl) ⟨_, _, _, _, _, fo, fj, fk, fe, fr, fw, ⟨hPm, hPa, hPl, hPe, hPr, hPk⟩, hFk, hFe, hFr, hpk, hn9⟩ dX5_way_6) hS (fun q _ h => h) hn (fun r_3 H locs hR hz hk hS => ?_)
  obtain ⟨er_3, hM⟩ := hR
  obtain ⟨ra, rl, ex, ro, rt, fo, fj, fk, fe, fr, fw, ⟨hPm, hPa, hPl, hPe, hPr, hPk⟩, hFk, hFe, hFr, hpk, hn9⟩ := hM
  have g_fo := hPm
  have g_fj := hPa
  refine lv_if_eq (pc := 9) (tgt := 17) hx hb dX5_way_9 (by decide) (fun c_4 => ?_) (fun c_4 => ?_)
  · refine lv_aload_n (pc := 17) hx hb dX5_way_17 rfl (lv_at hl 0 rfl) ?_
    refine lv_iload_n (pc := 18) hx hb dX5_way_18 rfl (lv_at hl 1 rfl) ?_
    have hZ0_ := hS.1
    have t_fo := fo.lt
    have t_fj := fj.lt
    have t_fk := fun k (hk9 : k < 6) => (fk k hk9).lt
    have t_fe := fe.lt
    have t_fr := fr.lt
    obtain ⟨hx_5, hk_5⟩ := m_noN (er_1.symm.trans (m_fl0 (er_3.symm.trans c_4)).1)
    refine k_r (pc := 19) (k_V E hC hS hA hl.1 (c1.recv hC fo rfl) rfl (c_X5_wayNow l D tk N0 sa H.size P hPN mo n9 kn ((m_th r_1 0)) tt bb eT eB oT oB pk ca rf vs x1 (nn x1) hx_5 hk_5 ) kw_1678 kw_1680 kp_31 kw_5 kw_1681 (n := 1) (by decide +kernel) rfl ⟨⟨rfl, rfl⟩, ⟨Nat.le_of_ble_eq_true rfl, Nat.le_of_ble_eq_true rfl⟩, (by dsimp only; omega), (by dsimp only; omega)⟩ rfl (Nat.le_of_ble_eq_true rfl) ⟨_, _, _, _, _, fo, fj, fk, fe, fr, fw, ⟨hPm, hPa, hPl, hPe, hPr, hPk⟩, hFk, hFe, hFr, hpk, hn9⟩ dX5_way_19) hS (fun q z w => absurd w (Nat.not_le.mpr z)) hn (fun r_6 H locs hR hz hk hS => ?_)
    have fw := fw.new hk
    have fo := fo.kept (hk _ fo.lt (Nat.not_le.mpr fo.lt))
    have fj := fj.kept (hk _ fj.lt (Nat.not_le.mpr fj.lt))
    have fk := fk.new hk
    have fe := fe.kept (hk _ fe.lt (Nat.not_le.mpr fe.lt))
    have fr := fr.kept (hk _ fr.lt (Nat.not_le.mpr fr.lt))
    refine r_aret (pc := 22) E hr (Or.inl ⟨_, rfl⟩) hlk hS (by omega) (by omega) ?_ dX5_way_22
    exact ⟨_, ⟨_, _, _, _, _, fo, fj, fk, fe, fr, fw, ⟨hPm, hPa, hPl, hPe, hPr, hPk⟩, hFk, hFe, hFr, hpk, hn9⟩⟩
  · refine va_ldcS (pc := 12) hx hb E.2.2.2.1 (hC.2.2.2.2.1 6 _ rfl).1 dX5_way_12 ?_
    have k7 : SX D tk (sa (10 + 6)) 0 H := hC.str hS hA 6 _ rfl (by decide)
    refine lv_goto (pc := 14) (tgt := 22) hx hb dX5_way_14 (by decide) ?_
    refine r_aret (pc := 22) E hr (Or.inl ⟨_, rfl⟩) hlk hS (by omega) (by omega) ?_ dX5_way_22
    exact ⟨_, ⟨_, _, _, _, _, fo, fj, fk, fe, fr, fw, ⟨hPm, hPa, hPl, hPe, hPr, hPk⟩, hFk, hFe, hFr, hpk, hn9⟩⟩
set_option maxHeartbeats 4000000 in
set_option maxRecDepth 100000 in
/-- BestratiosModel.cutNow(III)Ljava/lang/String; -/
theorem c_X5_cutNow (l : Launch) (D : va_G) (tk : Nat → ClassId) (N0 : Nat) (sa : Nat → Nat)  (sz : Nat) (P : Nat → Prop) (hPN : ∀ q, P q → N0 ≤ q) (mo n9 : Nat) (kn th : Int32) (tt bb : Nat → Int64) (eT eB oT oB : Int64) (pk : Nat) (ca rf : Int32) (vs : Nat → Value) (x : Int32) (k_x : Nat) (hx_x : x = nI k_x) (hk_x : k_x < 6) (pl : Int32) (md : Int32) (kp : Nat) (nd : Nat) (hpl : pl = nI kp) (hkp : kp ≤ 9) (hkn : kp + 1 ≤ nd) (hnd : nd ≤ 20) (hdg : ∀ t b : Int64, m_F t b → dgJ (f_absJ (m_cut t b pl md)) ≤ nd) : Met l yX5_cutNow (wsy yX5_cutNow cX5_cutNow 4 (some (.object "java/lang/String"))) ({ frames := 7, cells := 16 + 4 * kp + 2 * m_dG nd, slots := 83 + 3 * nd + 36 * kp + 68 * m_dG nd, locals := 163 } : Room) (cP D tk N0 sa [.ref mo, .int x, .int pl, .int md] sz (fun H => MI D tk sa P mo tt bb eT eB oT oB pk ca rf vs kn n9 th H)) (kQr (fun r H => ∃ n1, n1 ≤ 22 ∧ SX D tk r n1 H) (nwA sz)) (16 + 4 * kp + 2 * m_dG nd) (83 + 3 * nd + 36 * kp + 68 * m_dG nd) (nwA sz) := by
  refine mStart RX5 rfl (by decide +kernel) (Nat.le_of_ble_eq_true rfl) ?_
  intro p e s m args below meth c E hr hlk hnm hsz hC hF ls hl
  subst hsz
  obtain ⟨hx, hb, -⟩ := id E
  have hA : ∀ q, (nwA s.heap.size) q → N0 ≤ q := fun q h => Nat.le_trans hC.2.1 h
  have hn : ∀ q, s.heap.size ≤ q → (nwA s.heap.size) q := fun q h => h
  have hS : va_S (nwA s.heap.size) s.heap s.heap [] := va_S.rf
  have hl : lv_has ls 4 [(0, .ref mo), (1, .int x), (2, .int pl), (3, .int md)] := hl
  have hM : MI D tk sa P mo tt bb eT eB oT oB pk ca rf vs kn n9 th s.heap := hF
  obtain ⟨ra, rl, ex, ro, rt, fo, fj, fk, fe, fr, fw, ⟨hPm, hPa, hPl, hPe, hPr, hPk⟩, hFk, hFe, hFr, hpk, hn9⟩ := hM
  refine lv_aload_n (pc := 0) hx hb dX5_cutNow_0 rfl (lv_at hl 0 rfl) ?_
  refine r_get (pc := 1) E hC fo 0 (v := .ref ra) rfl rfl (by decide) uX5 (List.mem_cons_of_mem _ kw_1209) (fun _ h => h) dX5_cutNow_1 ?_
  refine lv_iload_n (pc := 4) hx hb dX5_cutNow_4 rfl (lv_at hl 1 rfl) ?_
  refine r_aaldJ (pc := 5) E hC fj k_x hx_x hk_x (by decide) rfl dX5_cutNow_5 ?_
  have fL1 := fk k_x hk_x
  have mF_fL1 := hFk k_x hk_x
  have Pq_fL1 := hPk k_x hk_x
  refine lv_iconst (pc := 6) (v := 0) hx hb dX5_cutNow_6 (by decide) ?_
  refine r_l0 (pc := 7) E hC fL1 dX5_cutNow_7 ?_
  refine lv_aload_n (pc := 8) hx hb dX5_cutNow_8 rfl (lv_at hl 0 rfl) ?_
  refine r_get (pc := 9) E hC fo 0 (v := .ref ra) rfl rfl (by decide) uX5 (List.mem_cons_of_mem _ kw_1209) (fun _ h => h) dX5_cutNow_9 ?_
  refine lv_iload_n (pc := 12) hx hb dX5_cutNow_12 rfl (lv_at hl 1 rfl) ?_
  refine r_aaldJ (pc := 13) E hC fj k_x hx_x hk_x (by decide) rfl dX5_cutNow_13 ?_
  have fL2 := fk k_x hk_x
  have mF_fL2 := hFk k_x hk_x
  have Pq_fL2 := hPk k_x hk_x
  refine lv_iconst (pc := 14) (v := 1) hx hb dX5_cutNow_14 (by decide) ?_
  refine r_l1 (pc := 15) E hC fL2 dX5_cutNow_15 ?_
  refine lv_iload_n (pc := 16) hx hb dX5_cutNow_16 rfl (lv_at hl 2 rfl) ?_
  refine lv_iload_n (pc := 17) hx hb dX5_cutNow_17 rfl (lv_at hl 3 rfl) ?_
  refine k_l (pc := 18) (k_S E hC hS hA hl.1 (c_X5_cutOf l D tk N0 sa s.heap.size (tt k_x) (bb k_x) pl md (m_ne0 mF_fL2.2.1)) kw_1704 kw_1705 kw_5 kw_1706 (n := 4) (by decide +kernel) rfl ⟨⟨rfl, rfl⟩, ⟨Nat.le_of_ble_eq_true rfl, Nat.le_of_ble_eq_true rfl⟩, (by dsimp only; omega), (by dsimp only; omega)⟩ rfl (Nat.le_of_ble_eq_true rfl) trivial dX5_cutNow_18) hS (fun q z w => absurd w (Nat.not_le.mpr z)) hn (fun r_3 H locs hR hz hk hS => ?_)
  have er_3 := hR
  have fw := fw.new hk
  have fo := fo.kept (hk _ fo.lt (Nat.not_le.mpr fo.lt))
  have fj := fj.kept (hk _ fj.lt (Nat.not_le.mpr fj.lt))
  have fk := fk.new hk
  have fe := fe.kept (hk _ fe.lt (Nat.not_le.mpr fe.lt))
  have fr := fr.kept (hk _ fr.lt (Nat.not_le.mpr fr.lt))
  have fL1 := fL1.kept (hk _ fL1.lt (Nat.not_le.mpr fL1.lt))
  have fL2 := fL2.kept (hk _ fL2.lt (Nat.not_le.mpr fL2.lt))
  refine lv_iload_n (pc := 21) hx hb dX5_cutNow_21 rfl (lv_at hl 2 rfl) ?_
  have hZ0_ := hS.1
  have t_fo := fo.lt
  have t_fj := fj.lt
  have t_fk := fun k (hk9 : k < 6) => (fk k hk9).lt
  have t_fe := fe.lt
  have t_fr := fr.lt
  have t_fL1 := fL1.lt
  have t_fL2 := fL2.lt
  refine k_r (pc := 22) (k_S E hC hS hA hl.1 (c_X5_decimal l D tk N0 sa H.size r_3 pl kp nd hpl hkp hkn hnd (by rw [er_3]; exact hdg _ _ mF_fL2)) kw_1707 kw_1708 kw_5 kw_1709 (n := 2) (by decide +kernel) rfl ⟨⟨rfl, rfl⟩, ⟨Nat.le_of_ble_eq_true rfl, Nat.le_of_ble_eq_true rfl⟩, (by dsimp only; omega), (by dsimp only; omega)⟩ rfl (Nat.le_of_ble_eq_true rfl) trivial dX5_cutNow_22) hS (fun q z w => absurd w (Nat.not_le.mpr z)) hn (fun r_5 H locs hR hz hk hS => ?_)
  have fw := fw.new hk
  have fo := fo.kept (hk _ fo.lt (Nat.not_le.mpr fo.lt))
  have fj := fj.kept (hk _ fj.lt (Nat.not_le.mpr fj.lt))
  have fk := fk.new hk
  have fe := fe.kept (hk _ fe.lt (Nat.not_le.mpr fe.lt))
  have fr := fr.kept (hk _ fr.lt (Nat.not_le.mpr fr.lt))
  have fL1 := fL1.kept (hk _ fL1.lt (Nat.not_le.mpr fL1.lt))
  have fL2 := fL2.kept (hk _ fL2.lt (Nat.not_le.mpr fL2.lt))
  obtain ⟨n_f6, hn_f6, z9_, f6⟩ := hR
  refine r_aret (pc := 25) E hr (Or.inl ⟨_, rfl⟩) hlk hS (by omega) (by omega) ?_ dX5_cutNow_25
  exact ⟨_, by omega, f6⟩
set_option maxHeartbeats 4000000 in
set_option maxRecDepth 100000 in
/-- BestratiosModel.cut(III)Ljava/lang/String; -/
theorem c_X5_cut (l : Launch) (D : va_G) (tk : Nat → ClassId) (N0 : Nat) (sa : Nat → Nat)  (sz : Nat) (P : Nat → Prop) (hPN : ∀ q, P q → N0 ≤ q) (hPs : ∀ q, sz ≤ q → P q) (mo n9 : Nat) (kn th : Int32) (tt bb : Nat → Int64) (eT eB oT oB : Int64) (pk : Nat) (ca rf : Int32) (vs : Nat → Value) (x1 : Int32) (x2 : Int32) (x3 : Int32) : Met l yX5_cut (wsy yX5_cut cX5_cut 4 (some (.object "java/lang/String"))) ({ frames := 8, cells := 54, slots := 535, locals := 186 } : Room) (cP D tk N0 sa [.ref mo, .int x1, .int x2, .int x3] sz (fun H => MI D tk sa P mo tt bb eT eB oT oB pk ca rf vs kn n9 th H)) (kQr (fun r H => ∃ th1, MI D tk sa P mo tt bb eT eB oT oB pk ca rf vs kn n9 th1 H) (P)) (54) (535) (P) := by
  refine mStart RX5 rfl (by decide +kernel) (Nat.le_of_ble_eq_true rfl) ?_
  intro p e s m args below meth c E hr hlk hnm hsz hC hF ls hl
  subst hsz
  obtain ⟨hx, hb, -⟩ := id E
  have hA : ∀ q, (P) q → N0 ≤ q := hPN
  have hn : ∀ q, s.heap.size ≤ q → (P) q := hPs
  have hS : va_S (P) s.heap s.heap [] := va_S.rf
  have hl : lv_has ls 4 [(0, .ref mo), (1, .int x1), (2, .int x2), (3, .int x3)] := hl
  have hM : MI D tk sa P mo tt bb eT eB oT oB pk ca rf vs kn n9 th s.heap := hF
  obtain ⟨ra, rl, ex, ro, rt, fo, fj, fk, fe, fr, fw, ⟨hPm, hPa, hPl, hPe, hPr, hPk⟩, hFk, hFe, hFr, hpk, hn9⟩ := hM
  have g_fo := hPm
  have g_fj := hPa
  refine lv_aload_n (pc := 0) hx hb dX5_cut_0 rfl (lv_at hl 0 rfl) ?_
  refine lv_iload_n (pc := 1) hx hb dX5_cut_1 rfl (lv_at hl 1 rfl) ?_
  refine k_i (pc := 2) (k_S E hC hS hA hl.1 (c_X5_isNo l D tk N0 sa s.heap.size x1 ) kw_1245 kw_1246 kw_5 kw_1247 (n := 1) (by decide +kernel) rfl ⟨⟨rfl, rfl⟩, ⟨Nat.le_of_ble_eq_true rfl, Nat.le_of_ble_eq_true rfl⟩, (by dsimp only; omega), (by dsimp only; omega)⟩ rfl (Nat.le_of_ble_eq_true rfl) trivial dX5_cut_2) hS (fun q z w => absurd w (Nat.not_le.mpr z)) hn (fun r_1 H locs hR hz hk hS => ?_)
  have er_1 := hR
  have fw := fw.new hk
  have fo := fo.kept (hk _ fo.lt (Nat.not_le.mpr fo.lt))
  have fj := fj.kept (hk _ fj.lt (Nat.not_le.mpr fj.lt))
  have fk := fk.new hk
  have fe := fe.kept (hk _ fe.lt (Nat.not_le.mpr fe.lt))
  have fr := fr.kept (hk _ fr.lt (Nat.not_le.mpr fr.lt))
  refine lv_iload_n (pc := 5) hx hb dX5_cut_5 rfl (lv_at hl 2 rfl) ?_
  refine lv_iconst (pc := 6) (v := 0) hx hb dX5_cut_6 (by decide) ?_
  refine lv_bipush (pc := 7) (v := 9) hx hb dX5_cut_7 (by decide) ?_
  refine k_i (pc := 9) (k_S E hC hS hA hl.1 (c_X5_isIn l D tk N0 sa H.size x2 0 9 ) kw_1248 kw_1249 kw_5 kw_1250 (n := 3) (by decide +kernel) rfl ⟨⟨rfl, rfl⟩, ⟨Nat.le_of_ble_eq_true rfl, Nat.le_of_ble_eq_true rfl⟩, (by dsimp only; omega), (by dsimp only; omega)⟩ rfl (Nat.le_of_ble_eq_true rfl) trivial dX5_cut_9) hS (fun q z w => absurd w (Nat.not_le.mpr z)) hn (fun r_3 H locs hR hz hk hS => ?_)
  have er_3 := hR
  have fw := fw.new hk
  have fo := fo.kept (hk _ fo.lt (Nat.not_le.mpr fo.lt))
  have fj := fj.kept (hk _ fj.lt (Nat.not_le.mpr fj.lt))
  have fk := fk.new hk
  have fe := fe.kept (hk _ fe.lt (Nat.not_le.mpr fe.lt))
  have fr := fr.kept (hk _ fr.lt (Nat.not_le.mpr fr.lt))
  refine lv_if_eq (pc := 12) (tgt := 24) hx hb dX5_cut_12 (by decide) (fun c_5 => ?_) (fun c_5 => ?_)
  · refine lv_iconst (pc := 24) (v := 1) hx hb dX5_cut_24 (by decide) ?_
    refine lv_goto (pc := 25) (tgt := 29) hx hb dX5_cut_25 (by decide) ?_
    have hZ0_ := hS.1
    have t_fo := fo.lt
    have t_fj := fj.lt
    have t_fk := fun k (hk9 : k < 6) => (fk k hk9).lt
    have t_fe := fe.lt
    have t_fr := fr.lt
    refine k_i (pc := 29) (k_V E hC hS hA hl.1 (c1.recv hC fo rfl) rfl (c_X5_fails l D tk N0 sa H.size P hPN (fun q h9 => hPs q (Nat.le_trans hS.1 h9)) mo n9 kn th tt bb eT eB oT oB pk ca rf vs r_1 1 ) kw_1251 kw_1253 kp_20 kw_5 kw_1254 (n := 2) (by decide +kernel) rfl ⟨⟨rfl, rfl⟩, ⟨Nat.le_of_ble_eq_true rfl, Nat.le_of_ble_eq_true rfl⟩, (by dsimp only; omega), (by dsimp only; omega)⟩ rfl (Nat.le_of_ble_eq_true rfl) ⟨_, _, _, _, _, fo, fj, fk, fe, fr, fw, ⟨hPm, hPa, hPl, hPe, hPr, hPk⟩, hFk, hFe, hFr, hpk, hn9⟩ dX5_cut_29) hS (fun q _ h => h) hn (fun r_6 H locs hR hz hk hS => ?_)
    obtain ⟨er_6, hM⟩ := hR
    obtain ⟨ra, rl, ex, ro, rt, fo, fj, fk, fe, fr, fw, ⟨hPm, hPa, hPl, hPe, hPr, hPk⟩, hFk, hFe, hFr, hpk, hn9⟩ := hM
    have g_fo := hPm
    have g_fj := hPa
    have ef_r_6 : r_6 = 1 := er_6.trans (m_fl1 _)
    rw [ef_r_6]
    refine lv_if_eq (pc := 32) (tgt := 40) hx hb dX5_cut_32 (by decide) (fun c_7 => ?_) (fun c_7 => ?_)
    · exact absurd c_7 (by decide)
    refine va_ldcS (pc := 35) hx hb E.2.2.2.1 (hC.2.2.2.2.1 6 _ rfl).1 dX5_cut_35 ?_
    have k8 : SX D tk (sa (10 + 6)) 0 H := hC.str hS hA 6 _ rfl (by decide)
    refine lv_goto (pc := 37) (tgt := 47) hx hb dX5_cut_37 (by decide) ?_
    refine r_aret (pc := 47) E hr (Or.inl ⟨_, rfl⟩) hlk hS (by omega) (by omega) ?_ dX5_cut_47
    exact ⟨_, ⟨_, _, _, _, _, fo, fj, fk, fe, fr, fw, ⟨hPm, hPa, hPl, hPe, hPr, hPk⟩, hFk, hFe, hFr, hpk, hn9⟩⟩
  · refine lv_iload_n (pc := 15) hx hb dX5_cut_15 rfl (lv_at hl 3 rfl) ?_
    refine lv_iconst (pc := 16) (v := 0) hx hb dX5_cut_16 (by decide) ?_
    refine lv_iconst (pc := 17) (v := 4) hx hb dX5_cut_17 (by decide) ?_
    refine k_i (pc := 18) (k_S E hC hS hA hl.1 (c_X5_isIn l D tk N0 sa H.size x3 0 4 ) kw_1248 kw_1249 kw_5 kw_1250 (n := 3) (by decide +kernel) rfl ⟨⟨rfl, rfl⟩, ⟨Nat.le_of_ble_eq_true rfl, Nat.le_of_ble_eq_true rfl⟩, (by dsimp only; omega), (by dsimp only; omega)⟩ rfl (Nat.le_of_ble_eq_true rfl) trivial dX5_cut_18) hS (fun q z w => absurd w (Nat.not_le.mpr z)) hn (fun r_9 H locs hR hz hk hS => ?_)
    have er_9 := hR
    have fw := fw.new hk
    have fo := fo.kept (hk _ fo.lt (Nat.not_le.mpr fo.lt))
    have fj := fj.kept (hk _ fj.lt (Nat.not_le.mpr fj.lt))
    have fk := fk.new hk
    have fe := fe.kept (hk _ fe.lt (Nat.not_le.mpr fe.lt))
    have fr := fr.kept (hk _ fr.lt (Nat.not_le.mpr fr.lt))
    refine lv_if_ne (pc := 21) (tgt := 28) hx hb dX5_cut_21 (by decide) (fun c_11 => ?_) (fun c_11 => ?_)
    · refine lv_iconst (pc := 28) (v := 0) hx hb dX5_cut_28 (by decide) ?_
      have hZ0_ := hS.1
      have t_fo := fo.lt
      have t_fj := fj.lt
      have t_fk := fun k (hk9 : k < 6) => (fk k hk9).lt
      have t_fe := fe.lt
      have t_fr := fr.lt
      refine k_i (pc := 29) (k_V E hC hS hA hl.1 (c1.recv hC fo rfl) rfl (c_X5_fails l D tk N0 sa H.size P hPN (fun q h9 => hPs q (Nat.le_trans hS.1 h9)) mo n9 kn th tt bb eT eB oT oB pk ca rf vs r_1 0 ) kw_1251 kw_1253 kp_20 kw_5 kw_1254 (n := 2) (by decide +kernel) rfl ⟨⟨rfl, rfl⟩, ⟨Nat.le_of_ble_eq_true rfl, Nat.le_of_ble_eq_true rfl⟩, (by dsimp only; omega), (by dsimp only; omega)⟩ rfl (Nat.le_of_ble_eq_true rfl) ⟨_, _, _, _, _, fo, fj, fk, fe, fr, fw, ⟨hPm, hPa, hPl, hPe, hPr, hPk⟩, hFk, hFe, hFr, hpk, hn9⟩ dX5_cut_29) hS (fun q _ h => h) hn (fun r_12 H locs hR hz hk hS => ?_)
      obtain ⟨er_12, hM⟩ := hR
      obtain ⟨ra, rl, ex, ro, rt, fo, fj, fk, fe, fr, fw, ⟨hPm, hPa, hPl, hPe, hPr, hPk⟩, hFk, hFe, hFr, hpk, hn9⟩ := hM
      have g_fo := hPm
      have g_fj := hPa
      refine lv_if_eq (pc := 32) (tgt := 40) hx hb dX5_cut_32 (by decide) (fun c_13 => ?_) (fun c_13 => ?_)
      · refine lv_aload_n (pc := 40) hx hb dX5_cut_40 rfl (lv_at hl 0 rfl) ?_
        refine lv_iload_n (pc := 41) hx hb dX5_cut_41 rfl (lv_at hl 1 rfl) ?_
        refine lv_iload_n (pc := 42) hx hb dX5_cut_42 rfl (lv_at hl 2 rfl) ?_
        refine lv_iload_n (pc := 43) hx hb dX5_cut_43 rfl (lv_at hl 3 rfl) ?_
        obtain ⟨kp, hkp1, hkp2⟩ := m_in (x := x2) (hi_ := 9) (by decide) (fun z9 => c_5 (er_3.trans z9))
        have hdG := (m_dG1 20).2 (by decide)
        have hZ0_ := hS.1
        have t_fo := fo.lt
        have t_fj := fj.lt
        have t_fk := fun k (hk9 : k < 6) => (fk k hk9).lt
        have t_fe := fe.lt
        have t_fr := fr.lt
        obtain ⟨hx_14, hk_14⟩ := m_noN (er_1.symm.trans (m_fl0 (er_12.symm.trans c_13)).1)
        refine k_r (pc := 44) (k_V E hC hS hA hl.1 (c1.recv hC fo rfl) rfl (c_X5_cutNow l D tk N0 sa H.size P hPN mo n9 kn ((m_th r_1 0)) tt bb eT eB oT oB pk ca rf vs x1 (nn x1) hx_14 hk_14 x2 x3 kp 20 hkp1 hkp2 (by omega) (by decide) (fun t b h9 => m_dg20 (m_cut9B h9 hkp1 hkp2 _))) kw_1700 kw_1702 kp_32 kw_5 kw_1703 (n := 3) (by decide +kernel) rfl ⟨⟨rfl, rfl⟩, ⟨Nat.le_of_ble_eq_true rfl, Nat.le_of_ble_eq_true rfl⟩, (by dsimp only; omega), (by dsimp only; omega)⟩ rfl (Nat.le_of_ble_eq_true rfl) ⟨_, _, _, _, _, fo, fj, fk, fe, fr, fw, ⟨hPm, hPa, hPl, hPe, hPr, hPk⟩, hFk, hFe, hFr, hpk, hn9⟩ dX5_cut_44) hS (fun q z w => absurd w (Nat.not_le.mpr z)) hn (fun r_15 H locs hR hz hk hS => ?_)
        have fw := fw.new hk
        have fo := fo.kept (hk _ fo.lt (Nat.not_le.mpr fo.lt))
        have fj := fj.kept (hk _ fj.lt (Nat.not_le.mpr fj.lt))
        have fk := fk.new hk
        have fe := fe.kept (hk _ fe.lt (Nat.not_le.mpr fe.lt))
        have fr := fr.kept (hk _ fr.lt (Nat.not_le.mpr fr.lt))
        obtain ⟨n_f16, hn_f16, f16⟩ := hR
        refine r_aret (pc := 47) E hr (Or.inl ⟨_, rfl⟩) hlk hS (by omega) (by omega) ?_ dX5_cut_47
        exact ⟨_, ⟨_, _, _, _, _, fo, fj, fk, fe, fr, fw, ⟨hPm, hPa, hPl, hPe, hPr, hPk⟩, hFk, hFe, hFr, hpk, hn9⟩⟩
      · refine va_ldcS (pc := 35) hx hb E.2.2.2.1 (hC.2.2.2.2.1 6 _ rfl).1 dX5_cut_35 ?_
        have k17 : SX D tk (sa (10 + 6)) 0 H := hC.str hS hA 6 _ rfl (by decide)
        refine lv_goto (pc := 37) (tgt := 47) hx hb dX5_cut_37 (by decide) ?_
        refine r_aret (pc := 47) E hr (Or.inl ⟨_, rfl⟩) hlk hS (by omega) (by omega) ?_ dX5_cut_47
        exact ⟨_, ⟨_, _, _, _, _, fo, fj, fk, fe, fr, fw, ⟨hPm, hPa, hPl, hPe, hPr, hPk⟩, hFk, hFe, hFr, hpk, hn9⟩⟩
    · refine lv_iconst (pc := 24) (v := 1) hx hb dX5_cut_24 (by decide) ?_
      refine lv_goto (pc := 25) (tgt := 29) hx hb dX5_cut_25 (by decide) ?_
      have hZ0_ := hS.1
      have t_fo := fo.lt
      have t_fj := fj.lt
      have t_fk := fun k (hk9 : k < 6) => (fk k hk9).lt
      have t_fe := fe.lt
      have t_fr := fr.lt
      refine k_i (pc := 29) (k_V E hC hS hA hl.1 (c1.recv hC fo rfl) rfl (c_X5_fails l D tk N0 sa H.size P hPN (fun q h9 => hPs q (Nat.le_trans hS.1 h9)) mo n9 kn th tt bb eT eB oT oB pk ca rf vs r_1 1 ) kw_1251 kw_1253 kp_20 kw_5 kw_1254 (n := 2) (by decide +kernel) rfl ⟨⟨rfl, rfl⟩, ⟨Nat.le_of_ble_eq_true rfl, Nat.le_of_ble_eq_true rfl⟩, (by dsimp only; omega), (by dsimp only; omega)⟩ rfl (Nat.le_of_ble_eq_true rfl) ⟨_, _, _, _, _, fo, fj, fk, fe, fr, fw, ⟨hPm, hPa, hPl, hPe, hPr, hPk⟩, hFk, hFe, hFr, hpk, hn9⟩ dX5_cut_29) hS (fun q _ h => h) hn (fun r_18 H locs hR hz hk hS => ?_)
      obtain ⟨er_18, hM⟩ := hR
      obtain ⟨ra, rl, ex, ro, rt, fo, fj, fk, fe, fr, fw, ⟨hPm, hPa, hPl, hPe, hPr, hPk⟩, hFk, hFe, hFr, hpk, hn9⟩ := hM
      have g_fo := hPm
      have g_fj := hPa
      have ef_r_18 : r_18 = 1 := er_18.trans (m_fl1 _)
      rw [ef_r_18]
      refine lv_if_eq (pc := 32) (tgt := 40) hx hb dX5_cut_32 (by decide) (fun c_19 => ?_) (fun c_19 => ?_)
      · exact absurd c_19 (by decide)
      refine va_ldcS (pc := 35) hx hb E.2.2.2.1 (hC.2.2.2.2.1 6 _ rfl).1 dX5_cut_35 ?_
      have k20 : SX D tk (sa (10 + 6)) 0 H := hC.str hS hA 6 _ rfl (by decide)
      refine lv_goto (pc := 37) (tgt := 47) hx hb dX5_cut_37 (by decide) ?_
      refine r_aret (pc := 47) E hr (Or.inl ⟨_, rfl⟩) hlk hS (by omega) (by omega) ?_ dX5_cut_47
      exact ⟨_, ⟨_, _, _, _, _, fo, fj, fk, fe, fr, fw, ⟨hPm, hPa, hPl, hPe, hPr, hPk⟩, hFk, hFe, hFr, hpk, hn9⟩⟩
set_option maxHeartbeats 4000000 in
set_option maxRecDepth 100000 in
/-- BestratiosModel.simplest(IIII)I -/
theorem c_X5_simplest (l : Launch) (D : va_G) (tk : Nat → ClassId) (N0 : Nat) (sa : Nat → Nat)  (sz : Nat) (P : Nat → Prop) (hPN : ∀ q, P q → N0 ≤ q) (hPs : ∀ q, sz ≤ q → P q) (mo n9 : Nat) (kn th : Int32) (tt bb : Nat → Int64) (eT eB oT oB : Int64) (pk : Nat) (ca rf : Int32) (vs : Nat → Value) (x1 : Int32) (x2 : Int32) (x3 : Int32) (x4 : Int32) : Met l yX5_simplest (wsy yX5_simplest cX5_simplest 5 (some .int)) ({ frames := 4, cells := 1, slots := 2, locals := 106 } : Room) (cP D tk N0 sa [.ref mo, .int x1, .int x2, .int x3, .int x4] sz (fun H => MI D tk sa P mo tt bb eT eB oT oB pk ca rf vs kn n9 th H)) (kQi (fun r H => ∃ th1 tt1 bb1 rf1 o, MI D tk sa P mo tt1 bb1 eT eB oT oB pk ca rf1 vs kn n9 th1 H ∧ AC (m_areNo x1 x2) (m_or (m_not (m_isIn x3 0 2)) (m_not (m_isIn x4 0 4))) tt bb rf (nn x1) o r th1 tt1 bb1 rf1 ∧ (m_fl (m_areNo x1 x2) (m_or (m_not (m_isIn x3 0 2)) (m_not (m_isIn x4 0 4))) = 0 → ∃ p, o = some p ∧ m_SMP (tt (nn x2)) (bb (nn x2)) (nn x3) x4 p)) (P)) (1) (2) (P) := by
  refine mStart RX5 rfl (by decide +kernel) (Nat.le_of_ble_eq_true rfl) ?_
  intro p e s m args below meth c E hr hlk hnm hsz hC hF ls hl
  subst hsz
  obtain ⟨hx, hb, -⟩ := id E
  have hA : ∀ q, (P) q → N0 ≤ q := hPN
  have hn : ∀ q, s.heap.size ≤ q → (P) q := hPs
  have hS : va_S (P) s.heap s.heap [] := va_S.rf
  have hl : lv_has ls 5 [(0, .ref mo), (1, .int x1), (2, .int x2), (3, .int x3), (4, .int x4)] := hl
  have hM : MI D tk sa P mo tt bb eT eB oT oB pk ca rf vs kn n9 th s.heap := hF
  obtain ⟨ra, rl, ex, ro, rt, fo, fj, fk, fe, fr, fw, ⟨hPm, hPa, hPl, hPe, hPr, hPk⟩, hFk, hFe, hFr, hpk, hn9⟩ := hM
  have g_fo := hPm
  have g_fj := hPa
  refine lv_aload_n (pc := 0) hx hb dX5_simplest_0 rfl (lv_at hl 0 rfl) ?_
  refine lv_iload_n (pc := 1) hx hb dX5_simplest_1 rfl (lv_at hl 1 rfl) ?_
  refine lv_iload_n (pc := 2) hx hb dX5_simplest_2 rfl (lv_at hl 2 rfl) ?_
  refine k_i (pc := 3) (k_S E hC hS hA hl.1 (c_X5_areNo l D tk N0 sa s.heap.size x1 x2 ) kw_1286 kw_1287 kw_5 kw_1288 (n := 2) (by decide +kernel) rfl ⟨⟨rfl, rfl⟩, ⟨Nat.le_of_ble_eq_true rfl, Nat.le_of_ble_eq_true rfl⟩, (by dsimp only; omega), (by dsimp only; omega)⟩ rfl (Nat.le_of_ble_eq_true rfl) trivial dX5_simplest_3) hS (fun q z w => absurd w (Nat.not_le.mpr z)) hn (fun r_1 H locs hR hz hk hS => ?_)
  have er_1 := hR
  have fw := fw.new hk
  have fo := fo.kept (hk _ fo.lt (Nat.not_le.mpr fo.lt))
  have fj := fj.kept (hk _ fj.lt (Nat.not_le.mpr fj.lt))
  have fk := fk.new hk
  have fe := fe.kept (hk _ fe.lt (Nat.not_le.mpr fe.lt))
  have fr := fr.kept (hk _ fr.lt (Nat.not_le.mpr fr.lt))
  refine lv_iload_n (pc := 6) hx hb dX5_simplest_6 rfl (lv_at hl 3 rfl) ?_
  refine lv_iconst (pc := 7) (v := 0) hx hb dX5_simplest_7 (by decide) ?_
  refine lv_iconst (pc := 8) (v := 2) hx hb dX5_simplest_8 (by decide) ?_
  refine k_i (pc := 9) (k_S E hC hS hA hl.1 (c_X5_isIn l D tk N0 sa H.size x3 0 2 ) kw_1248 kw_1249 kw_5 kw_1250 (n := 3) (by decide +kernel) rfl ⟨⟨rfl, rfl⟩, ⟨Nat.le_of_ble_eq_true rfl, Nat.le_of_ble_eq_true rfl⟩, (by dsimp only; omega), (by dsimp only; omega)⟩ rfl (Nat.le_of_ble_eq_true rfl) trivial dX5_simplest_9) hS (fun q z w => absurd w (Nat.not_le.mpr z)) hn (fun r_3 H locs hR hz hk hS => ?_)
  have er_3 := hR
  have fw := fw.new hk
  have fo := fo.kept (hk _ fo.lt (Nat.not_le.mpr fo.lt))
  have fj := fj.kept (hk _ fj.lt (Nat.not_le.mpr fj.lt))
  have fk := fk.new hk
  have fe := fe.kept (hk _ fe.lt (Nat.not_le.mpr fe.lt))
  have fr := fr.kept (hk _ fr.lt (Nat.not_le.mpr fr.lt))
  refine lv_if_eq (pc := 12) (tgt := 25) hx hb dX5_simplest_12 (by decide) (fun c_5 => ?_) (fun c_5 => ?_)
  · refine lv_iconst (pc := 25) (v := 1) hx hb dX5_simplest_25 (by decide) ?_
    refine lv_goto (pc := 26) (tgt := 30) hx hb dX5_simplest_26 (by decide) ?_
    have hZ0_ := hS.1
    have t_fo := fo.lt
    have t_fj := fj.lt
    have t_fk := fun k (hk9 : k < 6) => (fk k hk9).lt
    have t_fe := fe.lt
    have t_fr := fr.lt
    refine k_i (pc := 30) (k_V E hC hS hA hl.1 (c1.recv hC fo rfl) rfl (c_X5_fails l D tk N0 sa H.size P hPN (fun q h9 => hPs q (Nat.le_trans hS.1 h9)) mo n9 kn th tt bb eT eB oT oB pk ca rf vs r_1 1 ) kw_1251 kw_1253 kp_20 kw_5 kw_1254 (n := 2) (by decide +kernel) rfl ⟨⟨rfl, rfl⟩, ⟨Nat.le_of_ble_eq_true rfl, Nat.le_of_ble_eq_true rfl⟩, (by dsimp only; omega), (by dsimp only; omega)⟩ rfl (Nat.le_of_ble_eq_true rfl) ⟨_, _, _, _, _, fo, fj, fk, fe, fr, fw, ⟨hPm, hPa, hPl, hPe, hPr, hPk⟩, hFk, hFe, hFr, hpk, hn9⟩ dX5_simplest_30) hS (fun q _ h => h) hn (fun r_6 H locs hR hz hk hS => ?_)
    obtain ⟨er_6, hM⟩ := hR
    obtain ⟨ra, rl, ex, ro, rt, fo, fj, fk, fe, fr, fw, ⟨hPm, hPa, hPl, hPe, hPr, hPk⟩, hFk, hFe, hFr, hpk, hn9⟩ := hM
    have g_fo := hPm
    have g_fj := hPa
    have ef_r_6 : r_6 = 1 := er_6.trans (m_fl1 _)
    rw [ef_r_6]
    refine lv_if_eq (pc := 33) (tgt := 40) hx hb dX5_simplest_33 (by decide) (fun c_7 => ?_) (fun c_7 => ?_)
    · exact absurd c_7 (by decide)
    refine lv_iconst (pc := 36) (v := 0) hx hb dX5_simplest_36 (by decide) ?_
    refine lv_goto (pc := 37) (tgt := 57) hx hb dX5_simplest_37 (by decide) ?_
    refine r_iret (pc := 57) E hr hlk hS (by omega) (by omega) ?_ dX5_simplest_57
    exact ⟨_, _, _, _, none, ⟨_, _, _, _, _, fo, fj, fk, fe, fr, fw, ⟨hPm, hPa, hPl, hPe, hPr, hPk⟩, hFk, hFe, hFr, hpk, hn9⟩, AC.fail (by subst er_1 er_3; first | rfl | (simp [m_or, m_not, m_is0, m_lt0, m_fl, c_5]; done)) (by subst er_1 er_3; first | rfl | (simp [m_or, m_not, m_is0, m_lt0, m_fl, c_5]; done)) (fun z9 => absurd (ef_r_6.symm.trans (er_6.trans z9)) (by decide)), fun z9 => absurd z9 (AC7 (by subst er_1 er_3; first | rfl | (simp [m_or, m_not, m_is0, m_lt0, m_fl, c_5]; done)) (by subst er_1 er_3; first | rfl | (simp [m_or, m_not, m_is0, m_lt0, m_fl, c_5]; done)) (fun z9 => absurd (ef_r_6.symm.trans (er_6.trans z9)) (by decide)))⟩
  · refine lv_iload (pc := 15) hx hb dX5_simplest_15 (lv_at hl 4 rfl) ?_
    refine lv_iconst (pc := 17) (v := 0) hx hb dX5_simplest_17 (by decide) ?_
    refine lv_iconst (pc := 18) (v := 4) hx hb dX5_simplest_18 (by decide) ?_
    refine k_i (pc := 19) (k_S E hC hS hA hl.1 (c_X5_isIn l D tk N0 sa H.size x4 0 4 ) kw_1248 kw_1249 kw_5 kw_1250 (n := 3) (by decide +kernel) rfl ⟨⟨rfl, rfl⟩, ⟨Nat.le_of_ble_eq_true rfl, Nat.le_of_ble_eq_true rfl⟩, (by dsimp only; omega), (by dsimp only; omega)⟩ rfl (Nat.le_of_ble_eq_true rfl) trivial dX5_simplest_19) hS (fun q z w => absurd w (Nat.not_le.mpr z)) hn (fun r_8 H locs hR hz hk hS => ?_)
    have er_8 := hR
    have fw := fw.new hk
    have fo := fo.kept (hk _ fo.lt (Nat.not_le.mpr fo.lt))
    have fj := fj.kept (hk _ fj.lt (Nat.not_le.mpr fj.lt))
    have fk := fk.new hk
    have fe := fe.kept (hk _ fe.lt (Nat.not_le.mpr fe.lt))
    have fr := fr.kept (hk _ fr.lt (Nat.not_le.mpr fr.lt))
    refine lv_if_ne (pc := 22) (tgt := 29) hx hb dX5_simplest_22 (by decide) (fun c_10 => ?_) (fun c_10 => ?_)
    · refine lv_iconst (pc := 29) (v := 0) hx hb dX5_simplest_29 (by decide) ?_
      have hZ0_ := hS.1
      have t_fo := fo.lt
      have t_fj := fj.lt
      have t_fk := fun k (hk9 : k < 6) => (fk k hk9).lt
      have t_fe := fe.lt
      have t_fr := fr.lt
      refine k_i (pc := 30) (k_V E hC hS hA hl.1 (c1.recv hC fo rfl) rfl (c_X5_fails l D tk N0 sa H.size P hPN (fun q h9 => hPs q (Nat.le_trans hS.1 h9)) mo n9 kn th tt bb eT eB oT oB pk ca rf vs r_1 0 ) kw_1251 kw_1253 kp_20 kw_5 kw_1254 (n := 2) (by decide +kernel) rfl ⟨⟨rfl, rfl⟩, ⟨Nat.le_of_ble_eq_true rfl, Nat.le_of_ble_eq_true rfl⟩, (by dsimp only; omega), (by dsimp only; omega)⟩ rfl (Nat.le_of_ble_eq_true rfl) ⟨_, _, _, _, _, fo, fj, fk, fe, fr, fw, ⟨hPm, hPa, hPl, hPe, hPr, hPk⟩, hFk, hFe, hFr, hpk, hn9⟩ dX5_simplest_30) hS (fun q _ h => h) hn (fun r_11 H locs hR hz hk hS => ?_)
      obtain ⟨er_11, hM⟩ := hR
      obtain ⟨ra, rl, ex, ro, rt, fo, fj, fk, fe, fr, fw, ⟨hPm, hPa, hPl, hPe, hPr, hPk⟩, hFk, hFe, hFr, hpk, hn9⟩ := hM
      have g_fo := hPm
      have g_fj := hPa
      refine lv_if_eq (pc := 33) (tgt := 40) hx hb dX5_simplest_33 (by decide) (fun c_12 => ?_) (fun c_12 => ?_)
      · refine lv_aload_n (pc := 40) hx hb dX5_simplest_40 rfl (lv_at hl 0 rfl) ?_
        refine lv_iload_n (pc := 41) hx hb dX5_simplest_41 rfl (lv_at hl 1 rfl) ?_
        refine lv_aload_n (pc := 42) hx hb dX5_simplest_42 rfl (lv_at hl 0 rfl) ?_
        refine r_get (pc := 43) E hC fo 0 (v := .ref ra) rfl rfl (by decide) uX5 (List.mem_cons_of_mem _ kw_1209) (fun _ h => h) dX5_simplest_43 ?_
        refine lv_iload_n (pc := 46) hx hb dX5_simplest_46 rfl (lv_at hl 2 rfl) ?_
        obtain ⟨hx_13, hk_13⟩ := m_noN (m_ano (er_1.symm.trans (m_fl0 (er_11.symm.trans c_12)).1)).2
        refine r_aaldJ (pc := 47) E hC fj (nn x2) hx_13 hk_13 (by decide) rfl dX5_simplest_47 ?_
        have fL14 := fk (nn x2) hk_13
        have mF_fL14 := hFk (nn x2) hk_13
        have Pq_fL14 := hPk (nn x2) hk_13
        refine lv_iload_n (pc := 48) hx hb dX5_simplest_48 rfl (lv_at hl 3 rfl) ?_
        refine lv_iload (pc := 49) hx hb dX5_simplest_49 (lv_at hl 4 rfl) ?_
        obtain ⟨kp, hkp1, hkp2⟩ := m_in (x := x3) (hi_ := 2) (by decide) (fun z9 => c_5 (er_3.trans z9))
        have hZ0_ := hS.1
        have t_fo := fo.lt
        have t_fj := fj.lt
        have t_fk := fun k (hk9 : k < 6) => (fk k hk9).lt
        have t_fe := fe.lt
        have t_fr := fr.lt
        have t_fL14 := fL14.lt
        refine k_r (pc := 51) (k_S E hC hS hA hl.1 (c_X5_simplestOf l D tk N0 sa H.size (rt (nn x2)) (tt (nn x2)) (bb (nn x2)) x3 x4 kp mF_fL14 hkp1 hkp2) kw_1751 kw_1752 kw_5 kw_1753 (n := 3) (by decide +kernel) rfl ⟨⟨rfl, rfl⟩, ⟨Nat.le_of_ble_eq_true rfl, Nat.le_of_ble_eq_true rfl⟩, (by dsimp only; omega), (by dsimp only; omega)⟩ rfl (Nat.le_of_ble_eq_true rfl) fL14 dX5_simplest_51) hS (fun q z w => absurd w (Nat.not_le.mpr z)) hn (fun r_15 H locs hR hz hk hS => ?_)
        have fw := fw.new hk
        have fo := fo.kept (hk _ fo.lt (Nat.not_le.mpr fo.lt))
        have fj := fj.kept (hk _ fj.lt (Nat.not_le.mpr fj.lt))
        have fk := fk.new hk
        have fe := fe.kept (hk _ fe.lt (Nat.not_le.mpr fe.lt))
        have fr := fr.kept (hk _ fr.lt (Nat.not_le.mpr fr.lt))
        have fL14 := fL14.kept (hk _ fL14.lt (Nat.not_le.mpr fL14.lt))
        obtain ⟨z9_, tt_f16, bb_f16, f16, hb_f16, hv_f16⟩ := hR
        have s_f16 : s.heap.size ≤ r_15 := Nat.le_trans hZ0_ z9_
        have g_f16 := hn _ s_f16
        have l_fo_f16 : mo < r_15 := Nat.lt_of_lt_of_le t_fo z9_
        have l_fj_f16 : ra < r_15 := Nat.lt_of_lt_of_le t_fj z9_
        have nW_f16 : ∀ k, k < 6 → rt k ≠ r_15 := fun k hk9 => Nat.ne_of_lt (Nat.lt_of_lt_of_le (t_fk k hk9) z9_)
        have l_fe_f16 : ex < r_15 := Nat.lt_of_lt_of_le t_fe z9_
        have l_fr_f16 : ro < r_15 := Nat.lt_of_lt_of_le t_fr z9_
        have l_fL14_f16 : rt (nn x2) < r_15 := Nat.lt_of_lt_of_le t_fL14 z9_
        have hZ0_ := hS.1
        have t_fo := fo.lt
        have t_fj := fj.lt
        have t_fk := fun k (hk9 : k < 6) => (fk k hk9).lt
        have t_fe := fe.lt
        have t_fr := fr.lt
        have t_fL14 := fL14.lt
        have t_f16 := f16.lt
        obtain ⟨hx_17, hk_17⟩ := m_noN (m_ano (er_1.symm.trans (m_fl0 (er_11.symm.trans c_12)).1)).1
        refine k_i (pc := 54) (k_V E hC hS hA hl.1 (c1.recv hC fo rfl) rfl (c_X5_become l D tk N0 sa H.size P hPN (fun q h9 => hPs q (Nat.le_trans hS.1 h9)) mo n9 kn ((m_th r_1 0)) tt bb eT eB oT oB pk ca rf vs x1 (nn x1) hx_17 hk_17 r_15 tt_f16 bb_f16 (hPs _ s_f16) hb_f16.1) kw_1255 kw_1257 kp_21 kw_5 kw_1258 (n := 2) (by decide +kernel) rfl ⟨⟨rfl, rfl⟩, ⟨Nat.le_of_ble_eq_true rfl, Nat.le_of_ble_eq_true rfl⟩, (by dsimp only; omega), (by dsimp only; omega)⟩ rfl (Nat.le_of_ble_eq_true rfl) ⟨⟨_, _, _, _, _, fo, fj, fk, fe, fr, fw, ⟨hPm, hPa, hPl, hPe, hPr, hPk⟩, hFk, hFe, hFr, hpk, hn9⟩, f16⟩ dX5_simplest_54) hS (fun q _ h => h) hn (fun r_18 H locs hR hz hk hS => ?_)
        obtain ⟨tt_19, bb_19, rf_19, hM, hBE_19⟩ := hR
        obtain ⟨ra, rl, ex, ro, rt, fo, fj, fk, fe, fr, fw, ⟨hPm, hPa, hPl, hPe, hPr, hPk⟩, hFk, hFe, hFr, hpk, hn9⟩ := hM
        have g_fo := hPm
        have g_fj := hPa
        refine r_iret (pc := 57) E hr hlk hS (by omega) (by omega) ?_ dX5_simplest_57
        exact ⟨_, _, _, _, _, ⟨_, _, _, _, _, fo, fj, fk, fe, fr, fw, ⟨hPm, hPa, hPl, hPe, hPr, hPk⟩, hFk, hFe, hFr, hpk, hn9⟩, AC.ok (by subst er_1 er_3 er_8 er_11; first | rfl | (simp [m_or, m_not, m_is0, m_lt0, m_fl, c_5, c_10, c_12]; done)) (by subst er_1 er_3 er_8 er_11; first | rfl | (simp [m_or, m_not, m_is0, m_lt0, m_fl, c_5, c_10, c_12]; done)) (er_11.symm.trans c_12) hBE_19, fun _ => ⟨_, rfl, by rw [show nn x3 = kp from by rw [hkp1]; exact nI_clamp (by omega)]; exact hv_f16⟩⟩
      · refine lv_iconst (pc := 36) (v := 0) hx hb dX5_simplest_36 (by decide) ?_
        refine lv_goto (pc := 37) (tgt := 57) hx hb dX5_simplest_37 (by decide) ?_
        refine r_iret (pc := 57) E hr hlk hS (by omega) (by omega) ?_ dX5_simplest_57
        exact ⟨_, _, _, _, none, ⟨_, _, _, _, _, fo, fj, fk, fe, fr, fw, ⟨hPm, hPa, hPl, hPe, hPr, hPk⟩, hFk, hFe, hFr, hpk, hn9⟩, AC.fail (by subst er_1 er_3 er_8 er_11; first | rfl | (simp [m_or, m_not, m_is0, m_lt0, m_fl, c_5, c_10, c_12]; done)) (by subst er_1 er_3 er_8 er_11; first | rfl | (simp [m_or, m_not, m_is0, m_lt0, m_fl, c_5, c_10, c_12]; done)) (fun z9 => c_12 (er_11.trans z9)), fun z9 => absurd z9 (AC7 (by subst er_1 er_3 er_8 er_11; first | rfl | (simp [m_or, m_not, m_is0, m_lt0, m_fl, c_5, c_10, c_12]; done)) (by subst er_1 er_3 er_8 er_11; first | rfl | (simp [m_or, m_not, m_is0, m_lt0, m_fl, c_5, c_10, c_12]; done)) (fun z9 => c_12 (er_11.trans z9)))⟩
    · refine lv_iconst (pc := 25) (v := 1) hx hb dX5_simplest_25 (by decide) ?_
      refine lv_goto (pc := 26) (tgt := 30) hx hb dX5_simplest_26 (by decide) ?_
      have hZ0_ := hS.1
      have t_fo := fo.lt
      have t_fj := fj.lt
      have t_fk := fun k (hk9 : k < 6) => (fk k hk9).lt
      have t_fe := fe.lt
      have t_fr := fr.lt
      refine k_i (pc := 30) (k_V E hC hS hA hl.1 (c1.recv hC fo rfl) rfl (c_X5_fails l D tk N0 sa H.size P hPN (fun q h9 => hPs q (Nat.le_trans hS.1 h9)) mo n9 kn th tt bb eT eB oT oB pk ca rf vs r_1 1 ) kw_1251 kw_1253 kp_20 kw_5 kw_1254 (n := 2) (by decide +kernel) rfl ⟨⟨rfl, rfl⟩, ⟨Nat.le_of_ble_eq_true rfl, Nat.le_of_ble_eq_true rfl⟩, (by dsimp only; omega), (by dsimp only; omega)⟩ rfl (Nat.le_of_ble_eq_true rfl) ⟨_, _, _, _, _, fo, fj, fk, fe, fr, fw, ⟨hPm, hPa, hPl, hPe, hPr, hPk⟩, hFk, hFe, hFr, hpk, hn9⟩ dX5_simplest_30) hS (fun q _ h => h) hn (fun r_20 H locs hR hz hk hS => ?_)
      obtain ⟨er_20, hM⟩ := hR
      obtain ⟨ra, rl, ex, ro, rt, fo, fj, fk, fe, fr, fw, ⟨hPm, hPa, hPl, hPe, hPr, hPk⟩, hFk, hFe, hFr, hpk, hn9⟩ := hM
      have g_fo := hPm
      have g_fj := hPa
      have ef_r_20 : r_20 = 1 := er_20.trans (m_fl1 _)
      rw [ef_r_20]
      refine lv_if_eq (pc := 33) (tgt := 40) hx hb dX5_simplest_33 (by decide) (fun c_21 => ?_) (fun c_21 => ?_)
      · exact absurd c_21 (by decide)
      refine lv_iconst (pc := 36) (v := 0) hx hb dX5_simplest_36 (by decide) ?_
      refine lv_goto (pc := 37) (tgt := 57) hx hb dX5_simplest_37 (by decide) ?_
      refine r_iret (pc := 57) E hr hlk hS (by omega) (by omega) ?_ dX5_simplest_57
      exact ⟨_, _, _, _, none, ⟨_, _, _, _, _, fo, fj, fk, fe, fr, fw, ⟨hPm, hPa, hPl, hPe, hPr, hPk⟩, hFk, hFe, hFr, hpk, hn9⟩, AC.fail (by subst er_1 er_3 er_8; first | rfl | (simp [m_or, m_not, m_is0, m_lt0, m_fl, c_5, c_10]; done)) (by subst er_1 er_3 er_8; first | rfl | (simp [m_or, m_not, m_is0, m_lt0, m_fl, c_5, c_10]; done)) (fun z9 => absurd (ef_r_20.symm.trans (er_20.trans z9)) (by decide)), fun z9 => absurd z9 (AC7 (by subst er_1 er_3 er_8; first | rfl | (simp [m_or, m_not, m_is0, m_lt0, m_fl, c_5, c_10]; done)) (by subst er_1 er_3 er_8; first | rfl | (simp [m_or, m_not, m_is0, m_lt0, m_fl, c_5, c_10]; done)) (fun z9 => absurd (ef_r_20.symm.trans (er_20.trans z9)) (by decide)))⟩
set_option maxHeartbeats 4000000 in
set_option maxRecDepth 100000 in
/-- BestratiosModel.tally(III)I -/
theorem c_X5_tally (l : Launch) (D : va_G) (tk : Nat → ClassId) (N0 : Nat) (sa : Nat → Nat)  (sz : Nat) (P : Nat → Prop) (hPN : ∀ q, P q → N0 ≤ q) (hPs : ∀ q, sz ≤ q → P q) (mo n9 : Nat) (kn th : Int32) (tt bb : Nat → Int64) (eT eB oT oB : Int64) (pk : Nat) (ca rf : Int32) (vs : Nat → Value) (x1 : Int32) (x2 : Int32) (x3 : Int32) : Met l yX5_tally (wsy yX5_tally cX5_tally 7 (some .int)) ({ frames := 4, cells := 4, slots := 8, locals := 99 } : Room) (cP D tk N0 sa [.ref mo, .int x1, .int x2, .int x3] sz (fun H => MI D tk sa P mo tt bb eT eB oT oB pk ca rf vs kn n9 th H)) (kQi (fun r H => ∃ (th1 : Int32) (eT1 eB1 oT1 oB1 : Int64) (pk1 : Nat) (ca1 rf1 : Int32), MI D tk sa P mo tt bb eT1 eB1 oT1 oB1 pk1 ca1 rf1 vs kn n9 th1 H ∧ TL (m_isNo x1) (m_or (m_not (m_isIn x2 0 4)) (m_not (m_isIn x3 0 4))) eT eB oT oB pk ca rf (tt (nn x1)) (bb (nn x1)) x2 x3 r th1 eT1 eB1 oT1 oB1 pk1 ca1 rf1) (P)) (4) (8) (P) := by
  refine mStart RX5 rfl (by decide +kernel) (Nat.le_of_ble_eq_true rfl) ?_
  intro p e s m args below meth c E hr hlk hnm hsz hC hF ls hl
  subst hsz
  obtain ⟨hx, hb, -⟩ := id E
  have hA : ∀ q, (P) q → N0 ≤ q := hPN
  have hn : ∀ q, s.heap.size ≤ q → (P) q := hPs
  have hS : va_S (P) s.heap s.heap [] := va_S.rf
  have hl : lv_has ls 7 [(0, .ref mo), (1, .int x1), (2, .int x2), (3, .int x3)] := hl
  have hM : MI D tk sa P mo tt bb eT eB oT oB pk ca rf vs kn n9 th s.heap := hF
  obtain ⟨ra, rl, ex, ro, rt, fo, fj, fk, fe, fr, fw, ⟨hPm, hPa, hPl, hPe, hPr, hPk⟩, hFk, hFe, hFr, hpk, hn9⟩ := hM
  have g_fo := hPm
  have g_fj := hPa
  refine lv_aload_n (pc := 0) hx hb dX5_tally_0 rfl (lv_at hl 0 rfl) ?_
  refine lv_iload_n (pc := 1) hx hb dX5_tally_1 rfl (lv_at hl 1 rfl) ?_
  refine k_i (pc := 2) (k_S E hC hS hA hl.1 (c_X5_isNo l D tk N0 sa s.heap.size x1 ) kw_1245 kw_1246 kw_5 kw_1247 (n := 1) (by decide +kernel) rfl ⟨⟨rfl, rfl⟩, ⟨Nat.le_of_ble_eq_true rfl, Nat.le_of_ble_eq_true rfl⟩, (by dsimp only; omega), (by dsimp only; omega)⟩ rfl (Nat.le_of_ble_eq_true rfl) trivial dX5_tally_2) hS (fun q z w => absurd w (Nat.not_le.mpr z)) hn (fun r_1 H locs hR hz hk hS => ?_)
  have er_1 := hR
  have fw := fw.new hk
  have fo := fo.kept (hk _ fo.lt (Nat.not_le.mpr fo.lt))
  have fj := fj.kept (hk _ fj.lt (Nat.not_le.mpr fj.lt))
  have fk := fk.new hk
  have fe := fe.kept (hk _ fe.lt (Nat.not_le.mpr fe.lt))
  have fr := fr.kept (hk _ fr.lt (Nat.not_le.mpr fr.lt))
  refine lv_iload_n (pc := 5) hx hb dX5_tally_5 rfl (lv_at hl 2 rfl) ?_
  refine lv_iconst (pc := 6) (v := 0) hx hb dX5_tally_6 (by decide) ?_
  refine lv_iconst (pc := 7) (v := 4) hx hb dX5_tally_7 (by decide) ?_
  refine k_i (pc := 8) (k_S E hC hS hA hl.1 (c_X5_isIn l D tk N0 sa H.size x2 0 4 ) kw_1248 kw_1249 kw_5 kw_1250 (n := 3) (by decide +kernel) rfl ⟨⟨rfl, rfl⟩, ⟨Nat.le_of_ble_eq_true rfl, Nat.le_of_ble_eq_true rfl⟩, (by dsimp only; omega), (by dsimp only; omega)⟩ rfl (Nat.le_of_ble_eq_true rfl) trivial dX5_tally_8) hS (fun q z w => absurd w (Nat.not_le.mpr z)) hn (fun r_3 H locs hR hz hk hS => ?_)
  have er_3 := hR
  have fw := fw.new hk
  have fo := fo.kept (hk _ fo.lt (Nat.not_le.mpr fo.lt))
  have fj := fj.kept (hk _ fj.lt (Nat.not_le.mpr fj.lt))
  have fk := fk.new hk
  have fe := fe.kept (hk _ fe.lt (Nat.not_le.mpr fe.lt))
  have fr := fr.kept (hk _ fr.lt (Nat.not_le.mpr fr.lt))
  refine lv_if_eq (pc := 11) (tgt := 23) hx hb dX5_tally_11 (by decide) (fun c_5 => ?_) (fun c_5 => ?_)
  · refine lv_iconst (pc := 23) (v := 1) hx hb dX5_tally_23 (by decide) ?_
    refine lv_goto (pc := 24) (tgt := 28) hx hb dX5_tally_24 (by decide) ?_
    have hZ0_ := hS.1
    have t_fo := fo.lt
    have t_fj := fj.lt
    have t_fk := fun k (hk9 : k < 6) => (fk k hk9).lt
    have t_fe := fe.lt
    have t_fr := fr.lt
    refine k_i (pc := 28) (k_V E hC hS hA hl.1 (c1.recv hC fo rfl) rfl (c_X5_fails l D tk N0 sa H.size P hPN (fun q h9 => hPs q (Nat.le_trans hS.1 h9)) mo n9 kn th tt bb eT eB oT oB pk ca rf vs r_1 1 ) kw_1251 kw_1253 kp_20 kw_5 kw_1254 (n := 2) (by decide +kernel) rfl ⟨⟨rfl, rfl⟩, ⟨Nat.le_of_ble_eq_true rfl, Nat.le_of_ble_eq_true rfl⟩, (by dsimp only; omega), (by dsimp only; omega)⟩ rfl (Nat.le_of_ble_eq_true rfl) ⟨_, _, _, _, _, fo, fj, fk, fe, fr, fw, ⟨hPm, hPa, hPl, hPe, hPr, hPk⟩, hFk, hFe, hFr, hpk, hn9⟩ dX5_tally_28) hS (fun q _ h => h) hn (fun r_6 H locs hR hz hk hS => ?_)
    obtain ⟨er_6, hM⟩ := hR
    obtain ⟨ra, rl, ex, ro, rt, fo, fj, fk, fe, fr, fw, ⟨hPm, hPa, hPl, hPe, hPr, hPk⟩, hFk, hFe, hFr, hpk, hn9⟩ := hM
    have g_fo := hPm
    have g_fj := hPa
    have ef_r_6 : r_6 = 1 := er_6.trans (m_fl1 _)
    rw [ef_r_6]
    refine lv_if_eq (pc := 31) (tgt := 36) hx hb dX5_tally_31 (by decide) (fun c_7 => ?_) (fun c_7 => ?_)
    · exact absurd c_7 (by decide)
    refine lv_iconst (pc := 34) (v := 0) hx hb dX5_tally_34 (by decide) ?_
    refine r_iret (pc := 35) E hr hlk hS (by omega) (by omega) ?_ dX5_tally_35
    exact ⟨_, _, _, _, _, _, _, _, ⟨_, _, _, _, _, fo, fj, fk, fe, fr, fw, ⟨hPm, hPa, hPl, hPe, hPr, hPk⟩, hFk, hFe, hFr, hpk, hn9⟩, TL.fail (by subst er_1 er_3; first | rfl | (simp [m_or, m_not, m_is0, m_lt0, m_fl, c_5]; done)) (by subst er_1 er_3; first | rfl | (simp [m_or, m_not, m_is0, m_lt0, m_fl, c_5]; done)) (fun z9 => absurd (ef_r_6.symm.trans (er_6.trans z9)) (by decide))⟩
  · refine lv_iload_n (pc := 14) hx hb dX5_tally_14 rfl (lv_at hl 3 rfl) ?_
    refine lv_iconst (pc := 15) (v := 0) hx hb dX5_tally_15 (by decide) ?_
    refine lv_iconst (pc := 16) (v := 4) hx hb dX5_tally_16 (by decide) ?_
    refine k_i (pc := 17) (k_S E hC hS hA hl.1 (c_X5_isIn l D tk N0 sa H.size x3 0 4 ) kw_1248 kw_1249 kw_5 kw_1250 (n := 3) (by decide +kernel) rfl ⟨⟨rfl, rfl⟩, ⟨Nat.le_of_ble_eq_true rfl, Nat.le_of_ble_eq_true rfl⟩, (by dsimp only; omega), (by dsimp only; omega)⟩ rfl (Nat.le_of_ble_eq_true rfl) trivial dX5_tally_17) hS (fun q z w => absurd w (Nat.not_le.mpr z)) hn (fun r_8 H locs hR hz hk hS => ?_)
    have er_8 := hR
    have fw := fw.new hk
    have fo := fo.kept (hk _ fo.lt (Nat.not_le.mpr fo.lt))
    have fj := fj.kept (hk _ fj.lt (Nat.not_le.mpr fj.lt))
    have fk := fk.new hk
    have fe := fe.kept (hk _ fe.lt (Nat.not_le.mpr fe.lt))
    have fr := fr.kept (hk _ fr.lt (Nat.not_le.mpr fr.lt))
    refine lv_if_ne (pc := 20) (tgt := 27) hx hb dX5_tally_20 (by decide) (fun c_10 => ?_) (fun c_10 => ?_)
    · refine lv_iconst (pc := 27) (v := 0) hx hb dX5_tally_27 (by decide) ?_
      have hZ0_ := hS.1
      have t_fo := fo.lt
      have t_fj := fj.lt
      have t_fk := fun k (hk9 : k < 6) => (fk k hk9).lt
      have t_fe := fe.lt
      have t_fr := fr.lt
      refine k_i (pc := 28) (k_V E hC hS hA hl.1 (c1.recv hC fo rfl) rfl (c_X5_fails l D tk N0 sa H.size P hPN (fun q h9 => hPs q (Nat.le_trans hS.1 h9)) mo n9 kn th tt bb eT eB oT oB pk ca rf vs r_1 0 ) kw_1251 kw_1253 kp_20 kw_5 kw_1254 (n := 2) (by decide +kernel) rfl ⟨⟨rfl, rfl⟩, ⟨Nat.le_of_ble_eq_true rfl, Nat.le_of_ble_eq_true rfl⟩, (by dsimp only; omega), (by dsimp only; omega)⟩ rfl (Nat.le_of_ble_eq_true rfl) ⟨_, _, _, _, _, fo, fj, fk, fe, fr, fw, ⟨hPm, hPa, hPl, hPe, hPr, hPk⟩, hFk, hFe, hFr, hpk, hn9⟩ dX5_tally_28) hS (fun q _ h => h) hn (fun r_11 H locs hR hz hk hS => ?_)
      obtain ⟨er_11, hM⟩ := hR
      obtain ⟨ra, rl, ex, ro, rt, fo, fj, fk, fe, fr, fw, ⟨hPm, hPa, hPl, hPe, hPr, hPk⟩, hFk, hFe, hFr, hpk, hn9⟩ := hM
      have g_fo := hPm
      have g_fj := hPa
      refine lv_if_eq (pc := 31) (tgt := 36) hx hb dX5_tally_31 (by decide) (fun c_12 => ?_) (fun c_12 => ?_)
      · refine lv_aload_n (pc := 36) hx hb dX5_tally_36 rfl (lv_at hl 0 rfl) ?_
        refine r_get (pc := 37) E hC fo 0 (v := .ref ra) rfl rfl (by decide) uX5 (List.mem_cons_of_mem _ kw_1209) (fun _ h => h) dX5_tally_37 ?_
        refine lv_iload_n (pc := 40) hx hb dX5_tally_40 rfl (lv_at hl 1 rfl) ?_
        obtain ⟨hx_13, hk_13⟩ := m_noN (er_1.symm.trans (m_fl0 (er_11.symm.trans c_12)).1)
        refine r_aaldJ (pc := 41) E hC fj (nn x1) hx_13 hk_13 (by decide) rfl dX5_tally_41 ?_
        have fL14 := fk (nn x1) hk_13
        have mF_fL14 := hFk (nn x1) hk_13
        have Pq_fL14 := hPk (nn x1) hk_13
        refine lv_astore (pc := 42) (lv' := [(4, .ref (rt (nn x1))), (0, .ref mo), (1, .int x1), (2, .int x2), (3, .int x3)]) hx hb dX5_tally_42 hl (by decide) rfl (fun ls hl => ?_)
        refine lv_aload_n (pc := 44) hx hb dX5_tally_44 rfl (lv_at hl 1 rfl) ?_
        refine r_get (pc := 45) E hC fo 2 (v := .ref ex) rfl rfl (by decide) uX5 (List.mem_cons_of_mem _ kw_1211) (fun _ h => h) dX5_tally_45 ?_
        refine lv_aload (pc := 48) hx hb dX5_tally_48 (lv_at hl 0 rfl) ?_
        refine lv_iconst (pc := 50) (v := 1) hx hb dX5_tally_50 (by decide) ?_
        have hP1 := m_sumP 1 hFe mF_fL14 (by decide)
        have hZ0_ := hS.1
        have t_fo := fo.lt
        have t_fj := fj.lt
        have t_fk := fun k (hk9 : k < 6) => (fk k hk9).lt
        have t_fe := fe.lt
        have t_fr := fr.lt
        have t_fL14 := fL14.lt
        refine k_r (pc := 51) (k_S E hC hS hA hl.1 (c_X5_sum l D tk N0 sa H.size ex eT eB (rt (nn x1)) (tt (nn x1)) (bb (nn x1)) 1 hP1.1) kw_1297 kw_1298 kw_5 kw_1299 (n := 3) (by decide +kernel) rfl ⟨⟨rfl, rfl⟩, ⟨Nat.le_of_ble_eq_true rfl, Nat.le_of_ble_eq_true rfl⟩, (by dsimp only; omega), (by dsimp only; omega)⟩ rfl (Nat.le_of_ble_eq_true rfl) ⟨fe, fL14⟩ dX5_tally_51) hS (fun q z w => absurd w (Nat.not_le.mpr z)) hn (fun r_15 H locs hR hz hk hS => ?_)
        have fw := fw.new hk
        have fo := fo.kept (hk _ fo.lt (Nat.not_le.mpr fo.lt))
        have fj := fj.kept (hk _ fj.lt (Nat.not_le.mpr fj.lt))
        have fk := fk.new hk
        have fe := fe.kept (hk _ fe.lt (Nat.not_le.mpr fe.lt))
        have fr := fr.kept (hk _ fr.lt (Nat.not_le.mpr fr.lt))
        have fL14 := fL14.kept (hk _ fL14.lt (Nat.not_le.mpr fL14.lt))
        obtain ⟨z9_, f16⟩ := hR
        have s_f16 : s.heap.size ≤ r_15 := Nat.le_trans hZ0_ z9_
        have g_f16 := hn _ s_f16
        have l_fo_f16 : mo < r_15 := Nat.lt_of_lt_of_le t_fo z9_
        have l_fj_f16 : ra < r_15 := Nat.lt_of_lt_of_le t_fj z9_
        have nW_f16 : ∀ k, k < 6 → rt k ≠ r_15 := fun k hk9 => Nat.ne_of_lt (Nat.lt_of_lt_of_le (t_fk k hk9) z9_)
        have l_fe_f16 : ex < r_15 := Nat.lt_of_lt_of_le t_fe z9_
        have l_fr_f16 : ro < r_15 := Nat.lt_of_lt_of_le t_fr z9_
        have l_fL14_f16 : rt (nn x1) < r_15 := Nat.lt_of_lt_of_le t_fL14 z9_
        refine lv_astore (pc := 54) (lv' := [(5, .ref r_15), (4, .ref (rt (nn x1))), (0, .ref mo), (1, .int x1), (2, .int x2), (3, .int x3)]) hx hb dX5_tally_54 hl (by decide) rfl (fun ls hl => ?_)
        refine lv_aload_n (pc := 56) hx hb dX5_tally_56 rfl (lv_at hl 2 rfl) ?_
        refine r_get (pc := 57) E hC fo 3 (v := .ref ro) rfl rfl (by decide) uX5 (List.mem_cons_of_mem _ kw_1212) (fun _ h => h) dX5_tally_57 ?_
        refine lv_aload (pc := 60) hx hb dX5_tally_60 (lv_at hl 1 rfl) ?_
        refine lv_iconst (pc := 62) (v := 0) hx hb dX5_tally_62 (by decide) ?_
        refine r_l0 (pc := 63) E hC fL14 dX5_tally_63 ?_
        refine lv_aload (pc := 64) hx hb dX5_tally_64 (lv_at hl 1 rfl) ?_
        refine lv_iconst (pc := 66) (v := 1) hx hb dX5_tally_66 (by decide) ?_
        refine r_l1 (pc := 67) E hC fL14 dX5_tally_67 ?_
        refine lv_iload_n (pc := 68) hx hb dX5_tally_68 rfl (lv_at hl 4 rfl) ?_
        refine lv_iload_n (pc := 69) hx hb dX5_tally_69 rfl (lv_at hl 5 rfl) ?_
        obtain ⟨kp, hkp1, hkp2⟩ := m_in (x := x2) (hi_ := 4) (by decide) (fun z9 => c_5 (er_3.trans z9))
        refine k_l (pc := 70) (k_S E hC hS hA hl.1 (c_X5_cutOf l D tk N0 sa H.size (tt (nn x1)) (bb (nn x1)) x2 x3 (m_ne0 mF_fL14.2.1)) kw_1704 kw_1705 kw_5 kw_1706 (n := 4) (by decide +kernel) rfl ⟨⟨rfl, rfl⟩, ⟨Nat.le_of_ble_eq_true rfl, Nat.le_of_ble_eq_true rfl⟩, (by dsimp only; omega), (by dsimp only; omega)⟩ rfl (Nat.le_of_ble_eq_true rfl) trivial dX5_tally_70) hS (fun q z w => absurd w (Nat.not_le.mpr z)) hn (fun r_17 H locs hR hz hk hS => ?_)
        have er_17 := hR
        have fw := fw.new hk
        have fo := fo.kept (hk _ fo.lt (Nat.not_le.mpr fo.lt))
        have fj := fj.kept (hk _ fj.lt (Nat.not_le.mpr fj.lt))
        have fk := fk.new hk
        have fe := fe.kept (hk _ fe.lt (Nat.not_le.mpr fe.lt))
        have fr := fr.kept (hk _ fr.lt (Nat.not_le.mpr fr.lt))
        have fL14 := fL14.kept (hk _ fL14.lt (Nat.not_le.mpr fL14.lt))
        have f16 := f16.kept (hk _ f16.lt (Nat.not_le.mpr f16.lt))
        refine lv_iload_n (pc := 73) hx hb dX5_tally_73 rfl (lv_at hl 4 rfl) ?_
        refine k_l (pc := 74) (k_S E hC hS hA hl.1 (c_X5_power l D tk N0 sa H.size x2 ) kw_1278 kw_1279 kw_5 kw_1280 (n := 1) (by decide +kernel) rfl ⟨⟨rfl, rfl⟩, ⟨Nat.le_of_ble_eq_true rfl, Nat.le_of_ble_eq_true rfl⟩, (by dsimp only; omega), (by dsimp only; omega)⟩ rfl (Nat.le_of_ble_eq_true rfl) trivial dX5_tally_74) hS (fun q z w => absurd w (Nat.not_le.mpr z)) hn (fun r_19 H locs hR hz hk hS => ?_)
        have er_19 := hR
        have fw := fw.new hk
        have fo := fo.kept (hk _ fo.lt (Nat.not_le.mpr fo.lt))
        have fj := fj.kept (hk _ fj.lt (Nat.not_le.mpr fj.lt))
        have fk := fk.new hk
        have fe := fe.kept (hk _ fe.lt (Nat.not_le.mpr fe.lt))
        have fr := fr.kept (hk _ fr.lt (Nat.not_le.mpr fr.lt))
        have fL14 := fL14.kept (hk _ fL14.lt (Nat.not_le.mpr fL14.lt))
        have f16 := f16.kept (hk _ f16.lt (Nat.not_le.mpr f16.lt))
        have hcb : r_17.toInt.natAbs ≤ 10000000000002 := by rw [er_17]; exact m_cut4B mF_fL14 hkp1 hkp2 _
        have hP2 := m_addP hcb (show r_19 = m_pow (nI kp) by rw [er_19, hkp1]) hkp2
        have hZ0_ := hS.1
        have t_fo := fo.lt
        have t_fj := fj.lt
        have t_fk := fun k (hk9 : k < 6) => (fk k hk9).lt
        have t_fe := fe.lt
        have t_fr := fr.lt
        have t_fL14 := fL14.lt
        have t_f16 := f16.lt
        refine k_r (pc := 77) (k_S E hC hS hA hl.1 (c_X5_lowest l D tk N0 sa H.size r_17 r_19 hP2.1) kw_1199 kw_1200 kw_5 kw_1201 (n := 2) (by decide +kernel) rfl ⟨⟨rfl, rfl⟩, ⟨Nat.le_of_ble_eq_true rfl, Nat.le_of_ble_eq_true rfl⟩, (by dsimp only; omega), (by dsimp only; omega)⟩ rfl (Nat.le_of_ble_eq_true rfl) trivial dX5_tally_77) hS (fun q z w => absurd w (Nat.not_le.mpr z)) hn (fun r_21 H locs hR hz hk hS => ?_)
        have fw := fw.new hk
        have fo := fo.kept (hk _ fo.lt (Nat.not_le.mpr fo.lt))
        have fj := fj.kept (hk _ fj.lt (Nat.not_le.mpr fj.lt))
        have fk := fk.new hk
        have fe := fe.kept (hk _ fe.lt (Nat.not_le.mpr fe.lt))
        have fr := fr.kept (hk _ fr.lt (Nat.not_le.mpr fr.lt))
        have fL14 := fL14.kept (hk _ fL14.lt (Nat.not_le.mpr fL14.lt))
        have f16 := f16.kept (hk _ f16.lt (Nat.not_le.mpr f16.lt))
        obtain ⟨z9_, f22⟩ := hR
        have s_f22 : s.heap.size ≤ r_21 := Nat.le_trans hZ0_ z9_
        have g_f22 := hn _ s_f22
        have l_fo_f22 : mo < r_21 := Nat.lt_of_lt_of_le t_fo z9_
        have l_fj_f22 : ra < r_21 := Nat.lt_of_lt_of_le t_fj z9_
        have nW_f22 : ∀ k, k < 6 → rt k ≠ r_21 := fun k hk9 => Nat.ne_of_lt (Nat.lt_of_lt_of_le (t_fk k hk9) z9_)
        have l_fe_f22 : ex < r_21 := Nat.lt_of_lt_of_le t_fe z9_
        have l_fr_f22 : ro < r_21 := Nat.lt_of_lt_of_le t_fr z9_
        have l_fL14_f22 : rt (nn x1) < r_21 := Nat.lt_of_lt_of_le t_fL14 z9_
        have l_f16_f22 : r_15 < r_21 := Nat.lt_of_lt_of_le t_f16 z9_
        refine lv_iconst (pc := 80) (v := 1) hx hb dX5_tally_80 (by decide) ?_
        have hP3 := m_tlP hFr.1 hFr.2 hP2.2.2.2.1 hP2.2.1 hP2.2.2.1 hP2.2.2.2.2
        have hZ0_ := hS.1
        have t_fo := fo.lt
        have t_fj := fj.lt
        have t_fk := fun k (hk9 : k < 6) => (fk k hk9).lt
        have t_fe := fe.lt
        have t_fr := fr.lt
        have t_fL14 := fL14.lt
        have t_f16 := f16.lt
        have t_f22 := f22.lt
        refine k_r (pc := 81) (k_S E hC hS hA hl.1 (c_X5_sum l D tk N0 sa H.size ro oT oB r_21 (m_loT r_17 r_19) (m_loB r_17 r_19) 1 hP3.1) kw_1297 kw_1298 kw_5 kw_1299 (n := 3) (by decide +kernel) rfl ⟨⟨rfl, rfl⟩, ⟨Nat.le_of_ble_eq_true rfl, Nat.le_of_ble_eq_true rfl⟩, (by dsimp only; omega), (by dsimp only; omega)⟩ rfl (Nat.le_of_ble_eq_true rfl) ⟨fr, f22⟩ dX5_tally_81) hS (fun q z w => absurd w (Nat.not_le.mpr z)) hn (fun r_23 H locs hR hz hk hS => ?_)
        have fw := fw.new hk
        have fo := fo.kept (hk _ fo.lt (Nat.not_le.mpr fo.lt))
        have fj := fj.kept (hk _ fj.lt (Nat.not_le.mpr fj.lt))
        have fk := fk.new hk
        have fe := fe.kept (hk _ fe.lt (Nat.not_le.mpr fe.lt))
        have fr := fr.kept (hk _ fr.lt (Nat.not_le.mpr fr.lt))
        have fL14 := fL14.kept (hk _ fL14.lt (Nat.not_le.mpr fL14.lt))
        have f16 := f16.kept (hk _ f16.lt (Nat.not_le.mpr f16.lt))
        have f22 := f22.kept (hk _ f22.lt (Nat.not_le.mpr f22.lt))
        obtain ⟨z9_, f24⟩ := hR
        have s_f24 : s.heap.size ≤ r_23 := Nat.le_trans hZ0_ z9_
        have g_f24 := hn _ s_f24
        have l_fo_f24 : mo < r_23 := Nat.lt_of_lt_of_le t_fo z9_
        have l_fj_f24 : ra < r_23 := Nat.lt_of_lt_of_le t_fj z9_
        have nW_f24 : ∀ k, k < 6 → rt k ≠ r_23 := fun k hk9 => Nat.ne_of_lt (Nat.lt_of_lt_of_le (t_fk k hk9) z9_)
        have l_fe_f24 : ex < r_23 := Nat.lt_of_lt_of_le t_fe z9_
        have l_fr_f24 : ro < r_23 := Nat.lt_of_lt_of_le t_fr z9_
        have l_fL14_f24 : rt (nn x1) < r_23 := Nat.lt_of_lt_of_le t_fL14 z9_
        have l_f16_f24 : r_15 < r_23 := Nat.lt_of_lt_of_le t_f16 z9_
        have l_f22_f24 : r_21 < r_23 := Nat.lt_of_lt_of_le t_f22 z9_
        refine lv_astore (pc := 84) (lv' := [(6, .ref r_23), (5, .ref r_15), (4, .ref (rt (nn x1))), (0, .ref mo), (1, .int x1), (2, .int x2), (3, .int x3)]) hx hb dX5_tally_84 hl (by decide) rfl (fun ls hl => ?_)
        refine lv_aload (pc := 86) hx hb dX5_tally_86 (lv_at hl 1 rfl) ?_
        have hZ0_ := hS.1
        have t_fo := fo.lt
        have t_fj := fj.lt
        have t_fk := fun k (hk9 : k < 6) => (fk k hk9).lt
        have t_fe := fe.lt
        have t_fr := fr.lt
        have t_fL14 := fL14.lt
        have t_f16 := f16.lt
        have t_f22 := f22.lt
        have t_f24 := f24.lt
        refine k_i (pc := 88) (k_S E hC hS hA hl.1 (c_X5_isFit l D tk N0 sa H.size r_15 (m_loT (eT * (bb (nn x1)) + ((1 : Int32)).toInt64 * ((tt (nn x1)) * eB)) (eB * (bb (nn x1)))) (m_loB (eT * (bb (nn x1)) + ((1 : Int32)).toInt64 * ((tt (nn x1)) * eB)) (eB * (bb (nn x1)))) ) kw_1259 kw_1260 kw_5 kw_1261 (n := 1) (by decide +kernel) rfl ⟨⟨rfl, rfl⟩, ⟨Nat.le_of_ble_eq_true rfl, Nat.le_of_ble_eq_true rfl⟩, (by dsimp only; omega), (by dsimp only; omega)⟩ rfl (Nat.le_of_ble_eq_true rfl) f16 dX5_tally_88) hS (fun q z w => absurd w (Nat.not_le.mpr z)) hn (fun r_25 H locs hR hz hk hS => ?_)
        have fw := fw.new hk
        have fo := fo.kept (hk _ fo.lt (Nat.not_le.mpr fo.lt))
        have fj := fj.kept (hk _ fj.lt (Nat.not_le.mpr fj.lt))
        have fk := fk.new hk
        have fe := fe.kept (hk _ fe.lt (Nat.not_le.mpr fe.lt))
        have fr := fr.kept (hk _ fr.lt (Nat.not_le.mpr fr.lt))
        have fL14 := fL14.kept (hk _ fL14.lt (Nat.not_le.mpr fL14.lt))
        have f16 := f16.kept (hk _ f16.lt (Nat.not_le.mpr f16.lt))
        have f22 := f22.kept (hk _ f22.lt (Nat.not_le.mpr f22.lt))
        have f24 := f24.kept (hk _ f24.lt (Nat.not_le.mpr f24.lt))
        have er_25 := hR
        refine lv_if_eq (pc := 91) (tgt := 116) hx hb dX5_tally_91 (by decide) (fun c_26 => ?_) (fun c_26 => ?_)
        · refine lv_aload_n (pc := 116) hx hb dX5_tally_116 rfl (lv_at hl 3 rfl) ?_
          have hZ0_ := hS.1
          have t_fo := fo.lt
          have t_fj := fj.lt
          have t_fk := fun k (hk9 : k < 6) => (fk k hk9).lt
          have t_fe := fe.lt
          have t_fr := fr.lt
          have t_fL14 := fL14.lt
          have t_f16 := f16.lt
          have t_f22 := f22.lt
          have t_f24 := f24.lt
          refine k_i (pc := 117) (k_V E hC hS hA hl.1 (c1.recv hC fo rfl) rfl (c_X5_no l D tk N0 sa H.size P hPN (fun q h9 => hPs q (Nat.le_trans hS.1 h9)) mo n9 kn ((m_th r_1 0)) tt bb eT eB oT oB pk ca rf vs  ) kw_1264 kw_1266 kp_22 kw_5 kw_1267 (n := 0) (by decide +kernel) rfl ⟨⟨rfl, rfl⟩, ⟨Nat.le_of_ble_eq_true rfl, Nat.le_of_ble_eq_true rfl⟩, (by dsimp only; omega), (by dsimp only; omega)⟩ rfl (Nat.le_of_ble_eq_true rfl) ⟨_, _, _, _, _, fo, fj, fk, fe, fr, fw, ⟨hPm, hPa, hPl, hPe, hPr, hPk⟩, hFk, hFe, hFr, hpk, hn9⟩ dX5_tally_117) hS (fun q _ h => h) hn (fun r_27 H locs hR hz hk hS => ?_)
          obtain ⟨er_27, hM⟩ := hR
          obtain ⟨ra, rl, ex, ro, rt, fo, fj, fk, fe, fr, fw, ⟨hPm, hPa, hPl, hPe, hPr, hPk⟩, hFk, hFe, hFr, hpk, hn9⟩ := hM
          have g_fo := hPm
          have g_fj := hPa
          refine r_iret (pc := 120) E hr hlk hS (by omega) (by omega) ?_ dX5_tally_120
          have hE9 : (m_loT (eT * (bb (nn x1)) + ((1 : Int32)).toInt64 * ((tt (nn x1)) * eB)) (eB * (bb (nn x1))), m_loB (eT * (bb (nn x1)) + ((1 : Int32)).toInt64 * ((tt (nn x1)) * eB)) (eB * (bb (nn x1)))) = m_TLe eT eB (tt (nn x1)) (bb (nn x1)) := rfl
          have hR9 : (m_loT (oT * (m_loB r_17 r_19) + ((1 : Int32)).toInt64 * ((m_loT r_17 r_19) * oB)) (oB * (m_loB r_17 r_19)), m_loB (oT * (m_loB r_17 r_19) + ((1 : Int32)).toInt64 * ((m_loT r_17 r_19) * oB)) (oB * (m_loB r_17 r_19))) = m_TLo oT oB (tt (nn x1)) (bb (nn x1)) x2 x3 := by rw [er_17, er_19]; rfl
          exact ⟨_, _, _, _, _, _, _, _, ⟨_, _, _, _, _, fo, fj, fk, fe, fr, fw, ⟨hPm, hPa, hPl, hPe, hPr, hPk⟩, hFk, hFe, hFr, hpk, hn9⟩, TL.no (by subst er_1 er_3 er_8 er_11 er_17 er_19 er_25 er_27; first | rfl | (simp [m_or, m_not, m_is0, m_lt0, m_fl, c_5, c_10, c_12, c_26]; done)) (by subst er_1 er_3 er_8 er_11 er_17 er_19 er_25 er_27; first | rfl | (simp [m_or, m_not, m_is0, m_lt0, m_fl, c_5, c_10, c_12, c_26]; done)) (er_11.symm.trans c_12) (fun z9 => z9.1 (by rw [← hE9]; exact (er_25.symm.trans c_26))) er_27⟩
        · refine lv_aload (pc := 94) hx hb dX5_tally_94 (lv_at hl 0 rfl) ?_
          have hZ0_ := hS.1
          have t_fo := fo.lt
          have t_fj := fj.lt
          have t_fk := fun k (hk9 : k < 6) => (fk k hk9).lt
          have t_fe := fe.lt
          have t_fr := fr.lt
          have t_fL14 := fL14.lt
          have t_f16 := f16.lt
          have t_f22 := f22.lt
          have t_f24 := f24.lt
          refine k_i (pc := 96) (k_S E hC hS hA hl.1 (c_X5_isFit l D tk N0 sa H.size r_23 (m_loT (oT * (m_loB r_17 r_19) + ((1 : Int32)).toInt64 * ((m_loT r_17 r_19) * oB)) (oB * (m_loB r_17 r_19))) (m_loB (oT * (m_loB r_17 r_19) + ((1 : Int32)).toInt64 * ((m_loT r_17 r_19) * oB)) (oB * (m_loB r_17 r_19))) ) kw_1259 kw_1260 kw_5 kw_1261 (n := 1) (by decide +kernel) rfl ⟨⟨rfl, rfl⟩, ⟨Nat.le_of_ble_eq_true rfl, Nat.le_of_ble_eq_true rfl⟩, (by dsimp only; omega), (by dsimp only; omega)⟩ rfl (Nat.le_of_ble_eq_true rfl) f24 dX5_tally_96) hS (fun q z w => absurd w (Nat.not_le.mpr z)) hn (fun r_28 H locs hR hz hk hS => ?_)
          have fw := fw.new hk
          have fo := fo.kept (hk _ fo.lt (Nat.not_le.mpr fo.lt))
          have fj := fj.kept (hk _ fj.lt (Nat.not_le.mpr fj.lt))
          have fk := fk.new hk
          have fe := fe.kept (hk _ fe.lt (Nat.not_le.mpr fe.lt))
          have fr := fr.kept (hk _ fr.lt (Nat.not_le.mpr fr.lt))
          have fL14 := fL14.kept (hk _ fL14.lt (Nat.not_le.mpr fL14.lt))
          have f16 := f16.kept (hk _ f16.lt (Nat.not_le.mpr f16.lt))
          have f22 := f22.kept (hk _ f22.lt (Nat.not_le.mpr f22.lt))
          have f24 := f24.kept (hk _ f24.lt (Nat.not_le.mpr f24.lt))
          have er_28 := hR
          refine lv_if_eq (pc := 99) (tgt := 116) hx hb dX5_tally_99 (by decide) (fun c_29 => ?_) (fun c_29 => ?_)
          · refine lv_aload_n (pc := 116) hx hb dX5_tally_116 rfl (lv_at hl 3 rfl) ?_
            have hZ0_ := hS.1
            have t_fo := fo.lt
            have t_fj := fj.lt
            have t_fk := fun k (hk9 : k < 6) => (fk k hk9).lt
            have t_fe := fe.lt
            have t_fr := fr.lt
            have t_fL14 := fL14.lt
            have t_f16 := f16.lt
            have t_f22 := f22.lt
            have t_f24 := f24.lt
            refine k_i (pc := 117) (k_V E hC hS hA hl.1 (c1.recv hC fo rfl) rfl (c_X5_no l D tk N0 sa H.size P hPN (fun q h9 => hPs q (Nat.le_trans hS.1 h9)) mo n9 kn ((m_th r_1 0)) tt bb eT eB oT oB pk ca rf vs  ) kw_1264 kw_1266 kp_22 kw_5 kw_1267 (n := 0) (by decide +kernel) rfl ⟨⟨rfl, rfl⟩, ⟨Nat.le_of_ble_eq_true rfl, Nat.le_of_ble_eq_true rfl⟩, (by dsimp only; omega), (by dsimp only; omega)⟩ rfl (Nat.le_of_ble_eq_true rfl) ⟨_, _, _, _, _, fo, fj, fk, fe, fr, fw, ⟨hPm, hPa, hPl, hPe, hPr, hPk⟩, hFk, hFe, hFr, hpk, hn9⟩ dX5_tally_117) hS (fun q _ h => h) hn (fun r_30 H locs hR hz hk hS => ?_)
            obtain ⟨er_30, hM⟩ := hR
            obtain ⟨ra, rl, ex, ro, rt, fo, fj, fk, fe, fr, fw, ⟨hPm, hPa, hPl, hPe, hPr, hPk⟩, hFk, hFe, hFr, hpk, hn9⟩ := hM
            have g_fo := hPm
            have g_fj := hPa
            refine r_iret (pc := 120) E hr hlk hS (by omega) (by omega) ?_ dX5_tally_120
            have hE9 : (m_loT (eT * (bb (nn x1)) + ((1 : Int32)).toInt64 * ((tt (nn x1)) * eB)) (eB * (bb (nn x1))), m_loB (eT * (bb (nn x1)) + ((1 : Int32)).toInt64 * ((tt (nn x1)) * eB)) (eB * (bb (nn x1)))) = m_TLe eT eB (tt (nn x1)) (bb (nn x1)) := rfl
            have hR9 : (m_loT (oT * (m_loB r_17 r_19) + ((1 : Int32)).toInt64 * ((m_loT r_17 r_19) * oB)) (oB * (m_loB r_17 r_19)), m_loB (oT * (m_loB r_17 r_19) + ((1 : Int32)).toInt64 * ((m_loT r_17 r_19) * oB)) (oB * (m_loB r_17 r_19))) = m_TLo oT oB (tt (nn x1)) (bb (nn x1)) x2 x3 := by rw [er_17, er_19]; rfl
            exact ⟨_, _, _, _, _, _, _, _, ⟨_, _, _, _, _, fo, fj, fk, fe, fr, fw, ⟨hPm, hPa, hPl, hPe, hPr, hPk⟩, hFk, hFe, hFr, hpk, hn9⟩, TL.no (by subst er_1 er_3 er_8 er_11 er_17 er_19 er_25 er_28 er_30; first | rfl | (simp [m_or, m_not, m_is0, m_lt0, m_fl, c_5, c_10, c_12, c_26, c_29]; done)) (by subst er_1 er_3 er_8 er_11 er_17 er_19 er_25 er_28 er_30; first | rfl | (simp [m_or, m_not, m_is0, m_lt0, m_fl, c_5, c_10, c_12, c_26, c_29]; done)) (er_11.symm.trans c_12) (fun z9 => z9.2.1 (by rw [← hR9]; exact (er_28.symm.trans c_29))) er_30⟩
          · refine lv_aload (pc := 102) hx hb dX5_tally_102 (lv_at hl 1 rfl) ?_
            refine lv_aload (pc := 104) hx hb dX5_tally_104 (lv_at hl 0 rfl) ?_
            refine lv_iconst (pc := 106) (v := (-1)) hx hb dX5_tally_106 (by decide) ?_
            have hFE := m_fit1 (by rw [← er_25]; exact c_26) hP1.2.1
            have hFR := m_fit1 (by rw [← er_28]; exact c_29) hP3.2.1
            have hP4 := m_sumP (-1) hFE hFR (by decide)
            have hZ0_ := hS.1
            have t_fo := fo.lt
            have t_fj := fj.lt
            have t_fk := fun k (hk9 : k < 6) => (fk k hk9).lt
            have t_fe := fe.lt
            have t_fr := fr.lt
            have t_fL14 := fL14.lt
            have t_f16 := f16.lt
            have t_f22 := f22.lt
            have t_f24 := f24.lt
            refine k_r (pc := 107) (k_S E hC hS hA hl.1 (c_X5_sum l D tk N0 sa H.size r_15 (m_loT (eT * (bb (nn x1)) + ((1 : Int32)).toInt64 * ((tt (nn x1)) * eB)) (eB * (bb (nn x1)))) (m_loB (eT * (bb (nn x1)) + ((1 : Int32)).toInt64 * ((tt (nn x1)) * eB)) (eB * (bb (nn x1)))) r_23 (m_loT (oT * (m_loB r_17 r_19) + ((1 : Int32)).toInt64 * ((m_loT r_17 r_19) * oB)) (oB * (m_loB r_17 r_19))) (m_loB (oT * (m_loB r_17 r_19) + ((1 : Int32)).toInt64 * ((m_loT r_17 r_19) * oB)) (oB * (m_loB r_17 r_19))) ((-1)) hP4.1) kw_1297 kw_1298 kw_5 kw_1299 (n := 3) (by decide +kernel) rfl ⟨⟨rfl, rfl⟩, ⟨Nat.le_of_ble_eq_true rfl, Nat.le_of_ble_eq_true rfl⟩, (by dsimp only; omega), (by dsimp only; omega)⟩ rfl (Nat.le_of_ble_eq_true rfl) ⟨f16, f24⟩ dX5_tally_107) hS (fun q z w => absurd w (Nat.not_le.mpr z)) hn (fun r_31 H locs hR hz hk hS => ?_)
            have fw := fw.new hk
            have fo := fo.kept (hk _ fo.lt (Nat.not_le.mpr fo.lt))
            have fj := fj.kept (hk _ fj.lt (Nat.not_le.mpr fj.lt))
            have fk := fk.new hk
            have fe := fe.kept (hk _ fe.lt (Nat.not_le.mpr fe.lt))
            have fr := fr.kept (hk _ fr.lt (Nat.not_le.mpr fr.lt))
            have fL14 := fL14.kept (hk _ fL14.lt (Nat.not_le.mpr fL14.lt))
            have f16 := f16.kept (hk _ f16.lt (Nat.not_le.mpr f16.lt))
            have f22 := f22.kept (hk _ f22.lt (Nat.not_le.mpr f22.lt))
            have f24 := f24.kept (hk _ f24.lt (Nat.not_le.mpr f24.lt))
            obtain ⟨z9_, f32⟩ := hR
            have s_f32 : s.heap.size ≤ r_31 := Nat.le_trans hZ0_ z9_
            have g_f32 := hn _ s_f32
            have l_fo_f32 : mo < r_31 := Nat.lt_of_lt_of_le t_fo z9_
            have l_fj_f32 : ra < r_31 := Nat.lt_of_lt_of_le t_fj z9_
            have nW_f32 : ∀ k, k < 6 → rt k ≠ r_31 := fun k hk9 => Nat.ne_of_lt (Nat.lt_of_lt_of_le (t_fk k hk9) z9_)
            have l_fe_f32 : ex < r_31 := Nat.lt_of_lt_of_le t_fe z9_
            have l_fr_f32 : ro < r_31 := Nat.lt_of_lt_of_le t_fr z9_
            have l_fL14_f32 : rt (nn x1) < r_31 := Nat.lt_of_lt_of_le t_fL14 z9_
            have l_f16_f32 : r_15 < r_31 := Nat.lt_of_lt_of_le t_f16 z9_
            have l_f22_f32 : r_21 < r_31 := Nat.lt_of_lt_of_le t_f22 z9_
            have l_f24_f32 : r_23 < r_31 := Nat.lt_of_lt_of_le t_f24 z9_
            have hZ0_ := hS.1
            have t_fo := fo.lt
            have t_fj := fj.lt
            have t_fk := fun k (hk9 : k < 6) => (fk k hk9).lt
            have t_fe := fe.lt
            have t_fr := fr.lt
            have t_fL14 := fL14.lt
            have t_f16 := f16.lt
            have t_f22 := f22.lt
            have t_f24 := f24.lt
            have t_f32 := f32.lt
            refine k_i (pc := 110) (k_S E hC hS hA hl.1 (c_X5_isFit l D tk N0 sa H.size r_31 (m_loT ((m_loT (eT * (bb (nn x1)) + ((1 : Int32)).toInt64 * ((tt (nn x1)) * eB)) (eB * (bb (nn x1)))) * (m_loB (oT * (m_loB r_17 r_19) + ((1 : Int32)).toInt64 * ((m_loT r_17 r_19) * oB)) (oB * (m_loB r_17 r_19))) + (((-1) : Int32)).toInt64 * ((m_loT (oT * (m_loB r_17 r_19) + ((1 : Int32)).toInt64 * ((m_loT r_17 r_19) * oB)) (oB * (m_loB r_17 r_19))) * (m_loB (eT * (bb (nn x1)) + ((1 : Int32)).toInt64 * ((tt (nn x1)) * eB)) (eB * (bb (nn x1)))))) ((m_loB (eT * (bb (nn x1)) + ((1 : Int32)).toInt64 * ((tt (nn x1)) * eB)) (eB * (bb (nn x1)))) * (m_loB (oT * (m_loB r_17 r_19) + ((1 : Int32)).toInt64 * ((m_loT r_17 r_19) * oB)) (oB * (m_loB r_17 r_19))))) (m_loB ((m_loT (eT * (bb (nn x1)) + ((1 : Int32)).toInt64 * ((tt (nn x1)) * eB)) (eB * (bb (nn x1)))) * (m_loB (oT * (m_loB r_17 r_19) + ((1 : Int32)).toInt64 * ((m_loT r_17 r_19) * oB)) (oB * (m_loB r_17 r_19))) + (((-1) : Int32)).toInt64 * ((m_loT (oT * (m_loB r_17 r_19) + ((1 : Int32)).toInt64 * ((m_loT r_17 r_19) * oB)) (oB * (m_loB r_17 r_19))) * (m_loB (eT * (bb (nn x1)) + ((1 : Int32)).toInt64 * ((tt (nn x1)) * eB)) (eB * (bb (nn x1)))))) ((m_loB (eT * (bb (nn x1)) + ((1 : Int32)).toInt64 * ((tt (nn x1)) * eB)) (eB * (bb (nn x1)))) * (m_loB (oT * (m_loB r_17 r_19) + ((1 : Int32)).toInt64 * ((m_loT r_17 r_19) * oB)) (oB * (m_loB r_17 r_19))))) ) kw_1259 kw_1260 kw_5 kw_1261 (n := 1) (by decide +kernel) rfl ⟨⟨rfl, rfl⟩, ⟨Nat.le_of_ble_eq_true rfl, Nat.le_of_ble_eq_true rfl⟩, (by dsimp only; omega), (by dsimp only; omega)⟩ rfl (Nat.le_of_ble_eq_true rfl) f32 dX5_tally_110) hS (fun q z w => absurd w (Nat.not_le.mpr z)) hn (fun r_33 H locs hR hz hk hS => ?_)
            have fw := fw.new hk
            have fo := fo.kept (hk _ fo.lt (Nat.not_le.mpr fo.lt))
            have fj := fj.kept (hk _ fj.lt (Nat.not_le.mpr fj.lt))
            have fk := fk.new hk
            have fe := fe.kept (hk _ fe.lt (Nat.not_le.mpr fe.lt))
            have fr := fr.kept (hk _ fr.lt (Nat.not_le.mpr fr.lt))
            have fL14 := fL14.kept (hk _ fL14.lt (Nat.not_le.mpr fL14.lt))
            have f16 := f16.kept (hk _ f16.lt (Nat.not_le.mpr f16.lt))
            have f22 := f22.kept (hk _ f22.lt (Nat.not_le.mpr f22.lt))
            have f24 := f24.kept (hk _ f24.lt (Nat.not_le.mpr f24.lt))
            have f32 := f32.kept (hk _ f32.lt (Nat.not_le.mpr f32.lt))
            have er_33 := hR
            refine lv_if_ne (pc := 113) (tgt := 121) hx hb dX5_tally_113 (by decide) (fun c_34 => ?_) (fun c_34 => ?_)
            · refine lv_aload_n (pc := 121) hx hb dX5_tally_121 rfl (lv_at hl 3 rfl) ?_
              refine lv_aload (pc := 122) hx hb dX5_tally_122 (lv_at hl 1 rfl) ?_
              refine r_put (pc := 124) E hC fo hS g_fo 2 tyX5 tyX5_ok nmX5 rfl (by decide) (Nat.le_of_ble_eq_true rfl) uX5 (List.mem_cons_of_mem _ kw_1211) (fun _ h => h) rfl rfl rfl dX5_tally_124 (fun H locs n_ ho hz hS => ?_)
              have fw := fw.put ho (fun q9 h9 => clA.ne h9 fo.cl (hC.oo 7 13 rfl rfl (by decide))) (fun q9 h9 => clA.ne h9 fo.cl (hC.ao 13 4 rfl rfl)) (fun q9 h9 => clA.ne h9 fo.cl (hC.ceo (Or.inr rfl) 13 rfl (by decide)))
              have nW_fo : ∀ k, k < 6 → rt k ≠ mo := fun k hk9 => clA.ne (fk k hk9).cla fo.cl (hC.ao 13 0 rfl rfl)
              have fj := fj.kept (ho _ (clA.ne fj.cla fo.cl (hC.ao 13 3 rfl rfl)))
              have fk := fk.kept (fun k hk9 => ho _ (nW_fo k hk9))
              have fe := fe.kept (ho _ (clA.ne fe.cla fo.cl (hC.ao 13 0 rfl rfl)))
              have fr := fr.kept (ho _ (clA.ne fr.cla fo.cl (hC.ao 13 0 rfl rfl)))
              have fL14 := fL14.kept (ho _ (clA.ne fL14.cla fo.cl (hC.ao 13 0 rfl rfl)))
              have f16 := f16.kept (ho _ (clA.ne f16.cla fo.cl (hC.ao 13 0 rfl rfl)))
              have f22 := f22.kept (ho _ (clA.ne f22.cla fo.cl (hC.ao 13 0 rfl rfl)))
              have f24 := f24.kept (ho _ (clA.ne f24.cla fo.cl (hC.ao 13 0 rfl rfl)))
              have f32 := f32.kept (ho _ (clA.ne f32.cla fo.cl (hC.ao 13 0 rfl rfl)))
              have fo : c1 D mo (.inr (13, [.ref ra, .ref rl, .ref r_15, .ref ro, .int (nI pk), .int ca, .int rf, .int kn, .int ((m_th r_1 0))])) H := n_
              refine lv_aload_n (pc := 127) hx hb dX5_tally_127 rfl (lv_at hl 3 rfl) ?_
              refine lv_aload (pc := 128) hx hb dX5_tally_128 (lv_at hl 0 rfl) ?_
              refine r_put (pc := 130) E hC fo hS g_fo 3 tyX5 tyX5_ok nmX5 rfl (by decide) (Nat.le_of_ble_eq_true rfl) uX5 (List.mem_cons_of_mem _ kw_1212) (fun _ h => h) rfl rfl rfl dX5_tally_130 (fun H locs n_ ho hz hS => ?_)
              have fw := fw.put ho (fun q9 h9 => clA.ne h9 fo.cl (hC.oo 7 13 rfl rfl (by decide))) (fun q9 h9 => clA.ne h9 fo.cl (hC.ao 13 4 rfl rfl)) (fun q9 h9 => clA.ne h9 fo.cl (hC.ceo (Or.inr rfl) 13 rfl (by decide)))
              have fj := fj.kept (ho _ (clA.ne fj.cla fo.cl (hC.ao 13 3 rfl rfl)))
              have fk := fk.kept (fun k hk9 => ho _ (nW_fo k hk9))
              have fe := fe.kept (ho _ (clA.ne fe.cla fo.cl (hC.ao 13 0 rfl rfl)))
              have fr := fr.kept (ho _ (clA.ne fr.cla fo.cl (hC.ao 13 0 rfl rfl)))
              have fL14 := fL14.kept (ho _ (clA.ne fL14.cla fo.cl (hC.ao 13 0 rfl rfl)))
              have f16 := f16.kept (ho _ (clA.ne f16.cla fo.cl (hC.ao 13 0 rfl rfl)))
              have f22 := f22.kept (ho _ (clA.ne f22.cla fo.cl (hC.ao 13 0 rfl rfl)))
              have f24 := f24.kept (ho _ (clA.ne f24.cla fo.cl (hC.ao 13 0 rfl rfl)))
              have f32 := f32.kept (ho _ (clA.ne f32.cla fo.cl (hC.ao 13 0 rfl rfl)))
              have fo : c1 D mo (.inr (13, [.ref ra, .ref rl, .ref r_15, .ref r_23, .int (nI pk), .int ca, .int rf, .int kn, .int ((m_th r_1 0))])) H := n_
              refine lv_aload_n (pc := 133) hx hb dX5_tally_133 rfl (lv_at hl 3 rfl) ?_
              refine lv_aload_n (pc := 134) hx hb dX5_tally_134 rfl (lv_at hl 3 rfl) ?_
              refine r_get (pc := 135) E hC fo 4 (v := .int (nI pk)) rfl rfl (by decide) uX5 (List.mem_cons_of_mem _ kw_1213) (fun _ h => h) dX5_tally_135 ?_
              refine lv_iload_n (pc := 138) hx hb dX5_tally_138 rfl (lv_at hl 5 rfl) ?_
              refine k_i (pc := 139) (k_S E hC hS hA hl.1 (c_J9_max_7cf53 l D tk N0 sa H.size (nI pk) x2 ) kw_1758 kw_201 kw_9 kw_202 (n := 2) (by decide +kernel) rfl ⟨⟨rfl, rfl⟩, ⟨Nat.le_of_ble_eq_true rfl, Nat.le_of_ble_eq_true rfl⟩, (by dsimp only; omega), (by dsimp only; omega)⟩ rfl (Nat.le_of_ble_eq_true rfl) trivial dX5_tally_139) hS (fun q z w => absurd w (Nat.not_le.mpr z)) hn (fun r_35 H locs hR hz hk hS => ?_)
              have er_35 := hR
              have fw := fw.new hk
              have fo := fo.kept (hk _ fo.lt (Nat.not_le.mpr fo.lt))
              have fj := fj.kept (hk _ fj.lt (Nat.not_le.mpr fj.lt))
              have fk := fk.new hk
              have fe := fe.kept (hk _ fe.lt (Nat.not_le.mpr fe.lt))
              have fr := fr.kept (hk _ fr.lt (Nat.not_le.mpr fr.lt))
              have fL14 := fL14.kept (hk _ fL14.lt (Nat.not_le.mpr fL14.lt))
              have f16 := f16.kept (hk _ f16.lt (Nat.not_le.mpr f16.lt))
              have f22 := f22.kept (hk _ f22.lt (Nat.not_le.mpr f22.lt))
              have f24 := f24.kept (hk _ f24.lt (Nat.not_le.mpr f24.lt))
              have f32 := f32.kept (hk _ f32.lt (Nat.not_le.mpr f32.lt))
              obtain ⟨zp, hz1, hz2⟩ := m_max (a := pk) (b := kp) (by omega) (by omega)
              rw [show r_35 = nI zp by rw [er_35, hkp1]; exact hz1]
              have hpk9 : f_max (nI pk) x2 = nI zp := by rw [hkp1]; exact hz1
              refine r_put (pc := 142) E hC fo hS g_fo 4 tyX5 tyX5_ok nmX5 rfl (by decide) (Nat.le_of_ble_eq_true rfl) uX5 (List.mem_cons_of_mem _ kw_1213) (fun _ h => h) rfl rfl rfl dX5_tally_142 (fun H locs n_ ho hz hS => ?_)
              have fw := fw.put ho (fun q9 h9 => clA.ne h9 fo.cl (hC.oo 7 13 rfl rfl (by decide))) (fun q9 h9 => clA.ne h9 fo.cl (hC.ao 13 4 rfl rfl)) (fun q9 h9 => clA.ne h9 fo.cl (hC.ceo (Or.inr rfl) 13 rfl (by decide)))
              have fj := fj.kept (ho _ (clA.ne fj.cla fo.cl (hC.ao 13 3 rfl rfl)))
              have fk := fk.kept (fun k hk9 => ho _ (nW_fo k hk9))
              have fe := fe.kept (ho _ (clA.ne fe.cla fo.cl (hC.ao 13 0 rfl rfl)))
              have fr := fr.kept (ho _ (clA.ne fr.cla fo.cl (hC.ao 13 0 rfl rfl)))
              have fL14 := fL14.kept (ho _ (clA.ne fL14.cla fo.cl (hC.ao 13 0 rfl rfl)))
              have f16 := f16.kept (ho _ (clA.ne f16.cla fo.cl (hC.ao 13 0 rfl rfl)))
              have f22 := f22.kept (ho _ (clA.ne f22.cla fo.cl (hC.ao 13 0 rfl rfl)))
              have f24 := f24.kept (ho _ (clA.ne f24.cla fo.cl (hC.ao 13 0 rfl rfl)))
              have f32 := f32.kept (ho _ (clA.ne f32.cla fo.cl (hC.ao 13 0 rfl rfl)))
              have fo : c1 D mo (.inr (13, [.ref ra, .ref rl, .ref r_15, .ref r_23, .int (nI zp), .int ca, .int rf, .int kn, .int ((m_th r_1 0))])) H := n_
              refine lv_aload_n (pc := 145) hx hb dX5_tally_145 rfl (lv_at hl 3 rfl) ?_
              refine lv_dup (pc := 146) hx hb dX5_tally_146 rfl ?_
              refine r_get (pc := 147) E hC fo 5 (v := .int ca) rfl rfl (by decide) uX5 (List.mem_cons_of_mem _ kw_1214) (fun _ h => h) dX5_tally_147 ?_
              refine lv_iconst (pc := 150) (v := 1) hx hb dX5_tally_150 (by decide) ?_
              refine lv_iadd (pc := 151) hx hb dX5_tally_151 ?_
              refine r_put (pc := 152) E hC fo hS g_fo 5 tyX5 tyX5_ok nmX5 rfl (by decide) (Nat.le_of_ble_eq_true rfl) uX5 (List.mem_cons_of_mem _ kw_1214) (fun _ h => h) rfl rfl rfl dX5_tally_152 (fun H locs n_ ho hz hS => ?_)
              have fw := fw.put ho (fun q9 h9 => clA.ne h9 fo.cl (hC.oo 7 13 rfl rfl (by decide))) (fun q9 h9 => clA.ne h9 fo.cl (hC.ao 13 4 rfl rfl)) (fun q9 h9 => clA.ne h9 fo.cl (hC.ceo (Or.inr rfl) 13 rfl (by decide)))
              have fj := fj.kept (ho _ (clA.ne fj.cla fo.cl (hC.ao 13 3 rfl rfl)))
              have fk := fk.kept (fun k hk9 => ho _ (nW_fo k hk9))
              have fe := fe.kept (ho _ (clA.ne fe.cla fo.cl (hC.ao 13 0 rfl rfl)))
              have fr := fr.kept (ho _ (clA.ne fr.cla fo.cl (hC.ao 13 0 rfl rfl)))
              have fL14 := fL14.kept (ho _ (clA.ne fL14.cla fo.cl (hC.ao 13 0 rfl rfl)))
              have f16 := f16.kept (ho _ (clA.ne f16.cla fo.cl (hC.ao 13 0 rfl rfl)))
              have f22 := f22.kept (ho _ (clA.ne f22.cla fo.cl (hC.ao 13 0 rfl rfl)))
              have f24 := f24.kept (ho _ (clA.ne f24.cla fo.cl (hC.ao 13 0 rfl rfl)))
              have f32 := f32.kept (ho _ (clA.ne f32.cla fo.cl (hC.ao 13 0 rfl rfl)))
              have fo : c1 D mo (.inr (13, [.ref ra, .ref rl, .ref r_15, .ref r_23, .int (nI zp), .int (ca + 1), .int rf, .int kn, .int ((m_th r_1 0))])) H := n_
              refine lv_aload_n (pc := 155) hx hb dX5_tally_155 rfl (lv_at hl 3 rfl) ?_
              refine r_get (pc := 156) E hC fo 5 (v := .int (ca + 1)) rfl rfl (by decide) uX5 (List.mem_cons_of_mem _ kw_1214) (fun _ h => h) dX5_tally_156 ?_
              refine r_iret (pc := 159) E hr hlk hS (by omega) (by omega) ?_ dX5_tally_159
              have hE9 : (m_loT (eT * (bb (nn x1)) + ((1 : Int32)).toInt64 * ((tt (nn x1)) * eB)) (eB * (bb (nn x1))), m_loB (eT * (bb (nn x1)) + ((1 : Int32)).toInt64 * ((tt (nn x1)) * eB)) (eB * (bb (nn x1)))) = m_TLe eT eB (tt (nn x1)) (bb (nn x1)) := rfl
              have hR9 : (m_loT (oT * (m_loB r_17 r_19) + ((1 : Int32)).toInt64 * ((m_loT r_17 r_19) * oB)) (oB * (m_loB r_17 r_19)), m_loB (oT * (m_loB r_17 r_19) + ((1 : Int32)).toInt64 * ((m_loT r_17 r_19) * oB)) (oB * (m_loB r_17 r_19))) = m_TLo oT oB (tt (nn x1)) (bb (nn x1)) x2 x3 := by rw [er_17, er_19]; rfl
              exact ⟨_, _, _, _, _, _, _, _, ⟨_, _, _, _, _, fo, fj, fk, f16, f24, fw, ⟨hPm, hPa, hPl, (hPs _ s_f16), (hPs _ s_f24), hPk⟩, hFk, hFE, ⟨hFR, hP3.2.2⟩, (by omega), hn9⟩, TL.ok (by subst er_1 er_3 er_8 er_11 er_17 er_19 er_25 er_28 er_33 er_35; first | rfl | (simp [m_or, m_not, m_is0, m_lt0, m_fl, c_5, c_10, c_12, c_26, c_29, c_34]; done)) (by subst er_1 er_3 er_8 er_11 er_17 er_19 er_25 er_28 er_33 er_35; first | rfl | (simp [m_or, m_not, m_is0, m_lt0, m_fl, c_5, c_10, c_12, c_26, c_29, c_34]; done)) (er_11.symm.trans c_12) ⟨by rw [← hE9]; exact (fun z9 => c_26 (er_25.trans z9)), by rw [← hR9]; exact (fun z9 => c_29 (er_28.trans z9)), by rw [← hE9, ← hR9]; exact (fun z9 => c_34 (er_33.trans z9))⟩ hE9 hR9 hpk9 rfl⟩
            · refine lv_aload_n (pc := 116) hx hb dX5_tally_116 rfl (lv_at hl 3 rfl) ?_
              have hZ0_ := hS.1
              have t_fo := fo.lt
              have t_fj := fj.lt
              have t_fk := fun k (hk9 : k < 6) => (fk k hk9).lt
              have t_fe := fe.lt
              have t_fr := fr.lt
              have t_fL14 := fL14.lt
              have t_f16 := f16.lt
              have t_f22 := f22.lt
              have t_f24 := f24.lt
              have t_f32 := f32.lt
              refine k_i (pc := 117) (k_V E hC hS hA hl.1 (c1.recv hC fo rfl) rfl (c_X5_no l D tk N0 sa H.size P hPN (fun q h9 => hPs q (Nat.le_trans hS.1 h9)) mo n9 kn ((m_th r_1 0)) tt bb eT eB oT oB pk ca rf vs  ) kw_1264 kw_1266 kp_22 kw_5 kw_1267 (n := 0) (by decide +kernel) rfl ⟨⟨rfl, rfl⟩, ⟨Nat.le_of_ble_eq_true rfl, Nat.le_of_ble_eq_true rfl⟩, (by dsimp only; omega), (by dsimp only; omega)⟩ rfl (Nat.le_of_ble_eq_true rfl) ⟨_, _, _, _, _, fo, fj, fk, fe, fr, fw, ⟨hPm, hPa, hPl, hPe, hPr, hPk⟩, hFk, hFe, hFr, hpk, hn9⟩ dX5_tally_117) hS (fun q _ h => h) hn (fun r_37 H locs hR hz hk hS => ?_)
              obtain ⟨er_37, hM⟩ := hR
              obtain ⟨ra, rl, ex, ro, rt, fo, fj, fk, fe, fr, fw, ⟨hPm, hPa, hPl, hPe, hPr, hPk⟩, hFk, hFe, hFr, hpk, hn9⟩ := hM
              have g_fo := hPm
              have g_fj := hPa
              refine r_iret (pc := 120) E hr hlk hS (by omega) (by omega) ?_ dX5_tally_120
              have hE9 : (m_loT (eT * (bb (nn x1)) + ((1 : Int32)).toInt64 * ((tt (nn x1)) * eB)) (eB * (bb (nn x1))), m_loB (eT * (bb (nn x1)) + ((1 : Int32)).toInt64 * ((tt (nn x1)) * eB)) (eB * (bb (nn x1)))) = m_TLe eT eB (tt (nn x1)) (bb (nn x1)) := rfl
              have hR9 : (m_loT (oT * (m_loB r_17 r_19) + ((1 : Int32)).toInt64 * ((m_loT r_17 r_19) * oB)) (oB * (m_loB r_17 r_19)), m_loB (oT * (m_loB r_17 r_19) + ((1 : Int32)).toInt64 * ((m_loT r_17 r_19) * oB)) (oB * (m_loB r_17 r_19))) = m_TLo oT oB (tt (nn x1)) (bb (nn x1)) x2 x3 := by rw [er_17, er_19]; rfl
              exact ⟨_, _, _, _, _, _, _, _, ⟨_, _, _, _, _, fo, fj, fk, fe, fr, fw, ⟨hPm, hPa, hPl, hPe, hPr, hPk⟩, hFk, hFe, hFr, hpk, hn9⟩, TL.no (by subst er_1 er_3 er_8 er_11 er_17 er_19 er_25 er_28 er_33 er_37; first | rfl | (simp [m_or, m_not, m_is0, m_lt0, m_fl, c_5, c_10, c_12, c_26, c_29, c_34]; done)) (by subst er_1 er_3 er_8 er_11 er_17 er_19 er_25 er_28 er_33 er_37; first | rfl | (simp [m_or, m_not, m_is0, m_lt0, m_fl, c_5, c_10, c_12, c_26, c_29, c_34]; done)) (er_11.symm.trans c_12) (fun z9 => z9.2.2 (by rw [← hE9, ← hR9]; exact (er_33.symm.trans c_34))) er_37⟩
      · refine lv_iconst (pc := 34) (v := 0) hx hb dX5_tally_34 (by decide) ?_
        refine r_iret (pc := 35) E hr hlk hS (by omega) (by omega) ?_ dX5_tally_35
        exact ⟨_, _, _, _, _, _, _, _, ⟨_, _, _, _, _, fo, fj, fk, fe, fr, fw, ⟨hPm, hPa, hPl, hPe, hPr, hPk⟩, hFk, hFe, hFr, hpk, hn9⟩, TL.fail (by subst er_1 er_3 er_8 er_11; first | rfl | (simp [m_or, m_not, m_is0, m_lt0, m_fl, c_5, c_10, c_12]; done)) (by subst er_1 er_3 er_8 er_11; first | rfl | (simp [m_or, m_not, m_is0, m_lt0, m_fl, c_5, c_10, c_12]; done)) (fun z9 => c_12 (er_11.trans z9))⟩
    · refine lv_iconst (pc := 23) (v := 1) hx hb dX5_tally_23 (by decide) ?_
      refine lv_goto (pc := 24) (tgt := 28) hx hb dX5_tally_24 (by decide) ?_
      have hZ0_ := hS.1
      have t_fo := fo.lt
      have t_fj := fj.lt
      have t_fk := fun k (hk9 : k < 6) => (fk k hk9).lt
      have t_fe := fe.lt
      have t_fr := fr.lt
      refine k_i (pc := 28) (k_V E hC hS hA hl.1 (c1.recv hC fo rfl) rfl (c_X5_fails l D tk N0 sa H.size P hPN (fun q h9 => hPs q (Nat.le_trans hS.1 h9)) mo n9 kn th tt bb eT eB oT oB pk ca rf vs r_1 1 ) kw_1251 kw_1253 kp_20 kw_5 kw_1254 (n := 2) (by decide +kernel) rfl ⟨⟨rfl, rfl⟩, ⟨Nat.le_of_ble_eq_true rfl, Nat.le_of_ble_eq_true rfl⟩, (by dsimp only; omega), (by dsimp only; omega)⟩ rfl (Nat.le_of_ble_eq_true rfl) ⟨_, _, _, _, _, fo, fj, fk, fe, fr, fw, ⟨hPm, hPa, hPl, hPe, hPr, hPk⟩, hFk, hFe, hFr, hpk, hn9⟩ dX5_tally_28) hS (fun q _ h => h) hn (fun r_38 H locs hR hz hk hS => ?_)
      obtain ⟨er_38, hM⟩ := hR
      obtain ⟨ra, rl, ex, ro, rt, fo, fj, fk, fe, fr, fw, ⟨hPm, hPa, hPl, hPe, hPr, hPk⟩, hFk, hFe, hFr, hpk, hn9⟩ := hM
      have g_fo := hPm
      have g_fj := hPa
      have ef_r_38 : r_38 = 1 := er_38.trans (m_fl1 _)
      rw [ef_r_38]
      refine lv_if_eq (pc := 31) (tgt := 36) hx hb dX5_tally_31 (by decide) (fun c_39 => ?_) (fun c_39 => ?_)
      · exact absurd c_39 (by decide)
      refine lv_iconst (pc := 34) (v := 0) hx hb dX5_tally_34 (by decide) ?_
      refine r_iret (pc := 35) E hr hlk hS (by omega) (by omega) ?_ dX5_tally_35
      exact ⟨_, _, _, _, _, _, _, _, ⟨_, _, _, _, _, fo, fj, fk, fe, fr, fw, ⟨hPm, hPa, hPl, hPe, hPr, hPk⟩, hFk, hFe, hFr, hpk, hn9⟩, TL.fail (by subst er_1 er_3 er_8; first | rfl | (simp [m_or, m_not, m_is0, m_lt0, m_fl, c_5, c_10]; done)) (by subst er_1 er_3 er_8; first | rfl | (simp [m_or, m_not, m_is0, m_lt0, m_fl, c_5, c_10]; done)) (fun z9 => absurd (ef_r_38.symm.trans (er_38.trans z9)) (by decide))⟩
set_option maxHeartbeats 4000000 in
set_option maxRecDepth 100000 in
/-- BestratiosModel.wipe()I -/
theorem c_X5_wipe (l : Launch) (D : va_G) (tk : Nat → ClassId) (N0 : Nat) (sa : Nat → Nat)  (sz : Nat) (P : Nat → Prop) (hPN : ∀ q, P q → N0 ≤ q) (hPs : ∀ q, sz ≤ q → P q) (mo n9 : Nat) (kn th : Int32) (tt bb : Nat → Int64) (eT eB oT oB : Int64) (pk : Nat) (ca rf : Int32) (vs : Nat → Value)  : Met l yX5_wipe (wsy yX5_wipe cX5_wipe 2 (some .int)) ({ frames := 3, cells := 2, slots := 4, locals := 77 } : Room) (cP D tk N0 sa [.ref mo] sz (fun H => MI D tk sa P mo tt bb eT eB oT oB pk ca rf vs kn n9 th H)) (kQi (fun r H => r = ca ∧ MI D tk sa P mo tt bb ((m_loT 0 1)) ((m_loB 0 1)) ((m_loT 0 1)) ((m_loB 0 1)) 0 0 rf vs kn n9 0 H) (P)) (2) (4) (P) := by
  refine mStart RX5 rfl (by decide +kernel) (Nat.le_of_ble_eq_true rfl) ?_
  intro p e s m args below meth c E hr hlk hnm hsz hC hF ls hl
  subst hsz
  obtain ⟨hx, hb, -⟩ := id E
  have hA : ∀ q, (P) q → N0 ≤ q := hPN
  have hn : ∀ q, s.heap.size ≤ q → (P) q := hPs
  have hS : va_S (P) s.heap s.heap [] := va_S.rf
  have hl : lv_has ls 2 [(0, .ref mo)] := hl
  have hM : MI D tk sa P mo tt bb eT eB oT oB pk ca rf vs kn n9 th s.heap := hF
  obtain ⟨ra, rl, ex, ro, rt, fo, fj, fk, fe, fr, fw, ⟨hPm, hPa, hPl, hPe, hPr, hPk⟩, hFk, hFe, hFr, hpk, hn9⟩ := hM
  have g_fo := hPm
  have g_fj := hPa
  refine lv_aload_n (pc := 0) hx hb dX5_wipe_0 rfl (lv_at hl 0 rfl) ?_
  refine lv_iconst (pc := 1) (v := 0) hx hb dX5_wipe_1 (by decide) ?_
  refine r_put (pc := 2) E hC fo hS g_fo 8 tyX5 tyX5_ok nmX5 rfl (by decide) (Nat.le_of_ble_eq_true rfl) uX5 (List.mem_cons_of_mem _ kw_1217) (fun _ h => h) rfl rfl rfl dX5_wipe_2 (fun H locs n_ ho hz hS => ?_)
  have fw := fw.put ho (fun q9 h9 => clA.ne h9 fo.cl (hC.oo 7 13 rfl rfl (by decide))) (fun q9 h9 => clA.ne h9 fo.cl (hC.ao 13 4 rfl rfl)) (fun q9 h9 => clA.ne h9 fo.cl (hC.ceo (Or.inr rfl) 13 rfl (by decide)))
  have nW_fo : ∀ k, k < 6 → rt k ≠ mo := fun k hk9 => clA.ne (fk k hk9).cla fo.cl (hC.ao 13 0 rfl rfl)
  have fj := fj.kept (ho _ (clA.ne fj.cla fo.cl (hC.ao 13 3 rfl rfl)))
  have fk := fk.kept (fun k hk9 => ho _ (nW_fo k hk9))
  have fe := fe.kept (ho _ (clA.ne fe.cla fo.cl (hC.ao 13 0 rfl rfl)))
  have fr := fr.kept (ho _ (clA.ne fr.cla fo.cl (hC.ao 13 0 rfl rfl)))
  have fo : c1 D mo (.inr (13, [.ref ra, .ref rl, .ref ex, .ref ro, .int (nI pk), .int ca, .int rf, .int kn, .int 0])) H := n_
  refine lv_aload_n (pc := 5) hx hb dX5_wipe_5 rfl (lv_at hl 0 rfl) ?_
  refine r_get (pc := 6) E hC fo 5 (v := .int ca) rfl rfl (by decide) uX5 (List.mem_cons_of_mem _ kw_1214) (fun _ h => h) dX5_wipe_6 ?_
  refine lv_istore_n (pc := 9) (lv' := [(1, .int ca), (0, .ref mo)]) hx hb dX5_wipe_9 rfl hl (by decide) rfl (fun ls hl => ?_)
  refine lv_aload_n (pc := 10) hx hb dX5_wipe_10 rfl (lv_at hl 1 rfl) ?_
  refine lv_lconst (pc := 11) (v := 0) hx hb dX5_wipe_11 (by decide) ?_
  refine lv_lconst (pc := 12) (v := 1) hx hb dX5_wipe_12 (by decide) ?_
  have hZ0_ := hS.1
  have t_fo := fo.lt
  have t_fj := fj.lt
  have t_fk := fun k (hk9 : k < 6) => (fk k hk9).lt
  have t_fe := fe.lt
  have t_fr := fr.lt
  refine k_r (pc := 13) (k_S E hC hS hA hl.1 (c_X5_lowest l D tk N0 sa H.size 0 1 m_div01) kw_1199 kw_1200 kw_5 kw_1201 (n := 2) (by decide +kernel) rfl ⟨⟨rfl, rfl⟩, ⟨Nat.le_of_ble_eq_true rfl, Nat.le_of_ble_eq_true rfl⟩, (by dsimp only; omega), (by dsimp only; omega)⟩ rfl (Nat.le_of_ble_eq_true rfl) trivial dX5_wipe_13) hS (fun q z w => absurd w (Nat.not_le.mpr z)) hn (fun r_1 H locs hR hz hk hS => ?_)
  have fw := fw.new hk
  have fo := fo.kept (hk _ fo.lt (Nat.not_le.mpr fo.lt))
  have fj := fj.kept (hk _ fj.lt (Nat.not_le.mpr fj.lt))
  have fk := fk.new hk
  have fe := fe.kept (hk _ fe.lt (Nat.not_le.mpr fe.lt))
  have fr := fr.kept (hk _ fr.lt (Nat.not_le.mpr fr.lt))
  obtain ⟨z9_, f2⟩ := hR
  have s_f2 : s.heap.size ≤ r_1 := Nat.le_trans hZ0_ z9_
  have g_f2 := hn _ s_f2
  have l_fo_f2 : mo < r_1 := Nat.lt_of_lt_of_le t_fo z9_
  have l_fj_f2 : ra < r_1 := Nat.lt_of_lt_of_le t_fj z9_
  have nW_f2 : ∀ k, k < 6 → rt k ≠ r_1 := fun k hk9 => Nat.ne_of_lt (Nat.lt_of_lt_of_le (t_fk k hk9) z9_)
  have l_fe_f2 : ex < r_1 := Nat.lt_of_lt_of_le t_fe z9_
  have l_fr_f2 : ro < r_1 := Nat.lt_of_lt_of_le t_fr z9_
  refine r_put (pc := 16) E hC fo hS g_fo 2 tyX5 tyX5_ok nmX5 rfl (by decide) (Nat.le_of_ble_eq_true rfl) uX5 (List.mem_cons_of_mem _ kw_1211) (fun _ h => h) rfl rfl rfl dX5_wipe_16 (fun H locs n_ ho hz hS => ?_)
  have fw := fw.put ho (fun q9 h9 => clA.ne h9 fo.cl (hC.oo 7 13 rfl rfl (by decide))) (fun q9 h9 => clA.ne h9 fo.cl (hC.ao 13 4 rfl rfl)) (fun q9 h9 => clA.ne h9 fo.cl (hC.ceo (Or.inr rfl) 13 rfl (by decide)))
  have fj := fj.kept (ho _ (clA.ne fj.cla fo.cl (hC.ao 13 3 rfl rfl)))
  have fk := fk.kept (fun k hk9 => ho _ (nW_fo k hk9))
  have fe := fe.kept (ho _ (clA.ne fe.cla fo.cl (hC.ao 13 0 rfl rfl)))
  have fr := fr.kept (ho _ (clA.ne fr.cla fo.cl (hC.ao 13 0 rfl rfl)))
  have f2 := f2.kept (ho _ (clA.ne f2.cla fo.cl (hC.ao 13 0 rfl rfl)))
  have fo : c1 D mo (.inr (13, [.ref ra, .ref rl, .ref r_1, .ref ro, .int (nI pk), .int ca, .int rf, .int kn, .int 0])) H := n_
  refine lv_aload_n (pc := 19) hx hb dX5_wipe_19 rfl (lv_at hl 1 rfl) ?_
  refine lv_lconst (pc := 20) (v := 0) hx hb dX5_wipe_20 (by decide) ?_
  refine lv_lconst (pc := 21) (v := 1) hx hb dX5_wipe_21 (by decide) ?_
  have hZ0_ := hS.1
  have t_fo := fo.lt
  have t_fj := fj.lt
  have t_fk := fun k (hk9 : k < 6) => (fk k hk9).lt
  have t_fe := fe.lt
  have t_fr := fr.lt
  have t_f2 := f2.lt
  refine k_r (pc := 22) (k_S E hC hS hA hl.1 (c_X5_lowest l D tk N0 sa H.size 0 1 m_div01) kw_1199 kw_1200 kw_5 kw_1201 (n := 2) (by decide +kernel) rfl ⟨⟨rfl, rfl⟩, ⟨Nat.le_of_ble_eq_true rfl, Nat.le_of_ble_eq_true rfl⟩, (by dsimp only; omega), (by dsimp only; omega)⟩ rfl (Nat.le_of_ble_eq_true rfl) trivial dX5_wipe_22) hS (fun q z w => absurd w (Nat.not_le.mpr z)) hn (fun r_3 H locs hR hz hk hS => ?_)
  have fw := fw.new hk
  have fo := fo.kept (hk _ fo.lt (Nat.not_le.mpr fo.lt))
  have fj := fj.kept (hk _ fj.lt (Nat.not_le.mpr fj.lt))
  have fk := fk.new hk
  have fe := fe.kept (hk _ fe.lt (Nat.not_le.mpr fe.lt))
  have fr := fr.kept (hk _ fr.lt (Nat.not_le.mpr fr.lt))
  have f2 := f2.kept (hk _ f2.lt (Nat.not_le.mpr f2.lt))
  obtain ⟨z9_, f4⟩ := hR
  have s_f4 : s.heap.size ≤ r_3 := Nat.le_trans hZ0_ z9_
  have g_f4 := hn _ s_f4
  have l_fo_f4 : mo < r_3 := Nat.lt_of_lt_of_le t_fo z9_
  have l_fj_f4 : ra < r_3 := Nat.lt_of_lt_of_le t_fj z9_
  have nW_f4 : ∀ k, k < 6 → rt k ≠ r_3 := fun k hk9 => Nat.ne_of_lt (Nat.lt_of_lt_of_le (t_fk k hk9) z9_)
  have l_fe_f4 : ex < r_3 := Nat.lt_of_lt_of_le t_fe z9_
  have l_fr_f4 : ro < r_3 := Nat.lt_of_lt_of_le t_fr z9_
  have l_f2_f4 : r_1 < r_3 := Nat.lt_of_lt_of_le t_f2 z9_
  refine r_put (pc := 25) E hC fo hS g_fo 3 tyX5 tyX5_ok nmX5 rfl (by decide) (Nat.le_of_ble_eq_true rfl) uX5 (List.mem_cons_of_mem _ kw_1212) (fun _ h => h) rfl rfl rfl dX5_wipe_25 (fun H locs n_ ho hz hS => ?_)
  have fw := fw.put ho (fun q9 h9 => clA.ne h9 fo.cl (hC.oo 7 13 rfl rfl (by decide))) (fun q9 h9 => clA.ne h9 fo.cl (hC.ao 13 4 rfl rfl)) (fun q9 h9 => clA.ne h9 fo.cl (hC.ceo (Or.inr rfl) 13 rfl (by decide)))
  have fj := fj.kept (ho _ (clA.ne fj.cla fo.cl (hC.ao 13 3 rfl rfl)))
  have fk := fk.kept (fun k hk9 => ho _ (nW_fo k hk9))
  have fe := fe.kept (ho _ (clA.ne fe.cla fo.cl (hC.ao 13 0 rfl rfl)))
  have fr := fr.kept (ho _ (clA.ne fr.cla fo.cl (hC.ao 13 0 rfl rfl)))
  have f2 := f2.kept (ho _ (clA.ne f2.cla fo.cl (hC.ao 13 0 rfl rfl)))
  have f4 := f4.kept (ho _ (clA.ne f4.cla fo.cl (hC.ao 13 0 rfl rfl)))
  have fo : c1 D mo (.inr (13, [.ref ra, .ref rl, .ref r_1, .ref r_3, .int (nI pk), .int ca, .int rf, .int kn, .int 0])) H := n_
  refine lv_aload_n (pc := 28) hx hb dX5_wipe_28 rfl (lv_at hl 1 rfl) ?_
  refine lv_iconst (pc := 29) (v := 0) hx hb dX5_wipe_29 (by decide) ?_
  refine r_put (pc := 30) E hC fo hS g_fo 4 tyX5 tyX5_ok nmX5 rfl (by decide) (Nat.le_of_ble_eq_true rfl) uX5 (List.mem_cons_of_mem _ kw_1213) (fun _ h => h) rfl rfl rfl dX5_wipe_30 (fun H locs n_ ho hz hS => ?_)
  have fw := fw.put ho (fun q9 h9 => clA.ne h9 fo.cl (hC.oo 7 13 rfl rfl (by decide))) (fun q9 h9 => clA.ne h9 fo.cl (hC.ao 13 4 rfl rfl)) (fun q9 h9 => clA.ne h9 fo.cl (hC.ceo (Or.inr rfl) 13 rfl (by decide)))
  have fj := fj.kept (ho _ (clA.ne fj.cla fo.cl (hC.ao 13 3 rfl rfl)))
  have fk := fk.kept (fun k hk9 => ho _ (nW_fo k hk9))
  have fe := fe.kept (ho _ (clA.ne fe.cla fo.cl (hC.ao 13 0 rfl rfl)))
  have fr := fr.kept (ho _ (clA.ne fr.cla fo.cl (hC.ao 13 0 rfl rfl)))
  have f2 := f2.kept (ho _ (clA.ne f2.cla fo.cl (hC.ao 13 0 rfl rfl)))
  have f4 := f4.kept (ho _ (clA.ne f4.cla fo.cl (hC.ao 13 0 rfl rfl)))
  have fo : c1 D mo (.inr (13, [.ref ra, .ref rl, .ref r_1, .ref r_3, .int 0, .int ca, .int rf, .int kn, .int 0])) H := n_
  refine lv_aload_n (pc := 33) hx hb dX5_wipe_33 rfl (lv_at hl 1 rfl) ?_
  refine lv_iconst (pc := 34) (v := 0) hx hb dX5_wipe_34 (by decide) ?_
  refine r_put (pc := 35) E hC fo hS g_fo 5 tyX5 tyX5_ok nmX5 rfl (by decide) (Nat.le_of_ble_eq_true rfl) uX5 (List.mem_cons_of_mem _ kw_1214) (fun _ h => h) rfl rfl rfl dX5_wipe_35 (fun H locs n_ ho hz hS => ?_)
  have fw := fw.put ho (fun q9 h9 => clA.ne h9 fo.cl (hC.oo 7 13 rfl rfl (by decide))) (fun q9 h9 => clA.ne h9 fo.cl (hC.ao 13 4 rfl rfl)) (fun q9 h9 => clA.ne h9 fo.cl (hC.ceo (Or.inr rfl) 13 rfl (by decide)))
  have fj := fj.kept (ho _ (clA.ne fj.cla fo.cl (hC.ao 13 3 rfl rfl)))
  have fk := fk.kept (fun k hk9 => ho _ (nW_fo k hk9))
  have fe := fe.kept (ho _ (clA.ne fe.cla fo.cl (hC.ao 13 0 rfl rfl)))
  have fr := fr.kept (ho _ (clA.ne fr.cla fo.cl (hC.ao 13 0 rfl rfl)))
  have f2 := f2.kept (ho _ (clA.ne f2.cla fo.cl (hC.ao 13 0 rfl rfl)))
  have f4 := f4.kept (ho _ (clA.ne f4.cla fo.cl (hC.ao 13 0 rfl rfl)))
  have fo : c1 D mo (.inr (13, [.ref ra, .ref rl, .ref r_1, .ref r_3, .int 0, .int 0, .int rf, .int kn, .int 0])) H := n_
  refine lv_iload_n (pc := 38) hx hb dX5_wipe_38 rfl (lv_at hl 0 rfl) ?_
  refine r_iret (pc := 39) E hr hlk hS (by omega) (by omega) ?_ dX5_wipe_39
  exact ⟨rfl, ⟨_, _, _, _, _, fo, fj, fk, f2, f4, fw, ⟨hPm, hPa, hPl, (hPs _ s_f2), (hPs _ s_f4), hPk⟩, hFk, m_F01, ⟨m_F01, m_D01⟩, (Nat.zero_le 4), hn9⟩⟩
set_option maxHeartbeats 4000000 in
set_option maxRecDepth 100000 in
/-- BestratiosModel.exact()Ljava/lang/String; -/
theorem c_X5_exact (l : Launch) (D : va_G) (tk : Nat → ClassId) (N0 : Nat) (sa : Nat → Nat)  (sz : Nat) (P : Nat → Prop) (hPN : ∀ q, P q → N0 ≤ q) (hPs : ∀ q, sz ≤ q → P q) (mo n9 : Nat) (kn th : Int32) (tt bb : Nat → Int64) (eT eB oT oB : Int64) (pk : Nat) (ca rf : Int32) (vs : Nat → Value)  : Met l yX5_exact (wsy yX5_exact cX5_exact 1 (some (.object "java/lang/String"))) ({ frames := 7, cells := 7, slots := 210, locals := 157 } : Room) (cP D tk N0 sa [.ref mo] sz (fun H => MI D tk sa P mo tt bb eT eB oT oB pk ca rf vs kn n9 th H)) (kQr (fun r H => ∃ th1, MI D tk sa P mo tt bb eT eB oT oB pk ca rf vs kn n9 th1 H) (P)) (7) (210) (P) := by
  refine mStart RX5 rfl (by decide +kernel) (Nat.le_of_ble_eq_true rfl) ?_
  intro p e s m args below meth c E hr hlk hnm hsz hC hF ls hl
  subst hsz
  obtain ⟨hx, hb, -⟩ := id E
  have hA : ∀ q, (P) q → N0 ≤ q := hPN
  have hn : ∀ q, s.heap.size ≤ q → (P) q := hPs
  have hS : va_S (P) s.heap s.heap [] := va_S.rf
  have hl : lv_has ls 1 [(0, .ref mo)] := hl
  have hM : MI D tk sa P mo tt bb eT eB oT oB pk ca rf vs kn n9 th s.heap := hF
  obtain ⟨ra, rl, ex, ro, rt, fo, fj, fk, fe, fr, fw, ⟨hPm, hPa, hPl, hPe, hPr, hPk⟩, hFk, hFe, hFr, hpk, hn9⟩ := hM
  have g_fo := hPm
  have g_fj := hPa
  refine lv_aload_n (pc := 0) hx hb dX5_exact_0 rfl (lv_at hl 0 rfl) ?_
  refine lv_iconst (pc := 1) (v := 0) hx hb dX5_exact_1 (by decide) ?_
  refine r_put (pc := 2) E hC fo hS g_fo 8 tyX5 tyX5_ok nmX5 rfl (by decide) (Nat.le_of_ble_eq_true rfl) uX5 (List.mem_cons_of_mem _ kw_1217) (fun _ h => h) rfl rfl rfl dX5_exact_2 (fun H locs n_ ho hz hS => ?_)
  have fw := fw.put ho (fun q9 h9 => clA.ne h9 fo.cl (hC.oo 7 13 rfl rfl (by decide))) (fun q9 h9 => clA.ne h9 fo.cl (hC.ao 13 4 rfl rfl)) (fun q9 h9 => clA.ne h9 fo.cl (hC.ceo (Or.inr rfl) 13 rfl (by decide)))
  have nW_fo : ∀ k, k < 6 → rt k ≠ mo := fun k hk9 => clA.ne (fk k hk9).cla fo.cl (hC.ao 13 0 rfl rfl)
  have fj := fj.kept (ho _ (clA.ne fj.cla fo.cl (hC.ao 13 3 rfl rfl)))
  have fk := fk.kept (fun k hk9 => ho _ (nW_fo k hk9))
  have fe := fe.kept (ho _ (clA.ne fe.cla fo.cl (hC.ao 13 0 rfl rfl)))
  have fr := fr.kept (ho _ (clA.ne fr.cla fo.cl (hC.ao 13 0 rfl rfl)))
  have fo : c1 D mo (.inr (13, [.ref ra, .ref rl, .ref ex, .ref ro, .int (nI pk), .int ca, .int rf, .int kn, .int 0])) H := n_
  refine lv_aload_n (pc := 5) hx hb dX5_exact_5 rfl (lv_at hl 0 rfl) ?_
  refine r_get (pc := 6) E hC fo 2 (v := .ref ex) rfl rfl (by decide) uX5 (List.mem_cons_of_mem _ kw_1211) (fun _ h => h) dX5_exact_6 ?_
  have hZ0_ := hS.1
  have t_fo := fo.lt
  have t_fj := fj.lt
  have t_fk := fun k (hk9 : k < 6) => (fk k hk9).lt
  have t_fe := fe.lt
  have t_fr := fr.lt
  refine k_r (pc := 9) (k_S E hC hS hA hl.1 (c_X5_text l D tk N0 sa H.size ex eT eB) kw_1348 kw_1349 kw_5 kw_1350 (n := 1) (by decide +kernel) rfl ⟨⟨rfl, rfl⟩, ⟨Nat.le_of_ble_eq_true rfl, Nat.le_of_ble_eq_true rfl⟩, (by dsimp only; omega), (by dsimp only; omega)⟩ rfl (Nat.le_of_ble_eq_true rfl) fe dX5_exact_9) hS (fun q z w => absurd w (Nat.not_le.mpr z)) hn (fun r_1 H locs hR hz hk hS => ?_)
  have fw := fw.new hk
  have fo := fo.kept (hk _ fo.lt (Nat.not_le.mpr fo.lt))
  have fj := fj.kept (hk _ fj.lt (Nat.not_le.mpr fj.lt))
  have fk := fk.new hk
  have fe := fe.kept (hk _ fe.lt (Nat.not_le.mpr fe.lt))
  have fr := fr.kept (hk _ fr.lt (Nat.not_le.mpr fr.lt))
  obtain ⟨n_f2, hn_f2, z9_, f2⟩ := hR
  refine r_aret (pc := 12) E hr (Or.inl ⟨_, rfl⟩) hlk hS (by omega) (by omega) ?_ dX5_exact_12
  exact ⟨_, ⟨_, _, _, _, _, fo, fj, fk, fe, fr, fw, ⟨hPm, hPa, hPl, hPe, hPr, hPk⟩, hFk, hFe, hFr, hpk, hn9⟩⟩
set_option maxHeartbeats 4000000 in
set_option maxRecDepth 100000 in
/-- BestratiosModel.roundedNow()Ljava/lang/String; -/
theorem c_X5_roundedNow (l : Launch) (D : va_G) (tk : Nat → ClassId) (N0 : Nat) (sa : Nat → Nat)  (sz : Nat) (P : Nat → Prop) (hPN : ∀ q, P q → N0 ≤ q) (mo n9 : Nat) (kn th : Int32) (tt bb : Nat → Int64) (eT eB oT oB : Int64) (pk : Nat) (ca rf : Int32) (vs : Nat → Value)  : Met l yX5_roundedNow (wsy yX5_roundedNow cX5_roundedNow 1 (some (.object "java/lang/String"))) ({ frames := 7, cells := 16 + 4 * 4, slots := 83 + 3 * 14 + 36 * 4, locals := 163 } : Room) (cP D tk N0 sa [.ref mo] sz (fun H => MI D tk sa P mo tt bb eT eB oT oB pk ca rf vs kn n9 th H)) (kQr (fun r H => ∃ n1, n1 ≤ 16 ∧ SX D tk r n1 H) (nwA sz)) (16 + 4 * 4) (83 + 3 * 14 + 36 * 4) (nwA sz) := by
  refine mStart RX5 rfl (by decide +kernel) (Nat.le_of_ble_eq_true rfl) ?_
  intro p e s m args below meth c E hr hlk hnm hsz hC hF ls hl
  subst hsz
  obtain ⟨hx, hb, -⟩ := id E
  have hA : ∀ q, (nwA s.heap.size) q → N0 ≤ q := fun q h => Nat.le_trans hC.2.1 h
  have hn : ∀ q, s.heap.size ≤ q → (nwA s.heap.size) q := fun q h => h
  have hS : va_S (nwA s.heap.size) s.heap s.heap [] := va_S.rf
  have hl : lv_has ls 1 [(0, .ref mo)] := hl
  have hM : MI D tk sa P mo tt bb eT eB oT oB pk ca rf vs kn n9 th s.heap := hF
  obtain ⟨ra, rl, ex, ro, rt, fo, fj, fk, fe, fr, fw, ⟨hPm, hPa, hPl, hPe, hPr, hPk⟩, hFk, hFe, hFr, hpk, hn9⟩ := hM
  refine lv_aload_n (pc := 0) hx hb dX5_roundedNow_0 rfl (lv_at hl 0 rfl) ?_
  refine r_get (pc := 1) E hC fo 3 (v := .ref ro) rfl rfl (by decide) uX5 (List.mem_cons_of_mem _ kw_1212) (fun _ h => h) dX5_roundedNow_1 ?_
  refine lv_iconst (pc := 4) (v := 0) hx hb dX5_roundedNow_4 (by decide) ?_
  refine r_l0 (pc := 5) E hC fr dX5_roundedNow_5 ?_
  refine lv_aload_n (pc := 6) hx hb dX5_roundedNow_6 rfl (lv_at hl 0 rfl) ?_
  refine r_get (pc := 7) E hC fo 4 (v := .int (nI pk)) rfl rfl (by decide) uX5 (List.mem_cons_of_mem _ kw_1213) (fun _ h => h) dX5_roundedNow_7 ?_
  refine k_l (pc := 10) (k_S E hC hS hA hl.1 (c_X5_power l D tk N0 sa s.heap.size (nI pk) ) kw_1278 kw_1279 kw_5 kw_1280 (n := 1) (by decide +kernel) rfl ⟨⟨rfl, rfl⟩, ⟨Nat.le_of_ble_eq_true rfl, Nat.le_of_ble_eq_true rfl⟩, (by dsimp only; omega), (by dsimp only; omega)⟩ rfl (Nat.le_of_ble_eq_true rfl) trivial dX5_roundedNow_10) hS (fun q z w => absurd w (Nat.not_le.mpr z)) hn (fun r_1 H locs hR hz hk hS => ?_)
  have er_1 := hR
  have fw := fw.new hk
  have fo := fo.kept (hk _ fo.lt (Nat.not_le.mpr fo.lt))
  have fj := fj.kept (hk _ fj.lt (Nat.not_le.mpr fj.lt))
  have fk := fk.new hk
  have fe := fe.kept (hk _ fe.lt (Nat.not_le.mpr fe.lt))
  have fr := fr.kept (hk _ fr.lt (Nat.not_le.mpr fr.lt))
  refine lv_aload_n (pc := 13) hx hb dX5_roundedNow_13 rfl (lv_at hl 0 rfl) ?_
  refine r_get (pc := 14) E hC fo 3 (v := .ref ro) rfl rfl (by decide) uX5 (List.mem_cons_of_mem _ kw_1212) (fun _ h => h) dX5_roundedNow_14 ?_
  refine lv_iconst (pc := 17) (v := 1) hx hb dX5_roundedNow_17 (by decide) ?_
  refine r_l1 (pc := 18) E hC fr dX5_roundedNow_18 ?_
  refine lv_ldiv (pc := 19) hx hb dX5_roundedNow_19 ((m_ne0 hFr.1.2.1)) ?_
  refine lv_lmul (pc := 20) hx hb dX5_roundedNow_20 ?_
  refine lv_aload_n (pc := 21) hx hb dX5_roundedNow_21 rfl (lv_at hl 0 rfl) ?_
  refine r_get (pc := 22) E hC fo 4 (v := .int (nI pk)) rfl rfl (by decide) uX5 (List.mem_cons_of_mem _ kw_1213) (fun _ h => h) dX5_roundedNow_22 ?_
  have hdG := (m_dG1 14).1 (by decide)
  have hZ0_ := hS.1
  have t_fo := fo.lt
  have t_fj := fj.lt
  have t_fk := fun k (hk9 : k < 6) => (fk k hk9).lt
  have t_fe := fe.lt
  have t_fr := fr.lt
  refine k_r (pc := 25) (k_S E hC hS hA hl.1 (c_X5_decimal l D tk N0 sa H.size (oT * (r_1 / oB)) (nI pk) pk 14 rfl (by omega) (by omega) (by decide) (m_rndB hFr.1 er_1 hpk rfl)) kw_1707 kw_1708 kw_5 kw_1709 (n := 2) (by decide +kernel) rfl ⟨⟨rfl, rfl⟩, ⟨Nat.le_of_ble_eq_true rfl, Nat.le_of_ble_eq_true rfl⟩, (by dsimp only; omega), (by dsimp only; omega)⟩ rfl (Nat.le_of_ble_eq_true rfl) trivial dX5_roundedNow_25) hS (fun q z w => absurd w (Nat.not_le.mpr z)) hn (fun r_3 H locs hR hz hk hS => ?_)
  have fw := fw.new hk
  have fo := fo.kept (hk _ fo.lt (Nat.not_le.mpr fo.lt))
  have fj := fj.kept (hk _ fj.lt (Nat.not_le.mpr fj.lt))
  have fk := fk.new hk
  have fe := fe.kept (hk _ fe.lt (Nat.not_le.mpr fe.lt))
  have fr := fr.kept (hk _ fr.lt (Nat.not_le.mpr fr.lt))
  obtain ⟨n_f4, hn_f4, z9_, f4⟩ := hR
  refine r_aret (pc := 28) E hr (Or.inl ⟨_, rfl⟩) hlk hS (by omega) (by omega) ?_ dX5_roundedNow_28
  exact ⟨_, by omega, f4⟩
set_option maxHeartbeats 4000000 in
set_option maxRecDepth 100000 in
/-- BestratiosModel.rounded()Ljava/lang/String; -/
theorem c_X5_rounded (l : Launch) (D : va_G) (tk : Nat → ClassId) (N0 : Nat) (sa : Nat → Nat)  (sz : Nat) (P : Nat → Prop) (hPN : ∀ q, P q → N0 ≤ q) (hPs : ∀ q, sz ≤ q → P q) (mo n9 : Nat) (kn th : Int32) (tt bb : Nat → Int64) (eT eB oT oB : Int64) (pk : Nat) (ca rf : Int32) (vs : Nat → Value)  : Met l yX5_rounded (wsy yX5_rounded cX5_rounded 1 (some (.object "java/lang/String"))) ({ frames := 8, cells := 32, slots := 269, locals := 183 } : Room) (cP D tk N0 sa [.ref mo] sz (fun H => MI D tk sa P mo tt bb eT eB oT oB pk ca rf vs kn n9 th H)) (kQr (fun r H => ∃ th1, MI D tk sa P mo tt bb eT eB oT oB pk ca rf vs kn n9 th1 H) (P)) (32) (269) (P) := by
  refine mStart RX5 rfl (by decide +kernel) (Nat.le_of_ble_eq_true rfl) ?_
  intro p e s m args below meth c E hr hlk hnm hsz hC hF ls hl
  subst hsz
  obtain ⟨hx, hb, -⟩ := id E
  have hA : ∀ q, (P) q → N0 ≤ q := hPN
  have hn : ∀ q, s.heap.size ≤ q → (P) q := hPs
  have hS : va_S (P) s.heap s.heap [] := va_S.rf
  have hl : lv_has ls 1 [(0, .ref mo)] := hl
  have hM : MI D tk sa P mo tt bb eT eB oT oB pk ca rf vs kn n9 th s.heap := hF
  obtain ⟨ra, rl, ex, ro, rt, fo, fj, fk, fe, fr, fw, ⟨hPm, hPa, hPl, hPe, hPr, hPk⟩, hFk, hFe, hFr, hpk, hn9⟩ := hM
  have g_fo := hPm
  have g_fj := hPa
  refine lv_aload_n (pc := 0) hx hb dX5_rounded_0 rfl (lv_at hl 0 rfl) ?_
  refine lv_iconst (pc := 1) (v := 0) hx hb dX5_rounded_1 (by decide) ?_
  refine r_put (pc := 2) E hC fo hS g_fo 8 tyX5 tyX5_ok nmX5 rfl (by decide) (Nat.le_of_ble_eq_true rfl) uX5 (List.mem_cons_of_mem _ kw_1217) (fun _ h => h) rfl rfl rfl dX5_rounded_2 (fun H locs n_ ho hz hS => ?_)
  have fw := fw.put ho (fun q9 h9 => clA.ne h9 fo.cl (hC.oo 7 13 rfl rfl (by decide))) (fun q9 h9 => clA.ne h9 fo.cl (hC.ao 13 4 rfl rfl)) (fun q9 h9 => clA.ne h9 fo.cl (hC.ceo (Or.inr rfl) 13 rfl (by decide)))
  have nW_fo : ∀ k, k < 6 → rt k ≠ mo := fun k hk9 => clA.ne (fk k hk9).cla fo.cl (hC.ao 13 0 rfl rfl)
  have fj := fj.kept (ho _ (clA.ne fj.cla fo.cl (hC.ao 13 3 rfl rfl)))
  have fk := fk.kept (fun k hk9 => ho _ (nW_fo k hk9))
  have fe := fe.kept (ho _ (clA.ne fe.cla fo.cl (hC.ao 13 0 rfl rfl)))
  have fr := fr.kept (ho _ (clA.ne fr.cla fo.cl (hC.ao 13 0 rfl rfl)))
  have fo : c1 D mo (.inr (13, [.ref ra, .ref rl, .ref ex, .ref ro, .int (nI pk), .int ca, .int rf, .int kn, .int 0])) H := n_
  refine lv_aload_n (pc := 5) hx hb dX5_rounded_5 rfl (lv_at hl 0 rfl) ?_
  have hZ0_ := hS.1
  have t_fo := fo.lt
  have t_fj := fj.lt
  have t_fk := fun k (hk9 : k < 6) => (fk k hk9).lt
  have t_fe := fe.lt
  have t_fr := fr.lt
  refine k_r (pc := 6) (k_V E hC hS hA hl.1 (c1.recv hC fo rfl) rfl (c_X5_roundedNow l D tk N0 sa H.size P hPN mo n9 kn 0 tt bb eT eB oT oB pk ca rf vs  ) kw_1771 kw_1773 kp_33 kw_5 kw_1774 (n := 0) (by decide +kernel) rfl ⟨⟨rfl, rfl⟩, ⟨Nat.le_of_ble_eq_true rfl, Nat.le_of_ble_eq_true rfl⟩, (by dsimp only; omega), (by dsimp only; omega)⟩ rfl (Nat.le_of_ble_eq_true rfl) ⟨_, _, _, _, _, fo, fj, fk, fe, fr, fw, ⟨hPm, hPa, hPl, hPe, hPr, hPk⟩, hFk, hFe, hFr, hpk, hn9⟩ dX5_rounded_6) hS (fun q z w => absurd w (Nat.not_le.mpr z)) hn (fun r_1 H locs hR hz hk hS => ?_)
  have fw := fw.new hk
  have fo := fo.kept (hk _ fo.lt (Nat.not_le.mpr fo.lt))
  have fj := fj.kept (hk _ fj.lt (Nat.not_le.mpr fj.lt))
  have fk := fk.new hk
  have fe := fe.kept (hk _ fe.lt (Nat.not_le.mpr fe.lt))
  have fr := fr.kept (hk _ fr.lt (Nat.not_le.mpr fr.lt))
  obtain ⟨n_f2, hn_f2, f2⟩ := hR
  refine r_aret (pc := 9) E hr (Or.inl ⟨_, rfl⟩) hlk hS (by omega) (by omega) ?_ dX5_rounded_9
  exact ⟨_, ⟨_, _, _, _, _, fo, fj, fk, fe, fr, fw, ⟨hPm, hPa, hPl, hPe, hPr, hPk⟩, hFk, hFe, hFr, hpk, hn9⟩⟩
set_option maxHeartbeats 4000000 in
set_option maxRecDepth 100000 in
/-- BestratiosModel.errorNow()Ljava/lang/String; -/
theorem c_X5_errorNow (l : Launch) (D : va_G) (tk : Nat → ClassId) (N0 : Nat) (sa : Nat → Nat)  (sz : Nat) (P : Nat → Prop) (hPN : ∀ q, P q → N0 ≤ q) (mo n9 : Nat) (kn th : Int32) (tt bb : Nat → Int64) (eT eB oT oB : Int64) (pk : Nat) (ca rf : Int32) (vs : Nat → Value)  : Met l yX5_errorNow (wsy yX5_errorNow cX5_errorNow 1 (some (.object "java/lang/String"))) ({ frames := 7, cells := 8, slots := 212, locals := 157 } : Room) (cP D tk N0 sa [.ref mo] sz (fun H => MI D tk sa P mo tt bb eT eB oT oB pk ca rf vs kn n9 th H)) (kQr (fun r H => ∃ n1, n1 ≤ 43 ∧ SX D tk r n1 H) (nwA sz)) (8) (212) (nwA sz) := by
  refine mStart RX5 rfl (by decide +kernel) (Nat.le_of_ble_eq_true rfl) ?_
  intro p e s m args below meth c E hr hlk hnm hsz hC hF ls hl
  subst hsz
  obtain ⟨hx, hb, -⟩ := id E
  have hA : ∀ q, (nwA s.heap.size) q → N0 ≤ q := fun q h => Nat.le_trans hC.2.1 h
  have hn : ∀ q, s.heap.size ≤ q → (nwA s.heap.size) q := fun q h => h
  have hS : va_S (nwA s.heap.size) s.heap s.heap [] := va_S.rf
  have hl : lv_has ls 1 [(0, .ref mo)] := hl
  have hM : MI D tk sa P mo tt bb eT eB oT oB pk ca rf vs kn n9 th s.heap := hF
  obtain ⟨ra, rl, ex, ro, rt, fo, fj, fk, fe, fr, fw, ⟨hPm, hPa, hPl, hPe, hPr, hPk⟩, hFk, hFe, hFr, hpk, hn9⟩ := hM
  refine lv_aload_n (pc := 0) hx hb dX5_errorNow_0 rfl (lv_at hl 0 rfl) ?_
  refine r_get (pc := 1) E hC fo 2 (v := .ref ex) rfl rfl (by decide) uX5 (List.mem_cons_of_mem _ kw_1211) (fun _ h => h) dX5_errorNow_1 ?_
  refine lv_aload_n (pc := 4) hx hb dX5_errorNow_4 rfl (lv_at hl 0 rfl) ?_
  refine r_get (pc := 5) E hC fo 3 (v := .ref ro) rfl rfl (by decide) uX5 (List.mem_cons_of_mem _ kw_1212) (fun _ h => h) dX5_errorNow_5 ?_
  refine lv_iconst (pc := 8) (v := (-1)) hx hb dX5_errorNow_8 (by decide) ?_
  have hP9 := m_sumP (-1) hFe hFr.1 (by decide)
  have hZ0_ := hS.1
  have t_fo := fo.lt
  have t_fj := fj.lt
  have t_fk := fun k (hk9 : k < 6) => (fk k hk9).lt
  have t_fe := fe.lt
  have t_fr := fr.lt
  refine k_r (pc := 9) (k_S E hC hS hA hl.1 (c_X5_sum l D tk N0 sa s.heap.size ex eT eB ro oT oB ((-1)) hP9.1) kw_1297 kw_1298 kw_5 kw_1299 (n := 3) (by decide +kernel) rfl ⟨⟨rfl, rfl⟩, ⟨Nat.le_of_ble_eq_true rfl, Nat.le_of_ble_eq_true rfl⟩, (by dsimp only; omega), (by dsimp only; omega)⟩ rfl (Nat.le_of_ble_eq_true rfl) ⟨fe, fr⟩ dX5_errorNow_9) hS (fun q z w => absurd w (Nat.not_le.mpr z)) hn (fun r_1 H locs hR hz hk hS => ?_)
  have fw := fw.new hk
  have fo := fo.kept (hk _ fo.lt (Nat.not_le.mpr fo.lt))
  have fj := fj.kept (hk _ fj.lt (Nat.not_le.mpr fj.lt))
  have fk := fk.new hk
  have fe := fe.kept (hk _ fe.lt (Nat.not_le.mpr fe.lt))
  have fr := fr.kept (hk _ fr.lt (Nat.not_le.mpr fr.lt))
  obtain ⟨z9_, f2⟩ := hR
  have s_f2 : s.heap.size ≤ r_1 := Nat.le_trans hZ0_ z9_
  have g_f2 := hn _ s_f2
  have l_fo_f2 : mo < r_1 := Nat.lt_of_lt_of_le t_fo z9_
  have l_fj_f2 : ra < r_1 := Nat.lt_of_lt_of_le t_fj z9_
  have nW_f2 : ∀ k, k < 6 → rt k ≠ r_1 := fun k hk9 => Nat.ne_of_lt (Nat.lt_of_lt_of_le (t_fk k hk9) z9_)
  have l_fe_f2 : ex < r_1 := Nat.lt_of_lt_of_le t_fe z9_
  have l_fr_f2 : ro < r_1 := Nat.lt_of_lt_of_le t_fr z9_
  have hZ0_ := hS.1
  have t_fo := fo.lt
  have t_fj := fj.lt
  have t_fk := fun k (hk9 : k < 6) => (fk k hk9).lt
  have t_fe := fe.lt
  have t_fr := fr.lt
  have t_f2 := f2.lt
  refine k_r (pc := 12) (k_S E hC hS hA hl.1 (c_X5_text l D tk N0 sa H.size r_1 (m_loT (eT * oB + (((-1) : Int32)).toInt64 * (oT * eB)) (eB * oB)) (m_loB (eT * oB + (((-1) : Int32)).toInt64 * (oT * eB)) (eB * oB))) kw_1348 kw_1349 kw_5 kw_1350 (n := 1) (by decide +kernel) rfl ⟨⟨rfl, rfl⟩, ⟨Nat.le_of_ble_eq_true rfl, Nat.le_of_ble_eq_true rfl⟩, (by dsimp only; omega), (by dsimp only; omega)⟩ rfl (Nat.le_of_ble_eq_true rfl) f2 dX5_errorNow_12) hS (fun q z w => absurd w (Nat.not_le.mpr z)) hn (fun r_3 H locs hR hz hk hS => ?_)
  have fw := fw.new hk
  have fo := fo.kept (hk _ fo.lt (Nat.not_le.mpr fo.lt))
  have fj := fj.kept (hk _ fj.lt (Nat.not_le.mpr fj.lt))
  have fk := fk.new hk
  have fe := fe.kept (hk _ fe.lt (Nat.not_le.mpr fe.lt))
  have fr := fr.kept (hk _ fr.lt (Nat.not_le.mpr fr.lt))
  have f2 := f2.kept (hk _ f2.lt (Nat.not_le.mpr f2.lt))
  obtain ⟨n_f4, hn_f4, z9_, f4⟩ := hR
  refine r_aret (pc := 15) E hr (Or.inl ⟨_, rfl⟩) hlk hS (by omega) (by omega) ?_ dX5_errorNow_15
  exact ⟨_, by omega, f4⟩
set_option maxHeartbeats 4000000 in
set_option maxRecDepth 100000 in
/-- BestratiosModel.error()Ljava/lang/String; -/
theorem c_X5_error (l : Launch) (D : va_G) (tk : Nat → ClassId) (N0 : Nat) (sa : Nat → Nat)  (sz : Nat) (P : Nat → Prop) (hPN : ∀ q, P q → N0 ≤ q) (hPs : ∀ q, sz ≤ q → P q) (mo n9 : Nat) (kn th : Int32) (tt bb : Nat → Int64) (eT eB oT oB : Int64) (pk : Nat) (ca rf : Int32) (vs : Nat → Value)  : Met l yX5_error (wsy yX5_error cX5_error 1 (some (.object "java/lang/String"))) ({ frames := 8, cells := 8, slots := 212, locals := 177 } : Room) (cP D tk N0 sa [.ref mo] sz (fun H => MI D tk sa P mo tt bb eT eB oT oB pk ca rf vs kn n9 th H)) (kQr (fun r H => ∃ th1, MI D tk sa P mo tt bb eT eB oT oB pk ca rf vs kn n9 th1 H) (P)) (8) (212) (P) := by
  refine mStart RX5 rfl (by decide +kernel) (Nat.le_of_ble_eq_true rfl) ?_
  intro p e s m args below meth c E hr hlk hnm hsz hC hF ls hl
  subst hsz
  obtain ⟨hx, hb, -⟩ := id E
  have hA : ∀ q, (P) q → N0 ≤ q := hPN
  have hn : ∀ q, s.heap.size ≤ q → (P) q := hPs
  have hS : va_S (P) s.heap s.heap [] := va_S.rf
  have hl : lv_has ls 1 [(0, .ref mo)] := hl
  have hM : MI D tk sa P mo tt bb eT eB oT oB pk ca rf vs kn n9 th s.heap := hF
  obtain ⟨ra, rl, ex, ro, rt, fo, fj, fk, fe, fr, fw, ⟨hPm, hPa, hPl, hPe, hPr, hPk⟩, hFk, hFe, hFr, hpk, hn9⟩ := hM
  have g_fo := hPm
  have g_fj := hPa
  refine lv_aload_n (pc := 0) hx hb dX5_error_0 rfl (lv_at hl 0 rfl) ?_
  refine lv_iconst (pc := 1) (v := 0) hx hb dX5_error_1 (by decide) ?_
  refine r_put (pc := 2) E hC fo hS g_fo 8 tyX5 tyX5_ok nmX5 rfl (by decide) (Nat.le_of_ble_eq_true rfl) uX5 (List.mem_cons_of_mem _ kw_1217) (fun _ h => h) rfl rfl rfl dX5_error_2 (fun H locs n_ ho hz hS => ?_)
  have fw := fw.put ho (fun q9 h9 => clA.ne h9 fo.cl (hC.oo 7 13 rfl rfl (by decide))) (fun q9 h9 => clA.ne h9 fo.cl (hC.ao 13 4 rfl rfl)) (fun q9 h9 => clA.ne h9 fo.cl (hC.ceo (Or.inr rfl) 13 rfl (by decide)))
  have nW_fo : ∀ k, k < 6 → rt k ≠ mo := fun k hk9 => clA.ne (fk k hk9).cla fo.cl (hC.ao 13 0 rfl rfl)
  have fj := fj.kept (ho _ (clA.ne fj.cla fo.cl (hC.ao 13 3 rfl rfl)))
  have fk := fk.kept (fun k hk9 => ho _ (nW_fo k hk9))
  have fe := fe.kept (ho _ (clA.ne fe.cla fo.cl (hC.ao 13 0 rfl rfl)))
  have fr := fr.kept (ho _ (clA.ne fr.cla fo.cl (hC.ao 13 0 rfl rfl)))
  have fo : c1 D mo (.inr (13, [.ref ra, .ref rl, .ref ex, .ref ro, .int (nI pk), .int ca, .int rf, .int kn, .int 0])) H := n_
  refine lv_aload_n (pc := 5) hx hb dX5_error_5 rfl (lv_at hl 0 rfl) ?_
  have hZ0_ := hS.1
  have t_fo := fo.lt
  have t_fj := fj.lt
  have t_fk := fun k (hk9 : k < 6) => (fk k hk9).lt
  have t_fe := fe.lt
  have t_fr := fr.lt
  refine k_r (pc := 6) (k_V E hC hS hA hl.1 (c1.recv hC fo rfl) rfl (c_X5_errorNow l D tk N0 sa H.size P hPN mo n9 kn 0 tt bb eT eB oT oB pk ca rf vs  ) kw_1779 kw_1781 kp_34 kw_5 kw_1782 (n := 0) (by decide +kernel) rfl ⟨⟨rfl, rfl⟩, ⟨Nat.le_of_ble_eq_true rfl, Nat.le_of_ble_eq_true rfl⟩, (by dsimp only; omega), (by dsimp only; omega)⟩ rfl (Nat.le_of_ble_eq_true rfl) ⟨_, _, _, _, _, fo, fj, fk, fe, fr, fw, ⟨hPm, hPa, hPl, hPe, hPr, hPk⟩, hFk, hFe, hFr, hpk, hn9⟩ dX5_error_6) hS (fun q z w => absurd w (Nat.not_le.mpr z)) hn (fun r_1 H locs hR hz hk hS => ?_)
  have fw := fw.new hk
  have fo := fo.kept (hk _ fo.lt (Nat.not_le.mpr fo.lt))
  have fj := fj.kept (hk _ fj.lt (Nat.not_le.mpr fj.lt))
  have fk := fk.new hk
  have fe := fe.kept (hk _ fe.lt (Nat.not_le.mpr fe.lt))
  have fr := fr.kept (hk _ fr.lt (Nat.not_le.mpr fr.lt))
  obtain ⟨n_f2, hn_f2, f2⟩ := hR
  refine r_aret (pc := 9) E hr (Or.inl ⟨_, rfl⟩) hlk hS (by omega) (by omega) ?_ dX5_error_9
  exact ⟨_, ⟨_, _, _, _, _, fo, fj, fk, fe, fr, fw, ⟨hPm, hPa, hPl, hPe, hPr, hPk⟩, hFk, hFe, hFr, hpk, hn9⟩⟩
set_option maxHeartbeats 4000000 in
set_option maxRecDepth 100000 in
/-- BestratiosModel.knock()I -/
theorem c_X5_knock (l : Launch) (D : va_G) (tk : Nat → ClassId) (N0 : Nat) (sa : Nat → Nat)  (sz : Nat) (P : Nat → Prop) (hPN : ∀ q, P q → N0 ≤ q) (hPs : ∀ q, sz ≤ q → P q) (mo n9 : Nat) (kn th : Int32) (tt bb : Nat → Int64) (eT eB oT oB : Int64) (pk : Nat) (ca rf : Int32) (vs : Nat → Value)  : Met l yX5_knock (wsy yX5_knock cX5_knock 1 (some .int)) ({ frames := 0, cells := 0, slots := 0, locals := 0 } : Room) (cP D tk N0 sa [.ref mo] sz (fun H => MI D tk sa P mo tt bb eT eB oT oB pk ca rf vs kn n9 th H)) (kQi (fun r H => r = kn + 1 ∧ MI D tk sa P mo tt bb eT eB oT oB pk ca rf vs ((kn + 1)) n9 0 H) (P)) (0) (0) (P) := by
  refine mStart RX5 rfl (by decide +kernel) (Nat.le_of_ble_eq_true rfl) ?_
  intro p e s m args below meth c E hr hlk hnm hsz hC hF ls hl
  subst hsz
  obtain ⟨hx, hb, -⟩ := id E
  have hA : ∀ q, (P) q → N0 ≤ q := hPN
  have hn : ∀ q, s.heap.size ≤ q → (P) q := hPs
  have hS : va_S (P) s.heap s.heap [] := va_S.rf
  have hl : lv_has ls 1 [(0, .ref mo)] := hl
  have hM : MI D tk sa P mo tt bb eT eB oT oB pk ca rf vs kn n9 th s.heap := hF
  obtain ⟨ra, rl, ex, ro, rt, fo, fj, fk, fe, fr, fw, ⟨hPm, hPa, hPl, hPe, hPr, hPk⟩, hFk, hFe, hFr, hpk, hn9⟩ := hM
  have g_fo := hPm
  have g_fj := hPa
  refine lv_aload_n (pc := 0) hx hb dX5_knock_0 rfl (lv_at hl 0 rfl) ?_
  refine lv_iconst (pc := 1) (v := 0) hx hb dX5_knock_1 (by decide) ?_
  refine r_put (pc := 2) E hC fo hS g_fo 8 tyX5 tyX5_ok nmX5 rfl (by decide) (Nat.le_of_ble_eq_true rfl) uX5 (List.mem_cons_of_mem _ kw_1217) (fun _ h => h) rfl rfl rfl dX5_knock_2 (fun H locs n_ ho hz hS => ?_)
  have fw := fw.put ho (fun q9 h9 => clA.ne h9 fo.cl (hC.oo 7 13 rfl rfl (by decide))) (fun q9 h9 => clA.ne h9 fo.cl (hC.ao 13 4 rfl rfl)) (fun q9 h9 => clA.ne h9 fo.cl (hC.ceo (Or.inr rfl) 13 rfl (by decide)))
  have nW_fo : ∀ k, k < 6 → rt k ≠ mo := fun k hk9 => clA.ne (fk k hk9).cla fo.cl (hC.ao 13 0 rfl rfl)
  have fj := fj.kept (ho _ (clA.ne fj.cla fo.cl (hC.ao 13 3 rfl rfl)))
  have fk := fk.kept (fun k hk9 => ho _ (nW_fo k hk9))
  have fe := fe.kept (ho _ (clA.ne fe.cla fo.cl (hC.ao 13 0 rfl rfl)))
  have fr := fr.kept (ho _ (clA.ne fr.cla fo.cl (hC.ao 13 0 rfl rfl)))
  have fo : c1 D mo (.inr (13, [.ref ra, .ref rl, .ref ex, .ref ro, .int (nI pk), .int ca, .int rf, .int kn, .int 0])) H := n_
  refine lv_aload_n (pc := 5) hx hb dX5_knock_5 rfl (lv_at hl 0 rfl) ?_
  refine lv_dup (pc := 6) hx hb dX5_knock_6 rfl ?_
  refine r_get (pc := 7) E hC fo 7 (v := .int kn) rfl rfl (by decide) uX5 (List.mem_cons_of_mem _ kw_1216) (fun _ h => h) dX5_knock_7 ?_
  refine lv_iconst (pc := 10) (v := 1) hx hb dX5_knock_10 (by decide) ?_
  refine lv_iadd (pc := 11) hx hb dX5_knock_11 ?_
  refine r_put (pc := 12) E hC fo hS g_fo 7 tyX5 tyX5_ok nmX5 rfl (by decide) (Nat.le_of_ble_eq_true rfl) uX5 (List.mem_cons_of_mem _ kw_1216) (fun _ h => h) rfl rfl rfl dX5_knock_12 (fun H locs n_ ho hz hS => ?_)
  have fw := fw.put ho (fun q9 h9 => clA.ne h9 fo.cl (hC.oo 7 13 rfl rfl (by decide))) (fun q9 h9 => clA.ne h9 fo.cl (hC.ao 13 4 rfl rfl)) (fun q9 h9 => clA.ne h9 fo.cl (hC.ceo (Or.inr rfl) 13 rfl (by decide)))
  have fj := fj.kept (ho _ (clA.ne fj.cla fo.cl (hC.ao 13 3 rfl rfl)))
  have fk := fk.kept (fun k hk9 => ho _ (nW_fo k hk9))
  have fe := fe.kept (ho _ (clA.ne fe.cla fo.cl (hC.ao 13 0 rfl rfl)))
  have fr := fr.kept (ho _ (clA.ne fr.cla fo.cl (hC.ao 13 0 rfl rfl)))
  have fo : c1 D mo (.inr (13, [.ref ra, .ref rl, .ref ex, .ref ro, .int (nI pk), .int ca, .int rf, .int (kn + 1), .int 0])) H := n_
  refine lv_aload_n (pc := 15) hx hb dX5_knock_15 rfl (lv_at hl 0 rfl) ?_
  refine r_get (pc := 16) E hC fo 7 (v := .int (kn + 1)) rfl rfl (by decide) uX5 (List.mem_cons_of_mem _ kw_1216) (fun _ h => h) dX5_knock_16 ?_
  refine r_iret (pc := 19) E hr hlk hS (by omega) (by omega) ?_ dX5_knock_19
  exact ⟨rfl, ⟨_, _, _, _, _, fo, fj, fk, fe, fr, fw, ⟨hPm, hPa, hPl, hPe, hPr, hPk⟩, hFk, hFe, hFr, hpk, hn9⟩⟩
set_option maxHeartbeats 4000000 in
set_option maxRecDepth 100000 in
/-- BestratiosModel.houseNow(I)I -/
theorem c_X5_houseNow (l : Launch) (D : va_G) (tk : Nat → ClassId) (N0 : Nat) (sa : Nat → Nat)  (sz : Nat) (P : Nat → Prop) (hPN : ∀ q, P q → N0 ≤ q) (mo n9 : Nat) (kn th : Int32) (tt bb : Nat → Int64) (eT eB oT oB : Int64) (pk : Nat) (ca rf : Int32) (vs : Nat → Value) (w_ : Int32) (kw : Nat) (hw1 : w_ = nI kw) (hw2 : kw ≤ 4) : Met l yX5_houseNow (wsy yX5_houseNow cX5_houseNow 7 (some .int)) ({ frames := 1, cells := 1, slots := 5, locals := 20 } : Room) (cP D tk N0 sa [.ref mo, .int w_] sz (fun H => MI D tk sa P mo tt bb eT eB oT oB pk ca rf vs kn n9 th H)) (kQi (fun r H => r = m_HS bb rf kn n9 ca kw) (nwA sz)) (1) (5) (nwA sz) := by
  refine mStart RX5 rfl (by decide +kernel) (Nat.le_of_ble_eq_true rfl) ?_
  intro p e s m args below meth c E hr hlk hnm hsz hC hF ls hl
  subst hsz
  obtain ⟨hx, hb, -⟩ := id E
  have hA : ∀ q, (nwA s.heap.size) q → N0 ≤ q := fun q h => Nat.le_trans hC.2.1 h
  have hn : ∀ q, s.heap.size ≤ q → (nwA s.heap.size) q := fun q h => h
  have hS : va_S (nwA s.heap.size) s.heap s.heap [] := va_S.rf
  have hl : lv_has ls 7 [(0, .ref mo), (1, .int w_)] := hl
  obtain ⟨Q, hQ⟩ : ∃ Q, Q = MQ below (kQi (fun r H => r = m_HS bb rf kn n9 ca kw) (nwA s.heap.size)) args s (1) (5) (nwA s.heap.size) := ⟨_, rfl⟩
  rw [← hQ]
  have hM : MI D tk sa P mo tt bb eT eB oT oB pk ca rf vs kn n9 th s.heap := hF
  obtain ⟨ra, rl, ex, ro, rt, fo, fj, fk, fe, fr, fw, ⟨hPm, hPa, hPl, hPe, hPr, hPk⟩, hFk, hFe, hFr, hpk, hn9⟩ := hM
  refine lv_iconst (pc := 0) (v := 0) hx hb dX5_houseNow_0 (by decide) ?_
  refine lv_istore_n (pc := 1) (lv' := [(2, .int 0), (0, .ref mo), (1, .int w_)]) hx hb dX5_houseNow_1 rfl hl (by decide) rfl (fun ls hl => ?_)
  refine lv_aload_n (pc := 2) hx hb dX5_houseNow_2 rfl (lv_at hl 1 rfl) ?_
  refine r_get (pc := 3) E hC fo 0 (v := .ref ra) rfl rfl (by decide) uX5 (List.mem_cons_of_mem _ kw_1209) (fun _ h => h) dX5_houseNow_3 ?_
  refine lv_astore_n (pc := 6) (lv' := [(3, .ref ra), (2, .int 0), (0, .ref mo), (1, .int w_)]) hx hb dX5_houseNow_6 rfl hl (by decide) rfl (fun ls hl => ?_)
  refine lv_aload_n (pc := 7) hx hb dX5_houseNow_7 rfl (lv_at hl 0 rfl) ?_
  refine r_alen (pc := 8) E hC fj 3 rfl (v := 6) rfl dX5_houseNow_8 ?_
  refine lv_istore (pc := 9) (lv' := [(4, .int 6), (3, .ref ra), (2, .int 0), (0, .ref mo), (1, .int w_)]) hx hb dX5_houseNow_9 hl (by decide) rfl (fun ls hl => ?_)
  refine lv_iconst (pc := 11) (v := 0) hx hb dX5_houseNow_11 (by decide) ?_
  refine lv_istore (pc := 12) (lv' := [(5, .int 0), (4, .int 6), (3, .ref ra), (2, .int 0), (0, .ref mo), (1, .int w_)]) hx hb dX5_houseNow_12 hl (by decide) rfl (fun ls hl => ?_)
  have loop_14 : ∀ (n : Nat) (k : Nat)(c9 : Int32) (y9 : Int32), 7 - k < n → k ≤ 6 → y9 = nI k → m_whL bb (6 - k) k c9 = m_whL bb 6 0 0 → ∀ (H : Heap) (locs : List Loc) (ls : Array Slot), va_S (nwA s.heap.size) s.heap H locs → c1 D mo (.inr (13, [.ref ra, .ref rl, .ref ex, .ref ro, .int (nI pk), .int ca, .int rf, .int kn, .int th])) H → c1 D ra (.inl (tk 3, 6, .inr (.inr (.inr (.inr (fun k => some (rt k))))))) H → MK D tk rt tt bb H → L2 D tk ex eT eB H → L2 D tk ro oT oB H → RW D tk sa P rl n9 vs H → lv_has ls 7 [(0, .ref mo), (1, .int w_), (2, .int c9), (3, .ref ra), (4, .int 6), (5, .int y9)] → W p l e ({ frames := 1, cells := 1, slots := 5, locals := 20 } : Room) s m args below meth c H locs (0) (0) Q (F0 m 14 ls []) := by
    intro n
    induction n with
    | zero =>
      intro k c9 y9 hf9 hk9 hx9 hg9 H locs ls hS fo fj fk fe fr fw hl
      omega
    | succ n ih_14 =>
      intro k c9 y9 hf9 hk9 hx9 hg9 H locs ls hS fo fj fk fe fr fw hl
      refine lv_iload (pc := 14) hx hb dX5_houseNow_14 (lv_at hl 5 rfl) ?_
      refine lv_iload (pc := 16) hx hb dX5_houseNow_16 (lv_at hl 4 rfl) ?_
      refine lv_icmp_ge (pc := 18) (tgt := 53) hx hb dX5_houseNow_18 (by decide) (fun c_1 => ?_) (fun c_1 => ?_)
      · refine lv_iconst (pc := 53) (v := 5) hx hb dX5_houseNow_53 (by decide) ?_
        have hS0_ := hS
        refine r_newi (pc := 54) E hC hS (N := 5) (by decide) (by decide) (by decide) (by dsimp only; omega) (by dsimp only; omega) dX5_houseNow_54 (fun qf2 H zq_ n_ ho_ hS => ?_)
        have fw := fw.old ho_
        have l_fo_f2 : mo < qf2 := zq_ ▸ fo.lt
        have fo := fo.kept (ho_ _ fo.lt)
        have l_fj_f2 : ra < qf2 := zq_ ▸ fj.lt
        have fj := fj.kept (ho_ _ fj.lt)
        have nW_f2 : ∀ k, k < 6 → rt k ≠ qf2 := fun k hk9 => Nat.ne_of_lt (zq_ ▸ (fk k hk9).lt)
        have fk := fk.kept (fun k hk9 => ho_ _ (fk k hk9).lt)
        have l_fe_f2 : ex < qf2 := zq_ ▸ fe.lt
        have fe := fe.kept (ho_ _ fe.lt)
        have l_fr_f2 : ro < qf2 := zq_ ▸ fr.lt
        have fr := fr.kept (ho_ _ fr.lt)
        have f2 := n_
        have s_f2 : s.heap.size ≤ qf2 := zq_ ▸ hS0_.1
        have g_f2 := hn _ s_f2
        refine lv_dup (pc := 56) hx hb dX5_houseNow_56 rfl ?_
        refine lv_iconst (pc := 57) (v := 0) hx hb dX5_houseNow_57 (by decide) ?_
        refine lv_iload_n (pc := 58) hx hb dX5_houseNow_58 rfl (lv_at hl 2 rfl) ?_
        refine r_iast (pc := 59) E hC f2 hS g_f2 (by unfold vp_in; decide) dX5_houseNow_59 (fun H locs n_ ho hz hS => ?_)
        have fw := fw.put ho (fun q9 h9 => clA.ne h9 f2.cla (hC.oa 7 5 rfl rfl)) (fun q9 h9 => clA.ne h9 f2.cla (hC.aa 4 5 rfl rfl (by dsimp only; decide))) (fun q9 h9 => clA.ne h9 f2.cla (hC.cea (Or.inr rfl) 5 rfl))
        have fo := fo.kept (ho _ (clA.ne fo.cl f2.cla (hC.oa 13 5 rfl rfl)))
        have fj := fj.kept (ho _ (clA.ne fj.cla f2.cla (hC.aa 3 5 rfl rfl (by dsimp only; decide))))
        have fk := fk.kept (fun k hk9 => ho _ (nW_f2 k hk9))
        have fe := fe.kept (ho _ (clA.ne fe.cla f2.cla (hC.aa 0 5 rfl rfl (by dsimp only; decide))))
        have fr := fr.kept (ho _ (clA.ne fr.cla f2.cla (hC.aa 0 5 rfl rfl (by dsimp only; decide))))
        have f2 : c1 D qf2 (.inl (tk 5, 5, .inl (va_up (fun _ => 0) 0 (c9)))) H := n_
        refine lv_dup (pc := 60) hx hb dX5_houseNow_60 rfl ?_
        refine lv_iconst (pc := 61) (v := 1) hx hb dX5_houseNow_61 (by decide) ?_
        refine lv_aload_n (pc := 62) hx hb dX5_houseNow_62 rfl (lv_at hl 0 rfl) ?_
        refine r_get (pc := 63) E hC fo 6 (v := .int rf) rfl rfl (by decide) uX5 (List.mem_cons_of_mem _ kw_1215) (fun _ h => h) dX5_houseNow_63 ?_
        refine r_iast (pc := 66) E hC f2 hS g_f2 (by unfold vp_in; decide) dX5_houseNow_66 (fun H locs n_ ho hz hS => ?_)
        have fw := fw.put ho (fun q9 h9 => clA.ne h9 f2.cla (hC.oa 7 5 rfl rfl)) (fun q9 h9 => clA.ne h9 f2.cla (hC.aa 4 5 rfl rfl (by dsimp only; decide))) (fun q9 h9 => clA.ne h9 f2.cla (hC.cea (Or.inr rfl) 5 rfl))
        have fo := fo.kept (ho _ (clA.ne fo.cl f2.cla (hC.oa 13 5 rfl rfl)))
        have fj := fj.kept (ho _ (clA.ne fj.cla f2.cla (hC.aa 3 5 rfl rfl (by dsimp only; decide))))
        have fk := fk.kept (fun k hk9 => ho _ (nW_f2 k hk9))
        have fe := fe.kept (ho _ (clA.ne fe.cla f2.cla (hC.aa 0 5 rfl rfl (by dsimp only; decide))))
        have fr := fr.kept (ho _ (clA.ne fr.cla f2.cla (hC.aa 0 5 rfl rfl (by dsimp only; decide))))
        have f2 : c1 D qf2 (.inl (tk 5, 5, .inl (va_up (va_up (fun _ => 0) 0 (c9)) 1 (rf)))) H := n_
        refine lv_dup (pc := 67) hx hb dX5_houseNow_67 rfl ?_
        refine lv_iconst (pc := 68) (v := 2) hx hb dX5_houseNow_68 (by decide) ?_
        refine lv_aload_n (pc := 69) hx hb dX5_houseNow_69 rfl (lv_at hl 0 rfl) ?_
        refine r_get (pc := 70) E hC fo 7 (v := .int kn) rfl rfl (by decide) uX5 (List.mem_cons_of_mem _ kw_1216) (fun _ h => h) dX5_houseNow_70 ?_
        refine r_iast (pc := 73) E hC f2 hS g_f2 (by unfold vp_in; decide) dX5_houseNow_73 (fun H locs n_ ho hz hS => ?_)
        have fw := fw.put ho (fun q9 h9 => clA.ne h9 f2.cla (hC.oa 7 5 rfl rfl)) (fun q9 h9 => clA.ne h9 f2.cla (hC.aa 4 5 rfl rfl (by dsimp only; decide))) (fun q9 h9 => clA.ne h9 f2.cla (hC.cea (Or.inr rfl) 5 rfl))
        have fo := fo.kept (ho _ (clA.ne fo.cl f2.cla (hC.oa 13 5 rfl rfl)))
        have fj := fj.kept (ho _ (clA.ne fj.cla f2.cla (hC.aa 3 5 rfl rfl (by dsimp only; decide))))
        have fk := fk.kept (fun k hk9 => ho _ (nW_f2 k hk9))
        have fe := fe.kept (ho _ (clA.ne fe.cla f2.cla (hC.aa 0 5 rfl rfl (by dsimp only; decide))))
        have fr := fr.kept (ho _ (clA.ne fr.cla f2.cla (hC.aa 0 5 rfl rfl (by dsimp only; decide))))
        have f2 : c1 D qf2 (.inl (tk 5, 5, .inl (va_up (va_up (va_up (fun _ => 0) 0 (c9)) 1 (rf)) 2 (kn)))) H := n_
        refine lv_dup (pc := 74) hx hb dX5_houseNow_74 rfl ?_
        refine lv_iconst (pc := 75) (v := 3) hx hb dX5_houseNow_75 (by decide) ?_
        refine lv_aload_n (pc := 76) hx hb dX5_houseNow_76 rfl (lv_at hl 0 rfl) ?_
        refine r_get (pc := 77) E hC fo 1 (v := .ref rl) rfl rfl (by decide) uX5 (List.mem_cons_of_mem _ kw_1210) (fun _ h => h) dX5_houseNow_77 ?_
        obtain ⟨md_3, b_3, fz3⟩ := fw.obj
        refine k_i (pc := 80) (k_V E hC hS hA hl.1 (c1.recv hC fz3 rfl) rfl (c_Jx4a65c_size_8abf5 l D tk N0 sa H.size rl b_3 n9 md_3) kw_1546 kw_1547 kw_1548 kw_8 kw_1549 (n := 0) (by decide +kernel) rfl ⟨⟨rfl, rfl⟩, ⟨Nat.le_of_ble_eq_true rfl, Nat.le_of_ble_eq_true rfl⟩, (by dsimp only; omega), (by dsimp only; omega)⟩ rfl (Nat.le_of_ble_eq_true rfl) fz3 dX5_houseNow_80) hS (fun q z w => absurd w (Nat.not_le.mpr z)) hn (fun r_4 H locs hR hz hk hS => ?_)
        have fw := fw.new hk
        have fo := fo.kept (hk _ fo.lt (Nat.not_le.mpr fo.lt))
        have fj := fj.kept (hk _ fj.lt (Nat.not_le.mpr fj.lt))
        have fk := fk.new hk
        have fe := fe.kept (hk _ fe.lt (Nat.not_le.mpr fe.lt))
        have fr := fr.kept (hk _ fr.lt (Nat.not_le.mpr fr.lt))
        have f2 := f2.kept (hk _ f2.lt (Nat.not_le.mpr f2.lt))
        have fz3 := fz3.kept (hk _ fz3.lt (Nat.not_le.mpr fz3.lt))
        rw [show r_4 = nI n9 from hR]
        refine r_iast (pc := 83) E hC f2 hS g_f2 (by unfold vp_in; decide) dX5_houseNow_83 (fun H locs n_ ho hz hS => ?_)
        have fw := fw.put ho (fun q9 h9 => clA.ne h9 f2.cla (hC.oa 7 5 rfl rfl)) (fun q9 h9 => clA.ne h9 f2.cla (hC.aa 4 5 rfl rfl (by dsimp only; decide))) (fun q9 h9 => clA.ne h9 f2.cla (hC.cea (Or.inr rfl) 5 rfl))
        have fo := fo.kept (ho _ (clA.ne fo.cl f2.cla (hC.oa 13 5 rfl rfl)))
        have fj := fj.kept (ho _ (clA.ne fj.cla f2.cla (hC.aa 3 5 rfl rfl (by dsimp only; decide))))
        have fk := fk.kept (fun k hk9 => ho _ (nW_f2 k hk9))
        have fe := fe.kept (ho _ (clA.ne fe.cla f2.cla (hC.aa 0 5 rfl rfl (by dsimp only; decide))))
        have fr := fr.kept (ho _ (clA.ne fr.cla f2.cla (hC.aa 0 5 rfl rfl (by dsimp only; decide))))
        have fz3 := fz3.kept (ho _ (clA.ne fz3.cl f2.cla (hC.oa 7 5 rfl rfl)))
        have f2 : c1 D qf2 (.inl (tk 5, 5, .inl (va_up (va_up (va_up (va_up (fun _ => 0) 0 (c9)) 1 (rf)) 2 (kn)) 3 (nI n9)))) H := n_
        refine lv_dup (pc := 84) hx hb dX5_houseNow_84 rfl ?_
        refine lv_iconst (pc := 85) (v := 4) hx hb dX5_houseNow_85 (by decide) ?_
        refine lv_aload_n (pc := 86) hx hb dX5_houseNow_86 rfl (lv_at hl 0 rfl) ?_
        refine r_get (pc := 87) E hC fo 5 (v := .int ca) rfl rfl (by decide) uX5 (List.mem_cons_of_mem _ kw_1214) (fun _ h => h) dX5_houseNow_87 ?_
        refine r_iast (pc := 90) E hC f2 hS g_f2 (by unfold vp_in; decide) dX5_houseNow_90 (fun H locs n_ ho hz hS => ?_)
        have fw := fw.put ho (fun q9 h9 => clA.ne h9 f2.cla (hC.oa 7 5 rfl rfl)) (fun q9 h9 => clA.ne h9 f2.cla (hC.aa 4 5 rfl rfl (by dsimp only; decide))) (fun q9 h9 => clA.ne h9 f2.cla (hC.cea (Or.inr rfl) 5 rfl))
        have fo := fo.kept (ho _ (clA.ne fo.cl f2.cla (hC.oa 13 5 rfl rfl)))
        have fj := fj.kept (ho _ (clA.ne fj.cla f2.cla (hC.aa 3 5 rfl rfl (by dsimp only; decide))))
        have fk := fk.kept (fun k hk9 => ho _ (nW_f2 k hk9))
        have fe := fe.kept (ho _ (clA.ne fe.cla f2.cla (hC.aa 0 5 rfl rfl (by dsimp only; decide))))
        have fr := fr.kept (ho _ (clA.ne fr.cla f2.cla (hC.aa 0 5 rfl rfl (by dsimp only; decide))))
        have fz3 := fz3.kept (ho _ (clA.ne fz3.cl f2.cla (hC.oa 7 5 rfl rfl)))
        have f2 : c1 D qf2 (.inl (tk 5, 5, .inl (va_up (va_up (va_up (va_up (va_up (fun _ => 0) 0 (c9)) 1 (rf)) 2 (kn)) 3 (nI n9)) 4 (ca)))) H := n_
        refine lv_astore_n (pc := 91) (lv' := [(3, .ref qf2), (0, .ref mo), (1, .int w_), (2, .int c9), (4, .int 6), (5, .int y9)]) hx hb dX5_houseNow_91 rfl hl (by decide) rfl (fun ls hl => ?_)
        refine lv_aload_n (pc := 92) hx hb dX5_houseNow_92 rfl (lv_at hl 0 rfl) ?_
        refine lv_iload_n (pc := 93) hx hb dX5_houseNow_93 rfl (lv_at hl 2 rfl) ?_
        refine r_iald (pc := 94) E hC f2 (by rw [hw1]; exact vp_in_nI (by omega) (by decide)) dX5_houseNow_94 ?_
        try rw [hQ]
        refine r_iret (pc := 95) E hr hlk hS (by omega) (by omega) ?_ dX5_houseNow_95
        have hk6 : 6 ≤ k := by
          have h7 := c_1
          rw [hx9] at h7
          exact (nI_leI (a := 6) (by decide) (by omega)).mp h7
        rw [show 6 - k = 0 by omega] at hg9
        have hg8 : c9 = m_whL bb 6 0 0 := hg9
        have hk4 : kw = 0 ∨ kw = 1 ∨ kw = 2 ∨ kw = 3 ∨ kw = 4 := by omega
        subst hw1
        rw [nI_clamp (by omega), hg8]
        rcases hk4 with rfl | rfl | rfl | rfl | rfl <;> (simp [m_HS, va_up])
      · have hkn : k < 6 := Nat.not_le.mp (fun z9 => c_1 (by rw [hx9]; exact nI_le (a := 6) z9 (by omega)))
        refine lv_aload_n (pc := 21) hx hb dX5_houseNow_21 rfl (lv_at hl 3 rfl) ?_
        refine lv_iload (pc := 22) hx hb dX5_houseNow_22 (lv_at hl 5 rfl) ?_
        refine r_aaldJ (pc := 24) E hC fj k hx9 hkn (by decide) rfl dX5_houseNow_24 ?_
        have fL6 := fk k hkn
        have mF_fL6 := hFk k hkn
        have Pq_fL6 := hPk k hkn
        refine lv_astore (pc := 25) (lv' := [(6, .ref (rt k)), (0, .ref mo), (1, .int w_), (2, .int c9), (3, .ref ra), (4, .int 6), (5, .int y9)]) hx hb dX5_houseNow_25 hl (by decide) rfl (fun ls hl => ?_)
        refine lv_iload_n (pc := 27) hx hb dX5_houseNow_27 rfl (lv_at hl 3 rfl) ?_
        refine lv_aload (pc := 28) hx hb dX5_houseNow_28 (lv_at hl 0 rfl) ?_
        refine lv_iconst (pc := 30) (v := 1) hx hb dX5_houseNow_30 (by decide) ?_
        refine r_l1 (pc := 31) E hC fL6 dX5_houseNow_31 ?_
        refine lv_lconst (pc := 32) (v := 1) hx hb dX5_houseNow_32 (by decide) ?_
        refine r_lcne (pc := 33) (tgt := 41) E dX5_houseNow_33 dX5_houseNow_34 (by decide) (fun c_7 => ?_) (fun c_7 => ?_)
        · refine lv_iconst (pc := 41) (v := 0) hx hb dX5_houseNow_41 (by decide) ?_
          refine k_i (pc := 42) (k_S E hC hS hA hl.1 (c_X5_bit l D tk N0 sa H.size 0 ) kw_1271 kw_1272 kw_5 kw_1273 (n := 1) (by decide +kernel) rfl ⟨⟨rfl, rfl⟩, ⟨Nat.le_of_ble_eq_true rfl, Nat.le_of_ble_eq_true rfl⟩, (by dsimp only; omega), (by dsimp only; omega)⟩ rfl (Nat.le_of_ble_eq_true rfl) trivial dX5_houseNow_42) hS (fun q z w => absurd w (Nat.not_le.mpr z)) hn (fun r_8 H locs hR hz hk hS => ?_)
          have er_8 := hR
          have fw := fw.new hk
          have fo := fo.kept (hk _ fo.lt (Nat.not_le.mpr fo.lt))
          have fj := fj.kept (hk _ fj.lt (Nat.not_le.mpr fj.lt))
          have fk := fk.new hk
          have fe := fe.kept (hk _ fe.lt (Nat.not_le.mpr fe.lt))
          have fr := fr.kept (hk _ fr.lt (Nat.not_le.mpr fr.lt))
          have fL6 := fL6.kept (hk _ fL6.lt (Nat.not_le.mpr fL6.lt))
          refine lv_iadd (pc := 45) hx hb dX5_houseNow_45 ?_
          obtain ⟨x_10, ex_10⟩ : ∃ z9 : Int32, z9 = c9 + r_8 := ⟨_, rfl⟩
          rw [← ex_10]
          refine lv_istore_n (pc := 46) (lv' := [(2, .int x_10), (6, .ref (rt k)), (0, .ref mo), (1, .int w_), (3, .ref ra), (4, .int 6), (5, .int y9)]) hx hb dX5_houseNow_46 rfl hl (by decide) rfl (fun ls hl => ?_)
          obtain ⟨x_11, ex_11⟩ : ∃ z9 : Int32, z9 = y9 + 1 := ⟨_, rfl⟩
          refine lv_iinc (pc := 47) (v := x_11) (lv' := [(5, .int x_11), (2, .int x_10), (6, .ref (rt k)), (0, .ref mo), (1, .int w_), (3, .ref ra), (4, .int 6)]) hx hb dX5_houseNow_47 hl (k := 6) rfl (by rw [ex_11]; rfl) (by decide) rfl (fun ls hl => ?_)
          refine lv_goto (pc := 50) (tgt := 14) hx hb dX5_houseNow_50 (by decide) ?_
          refine W.widen (k := 0) (n := 0) (by omega) (by omega) ?_
          exact ih_14  (k + 1)  x_10 x_11 (by omega) (by omega) (i_up hx9 ex_11) (m_whS (show 6 - k = (6 - (k + 1)) + 1 by omega) hg9 (by rw [er_8, if_neg c_7]; rfl) ex_10) _ _ _ hS fo fj fk fe fr fw (lv_sub hl [3, 4, 1, 5, 6, 0] rfl)
        · refine lv_iconst (pc := 37) (v := 1) hx hb dX5_houseNow_37 (by decide) ?_
          refine lv_goto (pc := 38) (tgt := 42) hx hb dX5_houseNow_38 (by decide) ?_
          refine k_i (pc := 42) (k_S E hC hS hA hl.1 (c_X5_bit l D tk N0 sa H.size 1 ) kw_1271 kw_1272 kw_5 kw_1273 (n := 1) (by decide +kernel) rfl ⟨⟨rfl, rfl⟩, ⟨Nat.le_of_ble_eq_true rfl, Nat.le_of_ble_eq_true rfl⟩, (by dsimp only; omega), (by dsimp only; omega)⟩ rfl (Nat.le_of_ble_eq_true rfl) trivial dX5_houseNow_42) hS (fun q z w => absurd w (Nat.not_le.mpr z)) hn (fun r_12 H locs hR hz hk hS => ?_)
          have er_12 := hR
          have fw := fw.new hk
          have fo := fo.kept (hk _ fo.lt (Nat.not_le.mpr fo.lt))
          have fj := fj.kept (hk _ fj.lt (Nat.not_le.mpr fj.lt))
          have fk := fk.new hk
          have fe := fe.kept (hk _ fe.lt (Nat.not_le.mpr fe.lt))
          have fr := fr.kept (hk _ fr.lt (Nat.not_le.mpr fr.lt))
          have fL6 := fL6.kept (hk _ fL6.lt (Nat.not_le.mpr fL6.lt))
          refine lv_iadd (pc := 45) hx hb dX5_houseNow_45 ?_
          obtain ⟨x_14, ex_14⟩ : ∃ z9 : Int32, z9 = c9 + r_12 := ⟨_, rfl⟩
          rw [← ex_14]
          refine lv_istore_n (pc := 46) (lv' := [(2, .int x_14), (6, .ref (rt k)), (0, .ref mo), (1, .int w_), (3, .ref ra), (4, .int 6), (5, .int y9)]) hx hb dX5_houseNow_46 rfl hl (by decide) rfl (fun ls hl => ?_)
          obtain ⟨x_15, ex_15⟩ : ∃ z9 : Int32, z9 = y9 + 1 := ⟨_, rfl⟩
          refine lv_iinc (pc := 47) (v := x_15) (lv' := [(5, .int x_15), (2, .int x_14), (6, .ref (rt k)), (0, .ref mo), (1, .int w_), (3, .ref ra), (4, .int 6)]) hx hb dX5_houseNow_47 hl (k := 6) rfl (by rw [ex_15]; rfl) (by decide) rfl (fun ls hl => ?_)
          refine lv_goto (pc := 50) (tgt := 14) hx hb dX5_houseNow_50 (by decide) ?_
          refine W.widen (k := 0) (n := 0) (by omega) (by omega) ?_
          exact ih_14  (k + 1)  x_14 x_15 (by omega) (by omega) (i_up hx9 ex_15) (m_whS (show 6 - k = (6 - (k + 1)) + 1 by omega) hg9 (by rw [er_12, if_pos c_7]; rfl) ex_14) _ _ _ hS fo fj fk fe fr fw (lv_sub hl [3, 4, 1, 5, 6, 0] rfl)
  refine W.widen (k := 0) (n := 0) (by omega) (by omega) ?_
  exact loop_14 8 0  0 0 (by omega) (Nat.zero_le _) nI_0.symm rfl _ _ _ hS fo fj fk fe fr fw (lv_sub hl [4, 5, 3, 2, 1, 0] rfl)
set_option maxHeartbeats 4000000 in
set_option maxRecDepth 100000 in
/-- BestratiosModel.house(I)I -/
theorem c_X5_house (l : Launch) (D : va_G) (tk : Nat → ClassId) (N0 : Nat) (sa : Nat → Nat)  (sz : Nat) (P : Nat → Prop) (hPN : ∀ q, P q → N0 ≤ q) (hPs : ∀ q, sz ≤ q → P q) (mo n9 : Nat) (kn th : Int32) (tt bb : Nat → Int64) (eT eB oT oB : Int64) (pk : Nat) (ca rf : Int32) (vs : Nat → Value) (x1 : Int32) : Met l yX5_house (wsy yX5_house cX5_house 2 (some .int)) ({ frames := 2, cells := 1, slots := 5, locals := 46 } : Room) (cP D tk N0 sa [.ref mo, .int x1] sz (fun H => MI D tk sa P mo tt bb eT eB oT oB pk ca rf vs kn n9 th H)) (kQi (fun r H => ∃ th1, MI D tk sa P mo tt bb eT eB oT oB pk ca rf vs kn n9 th1 H ∧ QU (m_not (m_isIn x1 0 4)) 0 (m_HS bb rf kn n9 ca (nn x1)) r th1) (P)) (1) (5) (P) := by
  refine mStart RX5 rfl (by decide +kernel) (Nat.le_of_ble_eq_true rfl) ?_
  intro p e s m args below meth c E hr hlk hnm hsz hC hF ls hl
  subst hsz
  obtain ⟨hx, hb, -⟩ := id E
  have hA : ∀ q, (P) q → N0 ≤ q := hPN
  have hn : ∀ q, s.heap.size ≤ q → (P) q := hPs
  have hS : va_S (P) s.heap s.heap [] := va_S.rf
  have hl : lv_has ls 2 [(0, .ref mo), (1, .int x1)] := hl
  have hM : MI D tk sa P mo tt bb eT eB oT oB pk ca rf vs kn n9 th s.heap := hF
  obtain ⟨ra, rl, ex, ro, rt, fo, fj, fk, fe, fr, fw, ⟨hPm, hPa, hPl, hPe, hPr, hPk⟩, hFk, hFe, hFr, hpk, hn9⟩ := hM
  have g_fo := hPm
  have g_fj := hPa
  refine lv_aload_n (pc := 0) hx hb dX5_house_0 rfl (lv_at hl 0 rfl) ?_
  refine lv_iload_n (pc := 1) hx hb dX5_house_1 rfl (lv_at hl 1 rfl) ?_
  refine lv_iconst (pc := 2) (v := 0) hx hb dX5_house_2 (by decide) ?_
  refine lv_iconst (pc := 3) (v := 4) hx hb dX5_house_3 (by decide) ?_
  refine k_i (pc := 4) (k_S E hC hS hA hl.1 (c_X5_isIn l D tk N0 sa s.heap.size x1 0 4 ) kw_1248 kw_1249 kw_5 kw_1250 (n := 3) (by decide +kernel) rfl ⟨⟨rfl, rfl⟩, ⟨Nat.le_of_ble_eq_true rfl, Nat.le_of_ble_eq_true rfl⟩, (by dsimp only; omega), (by dsimp only; omega)⟩ rfl (Nat.le_of_ble_eq_true rfl) trivial dX5_house_4) hS (fun q z w => absurd w (Nat.not_le.mpr z)) hn (fun r_1 H locs hR hz hk hS => ?_)
  have er_1 := hR
  have fw := fw.new hk
  have fo := fo.kept (hk _ fo.lt (Nat.not_le.mpr fo.lt))
  have fj := fj.kept (hk _ fj.lt (Nat.not_le.mpr fj.lt))
  have fk := fk.new hk
  have fe := fe.kept (hk _ fe.lt (Nat.not_le.mpr fe.lt))
  have fr := fr.kept (hk _ fr.lt (Nat.not_le.mpr fr.lt))
  refine lv_if_ne (pc := 7) (tgt := 14) hx hb dX5_house_7 (by decide) (fun c_3 => ?_) (fun c_3 => ?_)
  · refine lv_iconst (pc := 14) (v := 0) hx hb dX5_house_14 (by decide) ?_
    refine lv_iconst (pc := 15) (v := 0) hx hb dX5_house_15 (by decide) ?_
    have hZ0_ := hS.1
    have t_fo := fo.lt
    have t_fj := fj.lt
    have t_fk := fun k (hk9 : k < 6) => (fk k hk9).lt
    have t_fe := fe.lt
    have t_fr := fr.lt
    refine k_i (pc := 16) (k_V E hC hS hA hl.1 (c1.recv hC fo rfl) rfl (c_X5_fails l D tk N0 sa H.size P hPN (fun q h9 => hPs q (Nat.le_trans hS.1 h9)) mo n9 kn th tt bb eT eB oT oB pk ca rf vs 0 0 ) kw_1251 kw_1253 kp_20 kw_5 kw_1254 (n := 2) (by decide +kernel) rfl ⟨⟨rfl, rfl⟩, ⟨Nat.le_of_ble_eq_true rfl, Nat.le_of_ble_eq_true rfl⟩, (by dsimp only; omega), (by dsimp only; omega)⟩ rfl (Nat.le_of_ble_eq_true rfl) ⟨_, _, _, _, _, fo, fj, fk, fe, fr, fw, ⟨hPm, hPa, hPl, hPe, hPr, hPk⟩, hFk, hFe, hFr, hpk, hn9⟩ dX5_house_16) hS (fun q _ h => h) hn (fun r_4 H locs hR hz hk hS => ?_)
    obtain ⟨er_4, hM⟩ := hR
    obtain ⟨ra, rl, ex, ro, rt, fo, fj, fk, fe, fr, fw, ⟨hPm, hPa, hPl, hPe, hPr, hPk⟩, hFk, hFe, hFr, hpk, hn9⟩ := hM
    have g_fo := hPm
    have g_fj := hPa
    have ef_r_4 : r_4 = 0 := er_4.trans rfl
    rw [ef_r_4]
    refine lv_if_eq (pc := 19) (tgt := 26) hx hb dX5_house_19 (by decide) (fun c_5 => ?_) (fun c_5 => ?_)
    rotate_left
    · exact absurd (by decide) c_5
    refine lv_aload_n (pc := 26) hx hb dX5_house_26 rfl (lv_at hl 0 rfl) ?_
    refine lv_iload_n (pc := 27) hx hb dX5_house_27 rfl (lv_at hl 1 rfl) ?_
    obtain ⟨kw, hw1, hw2⟩ := m_in (x := x1) (hi_ := 4) (by decide) (fun z9 => c_3 (er_1.trans z9))
    have hZ0_ := hS.1
    have t_fo := fo.lt
    have t_fj := fj.lt
    have t_fk := fun k (hk9 : k < 6) => (fk k hk9).lt
    have t_fe := fe.lt
    have t_fr := fr.lt
    refine k_i (pc := 28) (k_V E hC hS hA hl.1 (c1.recv hC fo rfl) rfl (c_X5_houseNow l D tk N0 sa H.size P hPN mo n9 kn ((m_th 0 0)) tt bb eT eB oT oB pk ca rf vs x1 kw hw1 hw2) kw_1791 kw_1793 kp_35 kw_5 kw_1794 (n := 1) (by decide +kernel) rfl ⟨⟨rfl, rfl⟩, ⟨Nat.le_of_ble_eq_true rfl, Nat.le_of_ble_eq_true rfl⟩, (by dsimp only; omega), (by dsimp only; omega)⟩ rfl (Nat.le_of_ble_eq_true rfl) ⟨_, _, _, _, _, fo, fj, fk, fe, fr, fw, ⟨hPm, hPa, hPl, hPe, hPr, hPk⟩, hFk, hFe, hFr, hpk, hn9⟩ dX5_house_28) hS (fun q z w => absurd w (Nat.not_le.mpr z)) hn (fun r_6 H locs hR hz hk hS => ?_)
    have fw := fw.new hk
    have fo := fo.kept (hk _ fo.lt (Nat.not_le.mpr fo.lt))
    have fj := fj.kept (hk _ fj.lt (Nat.not_le.mpr fj.lt))
    have fk := fk.new hk
    have fe := fe.kept (hk _ fe.lt (Nat.not_le.mpr fe.lt))
    have fr := fr.kept (hk _ fr.lt (Nat.not_le.mpr fr.lt))
    have er_6 := hR
    refine r_iret (pc := 31) E hr hlk hS (by omega) (by omega) ?_ dX5_house_31
    exact ⟨_, ⟨_, _, _, _, _, fo, fj, fk, fe, fr, fw, ⟨hPm, hPa, hPl, hPe, hPr, hPk⟩, hFk, hFe, hFr, hpk, hn9⟩, QU.ok (by subst er_1 er_6; first | rfl | (simp [m_or, m_not, m_is0, m_lt0, m_fl, c_3]; done)) (by subst er_1 er_6; first | rfl | (simp [m_or, m_not, m_is0, m_lt0, m_fl, c_3]; done)) (er_4.symm.trans ef_r_4) (by rw [er_6, show nn x1 = kw from by rw [hw1]; exact nI_clamp (by omega)])⟩
  · refine lv_iconst (pc := 10) (v := 1) hx hb dX5_house_10 (by decide) ?_
    refine lv_goto (pc := 11) (tgt := 15) hx hb dX5_house_11 (by decide) ?_
    refine lv_iconst (pc := 15) (v := 0) hx hb dX5_house_15 (by decide) ?_
    have hZ0_ := hS.1
    have t_fo := fo.lt
    have t_fj := fj.lt
    have t_fk := fun k (hk9 : k < 6) => (fk k hk9).lt
    have t_fe := fe.lt
    have t_fr := fr.lt
    refine k_i (pc := 16) (k_V E hC hS hA hl.1 (c1.recv hC fo rfl) rfl (c_X5_fails l D tk N0 sa H.size P hPN (fun q h9 => hPs q (Nat.le_trans hS.1 h9)) mo n9 kn th tt bb eT eB oT oB pk ca rf vs 1 0 ) kw_1251 kw_1253 kp_20 kw_5 kw_1254 (n := 2) (by decide +kernel) rfl ⟨⟨rfl, rfl⟩, ⟨Nat.le_of_ble_eq_true rfl, Nat.le_of_ble_eq_true rfl⟩, (by dsimp only; omega), (by dsimp only; omega)⟩ rfl (Nat.le_of_ble_eq_true rfl) ⟨_, _, _, _, _, fo, fj, fk, fe, fr, fw, ⟨hPm, hPa, hPl, hPe, hPr, hPk⟩, hFk, hFe, hFr, hpk, hn9⟩ dX5_house_16) hS (fun q _ h => h) hn (fun r_7 H locs hR hz hk hS => ?_)
    obtain ⟨er_7, hM⟩ := hR
    obtain ⟨ra, rl, ex, ro, rt, fo, fj, fk, fe, fr, fw, ⟨hPm, hPa, hPl, hPe, hPr, hPk⟩, hFk, hFe, hFr, hpk, hn9⟩ := hM
    have g_fo := hPm
    have g_fj := hPa
    have ef_r_7 : r_7 = 1 := er_7.trans (if_neg (by decide))
    rw [ef_r_7]
    refine lv_if_eq (pc := 19) (tgt := 26) hx hb dX5_house_19 (by decide) (fun c_8 => ?_) (fun c_8 => ?_)
    · exact absurd c_8 (by decide)
    refine lv_iconst (pc := 22) (v := 0) hx hb dX5_house_22 (by decide) ?_
    refine lv_goto (pc := 23) (tgt := 31) hx hb dX5_house_23 (by decide) ?_
    refine r_iret (pc := 31) E hr hlk hS (by omega) (by omega) ?_ dX5_house_31
    exact ⟨_, ⟨_, _, _, _, _, fo, fj, fk, fe, fr, fw, ⟨hPm, hPa, hPl, hPe, hPr, hPk⟩, hFk, hFe, hFr, hpk, hn9⟩, QU.fail (by subst er_1; first | rfl | (simp [m_or, m_not, m_is0, m_lt0, m_fl, c_3]; done)) (by subst er_1; first | rfl | (simp [m_or, m_not, m_is0, m_lt0, m_fl, c_3]; done)) (fun z9 => absurd (ef_r_7.symm.trans (er_7.trans z9)) (by decide))⟩
set_option maxHeartbeats 4000000 in
set_option maxRecDepth 100000 in
/-- BestratiosModel.isSound()Z -/
theorem c_X5_isSound (l : Launch) (D : va_G) (tk : Nat → ClassId) (N0 : Nat) (sa : Nat → Nat)  (sz : Nat) (P : Nat → Prop) (hPN : ∀ q, P q → N0 ≤ q) (hPs : ∀ q, sz ≤ q → P q) (mo n9 : Nat) (kn th : Int32) (tt bb : Nat → Int64) (eT eB oT oB : Int64) (pk : Nat) (ca rf : Int32) (vs : Nat → Value)  : Met l yX5_isSound (wsy yX5_isSound cX5_isSound 1 (some .boolean)) ({ frames := 0, cells := 0, slots := 0, locals := 0 } : Room) (cP D tk N0 sa [.ref mo] sz (fun H => MI D tk sa P mo tt bb eT eB oT oB pk ca rf vs kn n9 th H)) (kQi (fun r H => r = 1 ∧ MI D tk sa P mo tt bb eT eB oT oB pk ca rf vs kn n9 0 H) (P)) (0) (0) (P) := by
  refine mStart RX5 rfl (by decide +kernel) (Nat.le_of_ble_eq_true rfl) ?_
  intro p e s m args below meth c E hr hlk hnm hsz hC hF ls hl
  subst hsz
  obtain ⟨hx, hb, -⟩ := id E
  have hA : ∀ q, (P) q → N0 ≤ q := hPN
  have hn : ∀ q, s.heap.size ≤ q → (P) q := hPs
  have hS : va_S (P) s.heap s.heap [] := va_S.rf
  have hl : lv_has ls 1 [(0, .ref mo)] := hl
  have hM : MI D tk sa P mo tt bb eT eB oT oB pk ca rf vs kn n9 th s.heap := hF
  obtain ⟨ra, rl, ex, ro, rt, fo, fj, fk, fe, fr, fw, ⟨hPm, hPa, hPl, hPe, hPr, hPk⟩, hFk, hFe, hFr, hpk, hn9⟩ := hM
  have g_fo := hPm
  have g_fj := hPa
  refine lv_aload_n (pc := 0) hx hb dX5_isSound_0 rfl (lv_at hl 0 rfl) ?_
  refine lv_iconst (pc := 1) (v := 0) hx hb dX5_isSound_1 (by decide) ?_
  refine r_put (pc := 2) E hC fo hS g_fo 8 tyX5 tyX5_ok nmX5 rfl (by decide) (Nat.le_of_ble_eq_true rfl) uX5 (List.mem_cons_of_mem _ kw_1217) (fun _ h => h) rfl rfl rfl dX5_isSound_2 (fun H locs n_ ho hz hS => ?_)
  have fw := fw.put ho (fun q9 h9 => clA.ne h9 fo.cl (hC.oo 7 13 rfl rfl (by decide))) (fun q9 h9 => clA.ne h9 fo.cl (hC.ao 13 4 rfl rfl)) (fun q9 h9 => clA.ne h9 fo.cl (hC.ceo (Or.inr rfl) 13 rfl (by decide)))
  have nW_fo : ∀ k, k < 6 → rt k ≠ mo := fun k hk9 => clA.ne (fk k hk9).cla fo.cl (hC.ao 13 0 rfl rfl)
  have fj := fj.kept (ho _ (clA.ne fj.cla fo.cl (hC.ao 13 3 rfl rfl)))
  have fk := fk.kept (fun k hk9 => ho _ (nW_fo k hk9))
  have fe := fe.kept (ho _ (clA.ne fe.cla fo.cl (hC.ao 13 0 rfl rfl)))
  have fr := fr.kept (ho _ (clA.ne fr.cla fo.cl (hC.ao 13 0 rfl rfl)))
  have fo : c1 D mo (.inr (13, [.ref ra, .ref rl, .ref ex, .ref ro, .int (nI pk), .int ca, .int rf, .int kn, .int 0])) H := n_
  refine lv_iconst (pc := 5) (v := 1) hx hb dX5_isSound_5 (by decide) ?_
  refine r_zret (pc := 6) E hr hlk hS (by omega) (by omega) rfl ?_ dX5_isSound_6
  exact ⟨rfl, ⟨_, _, _, _, _, fo, fj, fk, fe, fr, fw, ⟨hPm, hPa, hPl, hPe, hPr, hPk⟩, hFk, hFe, hFr, hpk, hn9⟩⟩
set_option maxHeartbeats 4000000 in
set_option maxRecDepth 100000 in
theorem g4_X5_digest {p : Program} {l : Launch} {e : Env} {s : State} {m : MethodId} {args : Array Value} {below : List Frame} {meth : Method} {c : Code} {Q : State → Prop} {D : va_G} {tk : Nat → ClassId} {N0 : Nat} {sa : Nat → Nat} {P : Nat → Prop} (E : CallFix p m c cX5_digest 5 s args (wsy yX5_digest cX5_digest 5 (some .long)) RX5) (hC : Ctx D tk N0 sa s) (hA : ∀ q, (P) q → N0 ≤ q) (hn : ∀ q, s.heap.size ≤ q → (P) q) (hr : meth.sig.returnType = (some .long)) (hlk : meth.locks = false) (hPN : ∀ q, P q → N0 ≤ q) (hPs : ∀ q, s.heap.size ≤ q → P q) (mo : Nat) (n9 : Nat) (kn : Int32) (th : Int32) (tt : Nat → Int64) (bb : Nat → Int64) (eT : Int64) (eB : Int64) (oT : Int64) (oB : Int64) (pk : Nat) (ca : Int32) (rf : Int32) (vs : Nat → Value) (hQ : Q = MQ below (kQl (fun r H => ∃ th1, MI D tk sa P mo tt bb eT eB oT oB pk ca rf vs kn n9 th1 H) (P)) args s (3869) (94998) (P)) (ra : Nat) (rl : Nat) (ex : Nat) (ro : Nat) (rt : Nat → Nat) (hPm : P mo) (hPa : P ra) (hPl : P rl) (hPe : P ex) (hPr : P ro) (hPk : ∀ k, k < 6 → P (rt k)) (hFk : ∀ k, k < 6 → m_F (tt k) (bb k)) (hFe : m_F eT eB) (hFr : m_F oT oB ∧ m_D4 oB) (hpk : pk ≤ 4) (hn9 : n9 ≤ 16) (d9 : Int64) (H : Heap) (locs : List Loc) (ls : Array Slot) (hS : va_S (P) s.heap H locs) (fo : c1 D mo (.inr (13, [.ref ra, .ref rl, .ref ex, .ref ro, .int (nI pk), .int ca, .int rf, .int kn, .int 0])) H) (fj : c1 D ra (.inl (tk 3, 6, .inr (.inr (.inr (.inr (fun k => some (rt k))))))) H) (fk : MK D tk rt tt bb H) (fe : L2 D tk ex eT eB H) (fr : L2 D tk ro oT oB H) (fw : RW D tk sa P rl n9 vs H) (hl : lv_has ls 5 [(0, .ref mo), (1, .long d9)]) : W p l e ({ frames := 9, cells := 3869, slots := 94998, locals := 212 } : Room) s m args below meth c H locs (3821 + 1 + 0) (94303 + 4 + 0) Q (F0 m 256 ls []) := by
  obtain ⟨hx, hb, -⟩ := id E
  have g_fo := hPm
  have g_fj := hPa
  refine lv_lload_n (pc := 256) hx hb dX5_digest_256 rfl (lv_at hl 1 rfl) ?_
  refine lv_aload_n (pc := 257) hx hb dX5_digest_257 rfl (lv_at hl 0 rfl) ?_
  refine r_get (pc := 258) E hC fo 2 (v := .ref ex) rfl rfl (by decide) uX5 (List.mem_cons_of_mem _ kw_1211) (fun _ h => h) dX5_digest_258 ?_
  have hZ0_ := hS.1
  have t_fo := fo.lt
  have t_fj := fj.lt
  have t_fk := fun k (hk9 : k < 6) => (fk k hk9).lt
  have t_fe := fe.lt
  have t_fr := fr.lt
  refine k_r (pc := 261) (k_S E hC hS hA hl.1 (c_X5_text l D tk N0 sa H.size ex eT eB) kw_1348 kw_1349 kw_5 kw_1350 (n := 1) (by decide +kernel) rfl ⟨⟨rfl, rfl⟩, ⟨Nat.le_of_ble_eq_true rfl, Nat.le_of_ble_eq_true rfl⟩, (by dsimp only; omega), (by dsimp only; omega)⟩ rfl (Nat.le_of_ble_eq_true rfl) fe dX5_digest_261) hS (fun q z w => absurd w (Nat.not_le.mpr z)) hn (fun r_29 H locs hR hz hk hS => ?_)
  have fw := fw.new hk
  have fo := fo.kept (hk _ fo.lt (Nat.not_le.mpr fo.lt))
  have fj := fj.kept (hk _ fj.lt (Nat.not_le.mpr fj.lt))
  have fk := fk.new hk
  have fe := fe.kept (hk _ fe.lt (Nat.not_le.mpr fe.lt))
  have fr := fr.kept (hk _ fr.lt (Nat.not_le.mpr fr.lt))
  obtain ⟨n_f30, hn_f30, z9_, f30⟩ := hR
  refine k_i (pc := 264) (k_V E hC hS hA hl.1 (f30.recv hC) rfl (c_J0_length_8abf5 l D tk N0 sa H.size r_29 n_f30) kw_1710 kw_413 kw_414 kw_20 kw_415 (n := 0) (by decide +kernel) rfl ⟨⟨rfl, rfl⟩, ⟨Nat.le_of_ble_eq_true rfl, Nat.le_of_ble_eq_true rfl⟩, (by dsimp only; omega), (by dsimp only; omega)⟩ rfl (Nat.le_of_ble_eq_true rfl) f30 dX5_digest_264) hS (fun q z w => absurd w (Nat.not_le.mpr z)) hn (fun r_31 H locs hR hz hk hS => ?_)
  have fw := fw.new hk
  have fo := fo.kept (hk _ fo.lt (Nat.not_le.mpr fo.lt))
  have fj := fj.kept (hk _ fj.lt (Nat.not_le.mpr fj.lt))
  have fk := fk.new hk
  have fe := fe.kept (hk _ fe.lt (Nat.not_le.mpr fe.lt))
  have fr := fr.kept (hk _ fr.lt (Nat.not_le.mpr fr.lt))
  have f30 := f30.new hk
  rw [show r_31 = nI n_f30 from hR]
  refine lv_i2l (pc := 267) (v := (nI n_f30).toInt64) hx hb dX5_digest_267 rfl ?_
  refine k_l (pc := 268) (k_S E hC hS hA hl.1 (c_X5_add l D tk N0 sa H.size d9 ((nI n_f30).toInt64) ) kw_1805 kw_1806 kw_5 kw_1807 (n := 2) (by decide +kernel) rfl ⟨⟨rfl, rfl⟩, ⟨Nat.le_of_ble_eq_true rfl, Nat.le_of_ble_eq_true rfl⟩, (by dsimp only; omega), (by dsimp only; omega)⟩ rfl (Nat.le_of_ble_eq_true rfl) trivial dX5_digest_268) hS (fun q z w => absurd w (Nat.not_le.mpr z)) hn (fun r_32 H locs hR hz hk hS => ?_)
  have er_32 := hR
  have fw := fw.new hk
  have fo := fo.kept (hk _ fo.lt (Nat.not_le.mpr fo.lt))
  have fj := fj.kept (hk _ fj.lt (Nat.not_le.mpr fj.lt))
  have fk := fk.new hk
  have fe := fe.kept (hk _ fe.lt (Nat.not_le.mpr fe.lt))
  have fr := fr.kept (hk _ fr.lt (Nat.not_le.mpr fr.lt))
  have f30 := f30.new hk
  refine lv_aload_n (pc := 271) hx hb dX5_digest_271 rfl (lv_at hl 0 rfl) ?_
  have hZ0_ := hS.1
  have t_fo := fo.lt
  have t_fj := fj.lt
  have t_fk := fun k (hk9 : k < 6) => (fk k hk9).lt
  have t_fe := fe.lt
  have t_fr := fr.lt
  have t_f30 := f30.lt
  refine k_r (pc := 272) (k_V E hC hS hA hl.1 (c1.recv hC fo rfl) rfl (c_X5_roundedNow l D tk N0 sa H.size P hPN mo n9 kn 0 tt bb eT eB oT oB pk ca rf vs  ) kw_1771 kw_1773 kp_33 kw_5 kw_1774 (n := 0) (by decide +kernel) rfl ⟨⟨rfl, rfl⟩, ⟨Nat.le_of_ble_eq_true rfl, Nat.le_of_ble_eq_true rfl⟩, (by dsimp only; omega), (by dsimp only; omega)⟩ rfl (Nat.le_of_ble_eq_true rfl) ⟨_, _, _, _, _, fo, fj, fk, fe, fr, fw, ⟨hPm, hPa, hPl, hPe, hPr, hPk⟩, hFk, hFe, hFr, hpk, hn9⟩ dX5_digest_272) hS (fun q z w => absurd w (Nat.not_le.mpr z)) hn (fun r_34 H locs hR hz hk hS => ?_)
  have fw := fw.new hk
  have fo := fo.kept (hk _ fo.lt (Nat.not_le.mpr fo.lt))
  have fj := fj.kept (hk _ fj.lt (Nat.not_le.mpr fj.lt))
  have fk := fk.new hk
  have fe := fe.kept (hk _ fe.lt (Nat.not_le.mpr fe.lt))
  have fr := fr.kept (hk _ fr.lt (Nat.not_le.mpr fr.lt))
  have f30 := f30.new hk
  obtain ⟨n_f35, hn_f35, f35⟩ := hR
  refine k_i (pc := 275) (k_V E hC hS hA hl.1 (f35.recv hC) rfl (c_J0_length_8abf5 l D tk N0 sa H.size r_34 n_f35) kw_1710 kw_413 kw_414 kw_20 kw_415 (n := 0) (by decide +kernel) rfl ⟨⟨rfl, rfl⟩, ⟨Nat.le_of_ble_eq_true rfl, Nat.le_of_ble_eq_true rfl⟩, (by dsimp only; omega), (by dsimp only; omega)⟩ rfl (Nat.le_of_ble_eq_true rfl) f35 dX5_digest_275) hS (fun q z w => absurd w (Nat.not_le.mpr z)) hn (fun r_36 H locs hR hz hk hS => ?_)
  have fw := fw.new hk
  have fo := fo.kept (hk _ fo.lt (Nat.not_le.mpr fo.lt))
  have fj := fj.kept (hk _ fj.lt (Nat.not_le.mpr fj.lt))
  have fk := fk.new hk
  have fe := fe.kept (hk _ fe.lt (Nat.not_le.mpr fe.lt))
  have fr := fr.kept (hk _ fr.lt (Nat.not_le.mpr fr.lt))
  have f30 := f30.new hk
  have f35 := f35.new hk
  rw [show r_36 = nI n_f35 from hR]
  refine lv_i2l (pc := 278) (v := (nI n_f35).toInt64) hx hb dX5_digest_278 rfl ?_
  refine k_l (pc := 279) (k_S E hC hS hA hl.1 (c_X5_add l D tk N0 sa H.size r_32 ((nI n_f35).toInt64) ) kw_1805 kw_1806 kw_5 kw_1807 (n := 2) (by decide +kernel) rfl ⟨⟨rfl, rfl⟩, ⟨Nat.le_of_ble_eq_true rfl, Nat.le_of_ble_eq_true rfl⟩, (by dsimp only; omega), (by dsimp only; omega)⟩ rfl (Nat.le_of_ble_eq_true rfl) trivial dX5_digest_279) hS (fun q z w => absurd w (Nat.not_le.mpr z)) hn (fun r_37 H locs hR hz hk hS => ?_)
  have er_37 := hR
  have fw := fw.new hk
  have fo := fo.kept (hk _ fo.lt (Nat.not_le.mpr fo.lt))
  have fj := fj.kept (hk _ fj.lt (Nat.not_le.mpr fj.lt))
  have fk := fk.new hk
  have fe := fe.kept (hk _ fe.lt (Nat.not_le.mpr fe.lt))
  have fr := fr.kept (hk _ fr.lt (Nat.not_le.mpr fr.lt))
  have f30 := f30.new hk
  have f35 := f35.new hk
  refine lv_aload_n (pc := 282) hx hb dX5_digest_282 rfl (lv_at hl 0 rfl) ?_
  have hZ0_ := hS.1
  have t_fo := fo.lt
  have t_fj := fj.lt
  have t_fk := fun k (hk9 : k < 6) => (fk k hk9).lt
  have t_fe := fe.lt
  have t_fr := fr.lt
  have t_f30 := f30.lt
  have t_f35 := f35.lt
  refine k_r (pc := 283) (k_V E hC hS hA hl.1 (c1.recv hC fo rfl) rfl (c_X5_errorNow l D tk N0 sa H.size P hPN mo n9 kn 0 tt bb eT eB oT oB pk ca rf vs  ) kw_1779 kw_1781 kp_34 kw_5 kw_1782 (n := 0) (by decide +kernel) rfl ⟨⟨rfl, rfl⟩, ⟨Nat.le_of_ble_eq_true rfl, Nat.le_of_ble_eq_true rfl⟩, (by dsimp only; omega), (by dsimp only; omega)⟩ rfl (Nat.le_of_ble_eq_true rfl) ⟨_, _, _, _, _, fo, fj, fk, fe, fr, fw, ⟨hPm, hPa, hPl, hPe, hPr, hPk⟩, hFk, hFe, hFr, hpk, hn9⟩ dX5_digest_283) hS (fun q z w => absurd w (Nat.not_le.mpr z)) hn (fun r_39 H locs hR hz hk hS => ?_)
  have fw := fw.new hk
  have fo := fo.kept (hk _ fo.lt (Nat.not_le.mpr fo.lt))
  have fj := fj.kept (hk _ fj.lt (Nat.not_le.mpr fj.lt))
  have fk := fk.new hk
  have fe := fe.kept (hk _ fe.lt (Nat.not_le.mpr fe.lt))
  have fr := fr.kept (hk _ fr.lt (Nat.not_le.mpr fr.lt))
  have f30 := f30.new hk
  have f35 := f35.new hk
  obtain ⟨n_f40, hn_f40, f40⟩ := hR
  refine k_i (pc := 286) (k_V E hC hS hA hl.1 (f40.recv hC) rfl (c_J0_length_8abf5 l D tk N0 sa H.size r_39 n_f40) kw_1710 kw_413 kw_414 kw_20 kw_415 (n := 0) (by decide +kernel) rfl ⟨⟨rfl, rfl⟩, ⟨Nat.le_of_ble_eq_true rfl, Nat.le_of_ble_eq_true rfl⟩, (by dsimp only; omega), (by dsimp only; omega)⟩ rfl (Nat.le_of_ble_eq_true rfl) f40 dX5_digest_286) hS (fun q z w => absurd w (Nat.not_le.mpr z)) hn (fun r_41 H locs hR hz hk hS => ?_)
  have fw := fw.new hk
  have fo := fo.kept (hk _ fo.lt (Nat.not_le.mpr fo.lt))
  have fj := fj.kept (hk _ fj.lt (Nat.not_le.mpr fj.lt))
  have fk := fk.new hk
  have fe := fe.kept (hk _ fe.lt (Nat.not_le.mpr fe.lt))
  have fr := fr.kept (hk _ fr.lt (Nat.not_le.mpr fr.lt))
  have f30 := f30.new hk
  have f35 := f35.new hk
  have f40 := f40.new hk
  rw [show r_41 = nI n_f40 from hR]
  refine lv_i2l (pc := 289) (v := (nI n_f40).toInt64) hx hb dX5_digest_289 rfl ?_
  refine k_l (pc := 290) (k_S E hC hS hA hl.1 (c_X5_add l D tk N0 sa H.size r_37 ((nI n_f40).toInt64) ) kw_1805 kw_1806 kw_5 kw_1807 (n := 2) (by decide +kernel) rfl ⟨⟨rfl, rfl⟩, ⟨Nat.le_of_ble_eq_true rfl, Nat.le_of_ble_eq_true rfl⟩, (by dsimp only; omega), (by dsimp only; omega)⟩ rfl (Nat.le_of_ble_eq_true rfl) trivial dX5_digest_290) hS (fun q z w => absurd w (Nat.not_le.mpr z)) hn (fun r_42 H locs hR hz hk hS => ?_)
  have er_42 := hR
  have fw := fw.new hk
  have fo := fo.kept (hk _ fo.lt (Nat.not_le.mpr fo.lt))
  have fj := fj.kept (hk _ fj.lt (Nat.not_le.mpr fj.lt))
  have fk := fk.new hk
  have fe := fe.kept (hk _ fe.lt (Nat.not_le.mpr fe.lt))
  have fr := fr.kept (hk _ fr.lt (Nat.not_le.mpr fr.lt))
  have f30 := f30.new hk
  have f35 := f35.new hk
  have f40 := f40.new hk
  refine lv_lstore_n (pc := 293) (lv' := [(1, .long r_42), (0, .ref mo)]) hx hb dX5_digest_293 rfl hl (by decide) rfl (fun ls hl => ?_)
  refine lv_lload_n (pc := 294) hx hb dX5_digest_294 rfl (lv_at hl 0 rfl) ?_
  refine lv_lconst (pc := 295) (v := 1) hx hb dX5_digest_295 (by decide) ?_
  refine k_l (pc := 296) (k_S E hC hS hA hl.1 (c_X5_add l D tk N0 sa H.size r_42 1 ) kw_1805 kw_1806 kw_5 kw_1807 (n := 2) (by decide +kernel) rfl ⟨⟨rfl, rfl⟩, ⟨Nat.le_of_ble_eq_true rfl, Nat.le_of_ble_eq_true rfl⟩, (by dsimp only; omega), (by dsimp only; omega)⟩ rfl (Nat.le_of_ble_eq_true rfl) trivial dX5_digest_296) hS (fun q z w => absurd w (Nat.not_le.mpr z)) hn (fun r_44 H locs hR hz hk hS => ?_)
  have er_44 := hR
  have fw := fw.new hk
  have fo := fo.kept (hk _ fo.lt (Nat.not_le.mpr fo.lt))
  have fj := fj.kept (hk _ fj.lt (Nat.not_le.mpr fj.lt))
  have fk := fk.new hk
  have fe := fe.kept (hk _ fe.lt (Nat.not_le.mpr fe.lt))
  have fr := fr.kept (hk _ fr.lt (Nat.not_le.mpr fr.lt))
  have f30 := f30.new hk
  have f35 := f35.new hk
  have f40 := f40.new hk
  try rw [hQ]
  refine r_lret (pc := 299) E hr hlk hS (by omega) (by omega) ?_ dX5_digest_299
  exact ⟨_, ⟨_, _, _, _, _, fo, fj, fk, fe, fr, fw, ⟨hPm, hPa, hPl, hPe, hPr, hPk⟩, hFk, hFe, hFr, hpk, hn9⟩⟩
set_option maxHeartbeats 4000000 in
set_option maxRecDepth 100000 in
theorem g5_X5_digest {p : Program} {l : Launch} {e : Env} {s : State} {m : MethodId} {args : Array Value} {below : List Frame} {meth : Method} {c : Code} {Q : State → Prop} {D : va_G} {tk : Nat → ClassId} {N0 : Nat} {sa : Nat → Nat} {P : Nat → Prop} (E : CallFix p m c cX5_digest 5 s args (wsy yX5_digest cX5_digest 5 (some .long)) RX5) (hC : Ctx D tk N0 sa s) (hA : ∀ q, (P) q → N0 ≤ q) (hn : ∀ q, s.heap.size ≤ q → (P) q) (hr : meth.sig.returnType = (some .long)) (hlk : meth.locks = false) (hPN : ∀ q, P q → N0 ≤ q) (hPs : ∀ q, s.heap.size ≤ q → P q) (mo : Nat) (n9 : Nat) (kn : Int32) (th : Int32) (tt : Nat → Int64) (bb : Nat → Int64) (eT : Int64) (eB : Int64) (oT : Int64) (oB : Int64) (pk : Nat) (ca : Int32) (rf : Int32) (vs : Nat → Value) (hQ : Q = MQ below (kQl (fun r H => ∃ th1, MI D tk sa P mo tt bb eT eB oT oB pk ca rf vs kn n9 th1 H) (P)) args s (3869) (94998) (P)) (ra : Nat) (rl : Nat) (ex : Nat) (ro : Nat) (rt : Nat → Nat) (hPm : P mo) (hPa : P ra) (hPl : P rl) (hPe : P ex) (hPr : P ro) (hPk : ∀ k, k < 6 → P (rt k)) (hFk : ∀ k, k < 6 → m_F (tt k) (bb k)) (hFe : m_F eT eB) (hFr : m_F oT oB ∧ m_D4 oB) (hpk : pk ≤ 4) (hn9 : n9 ≤ 16) (d9 : Int64) (H : Heap) (locs : List Loc) (ls : Array Slot) (hS : va_S (P) s.heap H locs) (fo : c1 D mo (.inr (13, [.ref ra, .ref rl, .ref ex, .ref ro, .int (nI pk), .int ca, .int rf, .int kn, .int 0])) H) (fj : c1 D ra (.inl (tk 3, 6, .inr (.inr (.inr (.inr (fun k => some (rt k))))))) H) (fk : MK D tk rt tt bb H) (fe : L2 D tk ex eT eB H) (fr : L2 D tk ro oT oB H) (fw : RW D tk sa P rl n9 vs H) (hl : lv_has ls 5 [(0, .ref mo), (1, .long d9)]) : W p l e ({ frames := 9, cells := 3869, slots := 94998, locals := 212 } : Room) s m args below meth c H locs (3822 + 0) (94307 + 0) Q (F0 m 256 ls []) := by
  obtain ⟨hx, hb, -⟩ := id E
  have g_fo := hPm
  have g_fj := hPa
  refine lv_lload_n (pc := 256) hx hb dX5_digest_256 rfl (lv_at hl 1 rfl) ?_
  refine lv_aload_n (pc := 257) hx hb dX5_digest_257 rfl (lv_at hl 0 rfl) ?_
  refine r_get (pc := 258) E hC fo 2 (v := .ref ex) rfl rfl (by decide) uX5 (List.mem_cons_of_mem _ kw_1211) (fun _ h => h) dX5_digest_258 ?_
  have hZ0_ := hS.1
  have t_fo := fo.lt
  have t_fj := fj.lt
  have t_fk := fun k (hk9 : k < 6) => (fk k hk9).lt
  have t_fe := fe.lt
  have t_fr := fr.lt
  refine k_r (pc := 261) (k_S E hC hS hA hl.1 (c_X5_text l D tk N0 sa H.size ex eT eB) kw_1348 kw_1349 kw_5 kw_1350 (n := 1) (by decide +kernel) rfl ⟨⟨rfl, rfl⟩, ⟨Nat.le_of_ble_eq_true rfl, Nat.le_of_ble_eq_true rfl⟩, (by dsimp only; omega), (by dsimp only; omega)⟩ rfl (Nat.le_of_ble_eq_true rfl) fe dX5_digest_261) hS (fun q z w => absurd w (Nat.not_le.mpr z)) hn (fun r_50 H locs hR hz hk hS => ?_)
  have fw := fw.new hk
  have fo := fo.kept (hk _ fo.lt (Nat.not_le.mpr fo.lt))
  have fj := fj.kept (hk _ fj.lt (Nat.not_le.mpr fj.lt))
  have fk := fk.new hk
  have fe := fe.kept (hk _ fe.lt (Nat.not_le.mpr fe.lt))
  have fr := fr.kept (hk _ fr.lt (Nat.not_le.mpr fr.lt))
  obtain ⟨n_f51, hn_f51, z9_, f51⟩ := hR
  refine k_i (pc := 264) (k_V E hC hS hA hl.1 (f51.recv hC) rfl (c_J0_length_8abf5 l D tk N0 sa H.size r_50 n_f51) kw_1710 kw_413 kw_414 kw_20 kw_415 (n := 0) (by decide +kernel) rfl ⟨⟨rfl, rfl⟩, ⟨Nat.le_of_ble_eq_true rfl, Nat.le_of_ble_eq_true rfl⟩, (by dsimp only; omega), (by dsimp only; omega)⟩ rfl (Nat.le_of_ble_eq_true rfl) f51 dX5_digest_264) hS (fun q z w => absurd w (Nat.not_le.mpr z)) hn (fun r_52 H locs hR hz hk hS => ?_)
  have fw := fw.new hk
  have fo := fo.kept (hk _ fo.lt (Nat.not_le.mpr fo.lt))
  have fj := fj.kept (hk _ fj.lt (Nat.not_le.mpr fj.lt))
  have fk := fk.new hk
  have fe := fe.kept (hk _ fe.lt (Nat.not_le.mpr fe.lt))
  have fr := fr.kept (hk _ fr.lt (Nat.not_le.mpr fr.lt))
  have f51 := f51.new hk
  rw [show r_52 = nI n_f51 from hR]
  refine lv_i2l (pc := 267) (v := (nI n_f51).toInt64) hx hb dX5_digest_267 rfl ?_
  refine k_l (pc := 268) (k_S E hC hS hA hl.1 (c_X5_add l D tk N0 sa H.size d9 ((nI n_f51).toInt64) ) kw_1805 kw_1806 kw_5 kw_1807 (n := 2) (by decide +kernel) rfl ⟨⟨rfl, rfl⟩, ⟨Nat.le_of_ble_eq_true rfl, Nat.le_of_ble_eq_true rfl⟩, (by dsimp only; omega), (by dsimp only; omega)⟩ rfl (Nat.le_of_ble_eq_true rfl) trivial dX5_digest_268) hS (fun q z w => absurd w (Nat.not_le.mpr z)) hn (fun r_53 H locs hR hz hk hS => ?_)
  have er_53 := hR
  have fw := fw.new hk
  have fo := fo.kept (hk _ fo.lt (Nat.not_le.mpr fo.lt))
  have fj := fj.kept (hk _ fj.lt (Nat.not_le.mpr fj.lt))
  have fk := fk.new hk
  have fe := fe.kept (hk _ fe.lt (Nat.not_le.mpr fe.lt))
  have fr := fr.kept (hk _ fr.lt (Nat.not_le.mpr fr.lt))
  have f51 := f51.new hk
  refine lv_aload_n (pc := 271) hx hb dX5_digest_271 rfl (lv_at hl 0 rfl) ?_
  have hZ0_ := hS.1
  have t_fo := fo.lt
  have t_fj := fj.lt
  have t_fk := fun k (hk9 : k < 6) => (fk k hk9).lt
  have t_fe := fe.lt
  have t_fr := fr.lt
  have t_f51 := f51.lt
  refine k_r (pc := 272) (k_V E hC hS hA hl.1 (c1.recv hC fo rfl) rfl (c_X5_roundedNow l D tk N0 sa H.size P hPN mo n9 kn 0 tt bb eT eB oT oB pk ca rf vs  ) kw_1771 kw_1773 kp_33 kw_5 kw_1774 (n := 0) (by decide +kernel) rfl ⟨⟨rfl, rfl⟩, ⟨Nat.le_of_ble_eq_true rfl, Nat.le_of_ble_eq_true rfl⟩, (by dsimp only; omega), (by dsimp only; omega)⟩ rfl (Nat.le_of_ble_eq_true rfl) ⟨_, _, _, _, _, fo, fj, fk, fe, fr, fw, ⟨hPm, hPa, hPl, hPe, hPr, hPk⟩, hFk, hFe, hFr, hpk, hn9⟩ dX5_digest_272) hS (fun q z w => absurd w (Nat.not_le.mpr z)) hn (fun r_55 H locs hR hz hk hS => ?_)
  have fw := fw.new hk
  have fo := fo.kept (hk _ fo.lt (Nat.not_le.mpr fo.lt))
  have fj := fj.kept (hk _ fj.lt (Nat.not_le.mpr fj.lt))
  have fk := fk.new hk
  have fe := fe.kept (hk _ fe.lt (Nat.not_le.mpr fe.lt))
  have fr := fr.kept (hk _ fr.lt (Nat.not_le.mpr fr.lt))
  have f51 := f51.new hk
  obtain ⟨n_f56, hn_f56, f56⟩ := hR
  refine k_i (pc := 275) (k_V E hC hS hA hl.1 (f56.recv hC) rfl (c_J0_length_8abf5 l D tk N0 sa H.size r_55 n_f56) kw_1710 kw_413 kw_414 kw_20 kw_415 (n := 0) (by decide +kernel) rfl ⟨⟨rfl, rfl⟩, ⟨Nat.le_of_ble_eq_true rfl, Nat.le_of_ble_eq_true rfl⟩, (by dsimp only; omega), (by dsimp only; omega)⟩ rfl (Nat.le_of_ble_eq_true rfl) f56 dX5_digest_275) hS (fun q z w => absurd w (Nat.not_le.mpr z)) hn (fun r_57 H locs hR hz hk hS => ?_)
  have fw := fw.new hk
  have fo := fo.kept (hk _ fo.lt (Nat.not_le.mpr fo.lt))
  have fj := fj.kept (hk _ fj.lt (Nat.not_le.mpr fj.lt))
  have fk := fk.new hk
  have fe := fe.kept (hk _ fe.lt (Nat.not_le.mpr fe.lt))
  have fr := fr.kept (hk _ fr.lt (Nat.not_le.mpr fr.lt))
  have f51 := f51.new hk
  have f56 := f56.new hk
  rw [show r_57 = nI n_f56 from hR]
  refine lv_i2l (pc := 278) (v := (nI n_f56).toInt64) hx hb dX5_digest_278 rfl ?_
  refine k_l (pc := 279) (k_S E hC hS hA hl.1 (c_X5_add l D tk N0 sa H.size r_53 ((nI n_f56).toInt64) ) kw_1805 kw_1806 kw_5 kw_1807 (n := 2) (by decide +kernel) rfl ⟨⟨rfl, rfl⟩, ⟨Nat.le_of_ble_eq_true rfl, Nat.le_of_ble_eq_true rfl⟩, (by dsimp only; omega), (by dsimp only; omega)⟩ rfl (Nat.le_of_ble_eq_true rfl) trivial dX5_digest_279) hS (fun q z w => absurd w (Nat.not_le.mpr z)) hn (fun r_58 H locs hR hz hk hS => ?_)
  have er_58 := hR
  have fw := fw.new hk
  have fo := fo.kept (hk _ fo.lt (Nat.not_le.mpr fo.lt))
  have fj := fj.kept (hk _ fj.lt (Nat.not_le.mpr fj.lt))
  have fk := fk.new hk
  have fe := fe.kept (hk _ fe.lt (Nat.not_le.mpr fe.lt))
  have fr := fr.kept (hk _ fr.lt (Nat.not_le.mpr fr.lt))
  have f51 := f51.new hk
  have f56 := f56.new hk
  refine lv_aload_n (pc := 282) hx hb dX5_digest_282 rfl (lv_at hl 0 rfl) ?_
  have hZ0_ := hS.1
  have t_fo := fo.lt
  have t_fj := fj.lt
  have t_fk := fun k (hk9 : k < 6) => (fk k hk9).lt
  have t_fe := fe.lt
  have t_fr := fr.lt
  have t_f51 := f51.lt
  have t_f56 := f56.lt
  refine k_r (pc := 283) (k_V E hC hS hA hl.1 (c1.recv hC fo rfl) rfl (c_X5_errorNow l D tk N0 sa H.size P hPN mo n9 kn 0 tt bb eT eB oT oB pk ca rf vs  ) kw_1779 kw_1781 kp_34 kw_5 kw_1782 (n := 0) (by decide +kernel) rfl ⟨⟨rfl, rfl⟩, ⟨Nat.le_of_ble_eq_true rfl, Nat.le_of_ble_eq_true rfl⟩, (by dsimp only; omega), (by dsimp only; omega)⟩ rfl (Nat.le_of_ble_eq_true rfl) ⟨_, _, _, _, _, fo, fj, fk, fe, fr, fw, ⟨hPm, hPa, hPl, hPe, hPr, hPk⟩, hFk, hFe, hFr, hpk, hn9⟩ dX5_digest_283) hS (fun q z w => absurd w (Nat.not_le.mpr z)) hn (fun r_60 H locs hR hz hk hS => ?_)
  have fw := fw.new hk
  have fo := fo.kept (hk _ fo.lt (Nat.not_le.mpr fo.lt))
  have fj := fj.kept (hk _ fj.lt (Nat.not_le.mpr fj.lt))
  have fk := fk.new hk
  have fe := fe.kept (hk _ fe.lt (Nat.not_le.mpr fe.lt))
  have fr := fr.kept (hk _ fr.lt (Nat.not_le.mpr fr.lt))
  have f51 := f51.new hk
  have f56 := f56.new hk
  obtain ⟨n_f61, hn_f61, f61⟩ := hR
  refine k_i (pc := 286) (k_V E hC hS hA hl.1 (f61.recv hC) rfl (c_J0_length_8abf5 l D tk N0 sa H.size r_60 n_f61) kw_1710 kw_413 kw_414 kw_20 kw_415 (n := 0) (by decide +kernel) rfl ⟨⟨rfl, rfl⟩, ⟨Nat.le_of_ble_eq_true rfl, Nat.le_of_ble_eq_true rfl⟩, (by dsimp only; omega), (by dsimp only; omega)⟩ rfl (Nat.le_of_ble_eq_true rfl) f61 dX5_digest_286) hS (fun q z w => absurd w (Nat.not_le.mpr z)) hn (fun r_62 H locs hR hz hk hS => ?_)
  have fw := fw.new hk
  have fo := fo.kept (hk _ fo.lt (Nat.not_le.mpr fo.lt))
  have fj := fj.kept (hk _ fj.lt (Nat.not_le.mpr fj.lt))
  have fk := fk.new hk
  have fe := fe.kept (hk _ fe.lt (Nat.not_le.mpr fe.lt))
  have fr := fr.kept (hk _ fr.lt (Nat.not_le.mpr fr.lt))
  have f51 := f51.new hk
  have f56 := f56.new hk
  have f61 := f61.new hk
  rw [show r_62 = nI n_f61 from hR]
  refine lv_i2l (pc := 289) (v := (nI n_f61).toInt64) hx hb dX5_digest_289 rfl ?_
  refine k_l (pc := 290) (k_S E hC hS hA hl.1 (c_X5_add l D tk N0 sa H.size r_58 ((nI n_f61).toInt64) ) kw_1805 kw_1806 kw_5 kw_1807 (n := 2) (by decide +kernel) rfl ⟨⟨rfl, rfl⟩, ⟨Nat.le_of_ble_eq_true rfl, Nat.le_of_ble_eq_true rfl⟩, (by dsimp only; omega), (by dsimp only; omega)⟩ rfl (Nat.le_of_ble_eq_true rfl) trivial dX5_digest_290) hS (fun q z w => absurd w (Nat.not_le.mpr z)) hn (fun r_63 H locs hR hz hk hS => ?_)
  have er_63 := hR
  have fw := fw.new hk
  have fo := fo.kept (hk _ fo.lt (Nat.not_le.mpr fo.lt))
  have fj := fj.kept (hk _ fj.lt (Nat.not_le.mpr fj.lt))
  have fk := fk.new hk
  have fe := fe.kept (hk _ fe.lt (Nat.not_le.mpr fe.lt))
  have fr := fr.kept (hk _ fr.lt (Nat.not_le.mpr fr.lt))
  have f51 := f51.new hk
  have f56 := f56.new hk
  have f61 := f61.new hk
  refine lv_lstore_n (pc := 293) (lv' := [(1, .long r_63), (0, .ref mo)]) hx hb dX5_digest_293 rfl hl (by decide) rfl (fun ls hl => ?_)
  refine lv_lload_n (pc := 294) hx hb dX5_digest_294 rfl (lv_at hl 0 rfl) ?_
  refine lv_lconst (pc := 295) (v := 1) hx hb dX5_digest_295 (by decide) ?_
  refine k_l (pc := 296) (k_S E hC hS hA hl.1 (c_X5_add l D tk N0 sa H.size r_63 1 ) kw_1805 kw_1806 kw_5 kw_1807 (n := 2) (by decide +kernel) rfl ⟨⟨rfl, rfl⟩, ⟨Nat.le_of_ble_eq_true rfl, Nat.le_of_ble_eq_true rfl⟩, (by dsimp only; omega), (by dsimp only; omega)⟩ rfl (Nat.le_of_ble_eq_true rfl) trivial dX5_digest_296) hS (fun q z w => absurd w (Nat.not_le.mpr z)) hn (fun r_65 H locs hR hz hk hS => ?_)
  have er_65 := hR
  have fw := fw.new hk
  have fo := fo.kept (hk _ fo.lt (Nat.not_le.mpr fo.lt))
  have fj := fj.kept (hk _ fj.lt (Nat.not_le.mpr fj.lt))
  have fk := fk.new hk
  have fe := fe.kept (hk _ fe.lt (Nat.not_le.mpr fe.lt))
  have fr := fr.kept (hk _ fr.lt (Nat.not_le.mpr fr.lt))
  have f51 := f51.new hk
  have f56 := f56.new hk
  have f61 := f61.new hk
  try rw [hQ]
  refine r_lret (pc := 299) E hr hlk hS (by omega) (by omega) ?_ dX5_digest_299
  exact ⟨_, ⟨_, _, _, _, _, fo, fj, fk, fe, fr, fw, ⟨hPm, hPa, hPl, hPe, hPr, hPk⟩, hFk, hFe, hFr, hpk, hn9⟩⟩
set_option maxHeartbeats 4000000 in
set_option maxRecDepth 100000 in
theorem g3_X5_digest {p : Program} {l : Launch} {e : Env} {s : State} {m : MethodId} {args : Array Value} {below : List Frame} {meth : Method} {c : Code} {Q : State → Prop} {D : va_G} {tk : Nat → ClassId} {N0 : Nat} {sa : Nat → Nat} {P : Nat → Prop} (E : CallFix p m c cX5_digest 5 s args (wsy yX5_digest cX5_digest 5 (some .long)) RX5) (hC : Ctx D tk N0 sa s) (hA : ∀ q, (P) q → N0 ≤ q) (hn : ∀ q, s.heap.size ≤ q → (P) q) (hr : meth.sig.returnType = (some .long)) (hlk : meth.locks = false) (hPN : ∀ q, P q → N0 ≤ q) (hPs : ∀ q, s.heap.size ≤ q → P q) (mo : Nat) (n9 : Nat) (kn : Int32) (th : Int32) (tt : Nat → Int64) (bb : Nat → Int64) (eT : Int64) (eB : Int64) (oT : Int64) (oB : Int64) (pk : Nat) (ca : Int32) (rf : Int32) (vs : Nat → Value) (hQ : Q = MQ below (kQl (fun r H => ∃ th1, MI D tk sa P mo tt bb eT eB oT oB pk ca rf vs kn n9 th1 H) (P)) args s (3869) (94998) (P)) (ra : Nat) (rl : Nat) (ex : Nat) (ro : Nat) (rt : Nat → Nat) (hPm : P mo) (hPa : P ra) (hPl : P rl) (hPe : P ex) (hPr : P ro) (hPk : ∀ k, k < 6 → P (rt k)) (hFk : ∀ k, k < 6 → m_F (tt k) (bb k)) (hFe : m_F eT eB) (hFr : m_F oT oB ∧ m_D4 oB) (hpk : pk ≤ 4) (hn9 : n9 ≤ 16) (d9 : Int64) (H : Heap) (locs : List Loc) (ls : Array Slot) (hS : va_S (P) s.heap H locs) (fo : c1 D mo (.inr (13, [.ref ra, .ref rl, .ref ex, .ref ro, .int (nI pk), .int ca, .int rf, .int kn, .int 0])) H) (fj : c1 D ra (.inl (tk 3, 6, .inr (.inr (.inr (.inr (fun k => some (rt k))))))) H) (fk : MK D tk rt tt bb H) (fe : L2 D tk ex eT eB H) (fr : L2 D tk ro oT oB H) (fw : RW D tk sa P rl n9 vs H) (hl : lv_has ls 5 [(0, .ref mo), (1, .long d9)]) : W p l e ({ frames := 9, cells := 3869, slots := 94998, locals := 212 } : Room) s m args below meth c H locs (3821) (94303) Q (F0 m 214 ls []) := by
  obtain ⟨hx, hb, -⟩ := id E
  have g_fo := hPm
  have g_fj := hPa
  refine lv_aload_n (pc := 214) hx hb dX5_digest_214 rfl (lv_at hl 0 rfl) ?_
  rcases Nat.eq_zero_or_pos n9 with h0r | h0r
  · obtain ⟨mdr, br, f0w⟩ := (show RW D tk sa P rl 0 vs H from h0r ▸ fw).obj
    refine r_get (pc := 215) E hC fo 1 (v := .ref rl) rfl rfl (by decide) uX5 (List.mem_cons_of_mem _ kw_1210) (fun _ h => h) dX5_digest_215 ?_
    obtain ⟨md_24, b_24, fz24⟩ := fw.obj
    have hZ0_ := hS.1
    have t_fo := fo.lt
    have t_fj := fj.lt
    have t_fk := fun k (hk9 : k < 6) => (fk k hk9).lt
    have t_fe := fe.lt
    have t_fr := fr.lt
    have t_f0w := f0w.lt
    have t_fz24 := fz24.lt
    refine k_r (pc := 218) (k_V E hC hS hA hl.1 (c1.recv hC fz24 rfl) rfl (c_Jx4a65c_iterator_32c93 l D tk N0 sa H.size rl b_24 n9 md_24) kw_1486 kw_1487 kw_1488 kw_8 kw_1489 (n := 0) (by decide +kernel) rfl ⟨⟨rfl, rfl⟩, ⟨Nat.le_of_ble_eq_true rfl, Nat.le_of_ble_eq_true rfl⟩, (by dsimp only; omega), (by dsimp only; omega)⟩ rfl (Nat.le_of_ble_eq_true rfl) fz24 dX5_digest_218) hS (fun q z w => absurd w (Nat.not_le.mpr z)) hn (fun r_25 H locs hR hz hk hS => ?_)
    have fw := fw.new hk
    have fo := fo.kept (hk _ fo.lt (Nat.not_le.mpr fo.lt))
    have fj := fj.kept (hk _ fj.lt (Nat.not_le.mpr fj.lt))
    have fk := fk.new hk
    have fe := fe.kept (hk _ fe.lt (Nat.not_le.mpr fe.lt))
    have fr := fr.kept (hk _ fr.lt (Nat.not_le.mpr fr.lt))
    have f0w := f0w.kept (hk _ f0w.lt (Nat.not_le.mpr f0w.lt))
    have fz24 := fz24.kept (hk _ fz24.lt (Nat.not_le.mpr fz24.lt))
    obtain ⟨z9_, f26⟩ := hR
    have s_f26 : s.heap.size ≤ r_25 := Nat.le_trans hZ0_ z9_
    have g_f26 := hn _ s_f26
    have l_fo_f26 : mo < r_25 := Nat.lt_of_lt_of_le t_fo z9_
    have l_fj_f26 : ra < r_25 := Nat.lt_of_lt_of_le t_fj z9_
    have nW_f26 : ∀ k, k < 6 → rt k ≠ r_25 := fun k hk9 => Nat.ne_of_lt (Nat.lt_of_lt_of_le (t_fk k hk9) z9_)
    have l_fe_f26 : ex < r_25 := Nat.lt_of_lt_of_le t_fe z9_
    have l_fr_f26 : ro < r_25 := Nat.lt_of_lt_of_le t_fr z9_
    have l_f0w_f26 : rl < r_25 := Nat.lt_of_lt_of_le t_f0w z9_
    have l_fz24_f26 : rl < r_25 := Nat.lt_of_lt_of_le t_fz24 z9_
    refine lv_astore_n (pc := 221) (lv' := [(3, .ref r_25), (0, .ref mo), (1, .long d9)]) hx hb dX5_digest_221 rfl hl (by decide) rfl (fun ls hl => ?_)
    refine lv_aload_n (pc := 222) hx hb dX5_digest_222 rfl (lv_at hl 0 rfl) ?_
    refine k5_i (pc := 223) (k_F (ci := 6) rfl hC.xt.2.2.2.1 E hC hS hA hl.1 (c1.recv hC f26 rfl) (c_Jx35411_hasNext_aae02 l D tk N0 sa H.size r_25 rl b_24 n9 0 md_24 ((-1)) (by omega) (by omega)) kw_1510 kw_1516 kw_1514 kw_29 kw_1518 (n := 0) (by decide +kernel) rfl ⟨⟨rfl, rfl⟩, ⟨Nat.le_of_ble_eq_true rfl, Nat.le_of_ble_eq_true rfl⟩, (by dsimp only; omega), (by dsimp only; omega)⟩ rfl (Nat.le_of_ble_eq_true rfl) ⟨f26, fz24⟩ dX5_digest_223) hS (fun q z w => absurd w (Nat.not_le.mpr z)) hn (fun r_27 H locs hR hz hk hS => ?_)
    have fw := fw.new hk
    have fo := fo.kept (hk _ fo.lt (Nat.not_le.mpr fo.lt))
    have fj := fj.kept (hk _ fj.lt (Nat.not_le.mpr fj.lt))
    have fk := fk.new hk
    have fe := fe.kept (hk _ fe.lt (Nat.not_le.mpr fe.lt))
    have fr := fr.kept (hk _ fr.lt (Nat.not_le.mpr fr.lt))
    have f0w := f0w.kept (hk _ f0w.lt (Nat.not_le.mpr f0w.lt))
    have fz24 := fz24.kept (hk _ fz24.lt (Nat.not_le.mpr fz24.lt))
    have f26 := f26.kept (hk _ f26.lt (Nat.not_le.mpr f26.lt))
    have hn_r_27 := hR
    refine lv_if_eq (pc := 228) (tgt := 256) hx hb dX5_digest_228 (by decide) (fun c_28 => ?_) (fun c_28 => ?_)
    rotate_left
    · exact absurd (hn_r_27.elim (fun z9 => z9.1) (fun z9 => absurd h0r.symm z9.2)) c_28
    exact g4_X5_digest E hC hA hn hr hlk hPN hPs mo n9 kn th tt bb eT eB oT oB pk ca rf vs hQ ra rl ex ro rt hPm hPa hPl hPe hPr hPk hFk hFe hFr hpk hn9 d9 _ _ _ hS fo fj fk fe fr fw (lv_sub hl [1, 2] rfl)
  · rcases id fw with ⟨h1r, -⟩ | ⟨mdr, br, capr, fnr, hPb, f0w, fRw, elw, hPI, hncr, hmcr⟩
    · exact absurd h1r (by omega)
    have g_f0w := hPl
    have nW_f0w : ∀ k, k < 6 → rt k ≠ rl := fun k hk9 => clA.ne (fk k hk9).cla f0w.cl (hC.ao 7 0 rfl rfl)
    have g_fRw := hPb
    have nW_fRw : ∀ k, k < 6 → rt k ≠ br := fun k hk9 => clA.ne (fk k hk9).cla fRw.cla (hC.aa 0 4 rfl rfl (by dsimp only; decide))
    have hcbr := m_acB hmcr
    refine r_get (pc := 215) E hC fo 1 (v := .ref rl) rfl rfl (by decide) uX5 (List.mem_cons_of_mem _ kw_1210) (fun _ h => h) dX5_digest_215 ?_
    have hZ0_ := hS.1
    have t_fo := fo.lt
    have t_fj := fj.lt
    have t_fk := fun k (hk9 : k < 6) => (fk k hk9).lt
    have t_fe := fe.lt
    have t_fr := fr.lt
    have t_f0w := f0w.lt
    have t_fRw := fRw.lt
    refine k_r (pc := 218) (k_V E hC hS hA hl.1 (c1.recv hC f0w rfl) rfl (c_Jx4a65c_iterator_32c93 l D tk N0 sa H.size rl br n9 mdr) kw_1486 kw_1487 kw_1488 kw_8 kw_1489 (n := 0) (by decide +kernel) rfl ⟨⟨rfl, rfl⟩, ⟨Nat.le_of_ble_eq_true rfl, Nat.le_of_ble_eq_true rfl⟩, (by dsimp only; omega), (by dsimp only; omega)⟩ rfl (Nat.le_of_ble_eq_true rfl) f0w dX5_digest_218) hS (fun q z w => absurd w (Nat.not_le.mpr z)) hn (fun r_46 H locs hR hz hk hS => ?_)
    have fw := fw.new hk
    have fo := fo.kept (hk _ fo.lt (Nat.not_le.mpr fo.lt))
    have fj := fj.kept (hk _ fj.lt (Nat.not_le.mpr fj.lt))
    have fk := fk.new hk
    have fe := fe.kept (hk _ fe.lt (Nat.not_le.mpr fe.lt))
    have fr := fr.kept (hk _ fr.lt (Nat.not_le.mpr fr.lt))
    have f0w := f0w.kept (hk _ f0w.lt (Nat.not_le.mpr f0w.lt))
    have fRw := fRw.kept (hk _ fRw.lt (Nat.not_le.mpr fRw.lt))
    have elw := elw.new hk
    obtain ⟨z9_, f47⟩ := hR
    have s_f47 : s.heap.size ≤ r_46 := Nat.le_trans hZ0_ z9_
    have g_f47 := hn _ s_f47
    have l_fo_f47 : mo < r_46 := Nat.lt_of_lt_of_le t_fo z9_
    have l_fj_f47 : ra < r_46 := Nat.lt_of_lt_of_le t_fj z9_
    have nW_f47 : ∀ k, k < 6 → rt k ≠ r_46 := fun k hk9 => Nat.ne_of_lt (Nat.lt_of_lt_of_le (t_fk k hk9) z9_)
    have l_fe_f47 : ex < r_46 := Nat.lt_of_lt_of_le t_fe z9_
    have l_fr_f47 : ro < r_46 := Nat.lt_of_lt_of_le t_fr z9_
    have l_f0w_f47 : rl < r_46 := Nat.lt_of_lt_of_le t_f0w z9_
    have l_fRw_f47 : br < r_46 := Nat.lt_of_lt_of_le t_fRw z9_
    refine lv_astore_n (pc := 221) (lv' := [(3, .ref r_46), (0, .ref mo), (1, .long d9)]) hx hb dX5_digest_221 rfl hl (by decide) rfl (fun ls hl => ?_)
    have loop_222 : ∀ (n : Nat) (k : Nat) (lr : Int32)(d9 : Int64), 17 - k < n → k ≤ n9 → ∀ (H : Heap) (locs : List Loc) (ls : Array Slot), va_S (P) s.heap H locs → c1 D mo (.inr (13, [.ref ra, .ref rl, .ref ex, .ref ro, .int (nI pk), .int ca, .int rf, .int kn, .int 0])) H → c1 D ra (.inl (tk 3, 6, .inr (.inr (.inr (.inr (fun k => some (rt k))))))) H → MK D tk rt tt bb H → L2 D tk ex eT eB H → L2 D tk ro oT oB H → RW D tk sa P rl n9 vs H → c1 D rl (.inr (7, [.int mdr, .ref br, .int (nI n9)])) H → c1 D br (.inl (tk 4, capr, .inr (.inr (.inr (.inr (fnr)))))) H → EL D 2 n9 fnr vs H → c1 D r_46 (.inr (6, [.int (nI k), .int lr, .int mdr, .ref rl])) H → lv_has ls 5 [(0, .ref mo), (1, .long d9), (3, .ref r_46)] → W p l e ({ frames := 9, cells := 3869, slots := 94998, locals := 212 } : Room) s m args below meth c H locs (3822) (94307) Q (F0 m 222 ls []) := by
      intro n
      induction n with
      | zero =>
        intro k lr d9 hf9 hk9 H locs ls hS fo fj fk fe fr fw f0w fRw elw f47 hl
        omega
      | succ n ih_222 =>
        intro k lr d9 hf9 hk9 H locs ls hS fo fj fk fe fr fw f0w fRw elw f47 hl
        refine lv_aload_n (pc := 222) hx hb dX5_digest_222 rfl (lv_at hl 2 rfl) ?_
        refine k5_i (pc := 223) (k_F (ci := 6) rfl hC.xt.2.2.2.1 E hC hS hA hl.1 (c1.recv hC f47 rfl) (c_Jx35411_hasNext_aae02 l D tk N0 sa H.size r_46 rl br n9 k mdr lr (by omega) (by omega)) kw_1510 kw_1516 kw_1514 kw_29 kw_1518 (n := 0) (by decide +kernel) rfl ⟨⟨rfl, rfl⟩, ⟨Nat.le_of_ble_eq_true rfl, Nat.le_of_ble_eq_true rfl⟩, (by dsimp only; omega), (by dsimp only; omega)⟩ rfl (Nat.le_of_ble_eq_true rfl) ⟨f47, f0w⟩ dX5_digest_223) hS (fun q z w => absurd w (Nat.not_le.mpr z)) hn (fun r_48 H locs hR hz hk hS => ?_)
        have fw := fw.new hk
        have fo := fo.kept (hk _ fo.lt (Nat.not_le.mpr fo.lt))
        have fj := fj.kept (hk _ fj.lt (Nat.not_le.mpr fj.lt))
        have fk := fk.new hk
        have fe := fe.kept (hk _ fe.lt (Nat.not_le.mpr fe.lt))
        have fr := fr.kept (hk _ fr.lt (Nat.not_le.mpr fr.lt))
        have f0w := f0w.kept (hk _ f0w.lt (Nat.not_le.mpr f0w.lt))
        have fRw := fRw.kept (hk _ fRw.lt (Nat.not_le.mpr fRw.lt))
        have elw := elw.new hk
        have f47 := f47.kept (hk _ f47.lt (Nat.not_le.mpr f47.lt))
        have hn_r_48 := hR
        refine lv_if_eq (pc := 228) (tgt := 256) hx hb dX5_digest_228 (by decide) (fun c_49 => ?_) (fun c_49 => ?_)
        · exact g5_X5_digest E hC hA hn hr hlk hPN hPs mo n9 kn th tt bb eT eB oT oB pk ca rf vs hQ ra rl ex ro rt hPm hPa hPl hPe hPr hPk hFk hFe hFr hpk hn9 d9 _ _ _ hS fo fj fk fe fr fw (lv_sub hl [0, 1] rfl)
        · have hkn : k < n9 := by
            rcases hn_r_48 with ⟨h9, _⟩ | ⟨_, h9⟩
            · exact absurd h9 c_49
            · omega
          refine lv_aload_n (pc := 231) hx hb dX5_digest_231 rfl (lv_at hl 2 rfl) ?_
          obtain ⟨qe67, hq67, he67⟩ := elw k hkn
          obtain ⟨xe67, ev67, pv67⟩ := hPI k hkn
          rw [ev67] at he67
          refine k5_r (pc := 232) (k_F (ci := 6) rfl hC.xt.2.2.2.2 E hC hS hA hl.1 (c1.recv hC f47 rfl) (c_Jx35411_next_0502b l D tk N0 sa H.size r_46 rl br n9 k capr qe67 mdr lr fnr (hA _ g_f47) hkn hncr (by omega) hq67) kw_1520 kw_1525 kw_1523 kw_29 kw_1527 (n := 0) (by decide +kernel) rfl ⟨⟨rfl, rfl⟩, ⟨Nat.le_of_ble_eq_true rfl, Nat.le_of_ble_eq_true rfl⟩, (by dsimp only; omega), (by dsimp only; omega)⟩ rfl (Nat.le_of_ble_eq_true rfl) ⟨f47, f0w, fRw⟩ dX5_digest_232) hS (inA1.to g_f47) hn (fun r_68 H locs hR hz hk hS => ?_)
          have fw := fw.keep1 hk (fun q9 h9 => clA.ne h9 f47.cl (hC.oo 7 6 rfl rfl (by decide))) (fun q9 h9 => clA.ne h9 f47.cl (hC.ao 6 4 rfl rfl)) (fun q9 h9 => clA.ne h9 f47.cl (hC.ceo (Or.inr rfl) 6 rfl (by decide)))
          have fo := fo.kept (hk _ fo.lt (inA1.not (clA.ne fo.cl f47.cl (hC.oo 13 6 rfl rfl (by decide))) fo.lt))
          have fj := fj.kept (hk _ fj.lt (inA1.not (clA.ne fj.cla f47.cl (hC.ao 6 3 rfl rfl)) fj.lt))
          have fk := fk.kept (fun k hk9 => hk _ (fk k hk9).lt (inA1.not (nW_f47 k hk9) (fk k hk9).lt))
          have fe := fe.kept (hk _ fe.lt (inA1.not (clA.ne fe.cla f47.cl (hC.ao 6 0 rfl rfl)) fe.lt))
          have fr := fr.kept (hk _ fr.lt (inA1.not (clA.ne fr.cla f47.cl (hC.ao 6 0 rfl rfl)) fr.lt))
          have f0w := f0w.kept (hk _ f0w.lt (inA1.not (clA.ne f0w.cl f47.cl (hC.oo 7 6 rfl rfl (by decide))) f0w.lt))
          have fRw := fRw.kept (hk _ fRw.lt (inA1.not (clA.ne fRw.cla f47.cl (hC.ao 6 4 rfl rfl)) fRw.lt))
          have elw := elw.keep1 hk (fun q9 h9 => clA.ne h9 f47.cl (hC.ceo (Or.inr rfl) 6 rfl (by decide)))
          have he67 := he67.kept (hk _ he67.lt (inA1.not (clA.ne he67.cl f47.cl (hC.oo 2 6 rfl rfl (by decide))) he67.lt))
          obtain ⟨hr9, f47⟩ := hR
          rw [hr9]
          refine r_castO (pc := 237) E hC he67 rfl kw_1614 dX5_digest_237 ?_
          refine k_i (pc := 240) (k_V E hC hS hA hl.1 (xf.recv hC he67 rfl) rfl (c_J6_intValue_8abf5 l D tk N0 sa H.size qe67 xe67) kw_1615 kw_1616 kw_1617 kw_22 kw_1618 (n := 0) (by decide +kernel) rfl ⟨⟨rfl, rfl⟩, ⟨Nat.le_of_ble_eq_true rfl, Nat.le_of_ble_eq_true rfl⟩, (by dsimp only; omega), (by dsimp only; omega)⟩ rfl (Nat.le_of_ble_eq_true rfl) he67 dX5_digest_240) hS (fun q z w => absurd w (Nat.not_le.mpr z)) hn (fun r_69 H locs hR hz hk hS => ?_)
          have fw := fw.new hk
          have fo := fo.kept (hk _ fo.lt (Nat.not_le.mpr fo.lt))
          have fj := fj.kept (hk _ fj.lt (Nat.not_le.mpr fj.lt))
          have fk := fk.new hk
          have fe := fe.kept (hk _ fe.lt (Nat.not_le.mpr fe.lt))
          have fr := fr.kept (hk _ fr.lt (Nat.not_le.mpr fr.lt))
          have f0w := f0w.kept (hk _ f0w.lt (Nat.not_le.mpr f0w.lt))
          have fRw := fRw.kept (hk _ fRw.lt (Nat.not_le.mpr fRw.lt))
          have elw := elw.new hk
          have f47 := f47.kept (hk _ f47.lt (Nat.not_le.mpr f47.lt))
          have he67 := he67.kept (hk _ he67.lt (Nat.not_le.mpr he67.lt))
          have er_69 : r_69 = xe67 := hR
          refine lv_istore (pc := 243) (lv' := [(4, .int r_69), (0, .ref mo), (1, .long d9), (3, .ref r_46)]) hx hb dX5_digest_243 hl (by decide) rfl (fun ls hl => ?_)
          refine lv_lload_n (pc := 245) hx hb dX5_digest_245 rfl (lv_at hl 2 rfl) ?_
          refine lv_iload (pc := 246) hx hb dX5_digest_246 (lv_at hl 0 rfl) ?_
          refine lv_i2l (pc := 248) (v := r_69.toInt64) hx hb dX5_digest_248 rfl ?_
          refine k_l (pc := 249) (k_S E hC hS hA hl.1 (c_X5_add l D tk N0 sa H.size d9 r_69.toInt64 ) kw_1805 kw_1806 kw_5 kw_1807 (n := 2) (by decide +kernel) rfl ⟨⟨rfl, rfl⟩, ⟨Nat.le_of_ble_eq_true rfl, Nat.le_of_ble_eq_true rfl⟩, (by dsimp only; omega), (by dsimp only; omega)⟩ rfl (Nat.le_of_ble_eq_true rfl) trivial dX5_digest_249) hS (fun q z w => absurd w (Nat.not_le.mpr z)) hn (fun r_70 H locs hR hz hk hS => ?_)
          have er_70 := hR
          have fw := fw.new hk
          have fo := fo.kept (hk _ fo.lt (Nat.not_le.mpr fo.lt))
          have fj := fj.kept (hk _ fj.lt (Nat.not_le.mpr fj.lt))
          have fk := fk.new hk
          have fe := fe.kept (hk _ fe.lt (Nat.not_le.mpr fe.lt))
          have fr := fr.kept (hk _ fr.lt (Nat.not_le.mpr fr.lt))
          have f0w := f0w.kept (hk _ f0w.lt (Nat.not_le.mpr f0w.lt))
          have fRw := fRw.kept (hk _ fRw.lt (Nat.not_le.mpr fRw.lt))
          have elw := elw.new hk
          have f47 := f47.kept (hk _ f47.lt (Nat.not_le.mpr f47.lt))
          have he67 := he67.kept (hk _ he67.lt (Nat.not_le.mpr he67.lt))
          refine lv_lstore_n (pc := 252) (lv' := [(1, .long r_70), (4, .int r_69), (0, .ref mo), (3, .ref r_46)]) hx hb dX5_digest_252 rfl hl (by decide) rfl (fun ls hl => ?_)
          refine lv_goto (pc := 253) (tgt := 222) hx hb dX5_digest_253 (by decide) ?_
          refine W.widen (k := 3822) (n := 94307) (by omega) (by omega) ?_
          exact ih_222  (k + 1) _  r_70 (by omega) (by omega) _ _ _ hS fo fj fk fe fr fw f0w fRw elw f47 (lv_sub hl [2, 0, 3] rfl)
    refine W.widen (k := 3822) (n := 94307) (by omega) (by omega) ?_
    exact loop_222 18 0 _  d9 (by omega) (Nat.zero_le _) _ _ _ hS fo fj fk fe fr fw f0w fRw elw f47 (lv_sub hl [1, 2, 0] rfl)
set_option maxHeartbeats 4000000 in
set_option maxRecDepth 100000 in
theorem g2_X5_digest {p : Program} {l : Launch} {e : Env} {s : State} {m : MethodId} {args : Array Value} {below : List Frame} {meth : Method} {c : Code} {Q : State → Prop} {D : va_G} {tk : Nat → ClassId} {N0 : Nat} {sa : Nat → Nat} {P : Nat → Prop} (E : CallFix p m c cX5_digest 5 s args (wsy yX5_digest cX5_digest 5 (some .long)) RX5) (hC : Ctx D tk N0 sa s) (hA : ∀ q, (P) q → N0 ≤ q) (hn : ∀ q, s.heap.size ≤ q → (P) q) (hr : meth.sig.returnType = (some .long)) (hlk : meth.locks = false) (hPN : ∀ q, P q → N0 ≤ q) (hPs : ∀ q, s.heap.size ≤ q → P q) (mo : Nat) (n9 : Nat) (kn : Int32) (th : Int32) (tt : Nat → Int64) (bb : Nat → Int64) (eT : Int64) (eB : Int64) (oT : Int64) (oB : Int64) (pk : Nat) (ca : Int32) (rf : Int32) (vs : Nat → Value) (hQ : Q = MQ below (kQl (fun r H => ∃ th1, MI D tk sa P mo tt bb eT eB oT oB pk ca rf vs kn n9 th1 H) (P)) args s (3869) (94998) (P)) (ra : Nat) (rl : Nat) (ex : Nat) (ro : Nat) (rt : Nat → Nat) (hPm : P mo) (hPa : P ra) (hPl : P rl) (hPe : P ex) (hPr : P ro) (hPk : ∀ k, k < 6 → P (rt k)) (hFk : ∀ k, k < 6 → m_F (tt k) (bb k)) (hFe : m_F eT eB) (hFr : m_F oT oB ∧ m_D4 oB) (hpk : pk ≤ 4) (hn9 : n9 ≤ 16) (d9 : Int64) (H : Heap) (locs : List Loc) (ls : Array Slot) (hS : va_S (P) s.heap H locs) (fo : c1 D mo (.inr (13, [.ref ra, .ref rl, .ref ex, .ref ro, .int (nI pk), .int ca, .int rf, .int kn, .int 0])) H) (fj : c1 D ra (.inl (tk 3, 6, .inr (.inr (.inr (.inr (fun k => some (rt k))))))) H) (fk : MK D tk rt tt bb H) (fe : L2 D tk ex eT eB H) (fr : L2 D tk ro oT oB H) (fw : RW D tk sa P rl n9 vs H) (hl : lv_has ls 5 [(0, .ref mo), (1, .long d9)]) : W p l e ({ frames := 9, cells := 3869, slots := 94998, locals := 212 } : Room) s m args below meth c H locs (3821) (94303) Q (F0 m 146 ls []) := by
  obtain ⟨hx, hb, -⟩ := id E
  have g_fo := hPm
  have g_fj := hPa
  refine lv_iconst (pc := 146) (v := 0) hx hb dX5_digest_146 (by decide) ?_
  refine lv_istore_n (pc := 147) (lv' := [(3, .int 0), (0, .ref mo), (1, .long d9)]) hx hb dX5_digest_147 rfl hl (by decide) rfl (fun ls hl => ?_)
  have loop_148 : ∀ (n : Nat) (k : Nat)(d9 : Int64) (y9 : Int32), 7 - k < n → k ≤ 6 → y9 = nI k → ∀ (H : Heap) (locs : List Loc) (ls : Array Slot), va_S (P) s.heap H locs → c1 D mo (.inr (13, [.ref ra, .ref rl, .ref ex, .ref ro, .int (nI pk), .int ca, .int rf, .int kn, .int 0])) H → c1 D ra (.inl (tk 3, 6, .inr (.inr (.inr (.inr (fun k => some (rt k))))))) H → MK D tk rt tt bb H → L2 D tk ex eT eB H → L2 D tk ro oT oB H → RW D tk sa P rl n9 vs H → lv_has ls 5 [(0, .ref mo), (1, .long d9), (3, .int y9)] → W p l e ({ frames := 9, cells := 3869, slots := 94998, locals := 212 } : Room) s m args below meth c H locs (3821) (94303) Q (F0 m 148 ls []) := by
    intro n
    induction n with
    | zero =>
      intro k d9 y9 hf9 hk9 hx9 H locs ls hS fo fj fk fe fr fw hl
      omega
    | succ n ih_148 =>
      intro k d9 y9 hf9 hk9 hx9 H locs ls hS fo fj fk fe fr fw hl
      refine lv_iload_n (pc := 148) hx hb dX5_digest_148 rfl (lv_at hl 2 rfl) ?_
      refine lv_bipush (pc := 149) (v := 6) hx hb dX5_digest_149 (by decide) ?_
      refine lv_icmp_ge (pc := 151) (tgt := 214) hx hb dX5_digest_151 (by decide) (fun c_23 => ?_) (fun c_23 => ?_)
      · exact g3_X5_digest E hC hA hn hr hlk hPN hPs mo n9 kn th tt bb eT eB oT oB pk ca rf vs hQ ra rl ex ro rt hPm hPa hPl hPe hPr hPk hFk hFe hFr hpk hn9 d9 _ _ _ hS fo fj fk fe fr fw (lv_sub hl [0, 1] rfl)
      · have hkn : k < 6 := Nat.not_le.mp (fun z9 => c_23 (by rw [hx9]; exact nI_le (a := 6) z9 (by omega)))
        refine lv_iload_n (pc := 154) hx hb dX5_digest_154 rfl (lv_at hl 2 rfl) ?_
        refine lv_iconst (pc := 155) (v := 1) hx hb dX5_digest_155 (by decide) ?_
        refine lv_iadd (pc := 156) hx hb dX5_digest_156 ?_
        have hz0 : y9 + 1 = nI (k + 1) := by rw [hx9]; exact nI_1 k
        obtain ⟨x_72, ex_72⟩ : ∃ z9 : Int32, z9 = y9 + 1 := ⟨_, rfl⟩
        rw [← ex_72]
        refine lv_istore (pc := 157) (lv' := [(4, .int x_72), (0, .ref mo), (1, .long d9), (3, .int y9)]) hx hb dX5_digest_157 hl (by decide) rfl (fun ls hl => ?_)
        have loop_159 : ∀ (n : Nat) (j : Nat)(d9 : Int64) (u9 : Int32), 7 - j < n → j ≤ 6 → u9 = nI j → ∀ (H : Heap) (locs : List Loc) (ls : Array Slot), va_S (P) s.heap H locs → c1 D mo (.inr (13, [.ref ra, .ref rl, .ref ex, .ref ro, .int (nI pk), .int ca, .int rf, .int kn, .int 0])) H → c1 D ra (.inl (tk 3, 6, .inr (.inr (.inr (.inr (fun k => some (rt k))))))) H → MK D tk rt tt bb H → L2 D tk ex eT eB H → L2 D tk ro oT oB H → RW D tk sa P rl n9 vs H → lv_has ls 5 [(0, .ref mo), (1, .long d9), (3, .int y9), (4, .int u9)] → W p l e ({ frames := 9, cells := 3869, slots := 94998, locals := 212 } : Room) s m args below meth c H locs (3821) (94303) Q (F0 m 159 ls []) := by
          intro n
          induction n with
          | zero =>
            intro j d9 u9 hf8 hj8 hj9 H locs ls hS fo fj fk fe fr fw hl
            omega
          | succ n ih_159 =>
            intro j d9 u9 hf8 hj8 hj9 H locs ls hS fo fj fk fe fr fw hl
            refine lv_iload (pc := 159) hx hb dX5_digest_159 (lv_at hl 3 rfl) ?_
            refine lv_bipush (pc := 161) (v := 6) hx hb dX5_digest_161 (by decide) ?_
            refine lv_icmp_ge (pc := 163) (tgt := 208) hx hb dX5_digest_163 (by decide) (fun c_73 => ?_) (fun c_73 => ?_)
            · obtain ⟨x_74, ex_74⟩ : ∃ z9 : Int32, z9 = y9 + 1 := ⟨_, rfl⟩
              refine lv_iinc (pc := 208) (v := x_74) (lv' := [(3, .int x_74), (0, .ref mo), (1, .long d9), (4, .int u9)]) hx hb dX5_digest_208 hl (k := 2) rfl (by rw [ex_74]; rfl) (by decide) rfl (fun ls hl => ?_)
              refine lv_goto (pc := 211) (tgt := 148) hx hb dX5_digest_211 (by decide) ?_
              refine W.widen (k := 3821) (n := 94303) (by omega) (by omega) ?_
              exact ih_148  (k + 1)  d9 x_74 (by omega) (by omega) (i_up hx9 ex_74) _ _ _ hS fo fj fk fe fr fw (lv_sub hl [1, 2, 0] rfl)
            · have hjn : j < 6 := Nat.not_le.mp (fun z8 => c_73 (by rw [hj9]; exact nI_le (a := 6) z8 (by omega)))
              refine lv_lload_n (pc := 166) hx hb dX5_digest_166 rfl (lv_at hl 1 rfl) ?_
              refine lv_aload_n (pc := 167) hx hb dX5_digest_167 rfl (lv_at hl 0 rfl) ?_
              refine r_get (pc := 168) E hC fo 0 (v := .ref ra) rfl rfl (by decide) uX5 (List.mem_cons_of_mem _ kw_1209) (fun _ h => h) dX5_digest_168 ?_
              refine lv_iload_n (pc := 171) hx hb dX5_digest_171 rfl (lv_at hl 2 rfl) ?_
              refine r_aaldJ (pc := 172) E hC fj k hx9 hkn (by decide) rfl dX5_digest_172 ?_
              have fL75 := fk k hkn
              have mF_fL75 := hFk k hkn
              have Pq_fL75 := hPk k hkn
              refine lv_aload_n (pc := 173) hx hb dX5_digest_173 rfl (lv_at hl 0 rfl) ?_
              refine r_get (pc := 174) E hC fo 0 (v := .ref ra) rfl rfl (by decide) uX5 (List.mem_cons_of_mem _ kw_1209) (fun _ h => h) dX5_digest_174 ?_
              refine lv_iload (pc := 177) hx hb dX5_digest_177 (lv_at hl 3 rfl) ?_
              refine r_aaldJ (pc := 179) E hC fj j hj9 hjn (by decide) rfl dX5_digest_179 ?_
              have fL76 := fk j hjn
              have mF_fL76 := hFk j hjn
              have Pq_fL76 := hPk j hjn
              have hZ0_ := hS.1
              have t_fo := fo.lt
              have t_fj := fj.lt
              have t_fk := fun k (hk9 : k < 6) => (fk k hk9).lt
              have t_fe := fe.lt
              have t_fr := fr.lt
              have t_fL75 := fL75.lt
              have t_fL76 := fL76.lt
              refine k_i (pc := 180) (k_S E hC hS hA hl.1 (c_X5_order l D tk N0 sa H.size (rt k) (tt k) (bb k) (rt j) (tt j) (bb j) ) kw_1268 kw_1269 kw_5 kw_1270 (n := 2) (by decide +kernel) rfl ⟨⟨rfl, rfl⟩, ⟨Nat.le_of_ble_eq_true rfl, Nat.le_of_ble_eq_true rfl⟩, (by dsimp only; omega), (by dsimp only; omega)⟩ rfl (Nat.le_of_ble_eq_true rfl) ⟨fL75, fL76⟩ dX5_digest_180) hS (fun q z w => absurd w (Nat.not_le.mpr z)) hn (fun r_77 H locs hR hz hk hS => ?_)
              have fw := fw.new hk
              have fo := fo.kept (hk _ fo.lt (Nat.not_le.mpr fo.lt))
              have fj := fj.kept (hk _ fj.lt (Nat.not_le.mpr fj.lt))
              have fk := fk.new hk
              have fe := fe.kept (hk _ fe.lt (Nat.not_le.mpr fe.lt))
              have fr := fr.kept (hk _ fr.lt (Nat.not_le.mpr fr.lt))
              have fL75 := fL75.kept (hk _ fL75.lt (Nat.not_le.mpr fL75.lt))
              have fL76 := fL76.kept (hk _ fL76.lt (Nat.not_le.mpr fL76.lt))
              have er_77 := hR
              refine lv_i2l (pc := 183) (v := r_77.toInt64) hx hb dX5_digest_183 rfl ?_
              refine k_l (pc := 184) (k_S E hC hS hA hl.1 (c_X5_add l D tk N0 sa H.size d9 r_77.toInt64 ) kw_1805 kw_1806 kw_5 kw_1807 (n := 2) (by decide +kernel) rfl ⟨⟨rfl, rfl⟩, ⟨Nat.le_of_ble_eq_true rfl, Nat.le_of_ble_eq_true rfl⟩, (by dsimp only; omega), (by dsimp only; omega)⟩ rfl (Nat.le_of_ble_eq_true rfl) trivial dX5_digest_184) hS (fun q z w => absurd w (Nat.not_le.mpr z)) hn (fun r_78 H locs hR hz hk hS => ?_)
              have er_78 := hR
              have fw := fw.new hk
              have fo := fo.kept (hk _ fo.lt (Nat.not_le.mpr fo.lt))
              have fj := fj.kept (hk _ fj.lt (Nat.not_le.mpr fj.lt))
              have fk := fk.new hk
              have fe := fe.kept (hk _ fe.lt (Nat.not_le.mpr fe.lt))
              have fr := fr.kept (hk _ fr.lt (Nat.not_le.mpr fr.lt))
              have fL75 := fL75.kept (hk _ fL75.lt (Nat.not_le.mpr fL75.lt))
              have fL76 := fL76.kept (hk _ fL76.lt (Nat.not_le.mpr fL76.lt))
              refine lv_aload_n (pc := 187) hx hb dX5_digest_187 rfl (lv_at hl 0 rfl) ?_
              refine lv_iload_n (pc := 188) hx hb dX5_digest_188 rfl (lv_at hl 2 rfl) ?_
              refine lv_iload (pc := 189) hx hb dX5_digest_189 (lv_at hl 3 rfl) ?_
              have hZ0_ := hS.1
              have t_fo := fo.lt
              have t_fj := fj.lt
              have t_fk := fun k (hk9 : k < 6) => (fk k hk9).lt
              have t_fe := fe.lt
              have t_fr := fr.lt
              have t_fL75 := fL75.lt
              have t_fL76 := fL76.lt
              refine k_i (pc := 191) (k_V E hC hS hA hl.1 (c1.recv hC fo rfl) rfl (c_X5_areNextNow l D tk N0 sa H.size P hPN mo n9 kn 0 tt bb eT eB oT oB pk ca rf vs y9 k hx9 hkn u9 j hj9 hjn ) kw_1403 kw_1405 kp_24 kw_5 kw_1406 (n := 2) (by decide +kernel) rfl ⟨⟨rfl, rfl⟩, ⟨Nat.le_of_ble_eq_true rfl, Nat.le_of_ble_eq_true rfl⟩, (by dsimp only; omega), (by dsimp only; omega)⟩ rfl (Nat.le_of_ble_eq_true rfl) ⟨_, _, _, _, _, fo, fj, fk, fe, fr, fw, ⟨hPm, hPa, hPl, hPe, hPr, hPk⟩, hFk, hFe, hFr, hpk, hn9⟩ dX5_digest_191) hS (fun q z w => absurd w (Nat.not_le.mpr z)) hn (fun r_80 H locs hR hz hk hS => ?_)
              have fw := fw.new hk
              have fo := fo.kept (hk _ fo.lt (Nat.not_le.mpr fo.lt))
              have fj := fj.kept (hk _ fj.lt (Nat.not_le.mpr fj.lt))
              have fk := fk.new hk
              have fe := fe.kept (hk _ fe.lt (Nat.not_le.mpr fe.lt))
              have fr := fr.kept (hk _ fr.lt (Nat.not_le.mpr fr.lt))
              have fL75 := fL75.kept (hk _ fL75.lt (Nat.not_le.mpr fL75.lt))
              have fL76 := fL76.kept (hk _ fL76.lt (Nat.not_le.mpr fL76.lt))
              have er_80 := hR
              refine k_i (pc := 194) (k_S E hC hS hA hl.1 (c_X5_bit l D tk N0 sa H.size r_80 ) kw_1271 kw_1272 kw_5 kw_1273 (n := 1) (by decide +kernel) rfl ⟨⟨rfl, rfl⟩, ⟨Nat.le_of_ble_eq_true rfl, Nat.le_of_ble_eq_true rfl⟩, (by dsimp only; omega), (by dsimp only; omega)⟩ rfl (Nat.le_of_ble_eq_true rfl) trivial dX5_digest_194) hS (fun q z w => absurd w (Nat.not_le.mpr z)) hn (fun r_81 H locs hR hz hk hS => ?_)
              have er_81 := hR
              have fw := fw.new hk
              have fo := fo.kept (hk _ fo.lt (Nat.not_le.mpr fo.lt))
              have fj := fj.kept (hk _ fj.lt (Nat.not_le.mpr fj.lt))
              have fk := fk.new hk
              have fe := fe.kept (hk _ fe.lt (Nat.not_le.mpr fe.lt))
              have fr := fr.kept (hk _ fr.lt (Nat.not_le.mpr fr.lt))
              have fL75 := fL75.kept (hk _ fL75.lt (Nat.not_le.mpr fL75.lt))
              have fL76 := fL76.kept (hk _ fL76.lt (Nat.not_le.mpr fL76.lt))
              refine lv_i2l (pc := 197) (v := r_81.toInt64) hx hb dX5_digest_197 rfl ?_
              refine k_l (pc := 198) (k_S E hC hS hA hl.1 (c_X5_add l D tk N0 sa H.size r_78 r_81.toInt64 ) kw_1805 kw_1806 kw_5 kw_1807 (n := 2) (by decide +kernel) rfl ⟨⟨rfl, rfl⟩, ⟨Nat.le_of_ble_eq_true rfl, Nat.le_of_ble_eq_true rfl⟩, (by dsimp only; omega), (by dsimp only; omega)⟩ rfl (Nat.le_of_ble_eq_true rfl) trivial dX5_digest_198) hS (fun q z w => absurd w (Nat.not_le.mpr z)) hn (fun r_83 H locs hR hz hk hS => ?_)
              have er_83 := hR
              have fw := fw.new hk
              have fo := fo.kept (hk _ fo.lt (Nat.not_le.mpr fo.lt))
              have fj := fj.kept (hk _ fj.lt (Nat.not_le.mpr fj.lt))
              have fk := fk.new hk
              have fe := fe.kept (hk _ fe.lt (Nat.not_le.mpr fe.lt))
              have fr := fr.kept (hk _ fr.lt (Nat.not_le.mpr fr.lt))
              have fL75 := fL75.kept (hk _ fL75.lt (Nat.not_le.mpr fL75.lt))
              have fL76 := fL76.kept (hk _ fL76.lt (Nat.not_le.mpr fL76.lt))
              refine lv_lstore_n (pc := 201) (lv' := [(1, .long r_83), (0, .ref mo), (3, .int y9), (4, .int u9)]) hx hb dX5_digest_201 rfl hl (by decide) rfl (fun ls hl => ?_)
              obtain ⟨x_85, ex_85⟩ : ∃ z9 : Int32, z9 = u9 + 1 := ⟨_, rfl⟩
              refine lv_iinc (pc := 202) (v := x_85) (lv' := [(4, .int x_85), (1, .long r_83), (0, .ref mo), (3, .int y9)]) hx hb dX5_digest_202 hl (k := 3) rfl (by rw [ex_85]; rfl) (by decide) rfl (fun ls hl => ?_)
              refine lv_goto (pc := 205) (tgt := 159) hx hb dX5_digest_205 (by decide) ?_
              refine W.widen (k := 3821) (n := 94303) (by omega) (by omega) ?_
              exact ih_159  (j + 1)  r_83 x_85 (by omega) (by omega) (i_up hj9 ex_85) _ _ _ hS fo fj fk fe fr fw (lv_sub hl [2, 1, 3, 0] rfl)
        refine W.widen (k := 3821) (n := 94303) (by omega) (by omega) ?_
        exact loop_159 8 (k + 1)  d9 x_72 (by omega) (by omega) (ex_72.trans hz0) _ _ _ hS fo fj fk fe fr fw (lv_sub hl [1, 2, 3, 0] rfl)
  refine W.widen (k := 3821) (n := 94303) (by omega) (by omega) ?_
  exact loop_148 8 0  d9 0 (by omega) (Nat.zero_le _) nI_0.symm _ _ _ hS fo fj fk fe fr fw (lv_sub hl [1, 2, 0] rfl)
set_option maxHeartbeats 4000000 in
set_option maxRecDepth 100000 in
theorem g7_X5_digest {p : Program} {l : Launch} {e : Env} {s : State} {m : MethodId} {args : Array Value} {below : List Frame} {meth : Method} {c : Code} {Q : State → Prop} {D : va_G} {tk : Nat → ClassId} {N0 : Nat} {sa : Nat → Nat} {P : Nat → Prop} (E : CallFix p m c cX5_digest 5 s args (wsy yX5_digest cX5_digest 5 (some .long)) RX5) (hC : Ctx D tk N0 sa s) (hA : ∀ q, (P) q → N0 ≤ q) (hn : ∀ q, s.heap.size ≤ q → (P) q) (hr : meth.sig.returnType = (some .long)) (hlk : meth.locks = false) (hPN : ∀ q, P q → N0 ≤ q) (hPs : ∀ q, s.heap.size ≤ q → P q) (mo : Nat) (n9 : Nat) (kn : Int32) (th : Int32) (tt : Nat → Int64) (bb : Nat → Int64) (eT : Int64) (eB : Int64) (oT : Int64) (oB : Int64) (pk : Nat) (ca : Int32) (rf : Int32) (vs : Nat → Value) (ra : Nat) (rl : Nat) (ex : Nat) (ro : Nat) (rt : Nat → Nat) (hPm : P mo) (hPa : P ra) (hPl : P rl) (hPe : P ex) (hPr : P ro) (hPk : ∀ k, k < 6 → P (rt k)) (hFk : ∀ k, k < 6 → m_F (tt k) (bb k)) (hFe : m_F eT eB) (hFr : m_F oT oB ∧ m_D4 oB) (hpk : pk ≤ 4) (hn9 : n9 ≤ 16) (r_115 : Int64) (n : Nat) (k : Nat) (d9 : Int64) (y9 : Int32) (hf9 : 7 - k < n + 1) (hk9 : k ≤ 6) (hx9 : y9 = nI k) (ih_35 : ∀ (k : Nat)(d9 : Int64) (y9 : Int32), 7 - k < n → k ≤ 6 → y9 = nI k → ∀ (H : Heap) (locs : List Loc) (ls : Array Slot), va_S (P) s.heap H locs → c1 D mo (.inr (13, [.ref ra, .ref rl, .ref ex, .ref ro, .int (nI pk), .int ca, .int rf, .int kn, .int 0])) H → c1 D ra (.inl (tk 3, 6, .inr (.inr (.inr (.inr (fun k => some (rt k))))))) H → MK D tk rt tt bb H → L2 D tk ex eT eB H → L2 D tk ro oT oB H → RW D tk sa P rl n9 vs H → lv_has ls 5 [(0, .ref mo), (1, .long d9), (3, .int y9)] → W p l e ({ frames := 9, cells := 3869, slots := 94998, locals := 212 } : Room) s m args below meth c H locs (5 + 636 * k) (25 + 15713 * k) Q (F0 m 35 ls [])) (hkn : k < 6) (H : Heap) (locs : List Loc) (ls : Array Slot) (hS : va_S (P) s.heap H locs) (fo : c1 D mo (.inr (13, [.ref ra, .ref rl, .ref ex, .ref ro, .int (nI pk), .int ca, .int rf, .int kn, .int 0])) H) (fj : c1 D ra (.inl (tk 3, 6, .inr (.inr (.inr (.inr (fun k => some (rt k))))))) H) (fk : MK D tk rt tt bb H) (fe : L2 D tk ex eT eB H) (fr : L2 D tk ro oT oB H) (fw : RW D tk sa P rl n9 vs H) (hl : lv_has ls 5 [(1, .long r_115), (0, .ref mo), (3, .int y9)]) : W p l e ({ frames := 9, cells := 3869, slots := 94998, locals := 212 } : Room) s m args below meth c H locs (5 + 636 * k + 1 + 0 + 1 + 0 + 1 + 0 + 1 + 0 + 49 + 0 + 0 + 50 + 0 + 393 + 0 + 0) (25 + 15713 * k + 4 + 0 + 4 + 0 + 4 + 0 + 4 + 0 + 175 + 0 + 0 + 179 + 0 + 14193 + 0 + 0) Q (F0 m 108 ls []) := by
  obtain ⟨hx, hb, -⟩ := id E
  have g_fo := hPm
  have g_fj := hPa
  refine lv_iconst (pc := 108) (v := 0) hx hb dX5_digest_108 (by decide) ?_
  refine lv_istore (pc := 109) (lv' := [(4, .int 0), (1, .long r_115), (0, .ref mo), (3, .int y9)]) hx hb dX5_digest_109 hl (by decide) rfl (fun ls hl => ?_)
  refine lv_iload (pc := 111) hx hb dX5_digest_111 (lv_at hl 0 rfl) ?_
  refine lv_iconst (pc := 113) (v := 5) hx hb dX5_digest_113 (by decide) ?_
  refine lv_icmp_ge (pc := 114) (tgt := 140) hx hb dX5_digest_114 (by decide) (fun c_117 => ?_) (fun c_117 => ?_)
  · exact absurd c_117 (by decide)
  refine lv_lload_n (pc := 117) hx hb dX5_digest_117 rfl (lv_at hl 1 rfl) ?_
  refine lv_aload_n (pc := 118) hx hb dX5_digest_118 rfl (lv_at hl 2 rfl) ?_
  refine lv_iload_n (pc := 119) hx hb dX5_digest_119 rfl (lv_at hl 3 rfl) ?_
  refine lv_iconst (pc := 120) (v := 3) hx hb dX5_digest_120 (by decide) ?_
  refine lv_iload (pc := 121) hx hb dX5_digest_121 (lv_at hl 0 rfl) ?_
  have hdG := (m_dG1 13).1 (by decide)
  have hZ0_ := hS.1
  have t_fo := fo.lt
  have t_fj := fj.lt
  have t_fk := fun k (hk9 : k < 6) => (fk k hk9).lt
  have t_fe := fe.lt
  have t_fr := fr.lt
  refine k_r (pc := 123) (k_V E hC hS hA hl.1 (c1.recv hC fo rfl) rfl (c_X5_cutNow l D tk N0 sa H.size P hPN mo n9 kn 0 tt bb eT eB oT oB pk ca rf vs y9 k hx9 hkn 3 0 3 13 rfl (by decide) (by decide) (by decide) (fun t b h9 => m_dg13 (m_cut3B h9 _))) kw_1700 kw_1702 kp_32 kw_5 kw_1703 (n := 3) (by decide +kernel) rfl ⟨⟨rfl, rfl⟩, ⟨Nat.le_of_ble_eq_true rfl, Nat.le_of_ble_eq_true rfl⟩, (by dsimp only; omega), (by dsimp only; omega)⟩ rfl (Nat.le_of_ble_eq_true rfl) ⟨_, _, _, _, _, fo, fj, fk, fe, fr, fw, ⟨hPm, hPa, hPl, hPe, hPr, hPk⟩, hFk, hFe, hFr, hpk, hn9⟩ dX5_digest_123) hS (fun q z w => absurd w (Nat.not_le.mpr z)) hn (fun r_118 H locs hR hz hk hS => ?_)
  have fw := fw.new hk
  have fo := fo.kept (hk _ fo.lt (Nat.not_le.mpr fo.lt))
  have fj := fj.kept (hk _ fj.lt (Nat.not_le.mpr fj.lt))
  have fk := fk.new hk
  have fe := fe.kept (hk _ fe.lt (Nat.not_le.mpr fe.lt))
  have fr := fr.kept (hk _ fr.lt (Nat.not_le.mpr fr.lt))
  obtain ⟨n_f119, hn_f119, f119⟩ := hR
  refine k_i (pc := 126) (k_V E hC hS hA hl.1 (f119.recv hC) rfl (c_J0_length_8abf5 l D tk N0 sa H.size r_118 n_f119) kw_1710 kw_413 kw_414 kw_20 kw_415 (n := 0) (by decide +kernel) rfl ⟨⟨rfl, rfl⟩, ⟨Nat.le_of_ble_eq_true rfl, Nat.le_of_ble_eq_true rfl⟩, (by dsimp only; omega), (by dsimp only; omega)⟩ rfl (Nat.le_of_ble_eq_true rfl) f119 dX5_digest_126) hS (fun q z w => absurd w (Nat.not_le.mpr z)) hn (fun r_120 H locs hR hz hk hS => ?_)
  have fw := fw.new hk
  have fo := fo.kept (hk _ fo.lt (Nat.not_le.mpr fo.lt))
  have fj := fj.kept (hk _ fj.lt (Nat.not_le.mpr fj.lt))
  have fk := fk.new hk
  have fe := fe.kept (hk _ fe.lt (Nat.not_le.mpr fe.lt))
  have fr := fr.kept (hk _ fr.lt (Nat.not_le.mpr fr.lt))
  have f119 := f119.new hk
  rw [show r_120 = nI n_f119 from hR]
  refine lv_i2l (pc := 129) (v := (nI n_f119).toInt64) hx hb dX5_digest_129 rfl ?_
  refine k_l (pc := 130) (k_S E hC hS hA hl.1 (c_X5_add l D tk N0 sa H.size r_115 ((nI n_f119).toInt64) ) kw_1805 kw_1806 kw_5 kw_1807 (n := 2) (by decide +kernel) rfl ⟨⟨rfl, rfl⟩, ⟨Nat.le_of_ble_eq_true rfl, Nat.le_of_ble_eq_true rfl⟩, (by dsimp only; omega), (by dsimp only; omega)⟩ rfl (Nat.le_of_ble_eq_true rfl) trivial dX5_digest_130) hS (fun q z w => absurd w (Nat.not_le.mpr z)) hn (fun r_121 H locs hR hz hk hS => ?_)
  have er_121 := hR
  have fw := fw.new hk
  have fo := fo.kept (hk _ fo.lt (Nat.not_le.mpr fo.lt))
  have fj := fj.kept (hk _ fj.lt (Nat.not_le.mpr fj.lt))
  have fk := fk.new hk
  have fe := fe.kept (hk _ fe.lt (Nat.not_le.mpr fe.lt))
  have fr := fr.kept (hk _ fr.lt (Nat.not_le.mpr fr.lt))
  have f119 := f119.new hk
  refine lv_lstore_n (pc := 133) (lv' := [(1, .long r_121), (4, .int 0), (0, .ref mo), (3, .int y9)]) hx hb dX5_digest_133 rfl hl (by decide) rfl (fun ls hl => ?_)
  refine lv_iinc (pc := 134) (v := 1) (lv' := [(4, .int 1), (1, .long r_121), (0, .ref mo), (3, .int y9)]) hx hb dX5_digest_134 hl (k := 1) rfl (by decide) (by decide) rfl (fun ls hl => ?_)
  refine lv_goto (pc := 137) (tgt := 111) hx hb dX5_digest_137 (by decide) ?_
  refine lv_iload (pc := 111) hx hb dX5_digest_111 (lv_at hl 0 rfl) ?_
  refine lv_iconst (pc := 113) (v := 5) hx hb dX5_digest_113 (by decide) ?_
  refine lv_icmp_ge (pc := 114) (tgt := 140) hx hb dX5_digest_114 (by decide) (fun c_123 => ?_) (fun c_123 => ?_)
  · exact absurd c_123 (by decide)
  refine lv_lload_n (pc := 117) hx hb dX5_digest_117 rfl (lv_at hl 1 rfl) ?_
  refine lv_aload_n (pc := 118) hx hb dX5_digest_118 rfl (lv_at hl 2 rfl) ?_
  refine lv_iload_n (pc := 119) hx hb dX5_digest_119 rfl (lv_at hl 3 rfl) ?_
  refine lv_iconst (pc := 120) (v := 3) hx hb dX5_digest_120 (by decide) ?_
  refine lv_iload (pc := 121) hx hb dX5_digest_121 (lv_at hl 0 rfl) ?_
  have hdG := (m_dG1 13).1 (by decide)
  have hZ0_ := hS.1
  have t_fo := fo.lt
  have t_fj := fj.lt
  have t_fk := fun k (hk9 : k < 6) => (fk k hk9).lt
  have t_fe := fe.lt
  have t_fr := fr.lt
  have t_f119 := f119.lt
  refine k_r (pc := 123) (k_V E hC hS hA hl.1 (c1.recv hC fo rfl) rfl (c_X5_cutNow l D tk N0 sa H.size P hPN mo n9 kn 0 tt bb eT eB oT oB pk ca rf vs y9 k hx9 hkn 3 1 3 13 rfl (by decide) (by decide) (by decide) (fun t b h9 => m_dg13 (m_cut3B h9 _))) kw_1700 kw_1702 kp_32 kw_5 kw_1703 (n := 3) (by decide +kernel) rfl ⟨⟨rfl, rfl⟩, ⟨Nat.le_of_ble_eq_true rfl, Nat.le_of_ble_eq_true rfl⟩, (by dsimp only; omega), (by dsimp only; omega)⟩ rfl (Nat.le_of_ble_eq_true rfl) ⟨_, _, _, _, _, fo, fj, fk, fe, fr, fw, ⟨hPm, hPa, hPl, hPe, hPr, hPk⟩, hFk, hFe, hFr, hpk, hn9⟩ dX5_digest_123) hS (fun q z w => absurd w (Nat.not_le.mpr z)) hn (fun r_124 H locs hR hz hk hS => ?_)
  have fw := fw.new hk
  have fo := fo.kept (hk _ fo.lt (Nat.not_le.mpr fo.lt))
  have fj := fj.kept (hk _ fj.lt (Nat.not_le.mpr fj.lt))
  have fk := fk.new hk
  have fe := fe.kept (hk _ fe.lt (Nat.not_le.mpr fe.lt))
  have fr := fr.kept (hk _ fr.lt (Nat.not_le.mpr fr.lt))
  have f119 := f119.new hk
  obtain ⟨n_f125, hn_f125, f125⟩ := hR
  refine k_i (pc := 126) (k_V E hC hS hA hl.1 (f125.recv hC) rfl (c_J0_length_8abf5 l D tk N0 sa H.size r_124 n_f125) kw_1710 kw_413 kw_414 kw_20 kw_415 (n := 0) (by decide +kernel) rfl ⟨⟨rfl, rfl⟩, ⟨Nat.le_of_ble_eq_true rfl, Nat.le_of_ble_eq_true rfl⟩, (by dsimp only; omega), (by dsimp only; omega)⟩ rfl (Nat.le_of_ble_eq_true rfl) f125 dX5_digest_126) hS (fun q z w => absurd w (Nat.not_le.mpr z)) hn (fun r_126 H locs hR hz hk hS => ?_)
  have fw := fw.new hk
  have fo := fo.kept (hk _ fo.lt (Nat.not_le.mpr fo.lt))
  have fj := fj.kept (hk _ fj.lt (Nat.not_le.mpr fj.lt))
  have fk := fk.new hk
  have fe := fe.kept (hk _ fe.lt (Nat.not_le.mpr fe.lt))
  have fr := fr.kept (hk _ fr.lt (Nat.not_le.mpr fr.lt))
  have f119 := f119.new hk
  have f125 := f125.new hk
  rw [show r_126 = nI n_f125 from hR]
  refine lv_i2l (pc := 129) (v := (nI n_f125).toInt64) hx hb dX5_digest_129 rfl ?_
  refine k_l (pc := 130) (k_S E hC hS hA hl.1 (c_X5_add l D tk N0 sa H.size r_121 ((nI n_f125).toInt64) ) kw_1805 kw_1806 kw_5 kw_1807 (n := 2) (by decide +kernel) rfl ⟨⟨rfl, rfl⟩, ⟨Nat.le_of_ble_eq_true rfl, Nat.le_of_ble_eq_true rfl⟩, (by dsimp only; omega), (by dsimp only; omega)⟩ rfl (Nat.le_of_ble_eq_true rfl) trivial dX5_digest_130) hS (fun q z w => absurd w (Nat.not_le.mpr z)) hn (fun r_127 H locs hR hz hk hS => ?_)
  have er_127 := hR
  have fw := fw.new hk
  have fo := fo.kept (hk _ fo.lt (Nat.not_le.mpr fo.lt))
  have fj := fj.kept (hk _ fj.lt (Nat.not_le.mpr fj.lt))
  have fk := fk.new hk
  have fe := fe.kept (hk _ fe.lt (Nat.not_le.mpr fe.lt))
  have fr := fr.kept (hk _ fr.lt (Nat.not_le.mpr fr.lt))
  have f119 := f119.new hk
  have f125 := f125.new hk
  refine lv_lstore_n (pc := 133) (lv' := [(1, .long r_127), (4, .int 1), (0, .ref mo), (3, .int y9)]) hx hb dX5_digest_133 rfl hl (by decide) rfl (fun ls hl => ?_)
  refine lv_iinc (pc := 134) (v := 2) (lv' := [(4, .int 2), (1, .long r_127), (0, .ref mo), (3, .int y9)]) hx hb dX5_digest_134 hl (k := 1) rfl (by decide) (by decide) rfl (fun ls hl => ?_)
  refine lv_goto (pc := 137) (tgt := 111) hx hb dX5_digest_137 (by decide) ?_
  refine lv_iload (pc := 111) hx hb dX5_digest_111 (lv_at hl 0 rfl) ?_
  refine lv_iconst (pc := 113) (v := 5) hx hb dX5_digest_113 (by decide) ?_
  refine lv_icmp_ge (pc := 114) (tgt := 140) hx hb dX5_digest_114 (by decide) (fun c_129 => ?_) (fun c_129 => ?_)
  · exact absurd c_129 (by decide)
  refine lv_lload_n (pc := 117) hx hb dX5_digest_117 rfl (lv_at hl 1 rfl) ?_
  refine lv_aload_n (pc := 118) hx hb dX5_digest_118 rfl (lv_at hl 2 rfl) ?_
  refine lv_iload_n (pc := 119) hx hb dX5_digest_119 rfl (lv_at hl 3 rfl) ?_
  refine lv_iconst (pc := 120) (v := 3) hx hb dX5_digest_120 (by decide) ?_
  refine lv_iload (pc := 121) hx hb dX5_digest_121 (lv_at hl 0 rfl) ?_
  have hdG := (m_dG1 13).1 (by decide)
  have hZ0_ := hS.1
  have t_fo := fo.lt
  have t_fj := fj.lt
  have t_fk := fun k (hk9 : k < 6) => (fk k hk9).lt
  have t_fe := fe.lt
  have t_fr := fr.lt
  have t_f119 := f119.lt
  have t_f125 := f125.lt
  refine k_r (pc := 123) (k_V E hC hS hA hl.1 (c1.recv hC fo rfl) rfl (c_X5_cutNow l D tk N0 sa H.size P hPN mo n9 kn 0 tt bb eT eB oT oB pk ca rf vs y9 k hx9 hkn 3 2 3 13 rfl (by decide) (by decide) (by decide) (fun t b h9 => m_dg13 (m_cut3B h9 _))) kw_1700 kw_1702 kp_32 kw_5 kw_1703 (n := 3) (by decide +kernel) rfl ⟨⟨rfl, rfl⟩, ⟨Nat.le_of_ble_eq_true rfl, Nat.le_of_ble_eq_true rfl⟩, (by dsimp only; omega), (by dsimp only; omega)⟩ rfl (Nat.le_of_ble_eq_true rfl) ⟨_, _, _, _, _, fo, fj, fk, fe, fr, fw, ⟨hPm, hPa, hPl, hPe, hPr, hPk⟩, hFk, hFe, hFr, hpk, hn9⟩ dX5_digest_123) hS (fun q z w => absurd w (Nat.not_le.mpr z)) hn (fun r_130 H locs hR hz hk hS => ?_)
  have fw := fw.new hk
  have fo := fo.kept (hk _ fo.lt (Nat.not_le.mpr fo.lt))
  have fj := fj.kept (hk _ fj.lt (Nat.not_le.mpr fj.lt))
  have fk := fk.new hk
  have fe := fe.kept (hk _ fe.lt (Nat.not_le.mpr fe.lt))
  have fr := fr.kept (hk _ fr.lt (Nat.not_le.mpr fr.lt))
  have f119 := f119.new hk
  have f125 := f125.new hk
  obtain ⟨n_f131, hn_f131, f131⟩ := hR
  refine k_i (pc := 126) (k_V E hC hS hA hl.1 (f131.recv hC) rfl (c_J0_length_8abf5 l D tk N0 sa H.size r_130 n_f131) kw_1710 kw_413 kw_414 kw_20 kw_415 (n := 0) (by decide +kernel) rfl ⟨⟨rfl, rfl⟩, ⟨Nat.le_of_ble_eq_true rfl, Nat.le_of_ble_eq_true rfl⟩, (by dsimp only; omega), (by dsimp only; omega)⟩ rfl (Nat.le_of_ble_eq_true rfl) f131 dX5_digest_126) hS (fun q z w => absurd w (Nat.not_le.mpr z)) hn (fun r_132 H locs hR hz hk hS => ?_)
  have fw := fw.new hk
  have fo := fo.kept (hk _ fo.lt (Nat.not_le.mpr fo.lt))
  have fj := fj.kept (hk _ fj.lt (Nat.not_le.mpr fj.lt))
  have fk := fk.new hk
  have fe := fe.kept (hk _ fe.lt (Nat.not_le.mpr fe.lt))
  have fr := fr.kept (hk _ fr.lt (Nat.not_le.mpr fr.lt))
  have f119 := f119.new hk
  have f125 := f125.new hk
  have f131 := f131.new hk
  rw [show r_132 = nI n_f131 from hR]
  refine lv_i2l (pc := 129) (v := (nI n_f131).toInt64) hx hb dX5_digest_129 rfl ?_
  refine k_l (pc := 130) (k_S E hC hS hA hl.1 (c_X5_add l D tk N0 sa H.size r_127 ((nI n_f131).toInt64) ) kw_1805 kw_1806 kw_5 kw_1807 (n := 2) (by decide +kernel) rfl ⟨⟨rfl, rfl⟩, ⟨Nat.le_of_ble_eq_true rfl, Nat.le_of_ble_eq_true rfl⟩, (by dsimp only; omega), (by dsimp only; omega)⟩ rfl (Nat.le_of_ble_eq_true rfl) trivial dX5_digest_130) hS (fun q z w => absurd w (Nat.not_le.mpr z)) hn (fun r_133 H locs hR hz hk hS => ?_)
  have er_133 := hR
  have fw := fw.new hk
  have fo := fo.kept (hk _ fo.lt (Nat.not_le.mpr fo.lt))
  have fj := fj.kept (hk _ fj.lt (Nat.not_le.mpr fj.lt))
  have fk := fk.new hk
  have fe := fe.kept (hk _ fe.lt (Nat.not_le.mpr fe.lt))
  have fr := fr.kept (hk _ fr.lt (Nat.not_le.mpr fr.lt))
  have f119 := f119.new hk
  have f125 := f125.new hk
  have f131 := f131.new hk
  refine lv_lstore_n (pc := 133) (lv' := [(1, .long r_133), (4, .int 2), (0, .ref mo), (3, .int y9)]) hx hb dX5_digest_133 rfl hl (by decide) rfl (fun ls hl => ?_)
  refine lv_iinc (pc := 134) (v := 3) (lv' := [(4, .int 3), (1, .long r_133), (0, .ref mo), (3, .int y9)]) hx hb dX5_digest_134 hl (k := 1) rfl (by decide) (by decide) rfl (fun ls hl => ?_)
  refine lv_goto (pc := 137) (tgt := 111) hx hb dX5_digest_137 (by decide) ?_
  refine lv_iload (pc := 111) hx hb dX5_digest_111 (lv_at hl 0 rfl) ?_
  refine lv_iconst (pc := 113) (v := 5) hx hb dX5_digest_113 (by decide) ?_
  refine lv_icmp_ge (pc := 114) (tgt := 140) hx hb dX5_digest_114 (by decide) (fun c_135 => ?_) (fun c_135 => ?_)
  · exact absurd c_135 (by decide)
  refine lv_lload_n (pc := 117) hx hb dX5_digest_117 rfl (lv_at hl 1 rfl) ?_
  refine lv_aload_n (pc := 118) hx hb dX5_digest_118 rfl (lv_at hl 2 rfl) ?_
  refine lv_iload_n (pc := 119) hx hb dX5_digest_119 rfl (lv_at hl 3 rfl) ?_
  refine lv_iconst (pc := 120) (v := 3) hx hb dX5_digest_120 (by decide) ?_
  refine lv_iload (pc := 121) hx hb dX5_digest_121 (lv_at hl 0 rfl) ?_
  have hdG := (m_dG1 13).1 (by decide)
  have hZ0_ := hS.1
  have t_fo := fo.lt
  have t_fj := fj.lt
  have t_fk := fun k (hk9 : k < 6) => (fk k hk9).lt
  have t_fe := fe.lt
  have t_fr := fr.lt
  have t_f119 := f119.lt
  have t_f125 := f125.lt
  have t_f131 := f131.lt
  refine k_r (pc := 123) (k_V E hC hS hA hl.1 (c1.recv hC fo rfl) rfl (c_X5_cutNow l D tk N0 sa H.size P hPN mo n9 kn 0 tt bb eT eB oT oB pk ca rf vs y9 k hx9 hkn 3 3 3 13 rfl (by decide) (by decide) (by decide) (fun t b h9 => m_dg13 (m_cut3B h9 _))) kw_1700 kw_1702 kp_32 kw_5 kw_1703 (n := 3) (by decide +kernel) rfl ⟨⟨rfl, rfl⟩, ⟨Nat.le_of_ble_eq_true rfl, Nat.le_of_ble_eq_true rfl⟩, (by dsimp only; omega), (by dsimp only; omega)⟩ rfl (Nat.le_of_ble_eq_true rfl) ⟨_, _, _, _, _, fo, fj, fk, fe, fr, fw, ⟨hPm, hPa, hPl, hPe, hPr, hPk⟩, hFk, hFe, hFr, hpk, hn9⟩ dX5_digest_123) hS (fun q z w => absurd w (Nat.not_le.mpr z)) hn (fun r_136 H locs hR hz hk hS => ?_)
  have fw := fw.new hk
  have fo := fo.kept (hk _ fo.lt (Nat.not_le.mpr fo.lt))
  have fj := fj.kept (hk _ fj.lt (Nat.not_le.mpr fj.lt))
  have fk := fk.new hk
  have fe := fe.kept (hk _ fe.lt (Nat.not_le.mpr fe.lt))
  have fr := fr.kept (hk _ fr.lt (Nat.not_le.mpr fr.lt))
  have f119 := f119.new hk
  have f125 := f125.new hk
  have f131 := f131.new hk
  obtain ⟨n_f137, hn_f137, f137⟩ := hR
  refine k_i (pc := 126) (k_V E hC hS hA hl.1 (f137.recv hC) rfl (c_J0_length_8abf5 l D tk N0 sa H.size r_136 n_f137) kw_1710 kw_413 kw_414 kw_20 kw_415 (n := 0) (by decide +kernel) rfl ⟨⟨rfl, rfl⟩, ⟨Nat.le_of_ble_eq_true rfl, Nat.le_of_ble_eq_true rfl⟩, (by dsimp only; omega), (by dsimp only; omega)⟩ rfl (Nat.le_of_ble_eq_true rfl) f137 dX5_digest_126) hS (fun q z w => absurd w (Nat.not_le.mpr z)) hn (fun r_138 H locs hR hz hk hS => ?_)
  have fw := fw.new hk
  have fo := fo.kept (hk _ fo.lt (Nat.not_le.mpr fo.lt))
  have fj := fj.kept (hk _ fj.lt (Nat.not_le.mpr fj.lt))
  have fk := fk.new hk
  have fe := fe.kept (hk _ fe.lt (Nat.not_le.mpr fe.lt))
  have fr := fr.kept (hk _ fr.lt (Nat.not_le.mpr fr.lt))
  have f119 := f119.new hk
  have f125 := f125.new hk
  have f131 := f131.new hk
  have f137 := f137.new hk
  rw [show r_138 = nI n_f137 from hR]
  refine lv_i2l (pc := 129) (v := (nI n_f137).toInt64) hx hb dX5_digest_129 rfl ?_
  refine k_l (pc := 130) (k_S E hC hS hA hl.1 (c_X5_add l D tk N0 sa H.size r_133 ((nI n_f137).toInt64) ) kw_1805 kw_1806 kw_5 kw_1807 (n := 2) (by decide +kernel) rfl ⟨⟨rfl, rfl⟩, ⟨Nat.le_of_ble_eq_true rfl, Nat.le_of_ble_eq_true rfl⟩, (by dsimp only; omega), (by dsimp only; omega)⟩ rfl (Nat.le_of_ble_eq_true rfl) trivial dX5_digest_130) hS (fun q z w => absurd w (Nat.not_le.mpr z)) hn (fun r_139 H locs hR hz hk hS => ?_)
  have er_139 := hR
  have fw := fw.new hk
  have fo := fo.kept (hk _ fo.lt (Nat.not_le.mpr fo.lt))
  have fj := fj.kept (hk _ fj.lt (Nat.not_le.mpr fj.lt))
  have fk := fk.new hk
  have fe := fe.kept (hk _ fe.lt (Nat.not_le.mpr fe.lt))
  have fr := fr.kept (hk _ fr.lt (Nat.not_le.mpr fr.lt))
  have f119 := f119.new hk
  have f125 := f125.new hk
  have f131 := f131.new hk
  have f137 := f137.new hk
  refine lv_lstore_n (pc := 133) (lv' := [(1, .long r_139), (4, .int 3), (0, .ref mo), (3, .int y9)]) hx hb dX5_digest_133 rfl hl (by decide) rfl (fun ls hl => ?_)
  refine lv_iinc (pc := 134) (v := 4) (lv' := [(4, .int 4), (1, .long r_139), (0, .ref mo), (3, .int y9)]) hx hb dX5_digest_134 hl (k := 1) rfl (by decide) (by decide) rfl (fun ls hl => ?_)
  refine lv_goto (pc := 137) (tgt := 111) hx hb dX5_digest_137 (by decide) ?_
  refine lv_iload (pc := 111) hx hb dX5_digest_111 (lv_at hl 0 rfl) ?_
  refine lv_iconst (pc := 113) (v := 5) hx hb dX5_digest_113 (by decide) ?_
  refine lv_icmp_ge (pc := 114) (tgt := 140) hx hb dX5_digest_114 (by decide) (fun c_141 => ?_) (fun c_141 => ?_)
  · exact absurd c_141 (by decide)
  refine lv_lload_n (pc := 117) hx hb dX5_digest_117 rfl (lv_at hl 1 rfl) ?_
  refine lv_aload_n (pc := 118) hx hb dX5_digest_118 rfl (lv_at hl 2 rfl) ?_
  refine lv_iload_n (pc := 119) hx hb dX5_digest_119 rfl (lv_at hl 3 rfl) ?_
  refine lv_iconst (pc := 120) (v := 3) hx hb dX5_digest_120 (by decide) ?_
  refine lv_iload (pc := 121) hx hb dX5_digest_121 (lv_at hl 0 rfl) ?_
  have hdG := (m_dG1 13).1 (by decide)
  have hZ0_ := hS.1
  have t_fo := fo.lt
  have t_fj := fj.lt
  have t_fk := fun k (hk9 : k < 6) => (fk k hk9).lt
  have t_fe := fe.lt
  have t_fr := fr.lt
  have t_f119 := f119.lt
  have t_f125 := f125.lt
  have t_f131 := f131.lt
  have t_f137 := f137.lt
  refine k_r (pc := 123) (k_V E hC hS hA hl.1 (c1.recv hC fo rfl) rfl (c_X5_cutNow l D tk N0 sa H.size P hPN mo n9 kn 0 tt bb eT eB oT oB pk ca rf vs y9 k hx9 hkn 3 4 3 13 rfl (by decide) (by decide) (by decide) (fun t b h9 => m_dg13 (m_cut3B h9 _))) kw_1700 kw_1702 kp_32 kw_5 kw_1703 (n := 3) (by decide +kernel) rfl ⟨⟨rfl, rfl⟩, ⟨Nat.le_of_ble_eq_true rfl, Nat.le_of_ble_eq_true rfl⟩, (by dsimp only; omega), (by dsimp only; omega)⟩ rfl (Nat.le_of_ble_eq_true rfl) ⟨_, _, _, _, _, fo, fj, fk, fe, fr, fw, ⟨hPm, hPa, hPl, hPe, hPr, hPk⟩, hFk, hFe, hFr, hpk, hn9⟩ dX5_digest_123) hS (fun q z w => absurd w (Nat.not_le.mpr z)) hn (fun r_142 H locs hR hz hk hS => ?_)
  have fw := fw.new hk
  have fo := fo.kept (hk _ fo.lt (Nat.not_le.mpr fo.lt))
  have fj := fj.kept (hk _ fj.lt (Nat.not_le.mpr fj.lt))
  have fk := fk.new hk
  have fe := fe.kept (hk _ fe.lt (Nat.not_le.mpr fe.lt))
  have fr := fr.kept (hk _ fr.lt (Nat.not_le.mpr fr.lt))
  have f119 := f119.new hk
  have f125 := f125.new hk
  have f131 := f131.new hk
  have f137 := f137.new hk
  obtain ⟨n_f143, hn_f143, f143⟩ := hR
  refine k_i (pc := 126) (k_V E hC hS hA hl.1 (f143.recv hC) rfl (c_J0_length_8abf5 l D tk N0 sa H.size r_142 n_f143) kw_1710 kw_413 kw_414 kw_20 kw_415 (n := 0) (by decide +kernel) rfl ⟨⟨rfl, rfl⟩, ⟨Nat.le_of_ble_eq_true rfl, Nat.le_of_ble_eq_true rfl⟩, (by dsimp only; omega), (by dsimp only; omega)⟩ rfl (Nat.le_of_ble_eq_true rfl) f143 dX5_digest_126) hS (fun q z w => absurd w (Nat.not_le.mpr z)) hn (fun r_144 H locs hR hz hk hS => ?_)
  have fw := fw.new hk
  have fo := fo.kept (hk _ fo.lt (Nat.not_le.mpr fo.lt))
  have fj := fj.kept (hk _ fj.lt (Nat.not_le.mpr fj.lt))
  have fk := fk.new hk
  have fe := fe.kept (hk _ fe.lt (Nat.not_le.mpr fe.lt))
  have fr := fr.kept (hk _ fr.lt (Nat.not_le.mpr fr.lt))
  have f119 := f119.new hk
  have f125 := f125.new hk
  have f131 := f131.new hk
  have f137 := f137.new hk
  have f143 := f143.new hk
  rw [show r_144 = nI n_f143 from hR]
  refine lv_i2l (pc := 129) (v := (nI n_f143).toInt64) hx hb dX5_digest_129 rfl ?_
  refine k_l (pc := 130) (k_S E hC hS hA hl.1 (c_X5_add l D tk N0 sa H.size r_139 ((nI n_f143).toInt64) ) kw_1805 kw_1806 kw_5 kw_1807 (n := 2) (by decide +kernel) rfl ⟨⟨rfl, rfl⟩, ⟨Nat.le_of_ble_eq_true rfl, Nat.le_of_ble_eq_true rfl⟩, (by dsimp only; omega), (by dsimp only; omega)⟩ rfl (Nat.le_of_ble_eq_true rfl) trivial dX5_digest_130) hS (fun q z w => absurd w (Nat.not_le.mpr z)) hn (fun r_145 H locs hR hz hk hS => ?_)
  have er_145 := hR
  have fw := fw.new hk
  have fo := fo.kept (hk _ fo.lt (Nat.not_le.mpr fo.lt))
  have fj := fj.kept (hk _ fj.lt (Nat.not_le.mpr fj.lt))
  have fk := fk.new hk
  have fe := fe.kept (hk _ fe.lt (Nat.not_le.mpr fe.lt))
  have fr := fr.kept (hk _ fr.lt (Nat.not_le.mpr fr.lt))
  have f119 := f119.new hk
  have f125 := f125.new hk
  have f131 := f131.new hk
  have f137 := f137.new hk
  have f143 := f143.new hk
  refine lv_lstore_n (pc := 133) (lv' := [(1, .long r_145), (4, .int 4), (0, .ref mo), (3, .int y9)]) hx hb dX5_digest_133 rfl hl (by decide) rfl (fun ls hl => ?_)
  refine lv_iinc (pc := 134) (v := 5) (lv' := [(4, .int 5), (1, .long r_145), (0, .ref mo), (3, .int y9)]) hx hb dX5_digest_134 hl (k := 1) rfl (by decide) (by decide) rfl (fun ls hl => ?_)
  refine lv_goto (pc := 137) (tgt := 111) hx hb dX5_digest_137 (by decide) ?_
  refine lv_iload (pc := 111) hx hb dX5_digest_111 (lv_at hl 0 rfl) ?_
  refine lv_iconst (pc := 113) (v := 5) hx hb dX5_digest_113 (by decide) ?_
  refine lv_icmp_ge (pc := 114) (tgt := 140) hx hb dX5_digest_114 (by decide) (fun c_147 => ?_) (fun c_147 => ?_)
  rotate_left
  · exact absurd (by decide) c_147
  obtain ⟨x_148, ex_148⟩ : ∃ z9 : Int32, z9 = y9 + 1 := ⟨_, rfl⟩
  refine lv_iinc (pc := 140) (v := x_148) (lv' := [(3, .int x_148), (4, .int 5), (1, .long r_145), (0, .ref mo)]) hx hb dX5_digest_140 hl (k := 3) rfl (by rw [ex_148]; rfl) (by decide) rfl (fun ls hl => ?_)
  refine lv_goto (pc := 143) (tgt := 35) hx hb dX5_digest_143 (by decide) ?_
  refine W.widen (k := 5 + 636 * (k + 1)) (n := 25 + 15713 * (k + 1)) (by omega) (by omega) ?_
  exact ih_35  (k + 1)  r_145 x_148 (by omega) (by omega) (i_up hx9 ex_148) _ _ _ hS fo fj fk fe fr fw (lv_sub hl [3, 2, 0] rfl)
set_option maxHeartbeats 4000000 in
set_option maxRecDepth 100000 in
theorem g6_X5_digest {p : Program} {l : Launch} {e : Env} {s : State} {m : MethodId} {args : Array Value} {below : List Frame} {meth : Method} {c : Code} {Q : State → Prop} {D : va_G} {tk : Nat → ClassId} {N0 : Nat} {sa : Nat → Nat} {P : Nat → Prop} (E : CallFix p m c cX5_digest 5 s args (wsy yX5_digest cX5_digest 5 (some .long)) RX5) (hC : Ctx D tk N0 sa s) (hA : ∀ q, (P) q → N0 ≤ q) (hn : ∀ q, s.heap.size ≤ q → (P) q) (hr : meth.sig.returnType = (some .long)) (hlk : meth.locks = false) (hPN : ∀ q, P q → N0 ≤ q) (hPs : ∀ q, s.heap.size ≤ q → P q) (mo : Nat) (n9 : Nat) (kn : Int32) (th : Int32) (tt : Nat → Int64) (bb : Nat → Int64) (eT : Int64) (eB : Int64) (oT : Int64) (oB : Int64) (pk : Nat) (ca : Int32) (rf : Int32) (vs : Nat → Value) (ra : Nat) (rl : Nat) (ex : Nat) (ro : Nat) (rt : Nat → Nat) (hPm : P mo) (hPa : P ra) (hPl : P rl) (hPe : P ex) (hPr : P ro) (hPk : ∀ k, k < 6 → P (rt k)) (hFk : ∀ k, k < 6 → m_F (tt k) (bb k)) (hFe : m_F eT eB) (hFr : m_F oT oB ∧ m_D4 oB) (hpk : pk ≤ 4) (hn9 : n9 ≤ 16) (r_100 : Int64) (n : Nat) (k : Nat) (d9 : Int64) (y9 : Int32) (hf9 : 7 - k < n + 1) (hk9 : k ≤ 6) (hx9 : y9 = nI k) (ih_35 : ∀ (k : Nat)(d9 : Int64) (y9 : Int32), 7 - k < n → k ≤ 6 → y9 = nI k → ∀ (H : Heap) (locs : List Loc) (ls : Array Slot), va_S (P) s.heap H locs → c1 D mo (.inr (13, [.ref ra, .ref rl, .ref ex, .ref ro, .int (nI pk), .int ca, .int rf, .int kn, .int 0])) H → c1 D ra (.inl (tk 3, 6, .inr (.inr (.inr (.inr (fun k => some (rt k))))))) H → MK D tk rt tt bb H → L2 D tk ex eT eB H → L2 D tk ro oT oB H → RW D tk sa P rl n9 vs H → lv_has ls 5 [(0, .ref mo), (1, .long d9), (3, .int y9)] → W p l e ({ frames := 9, cells := 3869, slots := 94998, locals := 212 } : Room) s m args below meth c H locs (5 + 636 * k) (25 + 15713 * k) Q (F0 m 35 ls [])) (hkn : k < 6) (H : Heap) (locs : List Loc) (ls : Array Slot) (hS : va_S (P) s.heap H locs) (fo : c1 D mo (.inr (13, [.ref ra, .ref rl, .ref ex, .ref ro, .int (nI pk), .int ca, .int rf, .int kn, .int 0])) H) (fj : c1 D ra (.inl (tk 3, 6, .inr (.inr (.inr (.inr (fun k => some (rt k))))))) H) (fk : MK D tk rt tt bb H) (fe : L2 D tk ex eT eB H) (fr : L2 D tk ro oT oB H) (fw : RW D tk sa P rl n9 vs H) (hl : lv_has ls 5 [(1, .long r_100), (0, .ref mo), (3, .int y9)]) : W p l e ({ frames := 9, cells := 3869, slots := 94998, locals := 212 } : Room) s m args below meth c H locs (5 + 636 * k + 1 + 0 + 1 + 0 + 1 + 0 + 1 + 0) (25 + 15713 * k + 4 + 0 + 4 + 0 + 4 + 0 + 4 + 0) Q (F0 m 69 ls []) := by
  obtain ⟨hx, hb, -⟩ := id E
  have g_fo := hPm
  have g_fj := hPa
  refine lv_lload_n (pc := 69) hx hb dX5_digest_69 rfl (lv_at hl 0 rfl) ?_
  refine lv_aload_n (pc := 70) hx hb dX5_digest_70 rfl (lv_at hl 1 rfl) ?_
  refine r_get (pc := 71) E hC fo 0 (v := .ref ra) rfl rfl (by decide) uX5 (List.mem_cons_of_mem _ kw_1209) (fun _ h => h) dX5_digest_71 ?_
  refine lv_iload_n (pc := 74) hx hb dX5_digest_74 rfl (lv_at hl 2 rfl) ?_
  refine r_aaldJ (pc := 75) E hC fj k hx9 hkn (by decide) rfl dX5_digest_75 ?_
  have fL103 := fk k hkn
  have mF_fL103 := hFk k hkn
  have Pq_fL103 := hPk k hkn
  have hZ0_ := hS.1
  have t_fo := fo.lt
  have t_fj := fj.lt
  have t_fk := fun k (hk9 : k < 6) => (fk k hk9).lt
  have t_fe := fe.lt
  have t_fr := fr.lt
  have t_fL103 := fL103.lt
  refine k_r (pc := 76) (k_S E hC hS hA hl.1 (c_X5_termsOf l D tk N0 sa H.size (rt k) (tt k) (bb k) mF_fL103) kw_1411 kw_1412 kw_5 kw_1413 (n := 1) (by decide +kernel) rfl ⟨⟨rfl, rfl⟩, ⟨Nat.le_of_ble_eq_true rfl, Nat.le_of_ble_eq_true rfl⟩, (by dsimp only; omega), (by dsimp only; omega)⟩ rfl (Nat.le_of_ble_eq_true rfl) fL103 dX5_digest_76) hS (fun q z w => absurd w (Nat.not_le.mpr z)) hn (fun r_104 H locs hR hz hk hS => ?_)
  have fw := fw.new hk
  have fo := fo.kept (hk _ fo.lt (Nat.not_le.mpr fo.lt))
  have fj := fj.kept (hk _ fj.lt (Nat.not_le.mpr fj.lt))
  have fk := fk.new hk
  have fe := fe.kept (hk _ fe.lt (Nat.not_le.mpr fe.lt))
  have fr := fr.kept (hk _ fr.lt (Nat.not_le.mpr fr.lt))
  have fL103 := fL103.kept (hk _ fL103.lt (Nat.not_le.mpr fL103.lt))
  obtain ⟨nl105, bb105, cap105, ff105, ww105, md105, zr9_, zb9_, fl105, fR105, el105, hPT105, hln105, hlm105, hlc105, hlp105, ⟨hTL105, hTA105⟩, gg105, hEU105⟩ := hR
  have hcb105 := m_acB hlp105
  have s_fl105 : s.heap.size ≤ r_104 := Nat.le_trans hZ0_ zr9_
  have g_fl105 := hn _ s_fl105
  have l_fo_fl105 : mo < r_104 := Nat.lt_of_lt_of_le t_fo zr9_
  have l_fj_fl105 : ra < r_104 := Nat.lt_of_lt_of_le t_fj zr9_
  have nW_fl105 : ∀ k, k < 6 → rt k ≠ r_104 := fun k hk9 => Nat.ne_of_lt (Nat.lt_of_lt_of_le (t_fk k hk9) zr9_)
  have l_fe_fl105 : ex < r_104 := Nat.lt_of_lt_of_le t_fe zr9_
  have l_fr_fl105 : ro < r_104 := Nat.lt_of_lt_of_le t_fr zr9_
  have l_fL103_fl105 : rt k < r_104 := Nat.lt_of_lt_of_le t_fL103 zr9_
  have s_fR105 : s.heap.size ≤ bb105 := Nat.le_trans hZ0_ zb9_
  have g_fR105 := hn _ s_fR105
  have l_fo_fR105 : mo < bb105 := Nat.lt_of_lt_of_le t_fo zb9_
  have l_fj_fR105 : ra < bb105 := Nat.lt_of_lt_of_le t_fj zb9_
  have nW_fR105 : ∀ k, k < 6 → rt k ≠ bb105 := fun k hk9 => Nat.ne_of_lt (Nat.lt_of_lt_of_le (t_fk k hk9) zb9_)
  have l_fe_fR105 : ex < bb105 := Nat.lt_of_lt_of_le t_fe zb9_
  have l_fr_fR105 : ro < bb105 := Nat.lt_of_lt_of_le t_fr zb9_
  have l_fL103_fR105 : rt k < bb105 := Nat.lt_of_lt_of_le t_fL103 zb9_
  refine k_i (pc := 79) (k_V E hC hS hA hl.1 (c1.recv hC fl105 rfl) rfl (c_Jx4a65c_size_8abf5 l D tk N0 sa H.size r_104 bb105 nl105 md105) kw_1546 kw_1547 kw_1548 kw_8 kw_1549 (n := 0) (by decide +kernel) rfl ⟨⟨rfl, rfl⟩, ⟨Nat.le_of_ble_eq_true rfl, Nat.le_of_ble_eq_true rfl⟩, (by dsimp only; omega), (by dsimp only; omega)⟩ rfl (Nat.le_of_ble_eq_true rfl) fl105 dX5_digest_79) hS (fun q z w => absurd w (Nat.not_le.mpr z)) hn (fun r_106 H locs hR hz hk hS => ?_)
  have fw := fw.new hk
  have fo := fo.kept (hk _ fo.lt (Nat.not_le.mpr fo.lt))
  have fj := fj.kept (hk _ fj.lt (Nat.not_le.mpr fj.lt))
  have fk := fk.new hk
  have fe := fe.kept (hk _ fe.lt (Nat.not_le.mpr fe.lt))
  have fr := fr.kept (hk _ fr.lt (Nat.not_le.mpr fr.lt))
  have fL103 := fL103.kept (hk _ fL103.lt (Nat.not_le.mpr fL103.lt))
  have fR105 := fR105.kept (hk _ fR105.lt (Nat.not_le.mpr fR105.lt))
  have fl105 := fl105.kept (hk _ fl105.lt (Nat.not_le.mpr fl105.lt))
  have el105 := el105.new hk
  rw [show r_106 = nI nl105 from hR]
  refine lv_i2l (pc := 82) (v := (nI nl105).toInt64) hx hb dX5_digest_82 rfl ?_
  refine k_l (pc := 83) (k_S E hC hS hA hl.1 (c_X5_add l D tk N0 sa H.size r_100 ((nI nl105).toInt64) ) kw_1805 kw_1806 kw_5 kw_1807 (n := 2) (by decide +kernel) rfl ⟨⟨rfl, rfl⟩, ⟨Nat.le_of_ble_eq_true rfl, Nat.le_of_ble_eq_true rfl⟩, (by dsimp only; omega), (by dsimp only; omega)⟩ rfl (Nat.le_of_ble_eq_true rfl) trivial dX5_digest_83) hS (fun q z w => absurd w (Nat.not_le.mpr z)) hn (fun r_107 H locs hR hz hk hS => ?_)
  have er_107 := hR
  have fw := fw.new hk
  have fo := fo.kept (hk _ fo.lt (Nat.not_le.mpr fo.lt))
  have fj := fj.kept (hk _ fj.lt (Nat.not_le.mpr fj.lt))
  have fk := fk.new hk
  have fe := fe.kept (hk _ fe.lt (Nat.not_le.mpr fe.lt))
  have fr := fr.kept (hk _ fr.lt (Nat.not_le.mpr fr.lt))
  have fL103 := fL103.kept (hk _ fL103.lt (Nat.not_le.mpr fL103.lt))
  have fR105 := fR105.kept (hk _ fR105.lt (Nat.not_le.mpr fR105.lt))
  have fl105 := fl105.kept (hk _ fl105.lt (Nat.not_le.mpr fl105.lt))
  have el105 := el105.new hk
  refine lv_aload_n (pc := 86) hx hb dX5_digest_86 rfl (lv_at hl 1 rfl) ?_
  refine lv_iload_n (pc := 87) hx hb dX5_digest_87 rfl (lv_at hl 2 rfl) ?_
  have hZ0_ := hS.1
  have t_fo := fo.lt
  have t_fj := fj.lt
  have t_fk := fun k (hk9 : k < 6) => (fk k hk9).lt
  have t_fe := fe.lt
  have t_fr := fr.lt
  have t_fL103 := fL103.lt
  have t_fR105 := fR105.lt
  have t_fl105 := fl105.lt
  refine k_i (pc := 88) (k_V E hC hS hA hl.1 (c1.recv hC fo rfl) rfl (c_X5_depthNow l D tk N0 sa H.size P hPN mo n9 kn 0 tt bb eT eB oT oB pk ca rf vs y9 k hx9 hkn ) kw_1670 kw_1672 kp_30 kw_5 kw_1673 (n := 1) (by decide +kernel) rfl ⟨⟨rfl, rfl⟩, ⟨Nat.le_of_ble_eq_true rfl, Nat.le_of_ble_eq_true rfl⟩, (by dsimp only; omega), (by dsimp only; omega)⟩ rfl (Nat.le_of_ble_eq_true rfl) ⟨_, _, _, _, _, fo, fj, fk, fe, fr, fw, ⟨hPm, hPa, hPl, hPe, hPr, hPk⟩, hFk, hFe, hFr, hpk, hn9⟩ dX5_digest_88) hS (fun q z w => absurd w (Nat.not_le.mpr z)) hn (fun r_109 H locs hR hz hk hS => ?_)
  have fw := fw.new hk
  have fo := fo.kept (hk _ fo.lt (Nat.not_le.mpr fo.lt))
  have fj := fj.kept (hk _ fj.lt (Nat.not_le.mpr fj.lt))
  have fk := fk.new hk
  have fe := fe.kept (hk _ fe.lt (Nat.not_le.mpr fe.lt))
  have fr := fr.kept (hk _ fr.lt (Nat.not_le.mpr fr.lt))
  have fL103 := fL103.kept (hk _ fL103.lt (Nat.not_le.mpr fL103.lt))
  have fR105 := fR105.kept (hk _ fR105.lt (Nat.not_le.mpr fR105.lt))
  have fl105 := fl105.kept (hk _ fl105.lt (Nat.not_le.mpr fl105.lt))
  have el105 := el105.new hk
  have er_109 := hR
  refine lv_i2l (pc := 91) (v := r_109.toInt64) hx hb dX5_digest_91 rfl ?_
  refine k_l (pc := 92) (k_S E hC hS hA hl.1 (c_X5_add l D tk N0 sa H.size r_107 r_109.toInt64 ) kw_1805 kw_1806 kw_5 kw_1807 (n := 2) (by decide +kernel) rfl ⟨⟨rfl, rfl⟩, ⟨Nat.le_of_ble_eq_true rfl, Nat.le_of_ble_eq_true rfl⟩, (by dsimp only; omega), (by dsimp only; omega)⟩ rfl (Nat.le_of_ble_eq_true rfl) trivial dX5_digest_92) hS (fun q z w => absurd w (Nat.not_le.mpr z)) hn (fun r_110 H locs hR hz hk hS => ?_)
  have er_110 := hR
  have fw := fw.new hk
  have fo := fo.kept (hk _ fo.lt (Nat.not_le.mpr fo.lt))
  have fj := fj.kept (hk _ fj.lt (Nat.not_le.mpr fj.lt))
  have fk := fk.new hk
  have fe := fe.kept (hk _ fe.lt (Nat.not_le.mpr fe.lt))
  have fr := fr.kept (hk _ fr.lt (Nat.not_le.mpr fr.lt))
  have fL103 := fL103.kept (hk _ fL103.lt (Nat.not_le.mpr fL103.lt))
  have fR105 := fR105.kept (hk _ fR105.lt (Nat.not_le.mpr fR105.lt))
  have fl105 := fl105.kept (hk _ fl105.lt (Nat.not_le.mpr fl105.lt))
  have el105 := el105.new hk
  refine lv_aload_n (pc := 95) hx hb dX5_digest_95 rfl (lv_at hl 1 rfl) ?_
  refine lv_iload_n (pc := 96) hx hb dX5_digest_96 rfl (lv_at hl 2 rfl) ?_
  have hZ0_ := hS.1
  have t_fo := fo.lt
  have t_fj := fj.lt
  have t_fk := fun k (hk9 : k < 6) => (fk k hk9).lt
  have t_fe := fe.lt
  have t_fr := fr.lt
  have t_fL103 := fL103.lt
  have t_fR105 := fR105.lt
  have t_fl105 := fl105.lt
  refine k_r (pc := 97) (k_V E hC hS hA hl.1 (c1.recv hC fo rfl) rfl (c_X5_wayNow l D tk N0 sa H.size P hPN mo n9 kn 0 tt bb eT eB oT oB pk ca rf vs y9 k hx9 hkn ) kw_1678 kw_1680 kp_31 kw_5 kw_1681 (n := 1) (by decide +kernel) rfl ⟨⟨rfl, rfl⟩, ⟨Nat.le_of_ble_eq_true rfl, Nat.le_of_ble_eq_true rfl⟩, (by dsimp only; omega), (by dsimp only; omega)⟩ rfl (Nat.le_of_ble_eq_true rfl) ⟨_, _, _, _, _, fo, fj, fk, fe, fr, fw, ⟨hPm, hPa, hPl, hPe, hPr, hPk⟩, hFk, hFe, hFr, hpk, hn9⟩ dX5_digest_97) hS (fun q z w => absurd w (Nat.not_le.mpr z)) hn (fun r_112 H locs hR hz hk hS => ?_)
  have fw := fw.new hk
  have fo := fo.kept (hk _ fo.lt (Nat.not_le.mpr fo.lt))
  have fj := fj.kept (hk _ fj.lt (Nat.not_le.mpr fj.lt))
  have fk := fk.new hk
  have fe := fe.kept (hk _ fe.lt (Nat.not_le.mpr fe.lt))
  have fr := fr.kept (hk _ fr.lt (Nat.not_le.mpr fr.lt))
  have fL103 := fL103.kept (hk _ fL103.lt (Nat.not_le.mpr fL103.lt))
  have fR105 := fR105.kept (hk _ fR105.lt (Nat.not_le.mpr fR105.lt))
  have fl105 := fl105.kept (hk _ fl105.lt (Nat.not_le.mpr fl105.lt))
  have el105 := el105.new hk
  obtain ⟨n_f113, hn_f113, f113⟩ := hR
  refine k_i (pc := 100) (k_V E hC hS hA hl.1 (f113.recv hC) rfl (c_J0_length_8abf5 l D tk N0 sa H.size r_112 n_f113) kw_1710 kw_413 kw_414 kw_20 kw_415 (n := 0) (by decide +kernel) rfl ⟨⟨rfl, rfl⟩, ⟨Nat.le_of_ble_eq_true rfl, Nat.le_of_ble_eq_true rfl⟩, (by dsimp only; omega), (by dsimp only; omega)⟩ rfl (Nat.le_of_ble_eq_true rfl) f113 dX5_digest_100) hS (fun q z w => absurd w (Nat.not_le.mpr z)) hn (fun r_114 H locs hR hz hk hS => ?_)
  have fw := fw.new hk
  have fo := fo.kept (hk _ fo.lt (Nat.not_le.mpr fo.lt))
  have fj := fj.kept (hk _ fj.lt (Nat.not_le.mpr fj.lt))
  have fk := fk.new hk
  have fe := fe.kept (hk _ fe.lt (Nat.not_le.mpr fe.lt))
  have fr := fr.kept (hk _ fr.lt (Nat.not_le.mpr fr.lt))
  have fL103 := fL103.kept (hk _ fL103.lt (Nat.not_le.mpr fL103.lt))
  have fR105 := fR105.kept (hk _ fR105.lt (Nat.not_le.mpr fR105.lt))
  have fl105 := fl105.kept (hk _ fl105.lt (Nat.not_le.mpr fl105.lt))
  have el105 := el105.new hk
  have f113 := f113.new hk
  rw [show r_114 = nI n_f113 from hR]
  refine lv_i2l (pc := 103) (v := (nI n_f113).toInt64) hx hb dX5_digest_103 rfl ?_
  refine k_l (pc := 104) (k_S E hC hS hA hl.1 (c_X5_add l D tk N0 sa H.size r_110 ((nI n_f113).toInt64) ) kw_1805 kw_1806 kw_5 kw_1807 (n := 2) (by decide +kernel) rfl ⟨⟨rfl, rfl⟩, ⟨Nat.le_of_ble_eq_true rfl, Nat.le_of_ble_eq_true rfl⟩, (by dsimp only; omega), (by dsimp only; omega)⟩ rfl (Nat.le_of_ble_eq_true rfl) trivial dX5_digest_104) hS (fun q z w => absurd w (Nat.not_le.mpr z)) hn (fun r_115 H locs hR hz hk hS => ?_)
  have er_115 := hR
  have fw := fw.new hk
  have fo := fo.kept (hk _ fo.lt (Nat.not_le.mpr fo.lt))
  have fj := fj.kept (hk _ fj.lt (Nat.not_le.mpr fj.lt))
  have fk := fk.new hk
  have fe := fe.kept (hk _ fe.lt (Nat.not_le.mpr fe.lt))
  have fr := fr.kept (hk _ fr.lt (Nat.not_le.mpr fr.lt))
  have fL103 := fL103.kept (hk _ fL103.lt (Nat.not_le.mpr fL103.lt))
  have fR105 := fR105.kept (hk _ fR105.lt (Nat.not_le.mpr fR105.lt))
  have fl105 := fl105.kept (hk _ fl105.lt (Nat.not_le.mpr fl105.lt))
  have el105 := el105.new hk
  have f113 := f113.new hk
  refine lv_lstore_n (pc := 107) (lv' := [(1, .long r_115), (0, .ref mo), (3, .int y9)]) hx hb dX5_digest_107 rfl hl (by decide) rfl (fun ls hl => ?_)
  exact g7_X5_digest E hC hA hn hr hlk hPN hPs mo n9 kn th tt bb eT eB oT oB pk ca rf vs ra rl ex ro rt hPm hPa hPl hPe hPr hPk hFk hFe hFr hpk hn9 r_115 n k d9 y9 hf9 hk9 hx9 ih_35 hkn _ _ _ hS fo fj fk fe fr fw hl
set_option maxHeartbeats 4000000 in
set_option maxRecDepth 100000 in
theorem g1_X5_digest {p : Program} {l : Launch} {e : Env} {s : State} {m : MethodId} {args : Array Value} {below : List Frame} {meth : Method} {c : Code} {Q : State → Prop} {D : va_G} {tk : Nat → ClassId} {N0 : Nat} {sa : Nat → Nat} {P : Nat → Prop} (E : CallFix p m c cX5_digest 5 s args (wsy yX5_digest cX5_digest 5 (some .long)) RX5) (hC : Ctx D tk N0 sa s) (hA : ∀ q, (P) q → N0 ≤ q) (hn : ∀ q, s.heap.size ≤ q → (P) q) (hr : meth.sig.returnType = (some .long)) (hlk : meth.locks = false) (hPN : ∀ q, P q → N0 ≤ q) (hPs : ∀ q, s.heap.size ≤ q → P q) (mo : Nat) (n9 : Nat) (kn : Int32) (th : Int32) (tt : Nat → Int64) (bb : Nat → Int64) (eT : Int64) (eB : Int64) (oT : Int64) (oB : Int64) (pk : Nat) (ca : Int32) (rf : Int32) (vs : Nat → Value) (hQ : Q = MQ below (kQl (fun r H => ∃ th1, MI D tk sa P mo tt bb eT eB oT oB pk ca rf vs kn n9 th1 H) (P)) args s (3869) (94998) (P)) (ra : Nat) (rl : Nat) (ex : Nat) (ro : Nat) (rt : Nat → Nat) (hPm : P mo) (hPa : P ra) (hPl : P rl) (hPe : P ex) (hPr : P ro) (hPk : ∀ k, k < 6 → P (rt k)) (hFk : ∀ k, k < 6 → m_F (tt k) (bb k)) (hFe : m_F eT eB) (hFr : m_F oT oB ∧ m_D4 oB) (hpk : pk ≤ 4) (hn9 : n9 ≤ 16) (r_19 : Int64) (H : Heap) (locs : List Loc) (ls : Array Slot) (hS : va_S (P) s.heap H locs) (fo : c1 D mo (.inr (13, [.ref ra, .ref rl, .ref ex, .ref ro, .int (nI pk), .int ca, .int rf, .int kn, .int 0])) H) (fj : c1 D ra (.inl (tk 3, 6, .inr (.inr (.inr (.inr (fun k => some (rt k))))))) H) (fk : MK D tk rt tt bb H) (fe : L2 D tk ex eT eB H) (fr : L2 D tk ro oT oB H) (fw : RW D tk sa P rl n9 vs H) (hl : lv_has ls 5 [(1, .long r_19), (0, .ref mo)]) : W p l e ({ frames := 9, cells := 3869, slots := 94998, locals := 212 } : Room) s m args below meth c H locs (0 + 1 + 0 + 1 + 0 + 1 + 0 + 1 + 0 + 1 + 0) (0 + 5 + 0 + 5 + 0 + 5 + 0 + 5 + 0 + 5 + 0) Q (F0 m 33 ls []) := by
  obtain ⟨hx, hb, -⟩ := id E
  have g_fo := hPm
  have g_fj := hPa
  refine lv_iconst (pc := 33) (v := 0) hx hb dX5_digest_33 (by decide) ?_
  refine lv_istore_n (pc := 34) (lv' := [(3, .int 0), (1, .long r_19), (0, .ref mo)]) hx hb dX5_digest_34 rfl hl (by decide) rfl (fun ls hl => ?_)
  have loop_35 : ∀ (n : Nat) (k : Nat)(d9 : Int64) (y9 : Int32), 7 - k < n → k ≤ 6 → y9 = nI k → ∀ (H : Heap) (locs : List Loc) (ls : Array Slot), va_S (P) s.heap H locs → c1 D mo (.inr (13, [.ref ra, .ref rl, .ref ex, .ref ro, .int (nI pk), .int ca, .int rf, .int kn, .int 0])) H → c1 D ra (.inl (tk 3, 6, .inr (.inr (.inr (.inr (fun k => some (rt k))))))) H → MK D tk rt tt bb H → L2 D tk ex eT eB H → L2 D tk ro oT oB H → RW D tk sa P rl n9 vs H → lv_has ls 5 [(0, .ref mo), (1, .long d9), (3, .int y9)] → W p l e ({ frames := 9, cells := 3869, slots := 94998, locals := 212 } : Room) s m args below meth c H locs (5 + 636 * k) (25 + 15713 * k) Q (F0 m 35 ls []) := by
    intro n
    induction n with
    | zero =>
      intro k d9 y9 hf9 hk9 hx9 H locs ls hS fo fj fk fe fr fw hl
      omega
    | succ n ih_35 =>
      intro k d9 y9 hf9 hk9 hx9 H locs ls hS fo fj fk fe fr fw hl
      refine lv_iload_n (pc := 35) hx hb dX5_digest_35 rfl (lv_at hl 2 rfl) ?_
      refine lv_bipush (pc := 36) (v := 6) hx hb dX5_digest_36 (by decide) ?_
      refine lv_icmp_ge (pc := 38) (tgt := 146) hx hb dX5_digest_38 (by decide) (fun c_22 => ?_) (fun c_22 => ?_)
      · refine W.widen (k := 3821) (n := 94303) (by omega) (by omega) ?_
        exact g2_X5_digest E hC hA hn hr hlk hPN hPs mo n9 kn th tt bb eT eB oT oB pk ca rf vs hQ ra rl ex ro rt hPm hPa hPl hPe hPr hPk hFk hFe hFr hpk hn9 d9 _ _ _ hS fo fj fk fe fr fw (lv_sub hl [0, 1] rfl)
      · have hkn : k < 6 := Nat.not_le.mp (fun z9 => c_22 (by rw [hx9]; exact nI_le (a := 6) z9 (by omega)))
        refine lv_iconst (pc := 41) (v := 0) hx hb dX5_digest_41 (by decide) ?_
        refine lv_istore (pc := 42) (lv' := [(4, .int 0), (0, .ref mo), (1, .long d9), (3, .int y9)]) hx hb dX5_digest_42 hl (by decide) rfl (fun ls hl => ?_)
        refine lv_iload (pc := 44) hx hb dX5_digest_44 (lv_at hl 0 rfl) ?_
        refine lv_iconst (pc := 46) (v := 4) hx hb dX5_digest_46 (by decide) ?_
        refine lv_icmp_ge (pc := 47) (tgt := 69) hx hb dX5_digest_47 (by decide) (fun c_86 => ?_) (fun c_86 => ?_)
        · exact absurd c_86 (by decide)
        refine lv_lload_n (pc := 50) hx hb dX5_digest_50 rfl (lv_at hl 2 rfl) ?_
        refine lv_aload_n (pc := 51) hx hb dX5_digest_51 rfl (lv_at hl 1 rfl) ?_
        refine lv_iload_n (pc := 52) hx hb dX5_digest_52 rfl (lv_at hl 3 rfl) ?_
        refine lv_iload (pc := 53) hx hb dX5_digest_53 (lv_at hl 0 rfl) ?_
        have hZ0_ := hS.1
        have t_fo := fo.lt
        have t_fj := fj.lt
        have t_fk := fun k (hk9 : k < 6) => (fk k hk9).lt
        have t_fe := fe.lt
        have t_fr := fr.lt
        refine k_i (pc := 55) (k_V E hC hS hA hl.1 (c1.recv hC fo rfl) rfl (c_X5_partNow l D tk N0 sa H.size P hPN mo n9 kn 0 tt bb eT eB oT oB pk ca rf vs y9 k hx9 hkn 0 0 rfl (by decide)) kw_1387 kw_1389 kp_23 kw_5 kw_1390 (n := 2) (by decide +kernel) rfl ⟨⟨rfl, rfl⟩, ⟨Nat.le_of_ble_eq_true rfl, Nat.le_of_ble_eq_true rfl⟩, (by dsimp only; omega), (by dsimp only; omega)⟩ rfl (Nat.le_of_ble_eq_true rfl) ⟨_, _, _, _, _, fo, fj, fk, fe, fr, fw, ⟨hPm, hPa, hPl, hPe, hPr, hPk⟩, hFk, hFe, hFr, hpk, hn9⟩ dX5_digest_55) hS (fun q z w => absurd w (Nat.not_le.mpr z)) hn (fun r_87 H locs hR hz hk hS => ?_)
        have fw := fw.new hk
        have fo := fo.kept (hk _ fo.lt (Nat.not_le.mpr fo.lt))
        have fj := fj.kept (hk _ fj.lt (Nat.not_le.mpr fj.lt))
        have fk := fk.new hk
        have fe := fe.kept (hk _ fe.lt (Nat.not_le.mpr fe.lt))
        have fr := fr.kept (hk _ fr.lt (Nat.not_le.mpr fr.lt))
        have er_87 := hR
        refine lv_i2l (pc := 58) (v := r_87.toInt64) hx hb dX5_digest_58 rfl ?_
        refine k_l (pc := 59) (k_S E hC hS hA hl.1 (c_X5_add l D tk N0 sa H.size d9 r_87.toInt64 ) kw_1805 kw_1806 kw_5 kw_1807 (n := 2) (by decide +kernel) rfl ⟨⟨rfl, rfl⟩, ⟨Nat.le_of_ble_eq_true rfl, Nat.le_of_ble_eq_true rfl⟩, (by dsimp only; omega), (by dsimp only; omega)⟩ rfl (Nat.le_of_ble_eq_true rfl) trivial dX5_digest_59) hS (fun q z w => absurd w (Nat.not_le.mpr z)) hn (fun r_88 H locs hR hz hk hS => ?_)
        have er_88 := hR
        have fw := fw.new hk
        have fo := fo.kept (hk _ fo.lt (Nat.not_le.mpr fo.lt))
        have fj := fj.kept (hk _ fj.lt (Nat.not_le.mpr fj.lt))
        have fk := fk.new hk
        have fe := fe.kept (hk _ fe.lt (Nat.not_le.mpr fe.lt))
        have fr := fr.kept (hk _ fr.lt (Nat.not_le.mpr fr.lt))
        refine lv_lstore_n (pc := 62) (lv' := [(1, .long r_88), (4, .int 0), (0, .ref mo), (3, .int y9)]) hx hb dX5_digest_62 rfl hl (by decide) rfl (fun ls hl => ?_)
        refine lv_iinc (pc := 63) (v := 1) (lv' := [(4, .int 1), (1, .long r_88), (0, .ref mo), (3, .int y9)]) hx hb dX5_digest_63 hl (k := 1) rfl (by decide) (by decide) rfl (fun ls hl => ?_)
        refine lv_goto (pc := 66) (tgt := 44) hx hb dX5_digest_66 (by decide) ?_
        refine lv_iload (pc := 44) hx hb dX5_digest_44 (lv_at hl 0 rfl) ?_
        refine lv_iconst (pc := 46) (v := 4) hx hb dX5_digest_46 (by decide) ?_
        refine lv_icmp_ge (pc := 47) (tgt := 69) hx hb dX5_digest_47 (by decide) (fun c_90 => ?_) (fun c_90 => ?_)
        · exact absurd c_90 (by decide)
        refine lv_lload_n (pc := 50) hx hb dX5_digest_50 rfl (lv_at hl 1 rfl) ?_
        refine lv_aload_n (pc := 51) hx hb dX5_digest_51 rfl (lv_at hl 2 rfl) ?_
        refine lv_iload_n (pc := 52) hx hb dX5_digest_52 rfl (lv_at hl 3 rfl) ?_
        refine lv_iload (pc := 53) hx hb dX5_digest_53 (lv_at hl 0 rfl) ?_
        have hZ0_ := hS.1
        have t_fo := fo.lt
        have t_fj := fj.lt
        have t_fk := fun k (hk9 : k < 6) => (fk k hk9).lt
        have t_fe := fe.lt
        have t_fr := fr.lt
        refine k_i (pc := 55) (k_V E hC hS hA hl.1 (c1.recv hC fo rfl) rfl (c_X5_partNow l D tk N0 sa H.size P hPN mo n9 kn 0 tt bb eT eB oT oB pk ca rf vs y9 k hx9 hkn 1 1 rfl (by decide)) kw_1387 kw_1389 kp_23 kw_5 kw_1390 (n := 2) (by decide +kernel) rfl ⟨⟨rfl, rfl⟩, ⟨Nat.le_of_ble_eq_true rfl, Nat.le_of_ble_eq_true rfl⟩, (by dsimp only; omega), (by dsimp only; omega)⟩ rfl (Nat.le_of_ble_eq_true rfl) ⟨_, _, _, _, _, fo, fj, fk, fe, fr, fw, ⟨hPm, hPa, hPl, hPe, hPr, hPk⟩, hFk, hFe, hFr, hpk, hn9⟩ dX5_digest_55) hS (fun q z w => absurd w (Nat.not_le.mpr z)) hn (fun r_91 H locs hR hz hk hS => ?_)
        have fw := fw.new hk
        have fo := fo.kept (hk _ fo.lt (Nat.not_le.mpr fo.lt))
        have fj := fj.kept (hk _ fj.lt (Nat.not_le.mpr fj.lt))
        have fk := fk.new hk
        have fe := fe.kept (hk _ fe.lt (Nat.not_le.mpr fe.lt))
        have fr := fr.kept (hk _ fr.lt (Nat.not_le.mpr fr.lt))
        have er_91 := hR
        refine lv_i2l (pc := 58) (v := r_91.toInt64) hx hb dX5_digest_58 rfl ?_
        refine k_l (pc := 59) (k_S E hC hS hA hl.1 (c_X5_add l D tk N0 sa H.size r_88 r_91.toInt64 ) kw_1805 kw_1806 kw_5 kw_1807 (n := 2) (by decide +kernel) rfl ⟨⟨rfl, rfl⟩, ⟨Nat.le_of_ble_eq_true rfl, Nat.le_of_ble_eq_true rfl⟩, (by dsimp only; omega), (by dsimp only; omega)⟩ rfl (Nat.le_of_ble_eq_true rfl) trivial dX5_digest_59) hS (fun q z w => absurd w (Nat.not_le.mpr z)) hn (fun r_92 H locs hR hz hk hS => ?_)
        have er_92 := hR
        have fw := fw.new hk
        have fo := fo.kept (hk _ fo.lt (Nat.not_le.mpr fo.lt))
        have fj := fj.kept (hk _ fj.lt (Nat.not_le.mpr fj.lt))
        have fk := fk.new hk
        have fe := fe.kept (hk _ fe.lt (Nat.not_le.mpr fe.lt))
        have fr := fr.kept (hk _ fr.lt (Nat.not_le.mpr fr.lt))
        refine lv_lstore_n (pc := 62) (lv' := [(1, .long r_92), (4, .int 1), (0, .ref mo), (3, .int y9)]) hx hb dX5_digest_62 rfl hl (by decide) rfl (fun ls hl => ?_)
        refine lv_iinc (pc := 63) (v := 2) (lv' := [(4, .int 2), (1, .long r_92), (0, .ref mo), (3, .int y9)]) hx hb dX5_digest_63 hl (k := 1) rfl (by decide) (by decide) rfl (fun ls hl => ?_)
        refine lv_goto (pc := 66) (tgt := 44) hx hb dX5_digest_66 (by decide) ?_
        refine lv_iload (pc := 44) hx hb dX5_digest_44 (lv_at hl 0 rfl) ?_
        refine lv_iconst (pc := 46) (v := 4) hx hb dX5_digest_46 (by decide) ?_
        refine lv_icmp_ge (pc := 47) (tgt := 69) hx hb dX5_digest_47 (by decide) (fun c_94 => ?_) (fun c_94 => ?_)
        · exact absurd c_94 (by decide)
        refine lv_lload_n (pc := 50) hx hb dX5_digest_50 rfl (lv_at hl 1 rfl) ?_
        refine lv_aload_n (pc := 51) hx hb dX5_digest_51 rfl (lv_at hl 2 rfl) ?_
        refine lv_iload_n (pc := 52) hx hb dX5_digest_52 rfl (lv_at hl 3 rfl) ?_
        refine lv_iload (pc := 53) hx hb dX5_digest_53 (lv_at hl 0 rfl) ?_
        have hZ0_ := hS.1
        have t_fo := fo.lt
        have t_fj := fj.lt
        have t_fk := fun k (hk9 : k < 6) => (fk k hk9).lt
        have t_fe := fe.lt
        have t_fr := fr.lt
        refine k_i (pc := 55) (k_V E hC hS hA hl.1 (c1.recv hC fo rfl) rfl (c_X5_partNow l D tk N0 sa H.size P hPN mo n9 kn 0 tt bb eT eB oT oB pk ca rf vs y9 k hx9 hkn 2 2 rfl (by decide)) kw_1387 kw_1389 kp_23 kw_5 kw_1390 (n := 2) (by decide +kernel) rfl ⟨⟨rfl, rfl⟩, ⟨Nat.le_of_ble_eq_true rfl, Nat.le_of_ble_eq_true rfl⟩, (by dsimp only; omega), (by dsimp only; omega)⟩ rfl (Nat.le_of_ble_eq_true rfl) ⟨_, _, _, _, _, fo, fj, fk, fe, fr, fw, ⟨hPm, hPa, hPl, hPe, hPr, hPk⟩, hFk, hFe, hFr, hpk, hn9⟩ dX5_digest_55) hS (fun q z w => absurd w (Nat.not_le.mpr z)) hn (fun r_95 H locs hR hz hk hS => ?_)
        have fw := fw.new hk
        have fo := fo.kept (hk _ fo.lt (Nat.not_le.mpr fo.lt))
        have fj := fj.kept (hk _ fj.lt (Nat.not_le.mpr fj.lt))
        have fk := fk.new hk
        have fe := fe.kept (hk _ fe.lt (Nat.not_le.mpr fe.lt))
        have fr := fr.kept (hk _ fr.lt (Nat.not_le.mpr fr.lt))
        have er_95 := hR
        refine lv_i2l (pc := 58) (v := r_95.toInt64) hx hb dX5_digest_58 rfl ?_
        refine k_l (pc := 59) (k_S E hC hS hA hl.1 (c_X5_add l D tk N0 sa H.size r_92 r_95.toInt64 ) kw_1805 kw_1806 kw_5 kw_1807 (n := 2) (by decide +kernel) rfl ⟨⟨rfl, rfl⟩, ⟨Nat.le_of_ble_eq_true rfl, Nat.le_of_ble_eq_true rfl⟩, (by dsimp only; omega), (by dsimp only; omega)⟩ rfl (Nat.le_of_ble_eq_true rfl) trivial dX5_digest_59) hS (fun q z w => absurd w (Nat.not_le.mpr z)) hn (fun r_96 H locs hR hz hk hS => ?_)
        have er_96 := hR
        have fw := fw.new hk
        have fo := fo.kept (hk _ fo.lt (Nat.not_le.mpr fo.lt))
        have fj := fj.kept (hk _ fj.lt (Nat.not_le.mpr fj.lt))
        have fk := fk.new hk
        have fe := fe.kept (hk _ fe.lt (Nat.not_le.mpr fe.lt))
        have fr := fr.kept (hk _ fr.lt (Nat.not_le.mpr fr.lt))
        refine lv_lstore_n (pc := 62) (lv' := [(1, .long r_96), (4, .int 2), (0, .ref mo), (3, .int y9)]) hx hb dX5_digest_62 rfl hl (by decide) rfl (fun ls hl => ?_)
        refine lv_iinc (pc := 63) (v := 3) (lv' := [(4, .int 3), (1, .long r_96), (0, .ref mo), (3, .int y9)]) hx hb dX5_digest_63 hl (k := 1) rfl (by decide) (by decide) rfl (fun ls hl => ?_)
        refine lv_goto (pc := 66) (tgt := 44) hx hb dX5_digest_66 (by decide) ?_
        refine lv_iload (pc := 44) hx hb dX5_digest_44 (lv_at hl 0 rfl) ?_
        refine lv_iconst (pc := 46) (v := 4) hx hb dX5_digest_46 (by decide) ?_
        refine lv_icmp_ge (pc := 47) (tgt := 69) hx hb dX5_digest_47 (by decide) (fun c_98 => ?_) (fun c_98 => ?_)
        · exact absurd c_98 (by decide)
        refine lv_lload_n (pc := 50) hx hb dX5_digest_50 rfl (lv_at hl 1 rfl) ?_
        refine lv_aload_n (pc := 51) hx hb dX5_digest_51 rfl (lv_at hl 2 rfl) ?_
        refine lv_iload_n (pc := 52) hx hb dX5_digest_52 rfl (lv_at hl 3 rfl) ?_
        refine lv_iload (pc := 53) hx hb dX5_digest_53 (lv_at hl 0 rfl) ?_
        have hZ0_ := hS.1
        have t_fo := fo.lt
        have t_fj := fj.lt
        have t_fk := fun k (hk9 : k < 6) => (fk k hk9).lt
        have t_fe := fe.lt
        have t_fr := fr.lt
        refine k_i (pc := 55) (k_V E hC hS hA hl.1 (c1.recv hC fo rfl) rfl (c_X5_partNow l D tk N0 sa H.size P hPN mo n9 kn 0 tt bb eT eB oT oB pk ca rf vs y9 k hx9 hkn 3 3 rfl (by decide)) kw_1387 kw_1389 kp_23 kw_5 kw_1390 (n := 2) (by decide +kernel) rfl ⟨⟨rfl, rfl⟩, ⟨Nat.le_of_ble_eq_true rfl, Nat.le_of_ble_eq_true rfl⟩, (by dsimp only; omega), (by dsimp only; omega)⟩ rfl (Nat.le_of_ble_eq_true rfl) ⟨_, _, _, _, _, fo, fj, fk, fe, fr, fw, ⟨hPm, hPa, hPl, hPe, hPr, hPk⟩, hFk, hFe, hFr, hpk, hn9⟩ dX5_digest_55) hS (fun q z w => absurd w (Nat.not_le.mpr z)) hn (fun r_99 H locs hR hz hk hS => ?_)
        have fw := fw.new hk
        have fo := fo.kept (hk _ fo.lt (Nat.not_le.mpr fo.lt))
        have fj := fj.kept (hk _ fj.lt (Nat.not_le.mpr fj.lt))
        have fk := fk.new hk
        have fe := fe.kept (hk _ fe.lt (Nat.not_le.mpr fe.lt))
        have fr := fr.kept (hk _ fr.lt (Nat.not_le.mpr fr.lt))
        have er_99 := hR
        refine lv_i2l (pc := 58) (v := r_99.toInt64) hx hb dX5_digest_58 rfl ?_
        refine k_l (pc := 59) (k_S E hC hS hA hl.1 (c_X5_add l D tk N0 sa H.size r_96 r_99.toInt64 ) kw_1805 kw_1806 kw_5 kw_1807 (n := 2) (by decide +kernel) rfl ⟨⟨rfl, rfl⟩, ⟨Nat.le_of_ble_eq_true rfl, Nat.le_of_ble_eq_true rfl⟩, (by dsimp only; omega), (by dsimp only; omega)⟩ rfl (Nat.le_of_ble_eq_true rfl) trivial dX5_digest_59) hS (fun q z w => absurd w (Nat.not_le.mpr z)) hn (fun r_100 H locs hR hz hk hS => ?_)
        have er_100 := hR
        have fw := fw.new hk
        have fo := fo.kept (hk _ fo.lt (Nat.not_le.mpr fo.lt))
        have fj := fj.kept (hk _ fj.lt (Nat.not_le.mpr fj.lt))
        have fk := fk.new hk
        have fe := fe.kept (hk _ fe.lt (Nat.not_le.mpr fe.lt))
        have fr := fr.kept (hk _ fr.lt (Nat.not_le.mpr fr.lt))
        refine lv_lstore_n (pc := 62) (lv' := [(1, .long r_100), (4, .int 3), (0, .ref mo), (3, .int y9)]) hx hb dX5_digest_62 rfl hl (by decide) rfl (fun ls hl => ?_)
        refine lv_iinc (pc := 63) (v := 4) (lv' := [(4, .int 4), (1, .long r_100), (0, .ref mo), (3, .int y9)]) hx hb dX5_digest_63 hl (k := 1) rfl (by decide) (by decide) rfl (fun ls hl => ?_)
        refine lv_goto (pc := 66) (tgt := 44) hx hb dX5_digest_66 (by decide) ?_
        refine lv_iload (pc := 44) hx hb dX5_digest_44 (lv_at hl 0 rfl) ?_
        refine lv_iconst (pc := 46) (v := 4) hx hb dX5_digest_46 (by decide) ?_
        refine lv_icmp_ge (pc := 47) (tgt := 69) hx hb dX5_digest_47 (by decide) (fun c_102 => ?_) (fun c_102 => ?_)
        rotate_left
        · exact absurd (by decide) c_102
        exact g6_X5_digest E hC hA hn hr hlk hPN hPs mo n9 kn th tt bb eT eB oT oB pk ca rf vs ra rl ex ro rt hPm hPa hPl hPe hPr hPk hFk hFe hFr hpk hn9 r_100 n k d9 y9 hf9 hk9 hx9 ih_35 hkn _ _ _ hS fo fj fk fe fr fw (lv_sub hl [1, 2, 3] rfl)
  refine W.widen (k := 5 + 636 * 0) (n := 25 + 15713 * 0) (by omega) (by omega) ?_
  exact loop_35 8 0  r_19 0 (by omega) (Nat.zero_le _) nI_0.symm _ _ _ hS fo fj fk fe fr fw (lv_sub hl [2, 1, 0] rfl)
set_option maxHeartbeats 4000000 in
set_option maxRecDepth 100000 in
/-- BestratiosModel.digest()J -/
theorem c_X5_digest (l : Launch) (D : va_G) (tk : Nat → ClassId) (N0 : Nat) (sa : Nat → Nat)  (sz : Nat) (P : Nat → Prop) (hPN : ∀ q, P q → N0 ≤ q) (hPs : ∀ q, sz ≤ q → P q) (mo n9 : Nat) (kn th : Int32) (tt bb : Nat → Int64) (eT eB oT oB : Int64) (pk : Nat) (ca rf : Int32) (vs : Nat → Value)  : Met l yX5_digest (wsy yX5_digest cX5_digest 5 (some .long)) ({ frames := 9, cells := 3869, slots := 94998, locals := 212 } : Room) (cP D tk N0 sa [.ref mo] sz (fun H => MI D tk sa P mo tt bb eT eB oT oB pk ca rf vs kn n9 th H)) (kQl (fun r H => ∃ th1, MI D tk sa P mo tt bb eT eB oT oB pk ca rf vs kn n9 th1 H) (P)) (3869) (94998) (P) := by
  refine mStart RX5 rfl (by decide +kernel) (Nat.le_of_ble_eq_true rfl) ?_
  intro p e s m args below meth c E hr hlk hnm hsz hC hF ls hl
  subst hsz
  obtain ⟨hx, hb, -⟩ := id E
  have hA : ∀ q, (P) q → N0 ≤ q := hPN
  have hn : ∀ q, s.heap.size ≤ q → (P) q := hPs
  have hS : va_S (P) s.heap s.heap [] := va_S.rf
  have hl : lv_has ls 5 [(0, .ref mo)] := hl
  obtain ⟨Q, hQ⟩ : ∃ Q, Q = MQ below (kQl (fun r H => ∃ th1, MI D tk sa P mo tt bb eT eB oT oB pk ca rf vs kn n9 th1 H) (P)) args s (3869) (94998) (P) := ⟨_, rfl⟩
  rw [← hQ]
  have hM : MI D tk sa P mo tt bb eT eB oT oB pk ca rf vs kn n9 th s.heap := hF
  obtain ⟨ra, rl, ex, ro, rt, fo, fj, fk, fe, fr, fw, ⟨hPm, hPa, hPl, hPe, hPr, hPk⟩, hFk, hFe, hFr, hpk, hn9⟩ := hM
  have g_fo := hPm
  have g_fj := hPa
  refine lv_aload_n (pc := 0) hx hb dX5_digest_0 rfl (lv_at hl 0 rfl) ?_
  refine lv_iconst (pc := 1) (v := 0) hx hb dX5_digest_1 (by decide) ?_
  refine r_put (pc := 2) E hC fo hS g_fo 8 tyX5 tyX5_ok nmX5 rfl (by decide) (Nat.le_of_ble_eq_true rfl) uX5 (List.mem_cons_of_mem _ kw_1217) (fun _ h => h) rfl rfl rfl dX5_digest_2 (fun H locs n_ ho hz hS => ?_)
  have fw := fw.put ho (fun q9 h9 => clA.ne h9 fo.cl (hC.oo 7 13 rfl rfl (by decide))) (fun q9 h9 => clA.ne h9 fo.cl (hC.ao 13 4 rfl rfl)) (fun q9 h9 => clA.ne h9 fo.cl (hC.ceo (Or.inr rfl) 13 rfl (by decide)))
  have nW_fo : ∀ k, k < 6 → rt k ≠ mo := fun k hk9 => clA.ne (fk k hk9).cla fo.cl (hC.ao 13 0 rfl rfl)
  have fj := fj.kept (ho _ (clA.ne fj.cla fo.cl (hC.ao 13 3 rfl rfl)))
  have fk := fk.kept (fun k hk9 => ho _ (nW_fo k hk9))
  have fe := fe.kept (ho _ (clA.ne fe.cla fo.cl (hC.ao 13 0 rfl rfl)))
  have fr := fr.kept (ho _ (clA.ne fr.cla fo.cl (hC.ao 13 0 rfl rfl)))
  have fo : c1 D mo (.inr (13, [.ref ra, .ref rl, .ref ex, .ref ro, .int (nI pk), .int ca, .int rf, .int kn, .int 0])) H := n_
  refine lv_ldc2 (pc := 5) (v := 7846) hx hb E.2.2.2.1 (E.2.2.2.2 _ (List.mem_cons_of_mem _ kw_1804)) dX5_digest_5 ?_
  refine lv_lstore_n (pc := 8) (lv' := [(1, .long 7846), (0, .ref mo)]) hx hb dX5_digest_8 rfl hl (by decide) rfl (fun ls hl => ?_)
  refine lv_iconst (pc := 9) (v := 0) hx hb dX5_digest_9 (by decide) ?_
  refine lv_istore_n (pc := 10) (lv' := [(3, .int 0), (1, .long 7846), (0, .ref mo)]) hx hb dX5_digest_10 rfl hl (by decide) rfl (fun ls hl => ?_)
  refine lv_iload_n (pc := 11) hx hb dX5_digest_11 rfl (lv_at hl 0 rfl) ?_
  refine lv_iconst (pc := 12) (v := 5) hx hb dX5_digest_12 (by decide) ?_
  refine lv_icmp_ge (pc := 13) (tgt := 33) hx hb dX5_digest_13 (by decide) (fun c_1 => ?_) (fun c_1 => ?_)
  · exact absurd c_1 (by decide)
  refine lv_lload_n (pc := 16) hx hb dX5_digest_16 rfl (lv_at hl 1 rfl) ?_
  refine lv_aload_n (pc := 17) hx hb dX5_digest_17 rfl (lv_at hl 2 rfl) ?_
  refine lv_iload_n (pc := 18) hx hb dX5_digest_18 rfl (lv_at hl 0 rfl) ?_
  have hZ0_ := hS.1
  have t_fo := fo.lt
  have t_fj := fj.lt
  have t_fk := fun k (hk9 : k < 6) => (fk k hk9).lt
  have t_fe := fe.lt
  have t_fr := fr.lt
  refine k_i (pc := 19) (k_V E hC hS hA hl.1 (c1.recv hC fo rfl) rfl (c_X5_houseNow l D tk N0 sa H.size P hPN mo n9 kn 0 tt bb eT eB oT oB pk ca rf vs 0 0 rfl (by decide)) kw_1791 kw_1793 kp_35 kw_5 kw_1794 (n := 1) (by decide +kernel) rfl ⟨⟨rfl, rfl⟩, ⟨Nat.le_of_ble_eq_true rfl, Nat.le_of_ble_eq_true rfl⟩, (by dsimp only; omega), (by dsimp only; omega)⟩ rfl (Nat.le_of_ble_eq_true rfl) ⟨_, _, _, _, _, fo, fj, fk, fe, fr, fw, ⟨hPm, hPa, hPl, hPe, hPr, hPk⟩, hFk, hFe, hFr, hpk, hn9⟩ dX5_digest_19) hS (fun q z w => absurd w (Nat.not_le.mpr z)) hn (fun r_2 H locs hR hz hk hS => ?_)
  have fw := fw.new hk
  have fo := fo.kept (hk _ fo.lt (Nat.not_le.mpr fo.lt))
  have fj := fj.kept (hk _ fj.lt (Nat.not_le.mpr fj.lt))
  have fk := fk.new hk
  have fe := fe.kept (hk _ fe.lt (Nat.not_le.mpr fe.lt))
  have fr := fr.kept (hk _ fr.lt (Nat.not_le.mpr fr.lt))
  have er_2 := hR
  refine lv_i2l (pc := 22) (v := r_2.toInt64) hx hb dX5_digest_22 rfl ?_
  refine k_l (pc := 23) (k_S E hC hS hA hl.1 (c_X5_add l D tk N0 sa H.size 7846 r_2.toInt64 ) kw_1805 kw_1806 kw_5 kw_1807 (n := 2) (by decide +kernel) rfl ⟨⟨rfl, rfl⟩, ⟨Nat.le_of_ble_eq_true rfl, Nat.le_of_ble_eq_true rfl⟩, (by dsimp only; omega), (by dsimp only; omega)⟩ rfl (Nat.le_of_ble_eq_true rfl) trivial dX5_digest_23) hS (fun q z w => absurd w (Nat.not_le.mpr z)) hn (fun r_3 H locs hR hz hk hS => ?_)
  have er_3 := hR
  have fw := fw.new hk
  have fo := fo.kept (hk _ fo.lt (Nat.not_le.mpr fo.lt))
  have fj := fj.kept (hk _ fj.lt (Nat.not_le.mpr fj.lt))
  have fk := fk.new hk
  have fe := fe.kept (hk _ fe.lt (Nat.not_le.mpr fe.lt))
  have fr := fr.kept (hk _ fr.lt (Nat.not_le.mpr fr.lt))
  refine lv_lstore_n (pc := 26) (lv' := [(1, .long r_3), (3, .int 0), (0, .ref mo)]) hx hb dX5_digest_26 rfl hl (by decide) rfl (fun ls hl => ?_)
  refine lv_iinc (pc := 27) (v := 1) (lv' := [(3, .int 1), (1, .long r_3), (0, .ref mo)]) hx hb dX5_digest_27 hl (k := 1) rfl (by decide) (by decide) rfl (fun ls hl => ?_)
  refine lv_goto (pc := 30) (tgt := 11) hx hb dX5_digest_30 (by decide) ?_
  refine lv_iload_n (pc := 11) hx hb dX5_digest_11 rfl (lv_at hl 0 rfl) ?_
  refine lv_iconst (pc := 12) (v := 5) hx hb dX5_digest_12 (by decide) ?_
  refine lv_icmp_ge (pc := 13) (tgt := 33) hx hb dX5_digest_13 (by decide) (fun c_5 => ?_) (fun c_5 => ?_)
  · exact absurd c_5 (by decide)
  refine lv_lload_n (pc := 16) hx hb dX5_digest_16 rfl (lv_at hl 1 rfl) ?_
  refine lv_aload_n (pc := 17) hx hb dX5_digest_17 rfl (lv_at hl 2 rfl) ?_
  refine lv_iload_n (pc := 18) hx hb dX5_digest_18 rfl (lv_at hl 0 rfl) ?_
  have hZ0_ := hS.1
  have t_fo := fo.lt
  have t_fj := fj.lt
  have t_fk := fun k (hk9 : k < 6) => (fk k hk9).lt
  have t_fe := fe.lt
  have t_fr := fr.lt
  refine k_i (pc := 19) (k_V E hC hS hA hl.1 (c1.recv hC fo rfl) rfl (c_X5_houseNow l D tk N0 sa H.size P hPN mo n9 kn 0 tt bb eT eB oT oB pk ca rf vs 1 1 rfl (by decide)) kw_1791 kw_1793 kp_35 kw_5 kw_1794 (n := 1) (by decide +kernel) rfl ⟨⟨rfl, rfl⟩, ⟨Nat.le_of_ble_eq_true rfl, Nat.le_of_ble_eq_true rfl⟩, (by dsimp only; omega), (by dsimp only; omega)⟩ rfl (Nat.le_of_ble_eq_true rfl) ⟨_, _, _, _, _, fo, fj, fk, fe, fr, fw, ⟨hPm, hPa, hPl, hPe, hPr, hPk⟩, hFk, hFe, hFr, hpk, hn9⟩ dX5_digest_19) hS (fun q z w => absurd w (Nat.not_le.mpr z)) hn (fun r_6 H locs hR hz hk hS => ?_)
  have fw := fw.new hk
  have fo := fo.kept (hk _ fo.lt (Nat.not_le.mpr fo.lt))
  have fj := fj.kept (hk _ fj.lt (Nat.not_le.mpr fj.lt))
  have fk := fk.new hk
  have fe := fe.kept (hk _ fe.lt (Nat.not_le.mpr fe.lt))
  have fr := fr.kept (hk _ fr.lt (Nat.not_le.mpr fr.lt))
  have er_6 := hR
  refine lv_i2l (pc := 22) (v := r_6.toInt64) hx hb dX5_digest_22 rfl ?_
  refine k_l (pc := 23) (k_S E hC hS hA hl.1 (c_X5_add l D tk N0 sa H.size r_3 r_6.toInt64 ) kw_1805 kw_1806 kw_5 kw_1807 (n := 2) (by decide +kernel) rfl ⟨⟨rfl, rfl⟩, ⟨Nat.le_of_ble_eq_true rfl, Nat.le_of_ble_eq_true rfl⟩, (by dsimp only; omega), (by dsimp only; omega)⟩ rfl (Nat.le_of_ble_eq_true rfl) trivial dX5_digest_23) hS (fun q z w => absurd w (Nat.not_le.mpr z)) hn (fun r_7 H locs hR hz hk hS => ?_)
  have er_7 := hR
  have fw := fw.new hk
  have fo := fo.kept (hk _ fo.lt (Nat.not_le.mpr fo.lt))
  have fj := fj.kept (hk _ fj.lt (Nat.not_le.mpr fj.lt))
  have fk := fk.new hk
  have fe := fe.kept (hk _ fe.lt (Nat.not_le.mpr fe.lt))
  have fr := fr.kept (hk _ fr.lt (Nat.not_le.mpr fr.lt))
  refine lv_lstore_n (pc := 26) (lv' := [(1, .long r_7), (3, .int 1), (0, .ref mo)]) hx hb dX5_digest_26 rfl hl (by decide) rfl (fun ls hl => ?_)
  refine lv_iinc (pc := 27) (v := 2) (lv' := [(3, .int 2), (1, .long r_7), (0, .ref mo)]) hx hb dX5_digest_27 hl (k := 1) rfl (by decide) (by decide) rfl (fun ls hl => ?_)
  refine lv_goto (pc := 30) (tgt := 11) hx hb dX5_digest_30 (by decide) ?_
  refine lv_iload_n (pc := 11) hx hb dX5_digest_11 rfl (lv_at hl 0 rfl) ?_
  refine lv_iconst (pc := 12) (v := 5) hx hb dX5_digest_12 (by decide) ?_
  refine lv_icmp_ge (pc := 13) (tgt := 33) hx hb dX5_digest_13 (by decide) (fun c_9 => ?_) (fun c_9 => ?_)
  · exact absurd c_9 (by decide)
  refine lv_lload_n (pc := 16) hx hb dX5_digest_16 rfl (lv_at hl 1 rfl) ?_
  refine lv_aload_n (pc := 17) hx hb dX5_digest_17 rfl (lv_at hl 2 rfl) ?_
  refine lv_iload_n (pc := 18) hx hb dX5_digest_18 rfl (lv_at hl 0 rfl) ?_
  have hZ0_ := hS.1
  have t_fo := fo.lt
  have t_fj := fj.lt
  have t_fk := fun k (hk9 : k < 6) => (fk k hk9).lt
  have t_fe := fe.lt
  have t_fr := fr.lt
  refine k_i (pc := 19) (k_V E hC hS hA hl.1 (c1.recv hC fo rfl) rfl (c_X5_houseNow l D tk N0 sa H.size P hPN mo n9 kn 0 tt bb eT eB oT oB pk ca rf vs 2 2 rfl (by decide)) kw_1791 kw_1793 kp_35 kw_5 kw_1794 (n := 1) (by decide +kernel) rfl ⟨⟨rfl, rfl⟩, ⟨Nat.le_of_ble_eq_true rfl, Nat.le_of_ble_eq_true rfl⟩, (by dsimp only; omega), (by dsimp only; omega)⟩ rfl (Nat.le_of_ble_eq_true rfl) ⟨_, _, _, _, _, fo, fj, fk, fe, fr, fw, ⟨hPm, hPa, hPl, hPe, hPr, hPk⟩, hFk, hFe, hFr, hpk, hn9⟩ dX5_digest_19) hS (fun q z w => absurd w (Nat.not_le.mpr z)) hn (fun r_10 H locs hR hz hk hS => ?_)
  have fw := fw.new hk
  have fo := fo.kept (hk _ fo.lt (Nat.not_le.mpr fo.lt))
  have fj := fj.kept (hk _ fj.lt (Nat.not_le.mpr fj.lt))
  have fk := fk.new hk
  have fe := fe.kept (hk _ fe.lt (Nat.not_le.mpr fe.lt))
  have fr := fr.kept (hk _ fr.lt (Nat.not_le.mpr fr.lt))
  have er_10 := hR
  refine lv_i2l (pc := 22) (v := r_10.toInt64) hx hb dX5_digest_22 rfl ?_
  refine k_l (pc := 23) (k_S E hC hS hA hl.1 (c_X5_add l D tk N0 sa H.size r_7 r_10.toInt64 ) kw_1805 kw_1806 kw_5 kw_1807 (n := 2) (by decide +kernel) rfl ⟨⟨rfl, rfl⟩, ⟨Nat.le_of_ble_eq_true rfl, Nat.le_of_ble_eq_true rfl⟩, (by dsimp only; omega), (by dsimp only; omega)⟩ rfl (Nat.le_of_ble_eq_true rfl) trivial dX5_digest_23) hS (fun q z w => absurd w (Nat.not_le.mpr z)) hn (fun r_11 H locs hR hz hk hS => ?_)
  have er_11 := hR
  have fw := fw.new hk
  have fo := fo.kept (hk _ fo.lt (Nat.not_le.mpr fo.lt))
  have fj := fj.kept (hk _ fj.lt (Nat.not_le.mpr fj.lt))
  have fk := fk.new hk
  have fe := fe.kept (hk _ fe.lt (Nat.not_le.mpr fe.lt))
  have fr := fr.kept (hk _ fr.lt (Nat.not_le.mpr fr.lt))
  refine lv_lstore_n (pc := 26) (lv' := [(1, .long r_11), (3, .int 2), (0, .ref mo)]) hx hb dX5_digest_26 rfl hl (by decide) rfl (fun ls hl => ?_)
  refine lv_iinc (pc := 27) (v := 3) (lv' := [(3, .int 3), (1, .long r_11), (0, .ref mo)]) hx hb dX5_digest_27 hl (k := 1) rfl (by decide) (by decide) rfl (fun ls hl => ?_)
  refine lv_goto (pc := 30) (tgt := 11) hx hb dX5_digest_30 (by decide) ?_
  refine lv_iload_n (pc := 11) hx hb dX5_digest_11 rfl (lv_at hl 0 rfl) ?_
  refine lv_iconst (pc := 12) (v := 5) hx hb dX5_digest_12 (by decide) ?_
  refine lv_icmp_ge (pc := 13) (tgt := 33) hx hb dX5_digest_13 (by decide) (fun c_13 => ?_) (fun c_13 => ?_)
  · exact absurd c_13 (by decide)
  refine lv_lload_n (pc := 16) hx hb dX5_digest_16 rfl (lv_at hl 1 rfl) ?_
  refine lv_aload_n (pc := 17) hx hb dX5_digest_17 rfl (lv_at hl 2 rfl) ?_
  refine lv_iload_n (pc := 18) hx hb dX5_digest_18 rfl (lv_at hl 0 rfl) ?_
  have hZ0_ := hS.1
  have t_fo := fo.lt
  have t_fj := fj.lt
  have t_fk := fun k (hk9 : k < 6) => (fk k hk9).lt
  have t_fe := fe.lt
  have t_fr := fr.lt
  refine k_i (pc := 19) (k_V E hC hS hA hl.1 (c1.recv hC fo rfl) rfl (c_X5_houseNow l D tk N0 sa H.size P hPN mo n9 kn 0 tt bb eT eB oT oB pk ca rf vs 3 3 rfl (by decide)) kw_1791 kw_1793 kp_35 kw_5 kw_1794 (n := 1) (by decide +kernel) rfl ⟨⟨rfl, rfl⟩, ⟨Nat.le_of_ble_eq_true rfl, Nat.le_of_ble_eq_true rfl⟩, (by dsimp only; omega), (by dsimp only; omega)⟩ rfl (Nat.le_of_ble_eq_true rfl) ⟨_, _, _, _, _, fo, fj, fk, fe, fr, fw, ⟨hPm, hPa, hPl, hPe, hPr, hPk⟩, hFk, hFe, hFr, hpk, hn9⟩ dX5_digest_19) hS (fun q z w => absurd w (Nat.not_le.mpr z)) hn (fun r_14 H locs hR hz hk hS => ?_)
  have fw := fw.new hk
  have fo := fo.kept (hk _ fo.lt (Nat.not_le.mpr fo.lt))
  have fj := fj.kept (hk _ fj.lt (Nat.not_le.mpr fj.lt))
  have fk := fk.new hk
  have fe := fe.kept (hk _ fe.lt (Nat.not_le.mpr fe.lt))
  have fr := fr.kept (hk _ fr.lt (Nat.not_le.mpr fr.lt))
  have er_14 := hR
  refine lv_i2l (pc := 22) (v := r_14.toInt64) hx hb dX5_digest_22 rfl ?_
  refine k_l (pc := 23) (k_S E hC hS hA hl.1 (c_X5_add l D tk N0 sa H.size r_11 r_14.toInt64 ) kw_1805 kw_1806 kw_5 kw_1807 (n := 2) (by decide +kernel) rfl ⟨⟨rfl, rfl⟩, ⟨Nat.le_of_ble_eq_true rfl, Nat.le_of_ble_eq_true rfl⟩, (by dsimp only; omega), (by dsimp only; omega)⟩ rfl (Nat.le_of_ble_eq_true rfl) trivial dX5_digest_23) hS (fun q z w => absurd w (Nat.not_le.mpr z)) hn (fun r_15 H locs hR hz hk hS => ?_)
  have er_15 := hR
  have fw := fw.new hk
  have fo := fo.kept (hk _ fo.lt (Nat.not_le.mpr fo.lt))
  have fj := fj.kept (hk _ fj.lt (Nat.not_le.mpr fj.lt))
  have fk := fk.new hk
  have fe := fe.kept (hk _ fe.lt (Nat.not_le.mpr fe.lt))
  have fr := fr.kept (hk _ fr.lt (Nat.not_le.mpr fr.lt))
  refine lv_lstore_n (pc := 26) (lv' := [(1, .long r_15), (3, .int 3), (0, .ref mo)]) hx hb dX5_digest_26 rfl hl (by decide) rfl (fun ls hl => ?_)
  refine lv_iinc (pc := 27) (v := 4) (lv' := [(3, .int 4), (1, .long r_15), (0, .ref mo)]) hx hb dX5_digest_27 hl (k := 1) rfl (by decide) (by decide) rfl (fun ls hl => ?_)
  refine lv_goto (pc := 30) (tgt := 11) hx hb dX5_digest_30 (by decide) ?_
  refine lv_iload_n (pc := 11) hx hb dX5_digest_11 rfl (lv_at hl 0 rfl) ?_
  refine lv_iconst (pc := 12) (v := 5) hx hb dX5_digest_12 (by decide) ?_
  refine lv_icmp_ge (pc := 13) (tgt := 33) hx hb dX5_digest_13 (by decide) (fun c_17 => ?_) (fun c_17 => ?_)
  · exact absurd c_17 (by decide)
  refine lv_lload_n (pc := 16) hx hb dX5_digest_16 rfl (lv_at hl 1 rfl) ?_
  refine lv_aload_n (pc := 17) hx hb dX5_digest_17 rfl (lv_at hl 2 rfl) ?_
  refine lv_iload_n (pc := 18) hx hb dX5_digest_18 rfl (lv_at hl 0 rfl) ?_
  have hZ0_ := hS.1
  have t_fo := fo.lt
  have t_fj := fj.lt
  have t_fk := fun k (hk9 : k < 6) => (fk k hk9).lt
  have t_fe := fe.lt
  have t_fr := fr.lt
  refine k_i (pc := 19) (k_V E hC hS hA hl.1 (c1.recv hC fo rfl) rfl (c_X5_houseNow l D tk N0 sa H.size P hPN mo n9 kn 0 tt bb eT eB oT oB pk ca rf vs 4 4 rfl (by decide)) kw_1791 kw_1793 kp_35 kw_5 kw_1794 (n := 1) (by decide +kernel) rfl ⟨⟨rfl, rfl⟩, ⟨Nat.le_of_ble_eq_true rfl, Nat.le_of_ble_eq_true rfl⟩, (by dsimp only; omega), (by dsimp only; omega)⟩ rfl (Nat.le_of_ble_eq_true rfl) ⟨_, _, _, _, _, fo, fj, fk, fe, fr, fw, ⟨hPm, hPa, hPl, hPe, hPr, hPk⟩, hFk, hFe, hFr, hpk, hn9⟩ dX5_digest_19) hS (fun q z w => absurd w (Nat.not_le.mpr z)) hn (fun r_18 H locs hR hz hk hS => ?_)
  have fw := fw.new hk
  have fo := fo.kept (hk _ fo.lt (Nat.not_le.mpr fo.lt))
  have fj := fj.kept (hk _ fj.lt (Nat.not_le.mpr fj.lt))
  have fk := fk.new hk
  have fe := fe.kept (hk _ fe.lt (Nat.not_le.mpr fe.lt))
  have fr := fr.kept (hk _ fr.lt (Nat.not_le.mpr fr.lt))
  have er_18 := hR
  refine lv_i2l (pc := 22) (v := r_18.toInt64) hx hb dX5_digest_22 rfl ?_
  refine k_l (pc := 23) (k_S E hC hS hA hl.1 (c_X5_add l D tk N0 sa H.size r_15 r_18.toInt64 ) kw_1805 kw_1806 kw_5 kw_1807 (n := 2) (by decide +kernel) rfl ⟨⟨rfl, rfl⟩, ⟨Nat.le_of_ble_eq_true rfl, Nat.le_of_ble_eq_true rfl⟩, (by dsimp only; omega), (by dsimp only; omega)⟩ rfl (Nat.le_of_ble_eq_true rfl) trivial dX5_digest_23) hS (fun q z w => absurd w (Nat.not_le.mpr z)) hn (fun r_19 H locs hR hz hk hS => ?_)
  have er_19 := hR
  have fw := fw.new hk
  have fo := fo.kept (hk _ fo.lt (Nat.not_le.mpr fo.lt))
  have fj := fj.kept (hk _ fj.lt (Nat.not_le.mpr fj.lt))
  have fk := fk.new hk
  have fe := fe.kept (hk _ fe.lt (Nat.not_le.mpr fe.lt))
  have fr := fr.kept (hk _ fr.lt (Nat.not_le.mpr fr.lt))
  refine lv_lstore_n (pc := 26) (lv' := [(1, .long r_19), (3, .int 4), (0, .ref mo)]) hx hb dX5_digest_26 rfl hl (by decide) rfl (fun ls hl => ?_)
  refine lv_iinc (pc := 27) (v := 5) (lv' := [(3, .int 5), (1, .long r_19), (0, .ref mo)]) hx hb dX5_digest_27 hl (k := 1) rfl (by decide) (by decide) rfl (fun ls hl => ?_)
  refine lv_goto (pc := 30) (tgt := 11) hx hb dX5_digest_30 (by decide) ?_
  refine lv_iload_n (pc := 11) hx hb dX5_digest_11 rfl (lv_at hl 0 rfl) ?_
  refine lv_iconst (pc := 12) (v := 5) hx hb dX5_digest_12 (by decide) ?_
  refine lv_icmp_ge (pc := 13) (tgt := 33) hx hb dX5_digest_13 (by decide) (fun c_21 => ?_) (fun c_21 => ?_)
  rotate_left
  · exact absurd (by decide) c_21
  exact g1_X5_digest E hC hA hn hr hlk hPN hPs mo n9 kn th tt bb eT eB oT oB pk ca rf vs hQ ra rl ex ro rt hPm hPa hPl hPe hPr hPk hFk hFe hFr hpk hn9 r_19 _ _ _ hS fo fj fk fe fr fw (lv_sub hl [1, 2] rfl)
set_option maxHeartbeats 4000000 in
set_option maxRecDepth 100000 in
/-- BestratiosModel.thrown()I -/
theorem c_X5_thrown (l : Launch) (D : va_G) (tk : Nat → ClassId) (N0 : Nat) (sa : Nat → Nat)  (sz : Nat) (P : Nat → Prop) (hPN : ∀ q, P q → N0 ≤ q) (mo n9 : Nat) (kn th : Int32) (tt bb : Nat → Int64) (eT eB oT oB : Int64) (pk : Nat) (ca rf : Int32) (vs : Nat → Value)  : Met l yX5_thrown (wsy yX5_thrown cX5_thrown 1 (some .int)) ({ frames := 0, cells := 0, slots := 0, locals := 0 } : Room) (cP D tk N0 sa [.ref mo] sz (fun H => MI D tk sa P mo tt bb eT eB oT oB pk ca rf vs kn n9 th H)) (kQi (fun r H => r = th) (nwA sz)) (0) (0) (nwA sz) := by
  refine mStart RX5 rfl (by decide +kernel) (Nat.le_of_ble_eq_true rfl) ?_
  intro p e s m args below meth c E hr hlk hnm hsz hC hF ls hl
  subst hsz
  obtain ⟨hx, hb, -⟩ := id E
  have hA : ∀ q, (nwA s.heap.size) q → N0 ≤ q := fun q h => Nat.le_trans hC.2.1 h
  have hn : ∀ q, s.heap.size ≤ q → (nwA s.heap.size) q := fun q h => h
  have hS : va_S (nwA s.heap.size) s.heap s.heap [] := va_S.rf
  have hl : lv_has ls 1 [(0, .ref mo)] := hl
  have hM : MI D tk sa P mo tt bb eT eB oT oB pk ca rf vs kn n9 th s.heap := hF
  obtain ⟨ra, rl, ex, ro, rt, fo, fj, fk, fe, fr, fw, ⟨hPm, hPa, hPl, hPe, hPr, hPk⟩, hFk, hFe, hFr, hpk, hn9⟩ := hM
  refine lv_aload_n (pc := 0) hx hb dX5_thrown_0 rfl (lv_at hl 0 rfl) ?_
  refine r_get (pc := 1) E hC fo 8 (v := .int th) rfl rfl (by decide) uX5 (List.mem_cons_of_mem _ kw_1217) (fun _ h => h) dX5_thrown_1 ?_
  refine r_iret (pc := 4) E hr hlk hS (by omega) (by omega) ?_ dX5_thrown_4
  rfl
