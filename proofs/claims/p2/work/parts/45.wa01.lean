set_option maxHeartbeats 4000000 in
set_option maxRecDepth 100000 in
/-- BestratiosModel.put(III)I -/
theorem c_X5_put (l : Launch) (D : va_G) (tk : Nat → ClassId) (N0 : Nat) (sa : Nat → Nat)  (sz : Nat) (P : Nat → Prop) (hPN : ∀ q, P q → N0 ≤ q) (hPs : ∀ q, sz ≤ q → P q) (mo n9 : Nat) (kn th : Int32) (tt bb : Nat → Int64) (eT eB oT oB : Int64) (pk : Nat) (ca rf : Int32) (vs : Nat → Value) (x1 : Int32) (x2 : Int32) (x3 : Int32) : Met l yX5_put (wsy yX5_put cX5_put 4 (some .int)) ({ frames := 3, cells := 1, slots := 2, locals := 77 } : Room) (cP D tk N0 sa [.ref mo, .int x1, .int x2, .int x3] sz (fun H => MI D tk sa P mo tt bb eT eB oT oB pk ca rf vs kn n9 th H)) (kQi (fun r H => ∃ th1 tt1 bb1 rf1, MI D tk sa P mo tt1 bb1 eT eB oT oB pk ca rf1 vs kn n9 th1 H ∧ AC (m_isNo x1) (m_is0 x3) tt bb rf (nn x1) (LO x2.toInt64 x3.toInt64) r th1 tt1 bb1 rf1) (P)) (1) (2) (P) := by
  refine mStart RX5 rfl (by decide +kernel) (Nat.le_of_ble_eq_true rfl) ?_
  intro p e s m args below meth c E hr hlk hnm hsz hC hF ls hl
  subst hsz
  obtain ⟨hx, hb, -⟩ := id E
  have hA : ∀ q, (P) q → N0 ≤ q := hPN
  have hn : ∀ q, s.heap.size ≤ q → (P) q := hPs
  have hS : va_S (P) s.heap s.heap [] := va_S.rf
  have hl : lv_has ls 4 [(0, .ref mo), (1, .int x1), (2, .int x2), (3, .int x3)] := hl
  have hM : MI D tk sa P mo tt bb eT eB oT oB pk ca rf vs kn n9 th s.heap := hF
  obtain ⟨ra, rl, ex, ro, rt, fo, fj, fk, fe, fr, fw, ⟨hPm, hPa, hPl, hPe, hPr, hPk⟩, hFk, hFe, hFr, hpk, hn9⟩ := hM
  have g_fo := hPm
  have g_fj := hPa
  refine lv_aload_n (pc := 0) hx hb dX5_put_0 rfl (lv_at hl 0 rfl) ?_
  refine lv_iload_n (pc := 1) hx hb dX5_put_1 rfl (lv_at hl 1 rfl) ?_
  refine k_i (pc := 2) (k_S E hC hS hA hl.1 (c_X5_isNo l D tk N0 sa s.heap.size x1 ) kw_1245 kw_1246 kw_5 kw_1247 (n := 1) (by decide +kernel) rfl ⟨⟨rfl, rfl⟩, ⟨Nat.le_of_ble_eq_true rfl, Nat.le_of_ble_eq_true rfl⟩, (by dsimp only; omega), (by dsimp only; omega)⟩ rfl (Nat.le_of_ble_eq_true rfl) trivial dX5_put_2) hS (fun q z w => absurd w (Nat.not_le.mpr z)) hn (fun r_1 H locs hR hz hk hS => ?_)
  have er_1 := hR
  have fw := fw.new hk
  have fo := fo.kept (hk _ fo.lt (Nat.not_le.mpr fo.lt))
  have fj := fj.kept (hk _ fj.lt (Nat.not_le.mpr fj.lt))
  have fk := fk.new hk
  have fe := fe.kept (hk _ fe.lt (Nat.not_le.mpr fe.lt))
  have fr := fr.kept (hk _ fr.lt (Nat.not_le.mpr fr.lt))
  refine lv_iload_n (pc := 5) hx hb dX5_put_5 rfl (lv_at hl 3 rfl) ?_
  refine lv_if_ne (pc := 6) (tgt := 13) hx hb dX5_put_6 (by decide) (fun c_3 => ?_) (fun c_3 => ?_)
  · refine lv_iconst (pc := 13) (v := 0) hx hb dX5_put_13 (by decide) ?_
    have hZ0_ := hS.1
    have t_fo := fo.lt
    have t_fj := fj.lt
    have t_fk := fun k (hk9 : k < 6) => (fk k hk9).lt
    have t_fe := fe.lt
    have t_fr := fr.lt
    refine k_i (pc := 14) (k_V E hC hS hA hl.1 (c1.recv hC fo rfl) rfl (c_X5_fails l D tk N0 sa H.size P hPN (fun q h9 => hPs q (Nat.le_trans hS.1 h9)) mo n9 kn th tt bb eT eB oT oB pk ca rf vs r_1 0 ) kw_1251 kw_1253 kp_20 kw_5 kw_1254 (n := 2) (by decide +kernel) rfl ⟨⟨rfl, rfl⟩, ⟨Nat.le_of_ble_eq_true rfl, Nat.le_of_ble_eq_true rfl⟩, (by dsimp only; omega), (by dsimp only; omega)⟩ rfl (Nat.le_of_ble_eq_true rfl) ⟨_, _, _, _, _, fo, fj, fk, fe, fr, fw, ⟨hPm, hPa, hPl, hPe, hPr, hPk⟩, hFk, hFe, hFr, hpk, hn9⟩ dX5_put_14) hS (fun q _ h => h) hn (fun r_4 H locs hR hz hk hS => ?_)
    obtain ⟨er_4, hM⟩ := hR
    obtain ⟨ra, rl, ex, ro, rt, fo, fj, fk, fe, fr, fw, ⟨hPm, hPa, hPl, hPe, hPr, hPk⟩, hFk, hFe, hFr, hpk, hn9⟩ := hM
    have g_fo := hPm
    have g_fj := hPa
    refine lv_if_eq (pc := 17) (tgt := 24) hx hb dX5_put_17 (by decide) (fun c_5 => ?_) (fun c_5 => ?_)
    · refine lv_aload_n (pc := 24) hx hb dX5_put_24 rfl (lv_at hl 0 rfl) ?_
      refine lv_iload_n (pc := 25) hx hb dX5_put_25 rfl (lv_at hl 1 rfl) ?_
      refine lv_iload_n (pc := 26) hx hb dX5_put_26 rfl (lv_at hl 2 rfl) ?_
      refine lv_i2l (pc := 27) (v := x2.toInt64) hx hb dX5_put_27 rfl ?_
      refine lv_iload_n (pc := 28) hx hb dX5_put_28 rfl (lv_at hl 3 rfl) ?_
      refine lv_i2l (pc := 29) (v := x3.toInt64) hx hb dX5_put_29 rfl ?_
      have hP9 := m_lo32 (t := x2) (b := x3) c_3
      have hZ0_ := hS.1
      have t_fo := fo.lt
      have t_fj := fj.lt
      have t_fk := fun k (hk9 : k < 6) => (fk k hk9).lt
      have t_fe := fe.lt
      have t_fr := fr.lt
      refine k_r (pc := 30) (k_S E hC hS hA hl.1 (c_X5_lowest l D tk N0 sa H.size x2.toInt64 x3.toInt64 hP9.1) kw_1199 kw_1200 kw_5 kw_1201 (n := 2) (by decide +kernel) rfl ⟨⟨rfl, rfl⟩, ⟨Nat.le_of_ble_eq_true rfl, Nat.le_of_ble_eq_true rfl⟩, (by dsimp only; omega), (by dsimp only; omega)⟩ rfl (Nat.le_of_ble_eq_true rfl) trivial dX5_put_30) hS (fun q z w => absurd w (Nat.not_le.mpr z)) hn (fun r_6 H locs hR hz hk hS => ?_)
      have fw := fw.new hk
      have fo := fo.kept (hk _ fo.lt (Nat.not_le.mpr fo.lt))
      have fj := fj.kept (hk _ fj.lt (Nat.not_le.mpr fj.lt))
      have fk := fk.new hk
      have fe := fe.kept (hk _ fe.lt (Nat.not_le.mpr fe.lt))
      have fr := fr.kept (hk _ fr.lt (Nat.not_le.mpr fr.lt))
      obtain ⟨z9_, f7⟩ := hR
      have s_f7 : s.heap.size ≤ r_6 := Nat.le_trans hZ0_ z9_
      have g_f7 := hn _ s_f7
      have l_fo_f7 : mo < r_6 := Nat.lt_of_lt_of_le t_fo z9_
      have l_fj_f7 : ra < r_6 := Nat.lt_of_lt_of_le t_fj z9_
      have nW_f7 : ∀ k, k < 6 → rt k ≠ r_6 := fun k hk9 => Nat.ne_of_lt (Nat.lt_of_lt_of_le (t_fk k hk9) z9_)
      have l_fe_f7 : ex < r_6 := Nat.lt_of_lt_of_le t_fe z9_
      have l_fr_f7 : ro < r_6 := Nat.lt_of_lt_of_le t_fr z9_
      have hZ0_ := hS.1
      have t_fo := fo.lt
      have t_fj := fj.lt
      have t_fk := fun k (hk9 : k < 6) => (fk k hk9).lt
      have t_fe := fe.lt
      have t_fr := fr.lt
      have t_f7 := f7.lt
      obtain ⟨hx_8, hk_8⟩ := m_noN (er_1.symm.trans (m_fl0 (er_4.symm.trans c_5)).1)
      refine k_i (pc := 33) (k_V E hC hS hA hl.1 (c1.recv hC fo rfl) rfl (c_X5_become l D tk N0 sa H.size P hPN (fun q h9 => hPs q (Nat.le_trans hS.1 h9)) mo n9 kn ((m_th r_1 0)) tt bb eT eB oT oB pk ca rf vs x1 (nn x1) hx_8 hk_8 r_6 (m_loT x2.toInt64 x3.toInt64) (m_loB x2.toInt64 x3.toInt64) (hPs _ s_f7) hP9.2) kw_1255 kw_1257 kp_21 kw_5 kw_1258 (n := 2) (by decide +kernel) rfl ⟨⟨rfl, rfl⟩, ⟨Nat.le_of_ble_eq_true rfl, Nat.le_of_ble_eq_true rfl⟩, (by dsimp only; omega), (by dsimp only; omega)⟩ rfl (Nat.le_of_ble_eq_true rfl) ⟨⟨_, _, _, _, _, fo, fj, fk, fe, fr, fw, ⟨hPm, hPa, hPl, hPe, hPr, hPk⟩, hFk, hFe, hFr, hpk, hn9⟩, f7⟩ dX5_put_33) hS (fun q _ h => h) hn (fun r_9 H locs hR hz hk hS => ?_)
      obtain ⟨tt_10, bb_10, rf_10, hM, hBE_10⟩ := hR
      obtain ⟨ra, rl, ex, ro, rt, fo, fj, fk, fe, fr, fw, ⟨hPm, hPa, hPl, hPe, hPr, hPk⟩, hFk, hFe, hFr, hpk, hn9⟩ := hM
      have g_fo := hPm
      have g_fj := hPa
      refine r_iret (pc := 36) E hr hlk hS (by omega) (by omega) ?_ dX5_put_36
      exact ⟨_, _, _, _, ⟨_, _, _, _, _, fo, fj, fk, fe, fr, fw, ⟨hPm, hPa, hPl, hPe, hPr, hPk⟩, hFk, hFe, hFr, hpk, hn9⟩, AC.ok (by subst er_1 er_4; first | rfl | (simp [m_or, m_not, m_is0, m_lt0, m_fl, c_3, c_5]; done)) (by subst er_1 er_4; first | rfl | (simp [m_or, m_not, m_is0, m_lt0, m_fl, c_3, c_5]; done)) (er_4.symm.trans c_5) (hBE_10.cast (by subst er_1 er_4; first | rfl | (simp [LO, c_3, c_5]; done)))⟩
    · refine lv_iconst (pc := 20) (v := 0) hx hb dX5_put_20 (by decide) ?_
      refine lv_goto (pc := 21) (tgt := 36) hx hb dX5_put_21 (by decide) ?_
      refine r_iret (pc := 36) E hr hlk hS (by omega) (by omega) ?_ dX5_put_36
      exact ⟨_, _, _, _, ⟨_, _, _, _, _, fo, fj, fk, fe, fr, fw, ⟨hPm, hPa, hPl, hPe, hPr, hPk⟩, hFk, hFe, hFr, hpk, hn9⟩, AC.fail (by subst er_1 er_4; first | rfl | (simp [m_or, m_not, m_is0, m_lt0, m_fl, c_3, c_5]; done)) (by subst er_1 er_4; first | rfl | (simp [m_or, m_not, m_is0, m_lt0, m_fl, c_3, c_5]; done)) (fun z9 => c_5 (er_4.trans z9))⟩
  · refine lv_iconst (pc := 9) (v := 1) hx hb dX5_put_9 (by decide) ?_
    refine lv_goto (pc := 10) (tgt := 14) hx hb dX5_put_10 (by decide) ?_
    have hZ0_ := hS.1
    have t_fo := fo.lt
    have t_fj := fj.lt
    have t_fk := fun k (hk9 : k < 6) => (fk k hk9).lt
    have t_fe := fe.lt
    have t_fr := fr.lt
    refine k_i (pc := 14) (k_V E hC hS hA hl.1 (c1.recv hC fo rfl) rfl (c_X5_fails l D tk N0 sa H.size P hPN (fun q h9 => hPs q (Nat.le_trans hS.1 h9)) mo n9 kn th tt bb eT eB oT oB pk ca rf vs r_1 1 ) kw_1251 kw_1253 kp_20 kw_5 kw_1254 (n := 2) (by decide +kernel) rfl ⟨⟨rfl, rfl⟩, ⟨Nat.le_of_ble_eq_true rfl, Nat.le_of_ble_eq_true rfl⟩, (by dsimp only; omega), (by dsimp only; omega)⟩ rfl (Nat.le_of_ble_eq_true rfl) ⟨_, _, _, _, _, fo, fj, fk, fe, fr, fw, ⟨hPm, hPa, hPl, hPe, hPr, hPk⟩, hFk, hFe, hFr, hpk, hn9⟩ dX5_put_14) hS (fun q _ h => h) hn (fun r_11 H locs hR hz hk hS => ?_)
    obtain ⟨er_11, hM⟩ := hR
    obtain ⟨ra, rl, ex, ro, rt, fo, fj, fk, fe, fr, fw, ⟨hPm, hPa, hPl, hPe, hPr, hPk⟩, hFk, hFe, hFr, hpk, hn9⟩ := hM
    have g_fo := hPm
    have g_fj := hPa
    have ef_r_11 : r_11 = 1 := er_11.trans (m_fl1 _)
    rw [ef_r_11]
    refine lv_if_eq (pc := 17) (tgt := 24) hx hb dX5_put_17 (by decide) (fun c_12 => ?_) (fun c_12 => ?_)
    · exact absurd c_12 (by decide)
    refine lv_iconst (pc := 20) (v := 0) hx hb dX5_put_20 (by decide) ?_
    refine lv_goto (pc := 21) (tgt := 36) hx hb dX5_put_21 (by decide) ?_
    refine r_iret (pc := 36) E hr hlk hS (by omega) (by omega) ?_ dX5_put_36
    exact ⟨_, _, _, _, ⟨_, _, _, _, _, fo, fj, fk, fe, fr, fw, ⟨hPm, hPa, hPl, hPe, hPr, hPk⟩, hFk, hFe, hFr, hpk, hn9⟩, AC.fail (by subst er_1; first | rfl | (simp [m_or, m_not, m_is0, m_lt0, m_fl, c_3]; done)) (by subst er_1; first | rfl | (simp [m_or, m_not, m_is0, m_lt0, m_fl, c_3]; done)) (fun z9 => absurd (ef_r_11.symm.trans (er_11.trans z9)) (by decide))⟩
