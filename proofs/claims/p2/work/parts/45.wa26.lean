set_option maxHeartbeats 4000000 in
set_option maxRecDepth 100000 in
/-- BestratiosModel.down(IZ)I -/
theorem c_X5_down (l : Launch) (D : va_G) (tk : Nat → ClassId) (N0 : Nat) (sa : Nat → Nat)  (sz : Nat) (P : Nat → Prop) (hPN : ∀ q, P q → N0 ≤ q) (hPs : ∀ q, sz ≤ q → P q) (mo n9 : Nat) (kn th : Int32) (tt bb : Nat → Int64) (eT eB oT oB : Int64) (pk : Nat) (ca rf : Int32) (vs : Nat → Value) (x1 : Int32) (x2 : Int32) : Met l yX5_down (wsy yX5_down cX5_down 3 (some .int)) ({ frames := 10, cells := 104, slots := 410, locals := 234 } : Room) (cP D tk N0 sa [.ref mo, .int x1, .int x2] sz (fun H => MI D tk sa P mo tt bb eT eB oT oB pk ca rf vs kn n9 th H)) (kQi (fun r H => ∃ th1 tt1 bb1 rf1, MI D tk sa P mo tt1 bb1 eT eB oT oB pk ca rf1 vs kn n9 th1 H ∧ AC (m_isNo x1) 0 tt bb rf (nn x1) (m_DN (tt (nn x1)) (bb (nn x1)) x2) r th1 tt1 bb1 rf1) (P)) (104) (410) (P) := by
  refine mStart RX5 rfl (by decide +kernel) (Nat.le_of_ble_eq_true rfl) ?_
  intro p e s m args below meth c E hr hlk hnm hsz hC hF ls hl
  subst hsz
  obtain ⟨hx, hb, -⟩ := id E
  have hA : ∀ q, (P) q → N0 ≤ q := hPN
  have hn : ∀ q, s.heap.size ≤ q → (P) q := hPs
  have hS : va_S (P) s.heap s.heap [] := va_S.rf
  have hl : lv_has ls 3 [(0, .ref mo), (1, .int x1), (2, .int x2)] := hl
  have hM : MI D tk sa P mo tt bb eT eB oT oB pk ca rf vs kn n9 th s.heap := hF
  obtain ⟨ra, rl, ex, ro, rt, fo, fj, fk, fe, fr, fw, ⟨hPm, hPa, hPl, hPe, hPr, hPk⟩, hFk, hFe, hFr, hpk, hn9⟩ := hM
  have g_fo := hPm
  have g_fj := hPa
  refine lv_aload_n (pc := 0) hx hb dX5_down_0 rfl (lv_at hl 0 rfl) ?_
  refine lv_iload_n (pc := 1) hx hb dX5_down_1 rfl (lv_at hl 1 rfl) ?_
  refine k_i (pc := 2) (k_S E hC hS hA hl.1 (c_X5_isNo l D tk N0 sa s.heap.size x1 ) kw_1245 kw_1246 kw_5 kw_1247 (n := 1) (by decide +kernel) rfl ⟨⟨rfl, rfl⟩, ⟨Nat.le_of_ble_eq_true rfl, Nat.le_of_ble_eq_true rfl⟩, (by dsimp only; omega), (by dsimp only; omega)⟩ rfl (Nat.le_of_ble_eq_true rfl) trivial dX5_down_2) hS (fun q z w => absurd w (Nat.not_le.mpr z)) hn (fun r_1 H locs hR hz hk hS => ?_)
  have er_1 := hR
  have fw := fw.new hk
  have fo := fo.kept (hk _ fo.lt (Nat.not_le.mpr fo.lt))
  have fj := fj.kept (hk _ fj.lt (Nat.not_le.mpr fj.lt))
  have fk := fk.new hk
  have fe := fe.kept (hk _ fe.lt (Nat.not_le.mpr fe.lt))
  have fr := fr.kept (hk _ fr.lt (Nat.not_le.mpr fr.lt))
  refine lv_iconst (pc := 5) (v := 0) hx hb dX5_down_5 (by decide) ?_
  have hZ0_ := hS.1
  have t_fo := fo.lt
  have t_fj := fj.lt
  have t_fk := fun k (hk9 : k < 6) => (fk k hk9).lt
  have t_fe := fe.lt
  have t_fr := fr.lt
  refine k_i (pc := 6) (k_V E hC hS hA hl.1 (c1.recv hC fo rfl) rfl (c_X5_fails l D tk N0 sa H.size P hPN (fun q h9 => hPs q (Nat.le_trans hS.1 h9)) mo n9 kn th tt bb eT eB oT oB pk ca rf vs r_1 0 ) kw_1251 kw_1253 kp_20 kw_5 kw_1254 (n := 2) (by decide +kernel) rfl ⟨⟨rfl, rfl⟩, ⟨Nat.le_of_ble_eq_true rfl, Nat.le_of_ble_eq_true rfl⟩, (by dsimp only; omega), (by dsimp only; omega)⟩ rfl (Nat.le_of_ble_eq_true rfl) ⟨_, _, _, _, _, fo, fj, fk, fe, fr, fw, ⟨hPm, hPa, hPl, hPe, hPr, hPk⟩, hFk, hFe, hFr, hpk, hn9⟩ dX5_down_6) hS (fun q _ h => h) hn (fun r_3 H locs hR hz hk hS => ?_)
  obtain ⟨er_3, hM⟩ := hR
  obtain ⟨ra, rl, ex, ro, rt, fo, fj, fk, fe, fr, fw, ⟨hPm, hPa, hPl, hPe, hPr, hPk⟩, hFk, hFe, hFr, hpk, hn9⟩ := hM
  have g_fo := hPm
  have g_fj := hPa
  refine lv_if_eq (pc := 9) (tgt := 14) hx hb dX5_down_9 (by decide) (fun c_4 => ?_) (fun c_4 => ?_)
  · refine lv_aload_n (pc := 14) hx hb dX5_down_14 rfl (lv_at hl 0 rfl) ?_
    refine lv_iload_n (pc := 15) hx hb dX5_down_15 rfl (lv_at hl 1 rfl) ?_
    refine lv_aload_n (pc := 16) hx hb dX5_down_16 rfl (lv_at hl 0 rfl) ?_
    refine r_get (pc := 17) E hC fo 0 (v := .ref ra) rfl rfl (by decide) uX5 (List.mem_cons_of_mem _ kw_1209) (fun _ h => h) dX5_down_17 ?_
    refine lv_iload_n (pc := 20) hx hb dX5_down_20 rfl (lv_at hl 1 rfl) ?_
    obtain ⟨hx_5, hk_5⟩ := m_noN (er_1.symm.trans (m_fl0 (er_3.symm.trans c_4)).1)
    refine r_aaldJ (pc := 21) E hC fj (nn x1) hx_5 hk_5 (by decide) rfl dX5_down_21 ?_
    have fL6 := fk (nn x1) hk_5
    have mF_fL6 := hFk (nn x1) hk_5
    have Pq_fL6 := hPk (nn x1) hk_5
    have hZ0_ := hS.1
    have t_fo := fo.lt
    have t_fj := fj.lt
    have t_fk := fun k (hk9 : k < 6) => (fk k hk9).lt
    have t_fe := fe.lt
    have t_fr := fr.lt
    have t_fL6 := fL6.lt
    refine k_i (pc := 22) (k_S E hC hS hA hl.1 (c_X5_isAbove l D tk N0 sa H.size (rt (nn x1)) (tt (nn x1)) (bb (nn x1)) ) kw_1645 kw_1646 kw_5 kw_1647 (n := 1) (by decide +kernel) rfl ⟨⟨rfl, rfl⟩, ⟨Nat.le_of_ble_eq_true rfl, Nat.le_of_ble_eq_true rfl⟩, (by dsimp only; omega), (by dsimp only; omega)⟩ rfl (Nat.le_of_ble_eq_true rfl) fL6 dX5_down_22) hS (fun q z w => absurd w (Nat.not_le.mpr z)) hn (fun r_7 H locs hR hz hk hS => ?_)
    have fw := fw.new hk
    have fo := fo.kept (hk _ fo.lt (Nat.not_le.mpr fo.lt))
    have fj := fj.kept (hk _ fj.lt (Nat.not_le.mpr fj.lt))
    have fk := fk.new hk
    have fe := fe.kept (hk _ fe.lt (Nat.not_le.mpr fe.lt))
    have fr := fr.kept (hk _ fr.lt (Nat.not_le.mpr fr.lt))
    have fL6 := fL6.kept (hk _ fL6.lt (Nat.not_le.mpr fL6.lt))
    have er_7 := hR
    refine lv_if_eq (pc := 25) (tgt := 41) hx hb dX5_down_25 (by decide) (fun c_8 => ?_) (fun c_8 => ?_)
    · refine lv_null (pc := 41) hx hb dX5_down_41 ?_
      have hZ0_ := hS.1
      have t_fo := fo.lt
      have t_fj := fj.lt
      have t_fk := fun k (hk9 : k < 6) => (fk k hk9).lt
      have t_fe := fe.lt
      have t_fr := fr.lt
      have t_fL6 := fL6.lt
      refine k_i (pc := 42) (k_V E hC hS hA hl.1 (c1.recv hC fo rfl) rfl (c_X5_become_N l D tk N0 sa H.size P hPN (fun q h9 => hPs q (Nat.le_trans hS.1 h9)) mo n9 kn ((m_th r_1 0)) tt bb eT eB oT oB pk ca rf vs x1 (nn x1) hx_5 hk_5 ) kw_1255 kw_1257 kp_21 kw_5 kw_1258 (n := 2) (by decide +kernel) rfl ⟨⟨rfl, rfl⟩, ⟨Nat.le_of_ble_eq_true rfl, Nat.le_of_ble_eq_true rfl⟩, (by dsimp only; omega), (by dsimp only; omega)⟩ rfl (Nat.le_of_ble_eq_true rfl) ⟨_, _, _, _, _, fo, fj, fk, fe, fr, fw, ⟨hPm, hPa, hPl, hPe, hPr, hPk⟩, hFk, hFe, hFr, hpk, hn9⟩ dX5_down_42) hS (fun q _ h => h) hn (fun r_9 H locs hR hz hk hS => ?_)
      obtain ⟨tt_10, bb_10, rf_10, hM, hBE_10⟩ := hR
      obtain ⟨ra, rl, ex, ro, rt, fo, fj, fk, fe, fr, fw, ⟨hPm, hPa, hPl, hPe, hPr, hPk⟩, hFk, hFe, hFr, hpk, hn9⟩ := hM
      have g_fo := hPm
      have g_fj := hPa
      refine r_iret (pc := 45) E hr hlk hS (by omega) (by omega) ?_ dX5_down_45
      exact ⟨_, _, _, _, ⟨_, _, _, _, _, fo, fj, fk, fe, fr, fw, ⟨hPm, hPa, hPl, hPe, hPr, hPk⟩, hFk, hFe, hFr, hpk, hn9⟩, AC.ok (by subst er_1 er_3 er_7; first | rfl | (simp [m_or, m_not, m_is0, m_lt0, m_fl, c_4, c_8]; done)) (by subst er_1 er_3 er_7; first | rfl | (simp [m_or, m_not, m_is0, m_lt0, m_fl, c_4, c_8]; done)) (er_3.symm.trans c_4) (hBE_10.cast (by subst er_1 er_3 er_7; first | rfl | (simp [m_DN, c_4, c_8]; done)))⟩
    · refine lv_aload_n (pc := 28) hx hb dX5_down_28 rfl (lv_at hl 0 rfl) ?_
      refine r_get (pc := 29) E hC fo 0 (v := .ref ra) rfl rfl (by decide) uX5 (List.mem_cons_of_mem _ kw_1209) (fun _ h => h) dX5_down_29 ?_
      refine lv_iload_n (pc := 32) hx hb dX5_down_32 rfl (lv_at hl 1 rfl) ?_
      refine r_aaldJ (pc := 33) E hC fj (nn x1) hx_5 hk_5 (by decide) rfl dX5_down_33 ?_
      have fL11 := fk (nn x1) hk_5
      have mF_fL11 := hFk (nn x1) hk_5
      have Pq_fL11 := hPk (nn x1) hk_5
      refine lv_iload_n (pc := 34) hx hb dX5_down_34 rfl (lv_at hl 2 rfl) ?_
      have hab := m_abv1 (t := tt (nn x1)) (by rw [← er_7]; exact c_8)
      have hZ0_ := hS.1
      have t_fo := fo.lt
      have t_fj := fj.lt
      have t_fk := fun k (hk9 : k < 6) => (fk k hk9).lt
      have t_fe := fe.lt
      have t_fr := fr.lt
      have t_fL6 := fL6.lt
      have t_fL11 := fL11.lt
      refine k_r (pc := 35) (k_S E hC hS hA hl.1 (c_X5_below l D tk N0 sa H.size (rt (nn x1)) (tt (nn x1)) (bb (nn x1)) x2 mF_fL11 hab) kw_1662 kw_1663 kw_5 kw_1664 (n := 2) (by decide +kernel) rfl ⟨⟨rfl, rfl⟩, ⟨Nat.le_of_ble_eq_true rfl, Nat.le_of_ble_eq_true rfl⟩, (by dsimp only; omega), (by dsimp only; omega)⟩ rfl (Nat.le_of_ble_eq_true rfl) fL11 dX5_down_35) hS (fun q z w => absurd w (Nat.not_le.mpr z)) hn (fun r_12 H locs hR hz hk hS => ?_)
      have fw := fw.new hk
      have fo := fo.kept (hk _ fo.lt (Nat.not_le.mpr fo.lt))
      have fj := fj.kept (hk _ fj.lt (Nat.not_le.mpr fj.lt))
      have fk := fk.new hk
      have fe := fe.kept (hk _ fe.lt (Nat.not_le.mpr fe.lt))
      have fr := fr.kept (hk _ fr.lt (Nat.not_le.mpr fr.lt))
      have fL6 := fL6.kept (hk _ fL6.lt (Nat.not_le.mpr fL6.lt))
      have fL11 := fL11.kept (hk _ fL11.lt (Nat.not_le.mpr fL11.lt))
      obtain ⟨z9_, tt_f13, bb_f13, f13, hb_f13, hv_f13⟩ := hR
      have s_f13 : s.heap.size ≤ r_12 := Nat.le_trans hZ0_ z9_
      have g_f13 := hn _ s_f13
      have l_fo_f13 : mo < r_12 := Nat.lt_of_lt_of_le t_fo z9_
      have l_fj_f13 : ra < r_12 := Nat.lt_of_lt_of_le t_fj z9_
      have nW_f13 : ∀ k, k < 6 → rt k ≠ r_12 := fun k hk9 => Nat.ne_of_lt (Nat.lt_of_lt_of_le (t_fk k hk9) z9_)
      have l_fe_f13 : ex < r_12 := Nat.lt_of_lt_of_le t_fe z9_
      have l_fr_f13 : ro < r_12 := Nat.lt_of_lt_of_le t_fr z9_
      have l_fL6_f13 : rt (nn x1) < r_12 := Nat.lt_of_lt_of_le t_fL6 z9_
      have l_fL11_f13 : rt (nn x1) < r_12 := Nat.lt_of_lt_of_le t_fL11 z9_
      refine lv_goto (pc := 38) (tgt := 42) hx hb dX5_down_38 (by decide) ?_
      have hZ0_ := hS.1
      have t_fo := fo.lt
      have t_fj := fj.lt
      have t_fk := fun k (hk9 : k < 6) => (fk k hk9).lt
      have t_fe := fe.lt
      have t_fr := fr.lt
      have t_fL6 := fL6.lt
      have t_fL11 := fL11.lt
      have t_f13 := f13.lt
      refine k_i (pc := 42) (k_V E hC hS hA hl.1 (c1.recv hC fo rfl) rfl (c_X5_become l D tk N0 sa H.size P hPN (fun q h9 => hPs q (Nat.le_trans hS.1 h9)) mo n9 kn ((m_th r_1 0)) tt bb eT eB oT oB pk ca rf vs x1 (nn x1) hx_5 hk_5 r_12 tt_f13 bb_f13 (hPs _ s_f13) hb_f13) kw_1255 kw_1257 kp_21 kw_5 kw_1258 (n := 2) (by decide +kernel) rfl ⟨⟨rfl, rfl⟩, ⟨Nat.le_of_ble_eq_true rfl, Nat.le_of_ble_eq_true rfl⟩, (by dsimp only; omega), (by dsimp only; omega)⟩ rfl (Nat.le_of_ble_eq_true rfl) ⟨⟨_, _, _, _, _, fo, fj, fk, fe, fr, fw, ⟨hPm, hPa, hPl, hPe, hPr, hPk⟩, hFk, hFe, hFr, hpk, hn9⟩, f13⟩ dX5_down_42) hS (fun q _ h => h) hn (fun r_14 H locs hR hz hk hS => ?_)
      obtain ⟨tt_15, bb_15, rf_15, hM, hBE_15⟩ := hR
      obtain ⟨ra, rl, ex, ro, rt, fo, fj, fk, fe, fr, fw, ⟨hPm, hPa, hPl, hPe, hPr, hPk⟩, hFk, hFe, hFr, hpk, hn9⟩ := hM
      have g_fo := hPm
      have g_fj := hPa
      refine r_iret (pc := 45) E hr hlk hS (by omega) (by omega) ?_ dX5_down_45
      exact ⟨_, _, _, _, ⟨_, _, _, _, _, fo, fj, fk, fe, fr, fw, ⟨hPm, hPa, hPl, hPe, hPr, hPk⟩, hFk, hFe, hFr, hpk, hn9⟩, AC.ok (by subst er_1 er_3 er_7; first | rfl | (simp [m_or, m_not, m_is0, m_lt0, m_fl, c_4, c_8]; done)) (by subst er_1 er_3 er_7; first | rfl | (simp [m_or, m_not, m_is0, m_lt0, m_fl, c_4, c_8]; done)) (er_3.symm.trans c_4) (hBE_15.cast (q_DN mF_fL11 hab hv_f13))⟩
  · refine lv_iconst (pc := 12) (v := 0) hx hb dX5_down_12 (by decide) ?_
    refine r_iret (pc := 13) E hr hlk hS (by omega) (by omega) ?_ dX5_down_13
    exact ⟨_, _, _, _, ⟨_, _, _, _, _, fo, fj, fk, fe, fr, fw, ⟨hPm, hPa, hPl, hPe, hPr, hPk⟩, hFk, hFe, hFr, hpk, hn9⟩, AC.fail (by subst er_1 er_3; first | rfl | (simp [m_or, m_not, m_is0, m_lt0, m_fl, c_4]; done)) (by subst er_1 er_3; first | rfl | (simp [m_or, m_not, m_is0, m_lt0, m_fl, c_4]; done)) (fun z9 => c_4 (er_3.trans z9))⟩
