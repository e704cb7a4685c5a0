set_option maxHeartbeats 4000000 in
set_option maxRecDepth 100000 in
/-- BestratiosModel.simplest(IIII)I -/
theorem c_X5_simplest (l : Launch) (D : va_G) (tk : Nat → ClassId) (N0 : Nat) (sa : Nat → Nat)  (sz : Nat) (P : Nat → Prop) (hPN : ∀ q, P q → N0 ≤ q) (hPs : ∀ q, sz ≤ q → P q) (mo n9 : Nat) (kn th : Int32) (tt bb : Nat → Int64) (eT eB oT oB : Int64) (pk : Nat) (ca rf : Int32) (vs : Nat → Value) (x1 : Int32) (x2 : Int32) (x3 : Int32) (x4 : Int32) : Met l yX5_simplest (wsy yX5_simplest cX5_simplest 5 (some .int)) ({ frames := 4, cells := 1, slots := 2, locals := 106 } : Room) (cP D tk N0 sa [.ref mo, .int x1, .int x2, .int x3, .int x4] sz (fun H => MI D tk sa P mo tt bb eT eB oT oB pk ca rf vs kn n9 th H)) (kQi (fun r H => ∃ th1 tt1 bb1 rf1 o, MI D tk sa P mo tt1 bb1 eT eB oT oB pk ca rf1 vs kn n9 th1 H ∧ AC (m_areNo x1 x2) (m_or (m_not (m_isIn x3 0 2)) (m_not (m_isIn x4 0 4))) tt bb rf (nn x1) o r th1 tt1 bb1 rf1 ∧ (m_fl (m_areNo x1 x2) (m_or (m_not (m_isIn x3 0 2)) (m_not (m_isIn x4 0 4))) = 0 → ∃ p, o = some p ∧ m_SMP (tt (nn x2)) (bb (nn x2)) (nn x3) x4 p)) (P)) (1) (2) (P) := by
  refine mStart RX5 rfl (by decide +kernel) (Nat.le_of_ble_eq_true rfl) ?_
  intro p e s m args below meth c E hr hlk hnm hsz hC hF ls hl
  subst hsz
  obtain ⟨hx, hb, -⟩ := id E
  have hA : ∀ q, (P) q → N0 ≤ q := hPN
  have hn : ∀ q, s.heap.size ≤ q → (P) q := hPs
  have hS : va_S (P) s.heap s.heap [] := va_S.rf
  have hl : lv_has ls 5 [(0, .ref mo), (1, .int x1), (2, .int x2), (3, .int x3), (4, .int x4)] := hl
  have hM : MI D tk sa P mo tt bb eT eB oT oB pk ca rf vs kn n9 th s.heap := hF
  obtain ⟨ra, rl, ex, ro, rt, fo, fj, fk, fe, fr, fw, ⟨hPm, hPa, hPl, hPe, hPr, hPk⟩, hFk, hFe, hFr, hpk, hn9⟩ := hM
  have g_fo := hPm
  have g_fj := hPa
  refine lv_aload_n (pc := 0) hx hb dX5_simplest_0 rfl (lv_at hl 0 rfl) ?_
  refine lv_iload_n (pc := 1) hx hb dX5_simplest_1 rfl (lv_at hl 1 rfl) ?_
  refine lv_iload_n (pc := 2) hx hb dX5_simplest_2 rfl (lv_at hl 2 rfl) ?_
  refine k_i (pc := 3) (k_S E hC hS hA hl.1 (c_X5_areNo l D tk N0 sa s.heap.size x1 x2 ) kw_1286 kw_1287 kw_5 kw_1288 (n := 2) (by decide +kernel) rfl ⟨⟨rfl, rfl⟩, ⟨Nat.le_of_ble_eq_true rfl, Nat.le_of_ble_eq_true rfl⟩, (by dsimp only; omega), (by dsimp only; omega)⟩ rfl (Nat.le_of_ble_eq_true rfl) trivial dX5_simplest_3) hS (fun q z w => absurd w (Nat.not_le.mpr z)) hn (fun r_1 H locs hR hz hk hS => ?_)
  have er_1 := hR
  have fw := fw.new hk
  have fo := fo.kept (hk _ fo.lt (Nat.not_le.mpr fo.lt))
  have fj := fj.kept (hk _ fj.lt (Nat.not_le.mpr fj.lt))
  have fk := fk.new hk
  have fe := fe.kept (hk _ fe.lt (Nat.not_le.mpr fe.lt))
  have fr := fr.kept (hk _ fr.lt (Nat.not_le.mpr fr.lt))
  refine lv_iload_n (pc := 6) hx hb dX5_simplest_6 rfl (lv_at hl 3 rfl) ?_
  refine lv_iconst (pc := 7) (v := 0) hx hb dX5_simplest_7 (by decide) ?_
  refine lv_iconst (pc := 8) (v := 2) hx hb dX5_simplest_8 (by decide) ?_
  refine k_i (pc := 9) (k_S E hC hS hA hl.1 (c_X5_isIn l D tk N0 sa H.size x3 0 2 ) kw_1248 kw_1249 kw_5 kw_1250 (n := 3) (by decide +kernel) rfl ⟨⟨rfl, rfl⟩, ⟨Nat.le_of_ble_eq_true rfl, Nat.le_of_ble_eq_true rfl⟩, (by dsimp only; omega), (by dsimp only; omega)⟩ rfl (Nat.le_of_ble_eq_true rfl) trivial dX5_simplest_9) hS (fun q z w => absurd w (Nat.not_le.mpr z)) hn (fun r_3 H locs hR hz hk hS => ?_)
  have er_3 := hR
  have fw := fw.new hk
  have fo := fo.kept (hk _ fo.lt (Nat.not_le.mpr fo.lt))
  have fj := fj.kept (hk _ fj.lt (Nat.not_le.mpr fj.lt))
  have fk := fk.new hk
  have fe := fe.kept (hk _ fe.lt (Nat.not_le.mpr fe.lt))
  have fr := fr.kept (hk _ fr.lt (Nat.not_le.mpr fr.lt))
  refine lv_if_eq (pc := 12) (tgt := 25) hx hb dX5_simplest_12 (by decide) (fun c_5 => ?_) (fun c_5 => ?_)
  · refine lv_iconst (pc := 25) (v := 1) hx hb dX5_simplest_25 (by decide) ?_
    refine lv_goto (pc := 26) (tgt := 30) hx hb dX5_simplest_26 (by decide) ?_
    have hZ0_ := hS.1
    have t_fo := fo.lt
    have t_fj := fj.lt
    have t_fk := fun k (hk9 : k < 6) => (fk k hk9).lt
    have t_fe := fe.lt
    have t_fr := fr.lt
    refine k_i (pc := 30) (k_V E hC hS hA hl.1 (c1.recv hC fo rfl) rfl (c_X5_fails l D tk N0 sa H.size P hPN (fun q h9 => hPs q (Nat.le_trans hS.1 h9)) mo n9 kn th tt bb eT eB oT oB pk ca rf vs r_1 1 ) kw_1251 kw_1253 kp_20 kw_5 kw_1254 (n := 2) (by decide +kernel) rfl ⟨⟨rfl, rfl⟩, ⟨Nat.le_of_ble_eq_true rfl, Nat.le_of_ble_eq_true rfl⟩, (by dsimp only; omega), (by dsimp only; omega)⟩ rfl (Nat.le_of_ble_eq_true rfl) ⟨_, _, _, _, _, fo, fj, fk, fe, fr, fw, ⟨hPm, hPa, hPl, hPe, hPr, hPk⟩, hFk, hFe, hFr, hpk, hn9⟩ dX5_simplest_30) hS (fun q _ h => h) hn (fun r_6 H locs hR hz hk hS => ?_)
    obtain ⟨er_6, hM⟩ := hR
    obtain ⟨ra, rl, ex, ro, rt, fo, fj, fk, fe, fr, fw, ⟨hPm, hPa, hPl, hPe, hPr, hPk⟩, hFk, hFe, hFr, hpk, hn9⟩ := hM
    have g_fo := hPm
    have g_fj := hPa
    have ef_r_6 : r_6 = 1 := er_6.trans (m_fl1 _)
    rw [ef_r_6]
    refine lv_if_eq (pc := 33) (tgt := 40) hx hb dX5_simplest_33 (by decide) (fun c_7 => ?_) (fun c_7 => ?_)
    · exact absurd c_7 (by decide)
    refine lv_iconst (pc := 36) (v := 0) hx hb dX5_simplest_36 (by decide) ?_
    refine lv_goto (pc := 37) (tgt := 57) hx hb dX5_simplest_37 (by decide) ?_
    refine r_iret (pc := 57) E hr hlk hS (by omega) (by omega) ?_ dX5_simplest_57
    exact ⟨_, _, _, _, none, ⟨_, _, _, _, _, fo, fj, fk, fe, fr, fw, ⟨hPm, hPa, hPl, hPe, hPr, hPk⟩, hFk, hFe, hFr, hpk, hn9⟩, AC.fail (by subst er_1 er_3; first | rfl | (simp [m_or, m_not, m_is0, m_lt0, m_fl, c_5]; done)) (by subst er_1 er_3; first | rfl | (simp [m_or, m_not, m_is0, m_lt0, m_fl, c_5]; done)) (fun z9 => absurd (ef_r_6.symm.trans (er_6.trans z9)) (by decide)), fun z9 => absurd z9 (AC7 (by subst er_1 er_3; first | rfl | (simp [m_or, m_not, m_is0, m_lt0, m_fl, c_5]; done)) (by subst er_1 er_3; first | rfl | (simp [m_or, m_not, m_is0, m_lt0, m_fl, c_5]; done)) (fun z9 => absurd (ef_r_6.symm.trans (er_6.trans z9)) (by decide)))⟩
  · refine lv_iload (pc := 15) hx hb dX5_simplest_15 (lv_at hl 4 rfl) ?_
    refine lv_iconst (pc := 17) (v := 0) hx hb dX5_simplest_17 (by decide) ?_
    refine lv_iconst (pc := 18) (v := 4) hx hb dX5_simplest_18 (by decide) ?_
    refine k_i (pc := 19) (k_S E hC hS hA hl.1 (c_X5_isIn l D tk N0 sa H.size x4 0 4 ) kw_1248 kw_1249 kw_5 kw_1250 (n := 3) (by decide +kernel) rfl ⟨⟨rfl, rfl⟩, ⟨Nat.le_of_ble_eq_true rfl, Nat.le_of_ble_eq_true rfl⟩, (by dsimp only; omega), (by dsimp only; omega)⟩ rfl (Nat.le_of_ble_eq_true rfl) trivial dX5_simplest_19) hS (fun q z w => absurd w (Nat.not_le.mpr z)) hn (fun r_8 H locs hR hz hk hS => ?_)
    have er_8 := hR
    have fw := fw.new hk
    have fo := fo.kept (hk _ fo.lt (Nat.not_le.mpr fo.lt))
    have fj := fj.kept (hk _ fj.lt (Nat.not_le.mpr fj.lt))
    have fk := fk.new hk
    have fe := fe.kept (hk _ fe.lt (Nat.not_le.mpr fe.lt))
    have fr := fr.kept (hk _ fr.lt (Nat.not_le.mpr fr.lt))
    refine lv_if_ne (pc := 22) (tgt := 29) hx hb dX5_simplest_22 (by decide) (fun c_10 => ?_) (fun c_10 => ?_)
    · refine lv_iconst (pc := 29) (v := 0) hx hb dX5_simplest_29 (by decide) ?_
      have hZ0_ := hS.1
      have t_fo := fo.lt
      have t_fj := fj.lt
      have t_fk := fun k (hk9 : k < 6) => (fk k hk9).lt
      have t_fe := fe.lt
      have t_fr := fr.lt
      refine k_i (pc := 30) (k_V E hC hS hA hl.1 (c1.recv hC fo rfl) rfl (c_X5_fails l D tk N0 sa H.size P hPN (fun q h9 => hPs q (Nat.le_trans hS.1 h9)) mo n9 kn th tt bb eT eB oT oB pk ca rf vs r_1 0 ) kw_1251 kw_1253 kp_20 kw_5 kw_1254 (n := 2) (by decide +kernel) rfl ⟨⟨rfl, rfl⟩, ⟨Nat.le_of_ble_eq_true rfl, Nat.le_of_ble_eq_true rfl⟩, (by dsimp only; omega), (by dsimp only; omega)⟩ rfl (Nat.le_of_ble_eq_true rfl) ⟨_, _, _, _, _, fo, fj, fk, fe, fr, fw, ⟨hPm, hPa, hPl, hPe, hPr, hPk⟩, hFk, hFe, hFr, hpk, hn9⟩ dX5_simplest_30) hS (fun q _ h => h) hn (fun r_11 H locs hR hz hk hS => ?_)
      obtain ⟨er_11, hM⟩ := hR
      obtain ⟨ra, rl, ex, ro, rt, fo, fj, fk, fe, fr, fw, ⟨hPm, hPa, hPl, hPe, hPr, hPk⟩, hFk, hFe, hFr, hpk, hn9⟩ := hM
      have g_fo := hPm
      have g_fj := hPa
      refine lv_if_eq (pc := 33) (tgt := 40) hx hb dX5_simplest_33 (by decide) (fun c_12 => ?_) (fun c_12 => ?_)
      · refine lv_aload_n (pc := 40) hx hb dX5_simplest_40 rfl (lv_at hl 0 rfl) ?_
        refine lv_iload_n (pc := 41) hx hb dX5_simplest_41 rfl (lv_at hl 1 rfl) ?_
        refine lv_aload_n (pc := 42) hx hb dX5_simplest_42 rfl (lv_at hl 0 rfl) ?_
        refine r_get (pc := 43) E hC fo 0 (v := .ref ra) rfl rfl (by decide) uX5 (List.mem_cons_of_mem _ kw_1209) (fun _ h => h) dX5_simplest_43 ?_
        refine lv_iload_n (pc := 46) hx hb dX5_simplest_46 rfl (lv_at hl 2 rfl) ?_
        obtain ⟨hx_13, hk_13⟩ := m_noN (m_ano (er_1.symm.trans (m_fl0 (er_11.symm.trans c_12)).1)).2
        refine r_aaldJ (pc := 47) E hC fj (nn x2) hx_13 hk_13 (by decide) rfl dX5_simplest_47 ?_
        have fL14 := fk (nn x2) hk_13
        have mF_fL14 := hFk (nn x2) hk_13
        have Pq_fL14 := hPk (nn x2) hk_13
        refine lv_iload_n (pc := 48) hx hb dX5_simplest_48 rfl (lv_at hl 3 rfl) ?_
        refine lv_iload (pc := 49) hx hb dX5_simplest_49 (lv_at hl 4 rfl) ?_
        obtain ⟨kp, hkp1, hkp2⟩ := m_in (x := x3) (hi_ := 2) (by decide) (fun z9 => c_5 (er_3.trans z9))
        have hZ0_ := hS.1
        have t_fo := fo.lt
        have t_fj := fj.lt
        have t_fk := fun k (hk9 : k < 6) => (fk k hk9).lt
        have t_fe := fe.lt
        have t_fr := fr.lt
        have t_fL14 := fL14.lt
        refine k_r (pc := 51) (k_S E hC hS hA hl.1 (c_X5_simplestOf l D tk N0 sa H.size (rt (nn x2)) (tt (nn x2)) (bb (nn x2)) x3 x4 kp mF_fL14 hkp1 hkp2) kw_1751 kw_1752 kw_5 kw_1753 (n := 3) (by decide +kernel) rfl ⟨⟨rfl, rfl⟩, ⟨Nat.le_of_ble_eq_true rfl, Nat.le_of_ble_eq_true rfl⟩, (by dsimp only; omega), (by dsimp only; omega)⟩ rfl (Nat.le_of_ble_eq_true rfl) fL14 dX5_simplest_51) hS (fun q z w => absurd w (Nat.not_le.mpr z)) hn (fun r_15 H locs hR hz hk hS => ?_)
        have fw := fw.new hk
        have fo := fo.kept (hk _ fo.lt (Nat.not_le.mpr fo.lt))
        have fj := fj.kept (hk _ fj.lt (Nat.not_le.mpr fj.lt))
        have fk := fk.new hk
        have fe := fe.kept (hk _ fe.lt (Nat.not_le.mpr fe.lt))
        have fr := fr.kept (hk _ fr.lt (Nat.not_le.mpr fr.lt))
        have fL14 := fL14.kept (hk _ fL14.lt (Nat.not_le.mpr fL14.lt))
        obtain ⟨z9_, tt_f16, bb_f16, f16, hb_f16, hv_f16⟩ := hR
        have s_f16 : s.heap.size ≤ r_15 := Nat.le_trans hZ0_ z9_
        have g_f16 := hn _ s_f16
        have l_fo_f16 : mo < r_15 := Nat.lt_of_lt_of_le t_fo z9_
        have l_fj_f16 : ra < r_15 := Nat.lt_of_lt_of_le t_fj z9_
        have nW_f16 : ∀ k, k < 6 → rt k ≠ r_15 := fun k hk9 => Nat.ne_of_lt (Nat.lt_of_lt_of_le (t_fk k hk9) z9_)
        have l_fe_f16 : ex < r_15 := Nat.lt_of_lt_of_le t_fe z9_
        have l_fr_f16 : ro < r_15 := Nat.lt_of_lt_of_le t_fr z9_
        have l_fL14_f16 : rt (nn x2) < r_15 := Nat.lt_of_lt_of_le t_fL14 z9_
        have hZ0_ := hS.1
        have t_fo := fo.lt
        have t_fj := fj.lt
        have t_fk := fun k (hk9 : k < 6) => (fk k hk9).lt
        have t_fe := fe.lt
        have t_fr := fr.lt
        have t_fL14 := fL14.lt
        have t_f16 := f16.lt
        obtain ⟨hx_17, hk_17⟩ := m_noN (m_ano (er_1.symm.trans (m_fl0 (er_11.symm.trans c_12)).1)).1
        refine k_i (pc := 54) (k_V E hC hS hA hl.1 (c1.recv hC fo rfl) rfl (c_X5_become l D tk N0 sa H.size P hPN (fun q h9 => hPs q (Nat.le_trans hS.1 h9)) mo n9 kn ((m_th r_1 0)) tt bb eT eB oT oB pk ca rf vs x1 (nn x1) hx_17 hk_17 r_15 tt_f16 bb_f16 (hPs _ s_f16) hb_f16.1) kw_1255 kw_1257 kp_21 kw_5 kw_1258 (n := 2) (by decide +kernel) rfl ⟨⟨rfl, rfl⟩, ⟨Nat.le_of_ble_eq_true rfl, Nat.le_of_ble_eq_true rfl⟩, (by dsimp only; omega), (by dsimp only; omega)⟩ rfl (Nat.le_of_ble_eq_true rfl) ⟨⟨_, _, _, _, _, fo, fj, fk, fe, fr, fw, ⟨hPm, hPa, hPl, hPe, hPr, hPk⟩, hFk, hFe, hFr, hpk, hn9⟩, f16⟩ dX5_simplest_54) hS (fun q _ h => h) hn (fun r_18 H locs hR hz hk hS => ?_)
        obtain ⟨tt_19, bb_19, rf_19, hM, hBE_19⟩ := hR
        obtain ⟨ra, rl, ex, ro, rt, fo, fj, fk, fe, fr, fw, ⟨hPm, hPa, hPl, hPe, hPr, hPk⟩, hFk, hFe, hFr, hpk, hn9⟩ := hM
        have g_fo := hPm
        have g_fj := hPa
        refine r_iret (pc := 57) E hr hlk hS (by omega) (by omega) ?_ dX5_simplest_57
        exact ⟨_, _, _, _, _, ⟨_, _, _, _, _, fo, fj, fk, fe, fr, fw, ⟨hPm, hPa, hPl, hPe, hPr, hPk⟩, hFk, hFe, hFr, hpk, hn9⟩, AC.ok (by subst er_1 er_3 er_8 er_11; first | rfl | (simp [m_or, m_not, m_is0, m_lt0, m_fl, c_5, c_10, c_12]; done)) (by subst er_1 er_3 er_8 er_11; first | rfl | (simp [m_or, m_not, m_is0, m_lt0, m_fl, c_5, c_10, c_12]; done)) (er_11.symm.trans c_12) hBE_19, fun _ => ⟨_, rfl, by rw [show nn x3 = kp from by rw [hkp1]; exact nI_clamp (by omega)]; exact hv_f16⟩⟩
      · refine lv_iconst (pc := 36) (v := 0) hx hb dX5_simplest_36 (by decide) ?_
        refine lv_goto (pc := 37) (tgt := 57) hx hb dX5_simplest_37 (by decide) ?_
        refine r_iret (pc := 57) E hr hlk hS (by omega) (by omega) ?_ dX5_simplest_57
        exact ⟨_, _, _, _, none, ⟨_, _, _, _, _, fo, fj, fk, fe, fr, fw, ⟨hPm, hPa, hPl, hPe, hPr, hPk⟩, hFk, hFe, hFr, hpk, hn9⟩, AC.fail (by subst er_1 er_3 er_8 er_11; first | rfl | (simp [m_or, m_not, m_is0, m_lt0, m_fl, c_5, c_10, c_12]; done)) (by subst er_1 er_3 er_8 er_11; first | rfl | (simp [m_or, m_not, m_is0, m_lt0, m_fl, c_5, c_10, c_12]; done)) (fun z9 => c_12 (er_11.trans z9)), fun z9 => absurd z9 (AC7 (by subst er_1 er_3 er_8 er_11; first | rfl | (simp [m_or, m_not, m_is0, m_lt0, m_fl, c_5, c_10, c_12]; done)) (by subst er_1 er_3 er_8 er_11; first | rfl | (simp [m_or, m_not, m_is0, m_lt0, m_fl, c_5, c_10, c_12]; done)) (fun z9 => c_12 (er_11.trans z9)))⟩
    · refine lv_iconst (pc := 25) (v := 1) hx hb dX5_simplest_25 (by decide) ?_
      refine lv_goto (pc := 26) (tgt := 30) hx hb dX5_simplest_26 (by decide) ?_
      have hZ0_ := hS.1
      have t_fo := fo.lt
      have t_fj := fj.lt
      have t_fk := fun k (hk9 : k < 6) => (fk k hk9).lt
      have t_fe := fe.lt
      have t_fr := fr.lt
      refine k_i (pc := 30) (k_V E hC hS hA hl.1 (c1.recv hC fo rfl) rfl (c_X5_fails l D tk N0 sa H.size P hPN (fun q h9 => hPs q (Nat.le_trans hS.1 h9)) mo n9 kn th tt bb eT eB oT oB pk ca rf vs r_1 1 ) kw_1251 kw_1253 kp_20 kw_5 kw_1254 (n := 2) (by decide +kernel) rfl ⟨⟨rfl, rfl⟩, ⟨Nat.le_of_ble_eq_true rfl, Nat.le_of_ble_eq_true rfl⟩, (by dsimp only; omega), (by dsimp only; omega)⟩ rfl (Nat.le_of_ble_eq_true rfl) ⟨_, _, _, _, _, fo, fj, fk, fe, fr, fw, ⟨hPm, hPa, hPl, hPe, hPr, hPk⟩, hFk, hFe, hFr, hpk, hn9⟩ dX5_simplest_30) hS (fun q _ h => h) hn (fun r_20 H locs hR hz hk hS => ?_)
      obtain ⟨er_20, hM⟩ := hR
      obtain ⟨ra, rl, ex, ro, rt, fo, fj, fk, fe, fr, fw, ⟨hPm, hPa, hPl, hPe, hPr, hPk⟩, hFk, hFe, hFr, hpk, hn9⟩ := hM
      have g_fo := hPm
      have g_fj := hPa
      have ef_r_20 : r_20 = 1 := er_20.trans (m_fl1 _)
      rw [ef_r_20]
      refine lv_if_eq (pc := 33) (tgt := 40) hx hb dX5_simplest_33 (by decide) (fun c_21 => ?_) (fun c_21 => ?_)
      · exact absurd c_21 (by decide)
      refine lv_iconst (pc := 36) (v := 0) hx hb dX5_simplest_36 (by decide) ?_
      refine lv_goto (pc := 37) (tgt := 57) hx hb dX5_simplest_37 (by decide) ?_
      refine r_iret (pc := 57) E hr hlk hS (by omega) (by omega) ?_ dX5_simplest_57
      exact ⟨_, _, _, _, none, ⟨_, _, _, _, _, fo, fj, fk, fe, fr, fw, ⟨hPm, hPa, hPl, hPe, hPr, hPk⟩, hFk, hFe, hFr, hpk, hn9⟩, AC.fail (by subst er_1 er_3 er_8; first | rfl | (simp [m_or, m_not, m_is0, m_lt0, m_fl, c_5, c_10]; done)) (by subst er_1 er_3 er_8; first | rfl | (simp [m_or, m_not, m_is0, m_lt0, m_fl, c_5, c_10]; done)) (fun z9 => absurd (ef_r_20.symm.trans (er_20.trans z9)) (by decide)), fun z9 => absurd z9 (AC7 (by subst er_1 er_3 er_8; first | rfl | (simp [m_or, m_not, m_is0, m_lt0, m_fl, c_5, c_10]; done)) (by subst er_1 er_3 er_8; first | rfl | (simp [m_or, m_not, m_is0, m_lt0, m_fl, c_5, c_10]; done)) (fun z9 => absurd (ef_r_20.symm.trans (er_20.trans z9)) (by decide)))⟩
