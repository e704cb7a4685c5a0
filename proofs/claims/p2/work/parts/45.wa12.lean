set_option maxHeartbeats 4000000 in
set_option maxRecDepth 100000 in
/-- BestratiosModel.raise(II)I -/
theorem c_X5_raise (l : Launch) (D : va_G) (tk : Nat → ClassId) (N0 : Nat) (sa : Nat → Nat)  (sz : Nat) (P : Nat → Prop) (hPN : ∀ q, P q → N0 ≤ q) (hPs : ∀ q, sz ≤ q → P q) (mo n9 : Nat) (kn th : Int32) (tt bb : Nat → Int64) (eT eB oT oB : Int64) (pk : Nat) (ca rf : Int32) (vs : Nat → Value) (x1 : Int32) (x2 : Int32) : Met l yX5_raise (wsy yX5_raise cX5_raise 3 (some .int)) ({ frames := 5, cells := 8, slots := 16, locals := 121 } : Room) (cP D tk N0 sa [.ref mo, .int x1, .int x2] sz (fun H => MI D tk sa P mo tt bb eT eB oT oB pk ca rf vs kn n9 th H)) (kQi (fun r H => ∃ th1 tt1 bb1 rf1, MI D tk sa P mo tt1 bb1 eT eB oT oB pk ca rf1 vs kn n9 th1 H ∧ AC (m_isNo x1) (m_not (m_isIn x2 (-6) 6)) tt bb rf (nn x1) (m_RA (tt (nn x1)) (bb (nn x1)) x2) r th1 tt1 bb1 rf1) (P)) (8) (16) (P) := by
  refine mStart RX5 rfl (by decide +kernel) (Nat.le_of_ble_eq_true rfl) ?_
  intro p e s m args below meth c E hr hlk hnm hsz hC hF ls hl
  subst hsz
  obtain ⟨hx, hb, -⟩ := id E
  have hA : ∀ q, (P) q → N0 ≤ q := hPN
  have hn : ∀ q, s.heap.size ≤ q → (P) q := hPs
  have hS : va_S (P) s.heap s.heap [] := va_S.rf
  have hl : lv_has ls 3 [(0, .ref mo), (1, .int x1), (2, .int x2)] := hl
  have hM : MI D tk sa P mo tt bb eT eB oT oB pk ca rf vs kn n9 th s.heap := hF
  obtain ⟨ra, rl, ex, ro, rt, fo, fj, fk, fe, fr, fw, ⟨hPm, hPa, hPl, hPe, hPr, hPk⟩, hFk, hFe, hFr, hpk, hn9⟩ := hM
  have g_fo := hPm
  have g_fj := hPa
  refine lv_aload_n (pc := 0) hx hb dX5_raise_0 rfl (lv_at hl 0 rfl) ?_
  refine lv_iload_n (pc := 1) hx hb dX5_raise_1 rfl (lv_at hl 1 rfl) ?_
  refine k_i (pc := 2) (k_S E hC hS hA hl.1 (c_X5_isNo l D tk N0 sa s.heap.size x1 ) kw_1245 kw_1246 kw_5 kw_1247 (n := 1) (by decide +kernel) rfl ⟨⟨rfl, rfl⟩, ⟨Nat.le_of_ble_eq_true rfl, Nat.le_of_ble_eq_true rfl⟩, (by dsimp only; omega), (by dsimp only; omega)⟩ rfl (Nat.le_of_ble_eq_true rfl) trivial dX5_raise_2) hS (fun q z w => absurd w (Nat.not_le.mpr z)) hn (fun r_1 H locs hR hz hk hS => ?_)
  have er_1 := hR
  have fw := fw.new hk
  have fo := fo.kept (hk _ fo.lt (Nat.not_le.mpr fo.lt))
  have fj := fj.kept (hk _ fj.lt (Nat.not_le.mpr fj.lt))
  have fk := fk.new hk
  have fe := fe.kept (hk _ fe.lt (Nat.not_le.mpr fe.lt))
  have fr := fr.kept (hk _ fr.lt (Nat.not_le.mpr fr.lt))
  refine lv_iload_n (pc := 5) hx hb dX5_raise_5 rfl (lv_at hl 2 rfl) ?_
  refine lv_bipush (pc := 6) (v := (-6)) hx hb dX5_raise_6 (by decide) ?_
  refine lv_bipush (pc := 8) (v := 6) hx hb dX5_raise_8 (by decide) ?_
  refine k_i (pc := 10) (k_S E hC hS hA hl.1 (c_X5_isIn l D tk N0 sa H.size x2 ((-6)) 6 ) kw_1248 kw_1249 kw_5 kw_1250 (n := 3) (by decide +kernel) rfl ⟨⟨rfl, rfl⟩, ⟨Nat.le_of_ble_eq_true rfl, Nat.le_of_ble_eq_true rfl⟩, (by dsimp only; omega), (by dsimp only; omega)⟩ rfl (Nat.le_of_ble_eq_true rfl) trivial dX5_raise_10) hS (fun q z w => absurd w (Nat.not_le.mpr z)) hn (fun r_3 H locs hR hz hk hS => ?_)
  have er_3 := hR
  have fw := fw.new hk
  have fo := fo.kept (hk _ fo.lt (Nat.not_le.mpr fo.lt))
  have fj := fj.kept (hk _ fj.lt (Nat.not_le.mpr fj.lt))
  have fk := fk.new hk
  have fe := fe.kept (hk _ fe.lt (Nat.not_le.mpr fe.lt))
  have fr := fr.kept (hk _ fr.lt (Nat.not_le.mpr fr.lt))
  refine lv_if_ne (pc := 13) (tgt := 20) hx hb dX5_raise_13 (by decide) (fun c_5 => ?_) (fun c_5 => ?_)
  · refine lv_iconst (pc := 20) (v := 0) hx hb dX5_raise_20 (by decide) ?_
    have hZ0_ := hS.1
    have t_fo := fo.lt
    have t_fj := fj.lt
    have t_fk := fun k (hk9 : k < 6) => (fk k hk9).lt
    have t_fe := fe.lt
    have t_fr := fr.lt
    refine k_i (pc := 21) (k_V E hC hS hA hl.1 (c1.recv hC fo rfl) rfl (c_X5_fails l D tk N0 sa H.size P hPN (fun q h9 => hPs q (Nat.le_trans hS.1 h9)) mo n9 kn th tt bb eT eB oT oB pk ca rf vs r_1 0 ) kw_1251 kw_1253 kp_20 kw_5 kw_1254 (n := 2) (by decide +kernel) rfl ⟨⟨rfl, rfl⟩, ⟨Nat.le_of_ble_eq_true rfl, Nat.le_of_ble_eq_true rfl⟩, (by dsimp only; omega), (by dsimp only; omega)⟩ rfl (Nat.le_of_ble_eq_true rfl) ⟨_, _, _, _, _, fo, fj, fk, fe, fr, fw, ⟨hPm, hPa, hPl, hPe, hPr, hPk⟩, hFk, hFe, hFr, hpk, hn9⟩ dX5_raise_21) hS (fun q _ h => h) hn (fun r_6 H locs hR hz hk hS => ?_)
    obtain ⟨er_6, hM⟩ := hR
    obtain ⟨ra, rl, ex, ro, rt, fo, fj, fk, fe, fr, fw, ⟨hPm, hPa, hPl, hPe, hPr, hPk⟩, hFk, hFe, hFr, hpk, hn9⟩ := hM
    have g_fo := hPm
    have g_fj := hPa
    refine lv_if_eq (pc := 24) (tgt := 31) hx hb dX5_raise_24 (by decide) (fun c_7 => ?_) (fun c_7 => ?_)
    · refine lv_aload_n (pc := 31) hx hb dX5_raise_31 rfl (lv_at hl 0 rfl) ?_
      refine lv_iload_n (pc := 32) hx hb dX5_raise_32 rfl (lv_at hl 1 rfl) ?_
      refine lv_aload_n (pc := 33) hx hb dX5_raise_33 rfl (lv_at hl 0 rfl) ?_
      refine r_get (pc := 34) E hC fo 0 (v := .ref ra) rfl rfl (by decide) uX5 (List.mem_cons_of_mem _ kw_1209) (fun _ h => h) dX5_raise_34 ?_
      refine lv_iload_n (pc := 37) hx hb dX5_raise_37 rfl (lv_at hl 1 rfl) ?_
      obtain ⟨hx_8, hk_8⟩ := m_noN (er_1.symm.trans (m_fl0 (er_6.symm.trans c_7)).1)
      refine r_aaldJ (pc := 38) E hC fj (nn x1) hx_8 hk_8 (by decide) rfl dX5_raise_38 ?_
      have fL9 := fk (nn x1) hk_8
      have mF_fL9 := hFk (nn x1) hk_8
      have Pq_fL9 := hPk (nn x1) hk_8
      refine lv_iload_n (pc := 39) hx hb dX5_raise_39 rfl (lv_at hl 2 rfl) ?_
      obtain ⟨kt, hkt1, hkt2⟩ := m_abs6 (x := x2) (fun z9 => c_5 (er_3.trans z9))
      have hZ0_ := hS.1
      have t_fo := fo.lt
      have t_fj := fj.lt
      have t_fk := fun k (hk9 : k < 6) => (fk k hk9).lt
      have t_fe := fe.lt
      have t_fr := fr.lt
      have t_fL9 := fL9.lt
      refine k_o (pc := 40) (k_S E hC hS hA hl.1 (c_X5_raised l D tk N0 sa H.size (rt (nn x1)) (tt (nn x1)) (bb (nn x1)) x2 kt mF_fL9 hkt1 hkt2) kw_1330 kw_1331 kw_5 kw_1332 (n := 2) (by decide +kernel) rfl ⟨⟨rfl, rfl⟩, ⟨Nat.le_of_ble_eq_true rfl, Nat.le_of_ble_eq_true rfl⟩, (by dsimp only; omega), (by dsimp only; omega)⟩ rfl (Nat.le_of_ble_eq_true rfl) fL9 dX5_raise_40) hS (fun q z w => absurd w (Nat.not_le.mpr z)) hn (fun r_10 H locs hR hz hk hS => ?_)
      have fw := fw.new hk
      have fo := fo.kept (hk _ fo.lt (Nat.not_le.mpr fo.lt))
      have fj := fj.kept (hk _ fj.lt (Nat.not_le.mpr fj.lt))
      have fk := fk.new hk
      have fe := fe.kept (hk _ fe.lt (Nat.not_le.mpr fe.lt))
      have fr := fr.kept (hk _ fr.lt (Nat.not_le.mpr fr.lt))
      have fL9 := fL9.kept (hk _ fL9.lt (Nat.not_le.mpr fL9.lt))
      rcases hR with ⟨rfl, hv_f11⟩ | ⟨q_f11, tt_f11, bb_f11, rfl, z9_, f11, hb_f11, hv_f11⟩
      · have hZ0_ := hS.1
        have t_fo := fo.lt
        have t_fj := fj.lt
        have t_fk := fun k (hk9 : k < 6) => (fk k hk9).lt
        have t_fe := fe.lt
        have t_fr := fr.lt
        have t_fL9 := fL9.lt
        refine k_i (pc := 43) (k_V E hC hS hA hl.1 (c1.recv hC fo rfl) rfl (c_X5_become_N l D tk N0 sa H.size P hPN (fun q h9 => hPs q (Nat.le_trans hS.1 h9)) mo n9 kn ((m_th r_1 0)) tt bb eT eB oT oB pk ca rf vs x1 (nn x1) hx_8 hk_8 ) kw_1255 kw_1257 kp_21 kw_5 kw_1258 (n := 2) (by decide +kernel) rfl ⟨⟨rfl, rfl⟩, ⟨Nat.le_of_ble_eq_true rfl, Nat.le_of_ble_eq_true rfl⟩, (by dsimp only; omega), (by dsimp only; omega)⟩ rfl (Nat.le_of_ble_eq_true rfl) ⟨_, _, _, _, _, fo, fj, fk, fe, fr, fw, ⟨hPm, hPa, hPl, hPe, hPr, hPk⟩, hFk, hFe, hFr, hpk, hn9⟩ dX5_raise_43) hS (fun q _ h => h) hn (fun r_12 H locs hR hz hk hS => ?_)
        obtain ⟨tt_13, bb_13, rf_13, hM, hBE_13⟩ := hR
        obtain ⟨ra, rl, ex, ro, rt, fo, fj, fk, fe, fr, fw, ⟨hPm, hPa, hPl, hPe, hPr, hPk⟩, hFk, hFe, hFr, hpk, hn9⟩ := hM
        have g_fo := hPm
        have g_fj := hPa
        refine r_iret (pc := 46) E hr hlk hS (by omega) (by omega) ?_ dX5_raise_46
        exact ⟨_, _, _, _, ⟨_, _, _, _, _, fo, fj, fk, fe, fr, fw, ⟨hPm, hPa, hPl, hPe, hPr, hPk⟩, hFk, hFe, hFr, hpk, hn9⟩, AC.ok (by subst er_1 er_3 er_6; first | rfl | (simp [m_or, m_not, m_is0, m_lt0, m_fl, c_5, c_7]; done)) (by subst er_1 er_3 er_6; first | rfl | (simp [m_or, m_not, m_is0, m_lt0, m_fl, c_5, c_7]; done)) (er_6.symm.trans c_7) (hBE_13.cast hv_f11.symm)⟩
      · have s_f11 : s.heap.size ≤ q_f11 := Nat.le_trans hZ0_ z9_
        have g_f11 := hn _ s_f11
        have l_fo_f11 : mo < q_f11 := Nat.lt_of_lt_of_le t_fo z9_
        have l_fj_f11 : ra < q_f11 := Nat.lt_of_lt_of_le t_fj z9_
        have nW_f11 : ∀ k, k < 6 → rt k ≠ q_f11 := fun k hk9 => Nat.ne_of_lt (Nat.lt_of_lt_of_le (t_fk k hk9) z9_)
        have l_fe_f11 : ex < q_f11 := Nat.lt_of_lt_of_le t_fe z9_
        have l_fr_f11 : ro < q_f11 := Nat.lt_of_lt_of_le t_fr z9_
        have l_fL9_f11 : rt (nn x1) < q_f11 := Nat.lt_of_lt_of_le t_fL9 z9_
        have hZ0_ := hS.1
        have t_fo := fo.lt
        have t_fj := fj.lt
        have t_fk := fun k (hk9 : k < 6) => (fk k hk9).lt
        have t_fe := fe.lt
        have t_fr := fr.lt
        have t_fL9 := fL9.lt
        have t_f11 := f11.lt
        refine k_i (pc := 43) (k_V E hC hS hA hl.1 (c1.recv hC fo rfl) rfl (c_X5_become l D tk N0 sa H.size P hPN (fun q h9 => hPs q (Nat.le_trans hS.1 h9)) mo n9 kn ((m_th r_1 0)) tt bb eT eB oT oB pk ca rf vs x1 (nn x1) hx_8 hk_8 q_f11 tt_f11 bb_f11 (hPs _ s_f11) hb_f11) kw_1255 kw_1257 kp_21 kw_5 kw_1258 (n := 2) (by decide +kernel) rfl ⟨⟨rfl, rfl⟩, ⟨Nat.le_of_ble_eq_true rfl, Nat.le_of_ble_eq_true rfl⟩, (by dsimp only; omega), (by dsimp only; omega)⟩ rfl (Nat.le_of_ble_eq_true rfl) ⟨⟨_, _, _, _, _, fo, fj, fk, fe, fr, fw, ⟨hPm, hPa, hPl, hPe, hPr, hPk⟩, hFk, hFe, hFr, hpk, hn9⟩, f11⟩ dX5_raise_43) hS (fun q _ h => h) hn (fun r_14 H locs hR hz hk hS => ?_)
        obtain ⟨tt_15, bb_15, rf_15, hM, hBE_15⟩ := hR
        obtain ⟨ra, rl, ex, ro, rt, fo, fj, fk, fe, fr, fw, ⟨hPm, hPa, hPl, hPe, hPr, hPk⟩, hFk, hFe, hFr, hpk, hn9⟩ := hM
        have g_fo := hPm
        have g_fj := hPa
        refine r_iret (pc := 46) E hr hlk hS (by omega) (by omega) ?_ dX5_raise_46
        exact ⟨_, _, _, _, ⟨_, _, _, _, _, fo, fj, fk, fe, fr, fw, ⟨hPm, hPa, hPl, hPe, hPr, hPk⟩, hFk, hFe, hFr, hpk, hn9⟩, AC.ok (by subst er_1 er_3 er_6; first | rfl | (simp [m_or, m_not, m_is0, m_lt0, m_fl, c_5, c_7]; done)) (by subst er_1 er_3 er_6; first | rfl | (simp [m_or, m_not, m_is0, m_lt0, m_fl, c_5, c_7]; done)) (er_6.symm.trans c_7) (hBE_15.cast hv_f11.symm)⟩
    · refine lv_iconst (pc := 27) (v := 0) hx hb dX5_raise_27 (by decide) ?_
      refine lv_goto (pc := 28) (tgt := 46) hx hb dX5_raise_28 (by decide) ?_
      refine r_iret (pc := 46) E hr hlk hS (by omega) (by omega) ?_ dX5_raise_46
      exact ⟨_, _, _, _, ⟨_, _, _, _, _, fo, fj, fk, fe, fr, fw, ⟨hPm, hPa, hPl, hPe, hPr, hPk⟩, hFk, hFe, hFr, hpk, hn9⟩, AC.fail (by subst er_1 er_3 er_6; first | rfl | (simp [m_or, m_not, m_is0, m_lt0, m_fl, c_5, c_7]; done)) (by subst er_1 er_3 er_6; first | rfl | (simp [m_or, m_not, m_is0, m_lt0, m_fl, c_5, c_7]; done)) (fun z9 => c_7 (er_6.trans z9))⟩
  · refine lv_iconst (pc := 16) (v := 1) hx hb dX5_raise_16 (by decide) ?_
    refine lv_goto (pc := 17) (tgt := 21) hx hb dX5_raise_17 (by decide) ?_
    have hZ0_ := hS.1
    have t_fo := fo.lt
    have t_fj := fj.lt
    have t_fk := fun k (hk9 : k < 6) => (fk k hk9).lt
    have t_fe := fe.lt
    have t_fr := fr.lt
    refine k_i (pc := 21) (k_V E hC hS hA hl.1 (c1.recv hC fo rfl) rfl (c_X5_fails l D tk N0 sa H.size P hPN (fun q h9 => hPs q (Nat.le_trans hS.1 h9)) mo n9 kn th tt bb eT eB oT oB pk ca rf vs r_1 1 ) kw_1251 kw_1253 kp_20 kw_5 kw_1254 (n := 2) (by decide +kernel) rfl ⟨⟨rfl, rfl⟩, ⟨Nat.le_of_ble_eq_true rfl, Nat.le_of_ble_eq_true rfl⟩, (by dsimp only; omega), (by dsimp only; omega)⟩ rfl (Nat.le_of_ble_eq_true rfl) ⟨_, _, _, _, _, fo, fj, fk, fe, fr, fw, ⟨hPm, hPa, hPl, hPe, hPr, hPk⟩, hFk, hFe, hFr, hpk, hn9⟩ dX5_raise_21) hS (fun q _ h => h) hn (fun r_16 H locs hR hz hk hS => ?_)
    obtain ⟨er_16, hM⟩ := hR
    obtain ⟨ra, rl, ex, ro, rt, fo, fj, fk, fe, fr, fw, ⟨hPm, hPa, hPl, hPe, hPr, hPk⟩, hFk, hFe, hFr, hpk, hn9⟩ := hM
    have g_fo := hPm
    have g_fj := hPa
    have ef_r_16 : r_16 = 1 := er_16.trans (m_fl1 _)
    rw [ef_r_16]
    refine lv_if_eq (pc := 24) (tgt := 31) hx hb dX5_raise_24 (by decide) (fun c_17 => ?_) (fun c_17 => ?_)
    · exact absurd c_17 (by decide)
    refine lv_iconst (pc := 27) (v := 0) hx hb dX5_raise_27 (by decide) ?_
    refine lv_goto (pc := 28) (tgt := 46) hx hb dX5_raise_28 (by decide) ?_
    refine r_iret (pc := 46) E hr hlk hS (by omega) (by omega) ?_ dX5_raise_46
    exact ⟨_, _, _, _, ⟨_, _, _, _, _, fo, fj, fk, fe, fr, fw, ⟨hPm, hPa, hPl, hPe, hPr, hPk⟩, hFk, hFe, hFr, hpk, hn9⟩, AC.fail (by subst er_1 er_3; first | rfl | (simp [m_or, m_not, m_is0, m_lt0, m_fl, c_5]; done)) (by subst er_1 er_3; first | rfl | (simp [m_or, m_not, m_is0, m_lt0, m_fl, c_5]; done)) (fun z9 => absurd (ef_r_16.symm.trans (er_16.trans z9)) (by decide))⟩
