set_option maxHeartbeats 4000000 in
set_option maxRecDepth 100000 in
/-- BestratiosModel.invert(I)I -/
theorem c_X5_invert (l : Launch) (D : va_G) (tk : Nat → ClassId) (N0 : Nat) (sa : Nat → Nat)  (sz : Nat) (P : Nat → Prop) (hPN : ∀ q, P q → N0 ≤ q) (hPs : ∀ q, sz ≤ q → P q) (mo n9 : Nat) (kn th : Int32) (tt bb : Nat → Int64) (eT eB oT oB : Int64) (pk : Nat) (ca rf : Int32) (vs : Nat → Value) (x1 : Int32) : Met l yX5_invert (wsy yX5_invert cX5_invert 2 (some .int)) ({ frames := 4, cells := 1, slots := 2, locals := 97 } : Room) (cP D tk N0 sa [.ref mo, .int x1] sz (fun H => MI D tk sa P mo tt bb eT eB oT oB pk ca rf vs kn n9 th H)) (kQi (fun r H => ∃ th1 tt1 bb1 rf1, MI D tk sa P mo tt1 bb1 eT eB oT oB pk ca rf1 vs kn n9 th1 H ∧ AC (m_isNo x1) 0 tt bb rf (nn x1) (m_IV (tt (nn x1)) (bb (nn x1))) r th1 tt1 bb1 rf1) (P)) (1) (2) (P) := by
  refine mStart RX5 rfl (by decide +kernel) (Nat.le_of_ble_eq_true rfl) ?_
  intro p e s m args below meth c E hr hlk hnm hsz hC hF ls hl
  subst hsz
  obtain ⟨hx, hb, -⟩ := id E
  have hA : ∀ q, (P) q → N0 ≤ q := hPN
  have hn : ∀ q, s.heap.size ≤ q → (P) q := hPs
  have hS : va_S (P) s.heap s.heap [] := va_S.rf
  have hl : lv_has ls 2 [(0, .ref mo), (1, .int x1)] := hl
  have hM : MI D tk sa P mo tt bb eT eB oT oB pk ca rf vs kn n9 th s.heap := hF
  obtain ⟨ra, rl, ex, ro, rt, fo, fj, fk, fe, fr, fw, ⟨hPm, hPa, hPl, hPe, hPr, hPk⟩, hFk, hFe, hFr, hpk, hn9⟩ := hM
  have g_fo := hPm
  have g_fj := hPa
  refine lv_aload_n (pc := 0) hx hb dX5_invert_0 rfl (lv_at hl 0 rfl) ?_
  refine lv_iload_n (pc := 1) hx hb dX5_invert_1 rfl (lv_at hl 1 rfl) ?_
  refine k_i (pc := 2) (k_S E hC hS hA hl.1 (c_X5_isNo l D tk N0 sa s.heap.size x1 ) kw_1245 kw_1246 kw_5 kw_1247 (n := 1) (by decide +kernel) rfl ⟨⟨rfl, rfl⟩, ⟨Nat.le_of_ble_eq_true rfl, Nat.le_of_ble_eq_true rfl⟩, (by dsimp only; omega), (by dsimp only; omega)⟩ rfl (Nat.le_of_ble_eq_true rfl) trivial dX5_invert_2) hS (fun q z w => absurd w (Nat.not_le.mpr z)) hn (fun r_1 H locs hR hz hk hS => ?_)
  have er_1 := hR
  have fw := fw.new hk
  have fo := fo.kept (hk _ fo.lt (Nat.not_le.mpr fo.lt))
  have fj := fj.kept (hk _ fj.lt (Nat.not_le.mpr fj.lt))
  have fk := fk.new hk
  have fe := fe.kept (hk _ fe.lt (Nat.not_le.mpr fe.lt))
  have fr := fr.kept (hk _ fr.lt (Nat.not_le.mpr fr.lt))
  refine lv_iconst (pc := 5) (v := 0) hx hb dX5_invert_5 (by decide) ?_
  have hZ0_ := hS.1
  have t_fo := fo.lt
  have t_fj := fj.lt
  have t_fk := fun k (hk9 : k < 6) => (fk k hk9).lt
  have t_fe := fe.lt
  have t_fr := fr.lt
  refine k_i (pc := 6) (k_V E hC hS hA hl.1 (c1.recv hC fo rfl) rfl (c_X5_fails l D tk N0 sa H.size P hPN (fun q h9 => hPs q (Nat.le_trans hS.1 h9)) mo n9 kn th tt bb eT eB oT oB pk ca rf vs r_1 0 ) kw_1251 kw_1253 kp_20 kw_5 kw_1254 (n := 2) (by decide +kernel) rfl ⟨⟨rfl, rfl⟩, ⟨Nat.le_of_ble_eq_true rfl, Nat.le_of_ble_eq_true rfl⟩, (by dsimp only; omega), (by dsimp only; omega)⟩ rfl (Nat.le_of_ble_eq_true rfl) ⟨_, _, _, _, _, fo, fj, fk, fe, fr, fw, ⟨hPm, hPa, hPl, hPe, hPr, hPk⟩, hFk, hFe, hFr, hpk, hn9⟩ dX5_invert_6) hS (fun q _ h => h) hn (fun r_3 H locs hR hz hk hS => ?_)
  obtain ⟨er_3, hM⟩ := hR
  obtain ⟨ra, rl, ex, ro, rt, fo, fj, fk, fe, fr, fw, ⟨hPm, hPa, hPl, hPe, hPr, hPk⟩, hFk, hFe, hFr, hpk, hn9⟩ := hM
  have g_fo := hPm
  have g_fj := hPa
  refine lv_if_eq (pc := 9) (tgt := 16) hx hb dX5_invert_9 (by decide) (fun c_4 => ?_) (fun c_4 => ?_)
  · refine lv_aload_n (pc := 16) hx hb dX5_invert_16 rfl (lv_at hl 0 rfl) ?_
    refine lv_iload_n (pc := 17) hx hb dX5_invert_17 rfl (lv_at hl 1 rfl) ?_
    refine lv_aload_n (pc := 18) hx hb dX5_invert_18 rfl (lv_at hl 0 rfl) ?_
    refine r_get (pc := 19) E hC fo 0 (v := .ref ra) rfl rfl (by decide) uX5 (List.mem_cons_of_mem _ kw_1209) (fun _ h => h) dX5_invert_19 ?_
    refine lv_iload_n (pc := 22) hx hb dX5_invert_22 rfl (lv_at hl 1 rfl) ?_
    obtain ⟨hx_5, hk_5⟩ := m_noN (er_1.symm.trans (m_fl0 (er_3.symm.trans c_4)).1)
    refine r_aaldJ (pc := 23) E hC fj (nn x1) hx_5 hk_5 (by decide) rfl dX5_invert_23 ?_
    have fL6 := fk (nn x1) hk_5
    have mF_fL6 := hFk (nn x1) hk_5
    have Pq_fL6 := hPk (nn x1) hk_5
    have hZ0_ := hS.1
    have t_fo := fo.lt
    have t_fj := fj.lt
    have t_fk := fun k (hk9 : k < 6) => (fk k hk9).lt
    have t_fe := fe.lt
    have t_fr := fr.lt
    have t_fL6 := fL6.lt
    refine k_o (pc := 24) (k_S E hC hS hA hl.1 (c_X5_inverse l D tk N0 sa H.size (rt (nn x1)) (tt (nn x1)) (bb (nn x1)) (fun z9 => (m_inv mF_fL6 z9).1)) kw_1315 kw_1316 kw_5 kw_1317 (n := 1) (by decide +kernel) rfl ⟨⟨rfl, rfl⟩, ⟨Nat.le_of_ble_eq_true rfl, Nat.le_of_ble_eq_true rfl⟩, (by dsimp only; omega), (by dsimp only; omega)⟩ rfl (Nat.le_of_ble_eq_true rfl) fL6 dX5_invert_24) hS (fun q z w => absurd w (Nat.not_le.mpr z)) hn (fun r_7 H locs hR hz hk hS => ?_)
    have fw := fw.new hk
    have fo := fo.kept (hk _ fo.lt (Nat.not_le.mpr fo.lt))
    have fj := fj.kept (hk _ fj.lt (Nat.not_le.mpr fj.lt))
    have fk := fk.new hk
    have fe := fe.kept (hk _ fe.lt (Nat.not_le.mpr fe.lt))
    have fr := fr.kept (hk _ fr.lt (Nat.not_le.mpr fr.lt))
    have fL6 := fL6.kept (hk _ fL6.lt (Nat.not_le.mpr fL6.lt))
    rcases hR with ⟨rfl, hn_8⟩ | ⟨q_f8, rfl, hn_8, z9_, f8⟩
    · have hZ0_ := hS.1
      have t_fo := fo.lt
      have t_fj := fj.lt
      have t_fk := fun k (hk9 : k < 6) => (fk k hk9).lt
      have t_fe := fe.lt
      have t_fr := fr.lt
      have t_fL6 := fL6.lt
      refine k_i (pc := 27) (k_V E hC hS hA hl.1 (c1.recv hC fo rfl) rfl (c_X5_become_N l D tk N0 sa H.size P hPN (fun q h9 => hPs q (Nat.le_trans hS.1 h9)) mo n9 kn ((m_th r_1 0)) tt bb eT eB oT oB pk ca rf vs x1 (nn x1) hx_5 hk_5 ) kw_1255 kw_1257 kp_21 kw_5 kw_1258 (n := 2) (by decide +kernel) rfl ⟨⟨rfl, rfl⟩, ⟨Nat.le_of_ble_eq_true rfl, Nat.le_of_ble_eq_true rfl⟩, (by dsimp only; omega), (by dsimp only; omega)⟩ rfl (Nat.le_of_ble_eq_true rfl) ⟨_, _, _, _, _, fo, fj, fk, fe, fr, fw, ⟨hPm, hPa, hPl, hPe, hPr, hPk⟩, hFk, hFe, hFr, hpk, hn9⟩ dX5_invert_27) hS (fun q _ h => h) hn (fun r_9 H locs hR hz hk hS => ?_)
      obtain ⟨tt_10, bb_10, rf_10, hM, hBE_10⟩ := hR
      obtain ⟨ra, rl, ex, ro, rt, fo, fj, fk, fe, fr, fw, ⟨hPm, hPa, hPl, hPe, hPr, hPk⟩, hFk, hFe, hFr, hpk, hn9⟩ := hM
      have g_fo := hPm
      have g_fj := hPa
      refine r_iret (pc := 30) E hr hlk hS (by omega) (by omega) ?_ dX5_invert_30
      exact ⟨_, _, _, _, ⟨_, _, _, _, _, fo, fj, fk, fe, fr, fw, ⟨hPm, hPa, hPl, hPe, hPr, hPk⟩, hFk, hFe, hFr, hpk, hn9⟩, AC.ok (by subst er_1 er_3; first | rfl | (simp [m_or, m_not, m_is0, m_lt0, m_fl, c_4]; done)) (by subst er_1 er_3; first | rfl | (simp [m_or, m_not, m_is0, m_lt0, m_fl, c_4]; done)) (er_3.symm.trans c_4) (hBE_10.cast (by unfold m_IV; first | (rw [if_pos hn_8]; done) | (rw [if_neg hn_8]; rfl)))⟩
    · have s_f8 : s.heap.size ≤ q_f8 := Nat.le_trans hZ0_ z9_
      have g_f8 := hn _ s_f8
      have l_fo_f8 : mo < q_f8 := Nat.lt_of_lt_of_le t_fo z9_
      have l_fj_f8 : ra < q_f8 := Nat.lt_of_lt_of_le t_fj z9_
      have nW_f8 : ∀ k, k < 6 → rt k ≠ q_f8 := fun k hk9 => Nat.ne_of_lt (Nat.lt_of_lt_of_le (t_fk k hk9) z9_)
      have l_fe_f8 : ex < q_f8 := Nat.lt_of_lt_of_le t_fe z9_
      have l_fr_f8 : ro < q_f8 := Nat.lt_of_lt_of_le t_fr z9_
      have l_fL6_f8 : rt (nn x1) < q_f8 := Nat.lt_of_lt_of_le t_fL6 z9_
      have hZ0_ := hS.1
      have t_fo := fo.lt
      have t_fj := fj.lt
      have t_fk := fun k (hk9 : k < 6) => (fk k hk9).lt
      have t_fe := fe.lt
      have t_fr := fr.lt
      have t_fL6 := fL6.lt
      have t_f8 := f8.lt
      refine k_i (pc := 27) (k_V E hC hS hA hl.1 (c1.recv hC fo rfl) rfl (c_X5_become l D tk N0 sa H.size P hPN (fun q h9 => hPs q (Nat.le_trans hS.1 h9)) mo n9 kn ((m_th r_1 0)) tt bb eT eB oT oB pk ca rf vs x1 (nn x1) hx_5 hk_5 q_f8 (m_loT (bb (nn x1)) (tt (nn x1))) (m_loB (bb (nn x1)) (tt (nn x1))) (hPs _ s_f8) (m_inv mF_fL6 hn_8).2.1) kw_1255 kw_1257 kp_21 kw_5 kw_1258 (n := 2) (by decide +kernel) rfl ⟨⟨rfl, rfl⟩, ⟨Nat.le_of_ble_eq_true rfl, Nat.le_of_ble_eq_true rfl⟩, (by dsimp only; omega), (by dsimp only; omega)⟩ rfl (Nat.le_of_ble_eq_true rfl) ⟨⟨_, _, _, _, _, fo, fj, fk, fe, fr, fw, ⟨hPm, hPa, hPl, hPe, hPr, hPk⟩, hFk, hFe, hFr, hpk, hn9⟩, f8⟩ dX5_invert_27) hS (fun q _ h => h) hn (fun r_11 H locs hR hz hk hS => ?_)
      obtain ⟨tt_12, bb_12, rf_12, hM, hBE_12⟩ := hR
      obtain ⟨ra, rl, ex, ro, rt, fo, fj, fk, fe, fr, fw, ⟨hPm, hPa, hPl, hPe, hPr, hPk⟩, hFk, hFe, hFr, hpk, hn9⟩ := hM
      have g_fo := hPm
      have g_fj := hPa
      refine r_iret (pc := 30) E hr hlk hS (by omega) (by omega) ?_ dX5_invert_30
      exact ⟨_, _, _, _, ⟨_, _, _, _, _, fo, fj, fk, fe, fr, fw, ⟨hPm, hPa, hPl, hPe, hPr, hPk⟩, hFk, hFe, hFr, hpk, hn9⟩, AC.ok (by subst er_1 er_3; first | rfl | (simp [m_or, m_not, m_is0, m_lt0, m_fl, c_4]; done)) (by subst er_1 er_3; first | rfl | (simp [m_or, m_not, m_is0, m_lt0, m_fl, c_4]; done)) (er_3.symm.trans c_4) (hBE_12.cast (by unfold m_IV; first | (rw [if_pos hn_8]; done) | (rw [if_neg hn_8]; rfl)))⟩
  · refine lv_iconst (pc := 12) (v := 0) hx hb dX5_invert_12 (by decide) ?_
    refine lv_goto (pc := 13) (tgt := 30) hx hb dX5_invert_13 (by decide) ?_
    refine r_iret (pc := 30) E hr hlk hS (by omega) (by omega) ?_ dX5_invert_30
    exact ⟨_, _, _, _, ⟨_, _, _, _, _, fo, fj, fk, fe, fr, fw, ⟨hPm, hPa, hPl, hPe, hPr, hPk⟩, hFk, hFe, hFr, hpk, hn9⟩, AC.fail (by subst er_1 er_3; first | rfl | (simp [m_or, m_not, m_is0, m_lt0, m_fl, c_4]; done)) (by subst er_1 er_3; first | rfl | (simp [m_or, m_not, m_is0, m_lt0, m_fl, c_4]; done)) (fun z9 => c_4 (er_3.trans z9))⟩
set_option maxHeartbeats 4000000 in
set_option maxRecDepth 100000 in
/-- BestratiosModel.raise(II)I -/
theorem c_X5_raise (l : Launch) (D : va_G) (tk : Nat → ClassId) (N0 : Nat) (sa : Nat → Nat)  (sz : Nat) (P : Nat → Prop) (hPN : ∀ q, P q → N0 ≤ q) (hPs : ∀ q, sz ≤ q → P q) (mo n9 : Nat) (kn th : Int32) (tt bb : Nat → Int64) (eT eB oT oB : Int64) (pk : Nat) (ca rf : Int32) (vs : Nat → Value) (x1 : Int32) (x2 : Int32) : Met l yX5_raise (wsy yX5_raise cX5_raise 3 (some .int)) ({ frames := 5, cells := 8, slots := 16, locals := 121 } : Room) (cP D tk N0 sa [.ref mo, .int x1, .int x2] sz (fun H => MI D tk sa P mo tt bb eT eB oT oB pk ca rf vs kn n9 th H)) (kQi (fun r H => ∃ th1 tt1 bb1 rf1, MI D tk sa P mo tt1 bb1 eT eB oT oB pk ca rf1 vs kn n9 th1 H ∧ AC (m_isNo x1) (m_not (m_isIn x2 (-6) 6)) tt bb rf (nn x1) (m_RA (tt (nn x1)) (bb (nn x1)) x2) r th1 tt1 bb1 rf1) (P)) (8) (16) (P) := by
  refine mStart RX5 rfl (by decide +kernel) (Nat.le_of_ble_eq_true rfl) ?_
  intro p e s m args below meth c E hr hlk hnm hsz hC hF ls hl
  subst hsz
  obtain ⟨hx, hb, -⟩ := id E
  have hA : ∀ q, (P) q → N0 ≤ q := hPN
  have hn : ∀ q, s.heap.size ≤ q → (P) q := hPs
  have hS : va_S (P) s.heap s.heap [] := va_S.rf
  have hl : lv_has ls 3 [(0, .ref mo), (1, .int x1), (2, .int x2)] := hl
  have hM : MI D tk sa P mo tt bb eT eB oT oB pk ca rf vs kn n9 th s.heap := hF
  obtain ⟨ra, rl, ex, ro, rt, fo, fj, fk, fe, fr, fw, ⟨hPm, hPa, hPl, hPe, hPr, hPk⟩, hFk, hFe, hFr, hpk, hn9⟩ := hM
  have g_fo := hPm
  have g_fj := hPa
  refine lv_aload_n (pc := 0) hx hb dX5_raise_0 rfl (lv_at hl 0 rfl) ?_
  refine lv_iload_n (pc := 1) hx hb dX5_raise_1 rfl (lv_at hl 1 rfl) ?_
  refine k_i (pc := 2) (k_S E hC hS hA hl.1 (c_X5_isNo l D tk N0 sa s.heap.size x1 ) kw_1245 kw_1246 kw_5 kw_1247 (n := 1) (by decide +kernel) rfl ⟨⟨rfl, rfl⟩, ⟨Nat.le_of_ble_eq_true rfl, Nat.le_of_ble_eq_true rfl⟩, (by dsimp only; omega), (by dsimp only; omega)⟩ rfl (Nat.le_of_ble_eq_true rfl) trivial dX5_raise_2) hS (fun q z w => absurd w (Nat.not_le.mpr z)) hn (fun r_1 H locs hR hz hk hS => ?_)
  have er_1 := hR
  have fw := fw.new hk
  have fo := fo.kept (hk _ fo.lt (Nat.not_le.mpr fo.lt))
  have fj := fj.kept (hk _ fj.lt (Nat.not_le.mpr fj.lt))
  have fk := fk.new hk
  have fe := fe.kept (hk _ fe.lt (Nat.not_le.mpr fe.lt))
  have fr := fr.kept (hk _ fr.lt (Nat.not_le.mpr fr.lt))
  refine lv_iload_n (pc := 5) hx hb dX5_raise_5 rfl (lv_at hl 2 rfl) ?_
  refine lv_bipush (pc := 6) (v := (-6)) hx hb dX5_raise_6 (by decide) ?_
  refine lv_bipush (pc := 8) (v := 6) hx hb dX5_raise_8 (by decide) ?_
  refine k_i (pc := 10) (k_S E hC hS hA hl.1 (c_X5_isIn l D tk N0 sa H.size x2 ((-6)) 6 ) kw_1248 kw_1249 kw_5 kw_1250 (n := 3) (by decide +kernel) rfl ⟨⟨rfl, rfl⟩, ⟨Nat.le_of_ble_eq_true rfl, Nat.le_of_ble_eq_true rfl⟩, (by dsimp only; omega), (by dsimp only; omega)⟩ rfl (Nat.le_of_ble_eq_true rfl) trivial dX5_raise_10) hS (fun q z w => absurd w (Nat.not_le.mpr z)) hn (fun r_3 H locs hR hz hk hS => ?_)
  have er_3 := hR
  have fw := fw.new hk
  have fo := fo.kept (hk _ fo.lt (Nat.not_le.mpr fo.lt))
  have fj := fj.kept (hk _ fj.lt (Nat.not_le.mpr fj.lt))
  have fk := fk.new hk
  have fe := fe.kept (hk _ fe.lt (Nat.not_le.mpr fe.lt))
  have fr := fr.kept (hk _ fr.lt (Nat.not_le.mpr fr.lt))
  refine lv_if_ne (pc := 13) (tgt := 20) hx hb dX5_raise_13 (by decide) (fun c_5 => ?_) (fun c_5 => ?_)
  · refine lv_iconst (pc := 20) (v := 0) hx hb dX5_raise_20 (by decide) ?_
    have hZ0_ := hS.1
    have t_fo := fo.lt
    have t_fj := fj.lt
    have t_fk := fun k (hk9 : k < 6) => (fk k hk9).lt
    have t_fe := fe.lt
    have t_fr := fr.lt
    refine k_i (pc := 21) (k_V E hC hS hA hl.1 (c1.recv hC fo rfl) rfl (c_X5_fails l D tk N0 sa H.size P hPN (fun q h9 => hPs q (Nat.le_trans hS.1 h9)) mo n9 kn th tt bb eT eB oT oB pk ca rf vs r_1 0 ) kw_1251 kw_1253 kp_20 kw_5 kw_1254 (n := 2) (by decide +kernel) rfl ⟨⟨rfl, rfl⟩, ⟨Nat.le_of_ble_eq_true rfl, Nat.le_of_ble_eq_true rfl⟩, (by dsimp only; omega), (by dsimp only; omega)⟩ rfl (Nat.le_of_ble_eq_true rfl) ⟨_, _, _, _, _, fo, fj, fk, fe, fr, fw, ⟨hPm, hPa, hPl, hPe, hPr, hPk⟩, hFk, hFe, hFr, hpk, hn9⟩ dX5_raise_21) hS (fun q _ h => h) hn (fun r_6 H locs hR hz hk hS => ?_)
    obtain ⟨er_6, hM⟩ := hR
    obtain ⟨ra, rl, ex, ro, rt, fo, fj, fk, fe, fr, fw, ⟨hPm, hPa, hPl, hPe, hPr, hPk⟩, hFk, hFe, hFr, hpk, hn9⟩ := hM
    have g_fo := hPm
    have g_fj := hPa
    refine lv_if_eq (pc := 24) (tgt := 31) hx hb dX5_raise_24 (by decide) (fun c_7 => ?_) (fun c_7 => ?_)
    · refine lv_aload_n (pc := 31) hx hb dX5_raise_31 rfl (lv_at hl 0 rfl) ?_
      refine lv_iload_n (pc := 32) hx hb dX5_raise_32 rfl (lv_at hl 1 rfl) ?_
      refine lv_aload_n (pc := 33) hx hb dX5_raise_33 rfl (lv_at hl 0 rfl) ?_
      refine r_get (pc := 34) E hC fo 0 (v := .ref ra) rfl rfl (by decide) uX5 (List.mem_cons_of_mem _ kw_1209) (fun _ h => h) dX5_raise_34 ?_
      refine lv_iload_n (pc := 37) hx hb dX5_raise_37 rfl (lv_at hl 1 rfl) ?_
      obtain ⟨hx_8, hk_8⟩ := m_noN (er_1.symm.trans (m_fl0 (er_6.symm.trans c_7)).1)
      refine r_aaldJ (pc := 38) E hC fj (nn x1) hx_8 hk_8 (by decide) rfl dX5_raise_38 ?_
      have fL9 := fk (nn x1) hk_8
      have mF_fL9 := hFk (nn x1) hk_8
      have Pq_fL9 := hPk (nn x1) hk_8
      refine lv_iload_n (pc := 39) hx hb dX5_raise_39 rfl (lv_at hl 2 rfl) ?_
      obtain ⟨kt, hkt1, hkt2⟩ := m_abs6 (x := x2) (fun z9 => c_5 (er_3.trans z9))
      have hZ0_ := hS.1
      have t_fo := fo.lt
      have t_fj := fj.lt
      have t_fk := fun k (hk9 : k < 6) => (fk k hk9).lt
      have t_fe := fe.lt
      have t_fr := fr.lt
      have t_fL9 := fL9.lt
      refine k_o (pc := 40) (k_S E hC hS hA hl.1 (c_X5_raised l D tk N0 sa H.size (rt (nn x1)) (tt (nn x1)) (bb (nn x1)) x2 kt mF_fL9 hkt1 hkt2) kw_1330 kw_1331 kw_5 kw_1332 (n := 2) (by decide +kernel) rfl ⟨⟨rfl, rfl⟩, ⟨Nat.le_of_ble_eq_true rfl, Nat.le_of_ble_eq_true rfl⟩, (by dsimp only; omega), (by dsimp only; omega)⟩ rfl (Nat.le_of_ble_eq_true rfl) fL9 dX5_raise_40) hS (fun q z w => absurd w (Nat.not_le.mpr z)) hn (fun r_10 H locs hR hz hk hS => ?_)
      have fw := fw.new hk
      have fo := fo.kept (hk _ fo.lt (Nat.not_le.mpr fo.lt))
      have fj := fj.kept (hk _ fj.lt (Nat.not_le.mpr fj.lt))
      have fk := fk.new hk
      have fe := fe.kept (hk _ fe.lt (Nat.not_le.mpr fe.lt))
      have fr := fr.kept (hk _ fr.lt (Nat.not_le.mpr fr.lt))
      have fL9 := fL9.kept (hk _ fL9.lt (Nat.not_le.mpr fL9.lt))
      rcases hR with ⟨rfl, hv_f11⟩ | ⟨q_f11, tt_f11, bb_f11, rfl, z9_, f11, hb_f11, hv_f11⟩
      · have hZ0_ := hS.1
        have t_fo := fo.lt
        have t_fj := fj.lt
        have t_fk := fun k (hk9 : k < 6) => (fk k hk9).lt
        have t_fe := fe.lt
        have t_fr := fr.lt
        have t_fL9 := fL9.lt
        refine k_i (pc := 43) (k_V E hC hS hA hl.1 (c1.recv hC fo rfl) rfl (c_X5_become_N l D tk N0 sa H.size P hPN (fun q h9 => hPs q (Nat.le_trans hS.1 h9)) mo n9 kn ((m_th r_1 0)) tt bb eT eB oT oB pk ca rf vs x1 (nn x1) hx_8 hk_8 ) kw_1255 kw_1257 kp_21 kw_5 kw_1258 (n := 2) (by decide +kernel) rfl ⟨⟨rfl, rfl⟩, ⟨Nat.le_of_ble_eq_true rfl, Nat.le_of_ble_eq_true rfl⟩, (by dsimp only; omega), (by dsimp only; omega)⟩ rfl (Nat.le_of_ble_eq_true rfl) ⟨_, _, _, _, _, fo, fj, fk, fe, fr, fw, ⟨hPm, hPa, hPl, hPe, hPr, hPk⟩, hFk, hFe, hFr, hpk, hn9⟩ dX5_raise_43) hS (fun q _ h => h) hn (fun r_12 H locs hR hz hk hS => ?_)
        obtain ⟨tt_13, bb_13, rf_13, hM, hBE_13⟩ := hR
        obtain ⟨ra, rl, ex, ro, rt, fo, fj, fk, fe, fr, fw, ⟨hPm, hPa, hPl, hPe, hPr, hPk⟩, hFk, hFe, hFr, hpk, hn9⟩ := hM
        have g_fo := hPm
        have g_fj := hPa
        refine r_iret (pc := 46) E hr hlk hS (by omega) (by omega) ?_ dX5_raise_46
        exact ⟨_, _, _, _, ⟨_, _, _, _, _, fo, fj, fk, fe, fr, fw, ⟨hPm, hPa, hPl, hPe, hPr, hPk⟩, hFk, hFe, hFr, hpk, hn9⟩, AC.ok (by subst er_1 er_3 er_6; first | rfl | (simp [m_or, m_not, m_is0, m_lt0, m_fl, c_5, c_7]; done)) (by subst er_1 er_3 er_6; first | rfl | (simp [m_or, m_not, m_is0, m_lt0, m_fl, c_5, c_7]; done)) (er_6.symm.trans c_7) (hBE_13.cast hv_f11.symm)⟩
      · have s_f11 : s.heap.size ≤ q_f11 := Nat.le_trans hZ0_ z9_
        have g_f11 := hn _ s_f11
        have l_fo_f11 : mo < q_f11 := Nat.lt_of_lt_of_le t_fo z9_
        have l_fj_f11 : ra < q_f11 := Nat.lt_of_lt_of_le t_fj z9_
        have nW_f11 : ∀ k, k < 6 → rt k ≠ q_f11 := fun k hk9 => Nat.ne_of_lt (Nat.lt_of_lt_of_le (t_fk k hk9) z9_)
        have l_fe_f11 : ex < q_f11 := Nat.lt_of_lt_of_le t_fe z9_
        have l_fr_f11 : ro < q_f11 := Nat.lt_of_lt_of_le t_fr z9_
        have l_fL9_f11 : rt (nn x1) < q_f11 := Nat.lt_of_lt_of_le t_fL9 z9_
        have hZ0_ := hS.1
        have t_fo := fo.lt
        have t_fj := fj.lt
        have t_fk := fun k (hk9 : k < 6) => (fk k hk9).lt
        have t_fe := fe.lt
        have t_fr := fr.lt
        have t_fL9 := fL9.lt
        have t_f11 := f11.lt
        refine k_i (pc := 43) (k_V E hC hS hA hl.1 (c1.recv hC fo rfl) rfl (c_X5_become l D tk N0 sa H.size P hPN (fun q h9 => hPs q (Nat.le_trans hS.1 h9)) mo n9 kn ((m_th r_1 0)) tt bb eT eB oT oB pk ca rf vs x1 (nn x1) hx_8 hk_8 q_f11 tt_f11 bb_f11 (hPs _ s_f11) hb_f11) kw_1255 kw_1257 kp_21 kw_5 kw_1258 (n := 2) (by decide +kernel) rfl ⟨⟨rfl, rfl⟩, ⟨Nat.le_of_ble_eq_true rfl, Nat.le_of_ble_eq_true rfl⟩, (by dsimp only; omega), (by dsimp only; omega)⟩ rfl (Nat.le_of_ble_eq_true rfl) ⟨⟨_, _, _, _, _, fo, fj, fk, fe, fr, fw, ⟨hPm, hPa, hPl, hPe, hPr, hPk⟩, hFk, hFe, hFr, hpk, hn9⟩, f11⟩ dX5_raise_43) hS (fun q _ h => h) hn (fun r_14 H locs hR hz hk hS => ?_)
        obtain ⟨tt_15, bb_15, rf_15, hM, hBE_15⟩ := hR
        obtain ⟨ra, rl, ex, ro, rt, fo, fj, fk, fe, fr, fw, ⟨hPm, hPa, hPl, hPe, hPr, hPk⟩, hFk, hFe, hFr, hpk, hn9⟩ := hM
        have g_fo := hPm
        have g_fj := hPa
        refine r_iret (pc := 46) E hr hlk hS (by omega) (by omega) ?_ dX5_raise_46
        exact ⟨_, _, _, _, ⟨_, _, _, _, _, fo, fj, fk, fe, fr, fw, ⟨hPm, hPa, hPl, hPe, hPr, hPk⟩, hFk, hFe, hFr, hpk, hn9⟩, AC.ok (by subst er_1 er_3 er_6; first | rfl | (simp [m_or, m_not, m_is0, m_lt0, m_fl, c_5, c_7]; done)) (by subst er_1 er_3 er_6; first | rfl | (simp [m_or, m_not, m_is0, m_lt0, m_fl, c_5, c_7]; done)) (er_6.symm.trans c_7) (hBE_15.cast hv_f11.symm)⟩
    · refine lv_iconst (pc := 27) (v := 0) hx hb dX5_raise_27 (by decide) ?_
      refine lv_goto (pc := 28) (tgt := 46) hx hb dX5_raise_28 (by decide) ?_
      refine r_iret (pc := 46) E hr hlk hS (by omega) (by omega) ?_ dX5_raise_46
      exact ⟨_, _, _, _, ⟨_, _, _, _, _, fo, fj, fk, fe, fr, fw, ⟨hPm, hPa, hPl, hPe, hPr, hPk⟩, hFk, hFe, hFr, hpk, hn9⟩, AC.fail (by subst er_1 er_3 er_6; first | rfl | (simp [m_or, m_not, m_is0, m_lt0, m_fl, c_5, c_7]; done)) (by subst er_1 er_3 er_6; first | rfl | (simp [m_or, m_not, m_is0, m_lt0, m_fl, c_5, c_7]; done)) (fun z9 => c_7 (er_6.trans z9))⟩
  · refine lv_iconst (pc := 16) (v := 1) hx hb dX5_raise_16 (by decide) ?_
    refine lv_goto (pc := 17) (tgt := 21) hx hb dX5_raise_17 (by decide) ?_
    have hZ0_ := hS.1
    have t_fo := fo.lt
    have t_fj := fj.lt
    have t_fk := fun k (hk9 : k < 6) => (fk k hk9).lt
    have t_fe := fe.lt
    have t_fr := fr.lt
    refine k_i (pc := 21) (k_V E hC hS hA hl.1 (c1.recv hC fo rfl) rfl (c_X5_fails l D tk N0 sa H.size P hPN (fun q h9 => hPs q (Nat.le_trans hS.1 h9)) mo n9 kn th tt bb eT eB oT oB pk ca rf vs r_1 1 ) kw_1251 kw_1253 kp_20 kw_5 kw_1254 (n := 2) (by decide +kernel) rfl ⟨⟨rfl, rfl⟩, ⟨Nat.le_of_ble_eq_true rfl, Nat.le_of_ble_eq_true rfl⟩, (by dsimp only; omega), (by dsimp only; omega)⟩ rfl (Nat.le_of_ble_eq_true rfl) ⟨_, _, _, _, _, fo, fj, fk, fe, fr, fw, ⟨hPm, hPa, hPl, hPe, hPr, hPk⟩, hFk, hFe, hFr, hpk, hn9⟩ dX5_raise_21) hS (fun q _ h => h) hn (fun r_16 H locs hR hz hk hS => ?_)
    obtain ⟨er_16, hM⟩ := hR
    obtain ⟨ra, rl, ex, ro, rt, fo, fj, fk, fe, fr, fw, ⟨hPm, hPa, hPl, hPe, hPr, hPk⟩, hFk, hFe, hFr, hpk, hn9⟩ := hM
    have g_fo := hPm
    have g_fj := hPa
    have ef_r_16 : r_16 = 1 := er_16.trans (m_fl1 _)
    rw [ef_r_16]
    refine lv_if_eq (pc := 24) (tgt := 31) hx hb dX5_raise_24 (by decide) (fun c_17 => ?_) (fun c_17 => ?_)
    · exact absurd c_17 (by decide)
    refine lv_iconst (pc := 27) (v := 0) hx hb dX5_raise_27 (by decide) ?_
    refine lv_goto (pc := 28) (tgt := 46) hx hb dX5_raise_28 (by decide) ?_
    refine r_iret (pc := 46) E hr hlk hS (by omega) (by omega) ?_ dX5_raise_46
    exact ⟨_, _, _, _, ⟨_, _, _, _, _, fo, fj, fk, fe, fr, fw, ⟨hPm, hPa, hPl, hPe, hPr, hPk⟩, hFk, hFe, hFr, hpk, hn9⟩, AC.fail (by subst er_1 er_3; first | rfl | (simp [m_or, m_not, m_is0, m_lt0, m_fl, c_5]; done)) (by subst er_1 er_3; first | rfl | (simp [m_or, m_not, m_is0, m_lt0, m_fl, c_5]; done)) (fun z9 => absurd (ef_r_16.symm.trans (er_16.trans z9)) (by decide))⟩
set_option maxHeartbeats 4000000 in
set_option maxRecDepth 100000 in
/-- BestratiosModel.text(I)Ljava/lang/String; -/
theorem c_X5_text_ (l : Launch) (D : va_G) (tk : Nat → ClassId) (N0 : Nat) (sa : Nat → Nat)  (sz : Nat) (P : Nat → Prop) (hPN : ∀ q, P q → N0 ≤ q) (hPs : ∀ q, sz ≤ q → P q) (mo n9 : Nat) (kn th : Int32) (tt bb : Nat → Int64) (eT eB oT oB : Int64) (pk : Nat) (ca rf : Int32) (vs : Nat → Value) (x1 : Int32) : Met l yX5_text_ (wsy yX5_text_ cX5_text_ 2 (some (.object "java/lang/String"))) ({ frames := 7, cells := 7, slots := 210, locals := 157 } : Room) (cP D tk N0 sa [.ref mo, .int x1] sz (fun H => MI D tk sa P mo tt bb eT eB oT oB pk ca rf vs kn n9 th H)) (kQr (fun r H => ∃ th1, MI D tk sa P mo tt bb eT eB oT oB pk ca rf vs kn n9 th1 H) (P)) (7) (210) (P) := by
  refine mStart RX5 rfl (by decide +kernel) (Nat.le_of_ble_eq_true rfl) ?_
  intro p e s m args below meth c E hr hlk hnm hsz hC hF ls hl
  subst hsz
  obtain ⟨hx, hb, -⟩ := id E
  have hA : ∀ q, (P) q → N0 ≤ q := hPN
  have hn : ∀ q, s.heap.size ≤ q → (P) q := hPs
  have hS : va_S (P) s.heap s.heap [] := va_S.rf
  have hl : lv_has ls 2 [(0, .ref mo), (1, .int x1)] := hl
  have hM : MI D tk sa P mo tt bb eT eB oT oB pk ca rf vs kn n9 th s.heap := hF
  obtain ⟨ra, rl, ex, ro, rt, fo, fj, fk, fe, fr, fw, ⟨hPm, hPa, hPl, hPe, hPr, hPk⟩, hFk, hFe, hFr, hpk, hn9⟩ := hM
  have g_fo := hPm
  have g_fj := hPa
  refine lv_aload_n (pc := 0) hx hb dX5_text__0 rfl (lv_at hl 0 rfl) ?_
  refine lv_iload_n (pc := 1) hx hb dX5_text__1 rfl (lv_at hl 1 rfl) ?_
  refine k_i (pc := 2) (k_S E hC hS hA hl.1 (c_X5_isNo l D tk N0 sa s.heap.size x1 ) kw_1245 kw_1246 kw_5 kw_1247 (n := 1) (by decide +kernel) rfl ⟨⟨rfl, rfl⟩, ⟨Nat.le_of_ble_eq_true rfl, Nat.le_of_ble_eq_true rfl⟩, (by dsimp only; omega), (by dsimp only; omega)⟩ rfl (Nat.le_of_ble_eq_true rfl) trivial dX5_text__2) hS (fun q z w => absurd w (Nat.not_le.mpr z)) hn (fun r_1 H locs hR hz hk hS => ?_)
  have er_1 := hR
  have fw := fw.new hk
  have fo := fo.kept (hk _ fo.lt (Nat.not_le.mpr fo.lt))
  have fj := fj.kept (hk _ fj.lt (Nat.not_le.mpr fj.lt))
  have fk := fk.new hk
  have fe := fe.kept (hk _ fe.lt (Nat.not_le.mpr fe.lt))
  have fr := fr.kept (hk _ fr.lt (Nat.not_le.mpr fr.lt))
  refine lv_iconst (pc := 5) (v := 0) hx hb dX5_text__5 (by decide) ?_
  have hZ0_ := hS.1
  have t_fo := fo.lt
  have t_fj := fj.lt
  have t_fk := fun k (hk9 : k < 6) => (fk k hk9).lt
  have t_fe := fe.lt
  have t_fr := fr.lt
  refine k_i (pc := 6) (k_V E hC hS hA hl.1 (c1.recv hC fo rfl) rfl (c_X5_fails l D tk N0 sa H.size P hPN (fun q h9 => hPs q (Nat.le_trans hS.1 h9)) mo n9 kn th tt bb eT eB oT oB pk ca rf vs r_1 0 ) kw_1251 kw_1253 kp_20 kw_5 kw_1254 (n := 2) (by decide +kernel) rfl ⟨⟨rfl, rfl⟩, ⟨Nat.le_of_ble_eq_true rfl, Nat.le_of_ble_eq_true rfl⟩, (by dsimp only; omega), (by dsimp only; omega)⟩ rfl (Nat.le_of_ble_eq_true rfl) ⟨_, _, _, _, _, fo, fj, fk, fe, fr, fw, ⟨hPm, hPa, hPl, hPe, hPr, hPk⟩, hFk, hFe, hFr, hpk, hn9⟩ dX5_text__6) hS (fun q _ h => h) hn (fun r_3 H locs hR hz hk hS => ?_)
  obtain ⟨er_3, hM⟩ := hR
  obtain ⟨ra, rl, ex, ro, rt, fo, fj, fk, fe, fr, fw, ⟨hPm, hPa, hPl, hPe, hPr, hPk⟩, hFk, hFe, hFr, hpk, hn9⟩ := hM
  have g_fo := hPm
  have g_fj := hPa
  refine lv_if_eq (pc := 9) (tgt := 17) hx hb dX5_text__9 (by decide) (fun c_4 => ?_) (fun c_4 => ?_)
  · refine lv_aload_n (pc := 17) hx hb dX5_text__17 rfl (lv_at hl 0 rfl) ?_
    refine r_get (pc := 18) E hC fo 0 (v := .ref ra) rfl rfl (by decide) uX5 (List.mem_cons_of_mem _ kw_1209) (fun _ h => h) dX5_text__18 ?_
    refine lv_iload_n (pc := 21) hx hb dX5_text__21 rfl (lv_at hl 1 rfl) ?_
    obtain ⟨hx_5, hk_5⟩ := m_noN (er_1.symm.trans (m_fl0 (er_3.symm.trans c_4)).1)
    refine r_aaldJ (pc := 22) E hC fj (nn x1) hx_5 hk_5 (by decide) rfl dX5_text__22 ?_
    have fL6 := fk (nn x1) hk_5
    have mF_fL6 := hFk (nn x1) hk_5
    have Pq_fL6 := hPk (nn x1) hk_5
    have hZ0_ := hS.1
    have t_fo := fo.lt
    have t_fj := fj.lt
    have t_fk := fun k (hk9 : k < 6) => (fk k hk9).lt
    have t_fe := fe.lt
    have t_fr := fr.lt
    have t_fL6 := fL6.lt
    refine k_r (pc := 23) (k_S E hC hS hA hl.1 (c_X5_text l D tk N0 sa H.size (rt (nn x1)) (tt (nn x1)) (bb (nn x1))) kw_1348 kw_1349 kw_5 kw_1350 (n := 1) (by decide +kernel) rfl ⟨⟨rfl, rfl⟩, ⟨Nat.le_of_ble_eq_true rfl, Nat.le_of_ble_eq_true rfl⟩, (by dsimp only; omega), (by dsimp only; omega)⟩ rfl (Nat.le_of_ble_eq_true rfl) fL6 dX5_text__23) hS (fun q z w => absurd w (Nat.not_le.mpr z)) hn (fun r_7 H locs hR hz hk hS => ?_)
    have fw := fw.new hk
    have fo := fo.kept (hk _ fo.lt (Nat.not_le.mpr fo.lt))
    have fj := fj.kept (hk _ fj.lt (Nat.not_le.mpr fj.lt))
    have fk := fk.new hk
    have fe := fe.kept (hk _ fe.lt (Nat.not_le.mpr fe.lt))
    have fr := fr.kept (hk _ fr.lt (Nat.not_le.mpr fr.lt))
    have fL6 := fL6.kept (hk _ fL6.lt (Nat.not_le.mpr fL6.lt))
    obtain ⟨n_f8, hn_f8, z9_, f8⟩ := hR
    refine r_aret (pc := 26) E hr (Or.inl ⟨_, rfl⟩) hlk hS (by omega) (by omega) ?_ dX5_text__26
    exact ⟨_, ⟨_, _, _, _, _, fo, fj, fk, fe, fr, fw, ⟨hPm, hPa, hPl, hPe, hPr, hPk⟩, hFk, hFe, hFr, hpk, hn9⟩⟩
  · refine va_ldcS (pc := 12) hx hb E.2.2.2.1 (hC.2.2.2.2.1 6 _ rfl).1 dX5_text__12 ?_
    have k9 : SX D tk (sa (10 + 6)) 0 H := hC.str hS hA 6 _ rfl (by decide)
    refine lv_goto (pc := 14) (tgt := 26) hx hb dX5_text__14 (by decide) ?_
    refine r_aret (pc := 26) E hr (Or.inl ⟨_, rfl⟩) hlk hS (by omega) (by omega) ?_ dX5_text__26
    exact ⟨_, ⟨_, _, _, _, _, fo, fj, fk, fe, fr, fw, ⟨hPm, hPa, hPl, hPe, hPr, hPk⟩, hFk, hFe, hFr, hpk, hn9⟩⟩
set_option maxHeartbeats 4000000 in
set_option maxRecDepth 100000 in
/-- BestratiosModel.partNow(II)I -/
theorem c_X5_partNow (l : Launch) (D : va_G) (tk : Nat → ClassId) (N0 : Nat) (sa : Nat → Nat)  (sz : Nat) (P : Nat → Prop) (hPN : ∀ q, P q → N0 ≤ q) (mo n9 : Nat) (kn th : Int32) (tt bb : Nat → Int64) (eT eB oT oB : Int64) (pk : Nat) (ca rf : Int32) (vs : Nat → Value) (x : Int32) (k_x : Nat) (hx_x : x = nI k_x) (hk_x : k_x < 6) (w_ : Int32) (kw : Nat) (hw1 : w_ = nI kw) (hw2 : kw ≤ 3) : Met l yX5_partNow (wsy yX5_partNow cX5_partNow 5 (some .int)) ({ frames := 1, cells := 1, slots := 4, locals := 25 } : Room) (cP D tk N0 sa [.ref mo, .int x, .int w_] sz (fun H => MI D tk sa P mo tt bb eT eB oT oB pk ca rf vs kn n9 th H)) (kQi (fun r H => r = (m_pt (tt k_x) (bb k_x) kw).toInt32) (nwA sz)) (1) (4) (nwA sz) := by
  refine mStart RX5 rfl (by decide +kernel) (Nat.le_of_ble_eq_true rfl) ?_
  intro p e s m args below meth c E hr hlk hnm hsz hC hF ls hl
  subst hsz
  obtain ⟨hx, hb, -⟩ := id E
  have hA : ∀ q, (nwA s.heap.size) q → N0 ≤ q := fun q h => Nat.le_trans hC.2.1 h
  have hn : ∀ q, s.heap.size ≤ q → (nwA s.heap.size) q := fun q h => h
  have hS : va_S (nwA s.heap.size) s.heap s.heap [] := va_S.rf
  have hl : lv_has ls 5 [(0, .ref mo), (1, .int x), (2, .int w_)] := hl
  have hM : MI D tk sa P mo tt bb eT eB oT oB pk ca rf vs kn n9 th s.heap := hF
  obtain ⟨ra, rl, ex, ro, rt, fo, fj, fk, fe, fr, fw, ⟨hPm, hPa, hPl, hPe, hPr, hPk⟩, hFk, hFe, hFr, hpk, hn9⟩ := hM
  refine lv_aload_n (pc := 0) hx hb dX5_partNow_0 rfl (lv_at hl 0 rfl) ?_
  refine r_get (pc := 1) E hC fo 0 (v := .ref ra) rfl rfl (by decide) uX5 (List.mem_cons_of_mem _ kw_1209) (fun _ h => h) dX5_partNow_1 ?_
  refine lv_iload_n (pc := 4) hx hb dX5_partNow_4 rfl (lv_at hl 1 rfl) ?_
  refine r_aaldJ (pc := 5) E hC fj k_x hx_x hk_x (by decide) rfl dX5_partNow_5 ?_
  have fL1 := fk k_x hk_x
  have mF_fL1 := hFk k_x hk_x
  have Pq_fL1 := hPk k_x hk_x
  refine lv_astore_n (pc := 6) (lv' := [(3, .ref (rt k_x)), (0, .ref mo), (1, .int x), (2, .int w_)]) hx hb dX5_partNow_6 rfl hl (by decide) rfl (fun ls hl => ?_)
  refine lv_iconst (pc := 7) (v := 4) hx hb dX5_partNow_7 (by decide) ?_
  have hS0_ := hS
  refine r_newl (pc := 8) E hC hS (N := 4) (by decide) (by decide) (by decide) (by dsimp only; omega) (by dsimp only; omega) dX5_partNow_8 (fun qf2 H zq_ n_ ho_ hS => ?_)
  have fw := fw.old ho_
  have l_fo_f2 : mo < qf2 := zq_ ▸ fo.lt
  have fo := fo.kept (ho_ _ fo.lt)
  have l_fj_f2 : ra < qf2 := zq_ ▸ fj.lt
  have fj := fj.kept (ho_ _ fj.lt)
  have nW_f2 : ∀ k, k < 6 → rt k ≠ qf2 := fun k hk9 => Nat.ne_of_lt (zq_ ▸ (fk k hk9).lt)
  have fk := fk.kept (fun k hk9 => ho_ _ (fk k hk9).lt)
  have l_fe_f2 : ex < qf2 := zq_ ▸ fe.lt
  have fe := fe.kept (ho_ _ fe.lt)
  have l_fr_f2 : ro < qf2 := zq_ ▸ fr.lt
  have fr := fr.kept (ho_ _ fr.lt)
  have l_fL1_f2 : rt k_x < qf2 := zq_ ▸ fL1.lt
  have fL1 := fL1.kept (ho_ _ fL1.lt)
  have f2 := n_
  have s_f2 : s.heap.size ≤ qf2 := zq_ ▸ hS0_.1
  have g_f2 := hn _ s_f2
  refine lv_dup (pc := 10) hx hb dX5_partNow_10 rfl ?_
  refine lv_iconst (pc := 11) (v := 0) hx hb dX5_partNow_11 (by decide) ?_
  refine lv_aload_n (pc := 12) hx hb dX5_partNow_12 rfl (lv_at hl 0 rfl) ?_
  refine lv_iconst (pc := 13) (v := 0) hx hb dX5_partNow_13 (by decide) ?_
  refine r_l0 (pc := 14) E hC fL1 dX5_partNow_14 ?_
  refine r_last (pc := 15) E hC f2 hS g_f2 (by unfold vp_in; decide) dX5_partNow_15 (fun H locs n_ ho hz hS => ?_)
  have fw := fw.put ho (fun q9 h9 => clA.ne h9 f2.cla (hC.oa 7 0 rfl rfl)) (fun q9 h9 => clA.ne h9 f2.cla (hC.aa 4 0 rfl rfl (by dsimp only; decide))) (fun q9 h9 => clA.ne h9 f2.cla (hC.cea (Or.inr rfl) 0 rfl))
  have fo := fo.kept (ho _ (clA.ne fo.cl f2.cla (hC.oa 13 0 rfl rfl)))
  have fj := fj.kept (ho _ (clA.ne fj.cla f2.cla (hC.aa 3 0 rfl rfl (by dsimp only; decide))))
  have fk := fk.kept (fun k hk9 => ho _ (nW_f2 k hk9))
  have fe := fe.kept (ho _ (Nat.ne_of_lt l_fe_f2))
  have fr := fr.kept (ho _ (Nat.ne_of_lt l_fr_f2))
  have fL1 := fL1.kept (ho _ (Nat.ne_of_lt l_fL1_f2))
  have f2 : c1 D qf2 (.inl (tk 0, 4, .inr (.inl (vp_updL (fun _ => 0) 0 (tt k_x))))) H := n_
  refine lv_dup (pc := 16) hx hb dX5_partNow_16 rfl ?_
  refine lv_iconst (pc := 17) (v := 1) hx hb dX5_partNow_17 (by decide) ?_
  refine lv_aload_n (pc := 18) hx hb dX5_partNow_18 rfl (lv_at hl 0 rfl) ?_
  refine lv_iconst (pc := 19) (v := 1) hx hb dX5_partNow_19 (by decide) ?_
  refine r_l1 (pc := 20) E hC fL1 dX5_partNow_20 ?_
  refine r_last (pc := 21) E hC f2 hS g_f2 (by unfold vp_in; decide) dX5_partNow_21 (fun H locs n_ ho hz hS => ?_)
  have fw := fw.put ho (fun q9 h9 => clA.ne h9 f2.cla (hC.oa 7 0 rfl rfl)) (fun q9 h9 => clA.ne h9 f2.cla (hC.aa 4 0 rfl rfl (by dsimp only; decide))) (fun q9 h9 => clA.ne h9 f2.cla (hC.cea (Or.inr rfl) 0 rfl))
  have fo := fo.kept (ho _ (clA.ne fo.cl f2.cla (hC.oa 13 0 rfl rfl)))
  have fj := fj.kept (ho _ (clA.ne fj.cla f2.cla (hC.aa 3 0 rfl rfl (by dsimp only; decide))))
  have fk := fk.kept (fun k hk9 => ho _ (nW_f2 k hk9))
  have fe := fe.kept (ho _ (Nat.ne_of_lt l_fe_f2))
  have fr := fr.kept (ho _ (Nat.ne_of_lt l_fr_f2))
  have fL1 := fL1.kept (ho _ (Nat.ne_of_lt l_fL1_f2))
  have f2 : c1 D qf2 (.inl (tk 0, 4, .inr (.inl (vp_updL (vp_updL (fun _ => 0) 0 (tt k_x)) 1 (bb k_x))))) H := n_
  refine lv_dup (pc := 22) hx hb dX5_partNow_22 rfl ?_
  refine lv_iconst (pc := 23) (v := 2) hx hb dX5_partNow_23 (by decide) ?_
  refine lv_aload_n (pc := 24) hx hb dX5_partNow_24 rfl (lv_at hl 0 rfl) ?_
  refine lv_iconst (pc := 25) (v := 0) hx hb dX5_partNow_25 (by decide) ?_
  refine r_l0 (pc := 26) E hC fL1 dX5_partNow_26 ?_
  refine lv_lconst (pc := 27) (v := 0) hx hb dX5_partNow_27 (by decide) ?_
  refine k_i (pc := 28) (k_S E hC hS hA hl.1 (c_J13_compare_74951 l D tk N0 sa H.size (tt k_x) 0 ) kw_1391 kw_599 kw_17 kw_600 (n := 2) (by decide +kernel) rfl ⟨⟨rfl, rfl⟩, ⟨Nat.le_of_ble_eq_true rfl, Nat.le_of_ble_eq_true rfl⟩, (by dsimp only; omega), (by dsimp only; omega)⟩ rfl (Nat.le_of_ble_eq_true rfl) trivial dX5_partNow_28) hS (fun q z w => absurd w (Nat.not_le.mpr z)) hn (fun r_3 H locs hR hz hk hS => ?_)
  have er_3 := hR
  have fw := fw.new hk
  have fo := fo.kept (hk _ fo.lt (Nat.not_le.mpr fo.lt))
  have fj := fj.kept (hk _ fj.lt (Nat.not_le.mpr fj.lt))
  have fk := fk.new hk
  have fe := fe.kept (hk _ fe.lt (Nat.not_le.mpr fe.lt))
  have fr := fr.kept (hk _ fr.lt (Nat.not_le.mpr fr.lt))
  have fL1 := fL1.kept (hk _ fL1.lt (Nat.not_le.mpr fL1.lt))
  have f2 := f2.kept (hk _ f2.lt (Nat.not_le.mpr f2.lt))
  refine lv_i2l (pc := 31) (v := r_3.toInt64) hx hb dX5_partNow_31 rfl ?_
  refine r_last (pc := 32) E hC f2 hS g_f2 (by unfold vp_in; decide) dX5_partNow_32 (fun H locs n_ ho hz hS => ?_)
  have fw := fw.put ho (fun q9 h9 => clA.ne h9 f2.cla (hC.oa 7 0 rfl rfl)) (fun q9 h9 => clA.ne h9 f2.cla (hC.aa 4 0 rfl rfl (by dsimp only; decide))) (fun q9 h9 => clA.ne h9 f2.cla (hC.cea (Or.inr rfl) 0 rfl))
  have fo := fo.kept (ho _ (clA.ne fo.cl f2.cla (hC.oa 13 0 rfl rfl)))
  have fj := fj.kept (ho _ (clA.ne fj.cla f2.cla (hC.aa 3 0 rfl rfl (by dsimp only; decide))))
  have fk := fk.kept (fun k hk9 => ho _ (nW_f2 k hk9))
  have fe := fe.kept (ho _ (Nat.ne_of_lt l_fe_f2))
  have fr := fr.kept (ho _ (Nat.ne_of_lt l_fr_f2))
  have fL1 := fL1.kept (ho _ (Nat.ne_of_lt l_fL1_f2))
  have f2 : c1 D qf2 (.inl (tk 0, 4, .inr (.inl (vp_updL (vp_updL (vp_updL (fun _ => 0) 0 (tt k_x)) 1 (bb k_x)) 2 (r_3.toInt64))))) H := n_
  refine lv_dup (pc := 33) hx hb dX5_partNow_33 rfl ?_
  refine lv_iconst (pc := 34) (v := 3) hx hb dX5_partNow_34 (by decide) ?_
  refine lv_aload_n (pc := 35) hx hb dX5_partNow_35 rfl (lv_at hl 0 rfl) ?_
  refine lv_iconst (pc := 36) (v := 0) hx hb dX5_partNow_36 (by decide) ?_
  refine r_l0 (pc := 37) E hC fL1 dX5_partNow_37 ?_
  refine lv_aload_n (pc := 38) hx hb dX5_partNow_38 rfl (lv_at hl 0 rfl) ?_
  refine lv_iconst (pc := 39) (v := 1) hx hb dX5_partNow_39 (by decide) ?_
  refine r_l1 (pc := 40) E hC fL1 dX5_partNow_40 ?_
  refine k_l (pc := 41) (k_S E hC hS hA hl.1 (c_X5_floor l D tk N0 sa H.size (tt k_x) (bb k_x) (m_ne0 mF_fL1.2.1)) kw_1392 kw_1393 kw_5 kw_1394 (n := 2) (by decide +kernel) rfl ⟨⟨rfl, rfl⟩, ⟨Nat.le_of_ble_eq_true rfl, Nat.le_of_ble_eq_true rfl⟩, (by dsimp only; omega), (by dsimp only; omega)⟩ rfl (Nat.le_of_ble_eq_true rfl) trivial dX5_partNow_41) hS (fun q z w => absurd w (Nat.not_le.mpr z)) hn (fun r_5 H locs hR hz hk hS => ?_)
  have er_5 := hR
  have fw := fw.new hk
  have fo := fo.kept (hk _ fo.lt (Nat.not_le.mpr fo.lt))
  have fj := fj.kept (hk _ fj.lt (Nat.not_le.mpr fj.lt))
  have fk := fk.new hk
  have fe := fe.kept (hk _ fe.lt (Nat.not_le.mpr fe.lt))
  have fr := fr.kept (hk _ fr.lt (Nat.not_le.mpr fr.lt))
  have fL1 := fL1.kept (hk _ fL1.lt (Nat.not_le.mpr fL1.lt))
  have f2 := f2.kept (hk _ f2.lt (Nat.not_le.mpr f2.lt))
  refine r_last (pc := 44) E hC f2 hS g_f2 (by unfold vp_in; decide) dX5_partNow_44 (fun H locs n_ ho hz hS => ?_)
  have fw := fw.put ho (fun q9 h9 => clA.ne h9 f2.cla (hC.oa 7 0 rfl rfl)) (fun q9 h9 => clA.ne h9 f2.cla (hC.aa 4 0 rfl rfl (by dsimp only; decide))) (fun q9 h9 => clA.ne h9 f2.cla (hC.cea (Or.inr rfl) 0 rfl))
  have fo := fo.kept (ho _ (clA.ne fo.cl f2.cla (hC.oa 13 0 rfl rfl)))
  have fj := fj.kept (ho _ (clA.ne fj.cla f2.cla (hC.aa 3 0 rfl rfl (by dsimp only; decide))))
  have fk := fk.kept (fun k hk9 => ho _ (nW_f2 k hk9))
  have fe := fe.kept (ho _ (Nat.ne_of_lt l_fe_f2))
  have fr := fr.kept (ho _ (Nat.ne_of_lt l_fr_f2))
  have fL1 := fL1.kept (ho _ (Nat.ne_of_lt l_fL1_f2))
  have f2 : c1 D qf2 (.inl (tk 0, 4, .inr (.inl (vp_updL (vp_updL (vp_updL (vp_updL (fun _ => 0) 0 (tt k_x)) 1 (bb k_x)) 2 (r_3.toInt64)) 3 (r_5))))) H := n_
  refine lv_astore (pc := 45) (lv' := [(4, .ref qf2), (3, .ref (rt k_x)), (0, .ref mo), (1, .int x), (2, .int w_)]) hx hb dX5_partNow_45 hl (by decide) rfl (fun ls hl => ?_)
  refine lv_aload (pc := 47) hx hb dX5_partNow_47 (lv_at hl 0 rfl) ?_
  refine lv_iload_n (pc := 49) hx hb dX5_partNow_49 rfl (lv_at hl 4 rfl) ?_
  refine r_lald (pc := 50) E hC f2 (by rw [hw1]; exact vp_in_nI (by omega) (by decide)) dX5_partNow_50 ?_
  refine lv_l2i (pc := 51) (v := ((vp_updL (vp_updL (vp_updL (vp_updL (fun _ => 0) 0 (tt k_x)) 1 (bb k_x)) 2 (r_3.toInt64)) 3 (r_5)) (w_).toNatClampNeg).toInt32) hx hb dX5_partNow_51 rfl ?_
  refine r_iret (pc := 52) E hr hlk hS (by omega) (by omega) ?_ dX5_partNow_52
  have hk4 : kw = 0 ∨ kw = 1 ∨ kw = 2 ∨ kw = 3 := by omega
  subst hw1
  rw [nI_clamp (by omega)]
  rcases hk4 with rfl | rfl | rfl | rfl <;> (subst er_3 er_5; simp [m_pt, vp_updL])
set_option maxHeartbeats 4000000 in
set_option maxRecDepth 100000 in
/-- BestratiosModel.part(II)I -/
theorem c_X5_part (l : Launch) (D : va_G) (tk : Nat → ClassId) (N0 : Nat) (sa : Nat → Nat)  (sz : Nat) (P : Nat → Prop) (hPN : ∀ q, P q → N0 ≤ q) (hPs : ∀ q, sz ≤ q → P q) (mo n9 : Nat) (kn th : Int32) (tt bb : Nat → Int64) (eT eB oT oB : Int64) (pk : Nat) (ca rf : Int32) (vs : Nat → Value) (x1 : Int32) (x2 : Int32) : Met l yX5_part (wsy yX5_part cX5_part 3 (some .int)) ({ frames := 2, cells := 1, slots := 4, locals := 49 } : Room) (cP D tk N0 sa [.ref mo, .int x1, .int x2] sz (fun H => MI D tk sa P mo tt bb eT eB oT oB pk ca rf vs kn n9 th H)) (kQi (fun r H => ∃ th1, MI D tk sa P mo tt bb eT eB oT oB pk ca rf vs kn n9 th1 H ∧ QU (m_isNo x1) (m_not (m_isIn x2 0 3)) ((m_pt (tt (nn x1)) (bb (nn x1)) (nn x2)).toInt32) r th1) (P)) (1) (4) (P) := by
  refine mStart RX5 rfl (by decide +kernel) (Nat.le_of_ble_eq_true rfl) ?_
  intro p e s m args below meth c E hr hlk hnm hsz hC hF ls hl
  subst hsz
  obtain ⟨hx, hb, -⟩ := id E
  have hA : ∀ q, (P) q → N0 ≤ q := hPN
  have hn : ∀ q, s.heap.size ≤ q → (P) q := hPs
  have hS : va_S (P) s.heap s.heap [] := va_S.rf
  have hl : lv_has ls 3 [(0, .ref mo), (1, .int x1), (2, .int x2)] := hl
  have hM : MI D tk sa P mo tt bb eT eB oT oB pk ca rf vs kn n9 th s.heap := hF
  obtain ⟨ra, rl, ex, ro, rt, fo, fj, fk, fe, fr, fw, ⟨hPm, hPa, hPl, hPe, hPr, hPk⟩, hFk, hFe, hFr, hpk, hn9⟩ := hM
  have g_fo := hPm
  have g_fj := hPa
  refine lv_aload_n (pc := 0) hx hb dX5_part_0 rfl (lv_at hl 0 rfl) ?_
  refine lv_iload_n (pc := 1) hx hb dX5_part_1 rfl (lv_at hl 1 rfl) ?_
  refine k_i (pc := 2) (k_S E hC hS hA hl.1 (c_X5_isNo l D tk N0 sa s.heap.size x1 ) kw_1245 kw_1246 kw_5 kw_1247 (n := 1) (by decide +kernel) rfl ⟨⟨rfl, rfl⟩, ⟨Nat.le_of_ble_eq_true rfl, Nat.le_of_ble_eq_true rfl⟩, (by dsimp only; omega), (by dsimp only; omega)⟩ rfl (Nat.le_of_ble_eq_true rfl) trivial dX5_part_2) hS (fun q z w => absurd w (Nat.not_le.mpr z)) hn (fun r_1 H locs hR hz hk hS => ?_)
  have er_1 := hR
  have fw := fw.new hk
  have fo := fo.kept (hk _ fo.lt (Nat.not_le.mpr fo.lt))
  have fj := fj.kept (hk _ fj.lt (Nat.not_le.mpr fj.lt))
  have fk := fk.new hk
  have fe := fe.kept (hk _ fe.lt (Nat.not_le.mpr fe.lt))
  have fr := fr.kept (hk _ fr.lt (Nat.not_le.mpr fr.lt))
  refine lv_iload_n (pc := 5) hx hb dX5_part_5 rfl (lv_at hl 2 rfl) ?_
  refine lv_iconst (pc := 6) (v := 0) hx hb dX5_part_6 (by decide) ?_
  refine lv_iconst (pc := 7) (v := 3) hx hb dX5_part_7 (by decide) ?_
  refine k_i (pc := 8) (k_S E hC hS hA hl.1 (c_X5_isIn l D tk N0 sa H.size x2 0 3 ) kw_1248 kw_1249 kw_5 kw_1250 (n := 3) (by decide +kernel) rfl ⟨⟨rfl, rfl⟩, ⟨Nat.le_of_ble_eq_true rfl, Nat.le_of_ble_eq_true rfl⟩, (by dsimp only; omega), (by dsimp only; omega)⟩ rfl (Nat.le_of_ble_eq_true rfl) trivial dX5_part_8) hS (fun q z w => absurd w (Nat.not_le.mpr z)) hn (fun r_3 H locs hR hz hk hS => ?_)
  have er_3 := hR
  have fw := fw.new hk
  have fo := fo.kept (hk _ fo.lt (Nat.not_le.mpr fo.lt))
  have fj := fj.kept (hk _ fj.lt (Nat.not_le.mpr fj.lt))
  have fk := fk.new hk
  have fe := fe.kept (hk _ fe.lt (Nat.not_le.mpr fe.lt))
  have fr := fr.kept (hk _ fr.lt (Nat.not_le.mpr fr.lt))
  refine lv_if_ne (pc := 11) (tgt := 18) hx hb dX5_part_11 (by decide) (fun c_5 => ?_) (fun c_5 => ?_)
  · refine lv_iconst (pc := 18) (v := 0) hx hb dX5_part_18 (by decide) ?_
    have hZ0_ := hS.1
    have t_fo := fo.lt
    have t_fj := fj.lt
    have t_fk := fun k (hk9 : k < 6) => (fk k hk9).lt
    have t_fe := fe.lt
    have t_fr := fr.lt
    refine k_i (pc := 19) (k_V E hC hS hA hl.1 (c1.recv hC fo rfl) rfl (c_X5_fails l D tk N0 sa H.size P hPN (fun q h9 => hPs q (Nat.le_trans hS.1 h9)) mo n9 kn th tt bb eT eB oT oB pk ca rf vs r_1 0 ) kw_1251 kw_1253 kp_20 kw_5 kw_1254 (n := 2) (by decide +kernel) rfl ⟨⟨rfl, rfl⟩, ⟨Nat.le_of_ble_eq_true rfl, Nat.le_of_ble_eq_true rfl⟩, (by dsimp only; omega), (by dsimp only; omega)⟩ rfl (Nat.le_of_ble_eq_true rfl) ⟨_, _, _, _, _, fo, fj, fk, fe, fr, fw, ⟨hPm, hPa, hPl, hPe, hPr, hPk⟩, hFk, hFe, hFr, hpk, hn9⟩ dX5_part_19) hS (fun q _ h => h) hn (fun r_6 H locs hR hz hk hS => ?_)
    obtain ⟨er_6, hM⟩ := hR
    obtain ⟨ra, rl, ex, ro, rt, fo, fj, fk, fe, fr, fw, ⟨hPm, hPa, hPl, hPe, hPr, hPk⟩, hFk, hFe, hFr, hpk, hn9⟩ := hM
    have g_fo := hPm
    have g_fj := hPa
    refine lv_if_eq (pc := 22) (tgt := 29) hx hb dX5_part_22 (by decide) (fun c_7 => ?_) (fun c_7 => ?_)
    · refine lv_aload_n (pc := 29) hx hb dX5_part_29 rfl (lv_at hl 0 rfl) ?_
      refine lv_iload_n (pc := 30) hx hb dX5_part_30 rfl (lv_at hl 1 rfl) ?_
      refine lv_iload_n (pc := 31) hx hb dX5_part_31 rfl (lv_at hl 2 rfl) ?_
      obtain ⟨kw, hw1, hw2⟩ := m_in (x := x2) (hi_ := 3) (by decide) (fun z9 => c_5 (er_3.trans z9))
      have hZ0_ := hS.1
      have t_fo := fo.lt
      have t_fj := fj.lt
      have t_fk := fun k (hk9 : k < 6) => (fk k hk9).lt
      have t_fe := fe.lt
      have t_fr := fr.lt
      obtain ⟨hx_8, hk_8⟩ := m_noN (er_1.symm.trans (m_fl0 (er_6.symm.trans c_7)).1)
      refine k_i (pc := 32) (k_V E hC hS hA hl.1 (c1.recv hC fo rfl) rfl (c_X5_partNow l D tk N0 sa H.size P hPN mo n9 kn ((m_th r_1 0)) tt bb eT eB oT oB pk ca rf vs x1 (nn x1) hx_8 hk_8 x2 kw hw1 hw2) kw_1387 kw_1389 kp_23 kw_5 kw_1390 (n := 2) (by decide +kernel) rfl ⟨⟨rfl, rfl⟩, ⟨Nat.le_of_ble_eq_true rfl, Nat.le_of_ble_eq_true rfl⟩, (by dsimp only; omega), (by dsimp only; omega)⟩ rfl (Nat.le_of_ble_eq_true rfl) ⟨_, _, _, _, _, fo, fj, fk, fe, fr, fw, ⟨hPm, hPa, hPl, hPe, hPr, hPk⟩, hFk, hFe, hFr, hpk, hn9⟩ dX5_part_32) hS (fun q z w => absurd w (Nat.not_le.mpr z)) hn (fun r_9 H locs hR hz hk hS => ?_)
      have fw := fw.new hk
      have fo := fo.kept (hk _ fo.lt (Nat.not_le.mpr fo.lt))
      have fj := fj.kept (hk _ fj.lt (Nat.not_le.mpr fj.lt))
      have fk := fk.new hk
      have fe := fe.kept (hk _ fe.lt (Nat.not_le.mpr fe.lt))
      have fr := fr.kept (hk _ fr.lt (Nat.not_le.mpr fr.lt))
      have er_9 := hR
      refine r_iret (pc := 35) E hr hlk hS (by omega) (by omega) ?_ dX5_part_35
      exact ⟨_, ⟨_, _, _, _, _, fo, fj, fk, fe, fr, fw, ⟨hPm, hPa, hPl, hPe, hPr, hPk⟩, hFk, hFe, hFr, hpk, hn9⟩, QU.ok (by subst er_1 er_3 er_6; first | rfl | (simp [m_or, m_not, m_is0, m_lt0, m_fl, c_5, c_7]; done)) (by subst er_1 er_3 er_6; first | rfl | (simp [m_or, m_not, m_is0, m_lt0, m_fl, c_5, c_7]; done)) (er_6.symm.trans c_7) (by rw [er_9, hw1, show nn (nI kw) = kw from nI_clamp (by omega)])⟩
    · refine lv_iconst (pc := 25) (v := 0) hx hb dX5_part_25 (by decide) ?_
      refine lv_goto (pc := 26) (tgt := 35) hx hb dX5_part_26 (by decide) ?_
      refine r_iret (pc := 35) E hr hlk hS (by omega) (by omega) ?_ dX5_part_35
      exact ⟨_, ⟨_, _, _, _, _, fo, fj, fk, fe, fr, fw, ⟨hPm, hPa, hPl, hPe, hPr, hPk⟩, hFk, hFe, hFr, hpk, hn9⟩, QU.fail (by subst er_1 er_3 er_6; first | rfl | (simp [m_or, m_not, m_is0, m_lt0, m_fl, c_5, c_7]; done)) (by subst er_1 er_3 er_6; first | rfl | (simp [m_or, m_not, m_is0, m_lt0, m_fl, c_5, c_7]; done)) (fun z9 => c_7 (er_6.trans z9))⟩
  · refine lv_iconst (pc := 14) (v := 1) hx hb dX5_part_14 (by decide) ?_
    refine lv_goto (pc := 15) (tgt := 19) hx hb dX5_part_15 (by decide) ?_
    have hZ0_ := hS.1
    have t_fo := fo.lt
    have t_fj := fj.lt
    have t_fk := fun k (hk9 : k < 6) => (fk k hk9).lt
    have t_fe := fe.lt
    have t_fr := fr.lt
    refine k_i (pc := 19) (k_V E hC hS hA hl.1 (c1.recv hC fo rfl) rfl (c_X5_fails l D tk N0 sa H.size P hPN (fun q h9 => hPs q (Nat.le_trans hS.1 h9)) mo n9 kn th tt bb eT eB oT oB pk ca rf vs r_1 1 ) kw_1251 kw_1253 kp_20 kw_5 kw_1254 (n := 2) (by decide +kernel) rfl ⟨⟨rfl, rfl⟩, ⟨Nat.le_of_ble_eq_true rfl, Nat.le_of_ble_eq_true rfl⟩, (by dsimp only; omega), (by dsimp only; omega)⟩ rfl (Nat.le_of_ble_eq_true rfl) ⟨_, _, _, _, _, fo, fj, fk, fe, fr, fw, ⟨hPm, hPa, hPl, hPe, hPr, hPk⟩, hFk, hFe, hFr, hpk, hn9⟩ dX5_part_19) hS (fun q _ h => h) hn (fun r_10 H locs hR hz hk hS => ?_)
    obtain ⟨er_10, hM⟩ := hR
    obtain ⟨ra, rl, ex, ro, rt, fo, fj, fk, fe, fr, fw, ⟨hPm, hPa, hPl, hPe, hPr, hPk⟩, hFk, hFe, hFr, hpk, hn9⟩ := hM
    have g_fo := hPm
    have g_fj := hPa
    have ef_r_10 : r_10 = 1 := er_10.trans (m_fl1 _)
    rw [ef_r_10]
    refine lv_if_eq (pc := 22) (tgt := 29) hx hb dX5_part_22 (by decide) (fun c_11 => ?_) (fun c_11 => ?_)
    · exact absurd c_11 (by decide)
    refine lv_iconst (pc := 25) (v := 0) hx hb dX5_part_25 (by decide) ?_
    refine lv_goto (pc := 26) (tgt := 35) hx hb dX5_part_26 (by decide) ?_
    refine r_iret (pc := 35) E hr hlk hS (by omega) (by omega) ?_ dX5_part_35
    exact ⟨_, ⟨_, _, _, _, _, fo, fj, fk, fe, fr, fw, ⟨hPm, hPa, hPl, hPe, hPr, hPk⟩, hFk, hFe, hFr, hpk, hn9⟩, QU.fail (by subst er_1 er_3; first | rfl | (simp [m_or, m_not, m_is0, m_lt0, m_fl, c_5]; done)) (by subst er_1 er_3; first | rfl | (simp [m_or, m_not, m_is0, m_lt0, m_fl, c_5]; done)) (fun z9 => absurd (ef_r_10.symm.trans (er_10.trans z9)) (by decide))⟩
set_option maxHeartbeats 4000000 in
set_option maxRecDepth 100000 in
/-- BestratiosModel.compare(II)I -/
theorem c_X5_compare (l : Launch) (D : va_G) (tk : Nat → ClassId) (N0 : Nat) (sa : Nat → Nat)  (sz : Nat) (P : Nat → Prop) (hPN : ∀ q, P q → N0 ≤ q) (hPs : ∀ q, sz ≤ q → P q) (mo n9 : Nat) (kn th : Int32) (tt bb : Nat → Int64) (eT eB oT oB : Int64) (pk : Nat) (ca rf : Int32) (vs : Nat → Value) (x1 : Int32) (x2 : Int32) : Met l yX5_compare (wsy yX5_compare cX5_compare 3 (some .int)) ({ frames := 3, cells := 0, slots := 0, locals := 63 } : Room) (cP D tk N0 sa [.ref mo, .int x1, .int x2] sz (fun H => MI D tk sa P mo tt bb eT eB oT oB pk ca rf vs kn n9 th H)) (kQi (fun r H => ∃ th1, MI D tk sa P mo tt bb eT eB oT oB pk ca rf vs kn n9 th1 H ∧ QU (m_areNo x1 x2) 0 (m_ord (tt (nn x1)) (bb (nn x1)) (tt (nn x2)) (bb (nn x2))) r th1) (P)) (0) (0) (P) := by
  refine mStart RX5 rfl (by decide +kernel) (Nat.le_of_ble_eq_true rfl) ?_
  intro p e s m args below meth c E hr hlk hnm hsz hC hF ls hl
  subst hsz
  obtain ⟨hx, hb, -⟩ := id E
  have hA : ∀ q, (P) q → N0 ≤ q := hPN
  have hn : ∀ q, s.heap.size ≤ q → (P) q := hPs
  have hS : va_S (P) s.heap s.heap [] := va_S.rf
  have hl : lv_has ls 3 [(0, .ref mo), (1, .int x1), (2, .int x2)] := hl
  have hM : MI D tk sa P mo tt bb eT eB oT oB pk ca rf vs kn n9 th s.heap := hF
  obtain ⟨ra, rl, ex, ro, rt, fo, fj, fk, fe, fr, fw, ⟨hPm, hPa, hPl, hPe, hPr, hPk⟩, hFk, hFe, hFr, hpk, hn9⟩ := hM
  have g_fo := hPm
  have g_fj := hPa
  refine lv_aload_n (pc := 0) hx hb dX5_compare_0 rfl (lv_at hl 0 rfl) ?_
  refine lv_iload_n (pc := 1) hx hb dX5_compare_1 rfl (lv_at hl 1 rfl) ?_
  refine lv_iload_n (pc := 2) hx hb dX5_compare_2 rfl (lv_at hl 2 rfl) ?_
  refine k_i (pc := 3) (k_S E hC hS hA hl.1 (c_X5_areNo l D tk N0 sa s.heap.size x1 x2 ) kw_1286 kw_1287 kw_5 kw_1288 (n := 2) (by decide +kernel) rfl ⟨⟨rfl, rfl⟩, ⟨Nat.le_of_ble_eq_true rfl, Nat.le_of_ble_eq_true rfl⟩, (by dsimp only; omega), (by dsimp only; omega)⟩ rfl (Nat.le_of_ble_eq_true rfl) trivial dX5_compare_3) hS (fun q z w => absurd w (Nat.not_le.mpr z)) hn (fun r_1 H locs hR hz hk hS => ?_)
  have er_1 := hR
  have fw := fw.new hk
  have fo := fo.kept (hk _ fo.lt (Nat.not_le.mpr fo.lt))
  have fj := fj.kept (hk _ fj.lt (Nat.not_le.mpr fj.lt))
  have fk := fk.new hk
  have fe := fe.kept (hk _ fe.lt (Nat.not_le.mpr fe.lt))
  have fr := fr.kept (hk _ fr.lt (Nat.not_le.mpr fr.lt))
  refine lv_iconst (pc := 6) (v := 0) hx hb dX5_compare_6 (by decide) ?_
  have hZ0_ := hS.1
  have t_fo := fo.lt
  have t_fj := fj.lt
  have t_fk := fun k (hk9 : k < 6) => (fk k hk9).lt
  have t_fe := fe.lt
  have t_fr := fr.lt
  refine k_i (pc := 7) (k_V E hC hS hA hl.1 (c1.recv hC fo rfl) rfl (c_X5_fails l D tk N0 sa H.size P hPN (fun q h9 => hPs q (Nat.le_trans hS.1 h9)) mo n9 kn th tt bb eT eB oT oB pk ca rf vs r_1 0 ) kw_1251 kw_1253 kp_20 kw_5 kw_1254 (n := 2) (by decide +kernel) rfl ⟨⟨rfl, rfl⟩, ⟨Nat.le_of_ble_eq_true rfl, Nat.le_of_ble_eq_true rfl⟩, (by dsimp only; omega), (by dsimp only; omega)⟩ rfl (Nat.le_of_ble_eq_true rfl) ⟨_, _, _, _, _, fo, fj, fk, fe, fr, fw, ⟨hPm, hPa, hPl, hPe, hPr, hPk⟩, hFk, hFe, hFr, hpk, hn9⟩ dX5_compare_7) hS (fun q _ h => h) hn (fun r_3 H locs hR hz hk hS => ?_)
  obtain ⟨er_3, hM⟩ := hR
  obtain ⟨ra, rl, ex, ro, rt, fo, fj, fk, fe, fr, fw, ⟨hPm, hPa, hPl, hPe, hPr, hPk⟩, hFk, hFe, hFr, hpk, hn9⟩ := hM
  have g_fo := hPm
  have g_fj := hPa
  refine lv_if_eq (pc := 10) (tgt := 17) hx hb dX5_compare_10 (by decide) (fun c_4 => ?_) (fun c_4 => ?_)
  · refine lv_aload_n (pc := 17) hx hb dX5_compare_17 rfl (lv_at hl 0 rfl) ?_
    refine r_get (pc := 18) E hC fo 0 (v := .ref ra) rfl rfl (by decide) uX5 (List.mem_cons_of_mem _ kw_1209) (fun _ h => h) dX5_compare_18 ?_
    refine lv_iload_n (pc := 21) hx hb dX5_compare_21 rfl (lv_at hl 1 rfl) ?_
    obtain ⟨hx_5, hk_5⟩ := m_noN (m_ano (er_1.symm.trans (m_fl0 (er_3.symm.trans c_4)).1)).1
    refine r_aaldJ (pc := 22) E hC fj (nn x1) hx_5 hk_5 (by decide) rfl dX5_compare_22 ?_
    have fL6 := fk (nn x1) hk_5
    have mF_fL6 := hFk (nn x1) hk_5
    have Pq_fL6 := hPk (nn x1) hk_5
    refine lv_aload_n (pc := 23) hx hb dX5_compare_23 rfl (lv_at hl 0 rfl) ?_
    refine r_get (pc := 24) E hC fo 0 (v := .ref ra) rfl rfl (by decide) uX5 (List.mem_cons_of_mem _ kw_1209) (fun _ h => h) dX5_compare_24 ?_
    refine lv_iload_n (pc := 27) hx hb dX5_compare_27 rfl (lv_at hl 2 rfl) ?_
    obtain ⟨hx_7, hk_7⟩ := m_noN (m_ano (er_1.symm.trans (m_fl0 (er_3.symm.trans c_4)).1)).2
    refine r_aaldJ (pc := 28) E hC fj (nn x2) hx_7 hk_7 (by decide) rfl dX5_compare_28 ?_
    have fL8 := fk (nn x2) hk_7
    have mF_fL8 := hFk (nn x2) hk_7
    have Pq_fL8 := hPk (nn x2) hk_7
    have hZ0_ := hS.1
    have t_fo := fo.lt
    have t_fj := fj.lt
    have t_fk := fun k (hk9 : k < 6) => (fk k hk9).lt
    have t_fe := fe.lt
    have t_fr := fr.lt
    have t_fL6 := fL6.lt
    have t_fL8 := fL8.lt
    refine k_i (pc := 29) (k_S E hC hS hA hl.1 (c_X5_order l D tk N0 sa H.size (rt (nn x1)) (tt (nn x1)) (bb (nn x1)) (rt (nn x2)) (tt (nn x2)) (bb (nn x2)) ) kw_1268 kw_1269 kw_5 kw_1270 (n := 2) (by decide +kernel) rfl ⟨⟨rfl, rfl⟩, ⟨Nat.le_of_ble_eq_true rfl, Nat.le_of_ble_eq_true rfl⟩, (by dsimp only; omega), (by dsimp only; omega)⟩ rfl (Nat.le_of_ble_eq_true rfl) ⟨fL6, fL8⟩ dX5_compare_29) hS (fun q z w => absurd w (Nat.not_le.mpr z)) hn (fun r_9 H locs hR hz hk hS => ?_)
    have fw := fw.new hk
    have fo := fo.kept (hk _ fo.lt (Nat.not_le.mpr fo.lt))
    have fj := fj.kept (hk _ fj.lt (Nat.not_le.mpr fj.lt))
    have fk := fk.new hk
    have fe := fe.kept (hk _ fe.lt (Nat.not_le.mpr fe.lt))
    have fr := fr.kept (hk _ fr.lt (Nat.not_le.mpr fr.lt))
    have fL6 := fL6.kept (hk _ fL6.lt (Nat.not_le.mpr fL6.lt))
    have fL8 := fL8.kept (hk _ fL8.lt (Nat.not_le.mpr fL8.lt))
    have er_9 := hR
    refine r_iret (pc := 32) E hr hlk hS (by omega) (by omega) ?_ dX5_compare_32
    exact ⟨_, ⟨_, _, _, _, _, fo, fj, fk, fe, fr, fw, ⟨hPm, hPa, hPl, hPe, hPr, hPk⟩, hFk, hFe, hFr, hpk, hn9⟩, QU.ok (by subst er_1 er_3 er_9; first | rfl | (simp [m_or, m_not, m_is0, m_lt0, m_fl, c_4]; done)) (by subst er_1 er_3 er_9; first | rfl | (simp [m_or, m_not, m_is0, m_lt0, m_fl, c_4]; done)) (er_3.symm.trans c_4) (by subst er_1 er_3 er_9; first | rfl | (simp [c_4]; done))⟩
  · refine lv_iconst (pc := 13) (v := 0) hx hb dX5_compare_13 (by decide) ?_
    refine lv_goto (pc := 14) (tgt := 32) hx hb dX5_compare_14 (by decide) ?_
    refine r_iret (pc := 32) E hr hlk hS (by omega) (by omega) ?_ dX5_compare_32
    exact ⟨_, ⟨_, _, _, _, _, fo, fj, fk, fe, fr, fw, ⟨hPm, hPa, hPl, hPe, hPr, hPk⟩, hFk, hFe, hFr, hpk, hn9⟩, QU.fail (by subst er_1 er_3; first | rfl | (simp [m_or, m_not, m_is0, m_lt0, m_fl, c_4]; done)) (by subst er_1 er_3; first | rfl | (simp [m_or, m_not, m_is0, m_lt0, m_fl, c_4]; done)) (fun z9 => c_4 (er_3.trans z9))⟩
set_option maxHeartbeats 4000000 in
set_option maxRecDepth 100000 in
/-- BestratiosModel.areNextNow(II)Z -/
theorem c_X5_areNextNow (l : Launch) (D : va_G) (tk : Nat → ClassId) (N0 : Nat) (sa : Nat → Nat)  (sz : Nat) (P : Nat → Prop) (hPN : ∀ q, P q → N0 ≤ q) (mo n9 : Nat) (kn th : Int32) (tt bb : Nat → Int64) (eT eB oT oB : Int64) (pk : Nat) (ca rf : Int32) (vs : Nat → Value) (x : Int32) (k_x : Nat) (hx_x : x = nI k_x) (hk_x : k_x < 6) (y : Int32) (k_y : Nat) (hx_y : y = nI k_y) (hk_y : k_y < 6) : Met l yX5_areNextNow (wsy yX5_areNextNow cX5_areNextNow 3 (some .boolean)) ({ frames := 1, cells := 0, slots := 0, locals := 21 } : Room) (cP D tk N0 sa [.ref mo, .int x, .int y] sz (fun H => MI D tk sa P mo tt bb eT eB oT oB pk ca rf vs kn n9 th H)) (kQi (fun r H => r = m_nx1 (tt k_x) (bb k_x) (tt k_y) (bb k_y)) (nwA sz)) (0) (0) (nwA sz) := by
  refine mStart RX5 rfl (by decide +kernel) (Nat.le_of_ble_eq_true rfl) ?_
  intro p e s m args below meth c E hr hlk hnm hsz hC hF ls hl
  subst hsz
  obtain ⟨hx, hb, -⟩ := id E
  have hA : ∀ q, (nwA s.heap.size) q → N0 ≤ q := fun q h => Nat.le_trans hC.2.1 h
  have hn : ∀ q, s.heap.size ≤ q → (nwA s.heap.size) q := fun q h => h
  have hS : va_S (nwA s.heap.size) s.heap s.heap [] := va_S.rf
  have hl : lv_has ls 3 [(0, .ref mo), (1, .int x), (2, .int y)] := hl
  have hM : MI D tk sa P mo tt bb eT eB oT oB pk ca rf vs kn n9 th s.heap := hF
  obtain ⟨ra, rl, ex, ro, rt, fo, fj, fk, fe, fr, fw, ⟨hPm, hPa, hPl, hPe, hPr, hPk⟩, hFk, hFe, hFr, hpk, hn9⟩ := hM
  refine lv_aload_n (pc := 0) hx hb dX5_areNextNow_0 rfl (lv_at hl 0 rfl) ?_
  refine r_get (pc := 1) E hC fo 0 (v := .ref ra) rfl rfl (by decide) uX5 (List.mem_cons_of_mem _ kw_1209) (fun _ h => h) dX5_areNextNow_1 ?_
  refine lv_iload_n (pc := 4) hx hb dX5_areNextNow_4 rfl (lv_at hl 1 rfl) ?_
  refine r_aaldJ (pc := 5) E hC fj k_x hx_x hk_x (by decide) rfl dX5_areNextNow_5 ?_
  have fL1 := fk k_x hk_x
  have mF_fL1 := hFk k_x hk_x
  have Pq_fL1 := hPk k_x hk_x
  refine lv_iconst (pc := 6) (v := 0) hx hb dX5_areNextNow_6 (by decide) ?_
  refine r_l0 (pc := 7) E hC fL1 dX5_areNextNow_7 ?_
  refine lv_aload_n (pc := 8) hx hb dX5_areNextNow_8 rfl (lv_at hl 0 rfl) ?_
  refine r_get (pc := 9) E hC fo 0 (v := .ref ra) rfl rfl (by decide) uX5 (List.mem_cons_of_mem _ kw_1209) (fun _ h => h) dX5_areNextNow_9 ?_
  refine lv_iload_n (pc := 12) hx hb dX5_areNextNow_12 rfl (lv_at hl 2 rfl) ?_
  refine r_aaldJ (pc := 13) E hC fj k_y hx_y hk_y (by decide) rfl dX5_areNextNow_13 ?_
  have fL2 := fk k_y hk_y
  have mF_fL2 := hFk k_y hk_y
  have Pq_fL2 := hPk k_y hk_y
  refine lv_iconst (pc := 14) (v := 1) hx hb dX5_areNextNow_14 (by decide) ?_
  refine r_l1 (pc := 15) E hC fL2 dX5_areNextNow_15 ?_
  refine lv_lmul (pc := 16) hx hb dX5_areNextNow_16 ?_
  refine lv_aload_n (pc := 17) hx hb dX5_areNextNow_17 rfl (lv_at hl 0 rfl) ?_
  refine r_get (pc := 18) E hC fo 0 (v := .ref ra) rfl rfl (by decide) uX5 (List.mem_cons_of_mem _ kw_1209) (fun _ h => h) dX5_areNextNow_18 ?_
  refine lv_iload_n (pc := 21) hx hb dX5_areNextNow_21 rfl (lv_at hl 2 rfl) ?_
  refine r_aaldJ (pc := 22) E hC fj k_y hx_y hk_y (by decide) rfl dX5_areNextNow_22 ?_
  have fL3 := fk k_y hk_y
  have mF_fL3 := hFk k_y hk_y
  have Pq_fL3 := hPk k_y hk_y
  refine lv_iconst (pc := 23) (v := 0) hx hb dX5_areNextNow_23 (by decide) ?_
  refine r_l0 (pc := 24) E hC fL3 dX5_areNextNow_24 ?_
  refine lv_aload_n (pc := 25) hx hb dX5_areNextNow_25 rfl (lv_at hl 0 rfl) ?_
  refine r_get (pc := 26) E hC fo 0 (v := .ref ra) rfl rfl (by decide) uX5 (List.mem_cons_of_mem _ kw_1209) (fun _ h => h) dX5_areNextNow_26 ?_
  refine lv_iload_n (pc := 29) hx hb dX5_areNextNow_29 rfl (lv_at hl 1 rfl) ?_
  refine r_aaldJ (pc := 30) E hC fj k_x hx_x hk_x (by decide) rfl dX5_areNextNow_30 ?_
  have fL4 := fk k_x hk_x
  have mF_fL4 := hFk k_x hk_x
  have Pq_fL4 := hPk k_x hk_x
  refine lv_iconst (pc := 31) (v := 1) hx hb dX5_areNextNow_31 (by decide) ?_
  refine r_l1 (pc := 32) E hC fL4 dX5_areNextNow_32 ?_
  refine lv_lmul (pc := 33) hx hb dX5_areNextNow_33 ?_
  refine lv_lsub (pc := 34) hx hb dX5_areNextNow_34 ?_
  refine k_l (pc := 35) (k_S E hC hS hA hl.1 (c_J9_abs_067f4 l D tk N0 sa s.heap.size (((tt k_x) * (bb k_y)) - ((tt k_y) * (bb k_x))) ) kw_1205 kw_1206 kw_9 kw_1207 (n := 1) (by decide +kernel) rfl ⟨⟨rfl, rfl⟩, ⟨Nat.le_of_ble_eq_true rfl, Nat.le_of_ble_eq_true rfl⟩, (by dsimp only; omega), (by dsimp only; omega)⟩ rfl (Nat.le_of_ble_eq_true rfl) trivial dX5_areNextNow_35) hS (fun q z w => absurd w (Nat.not_le.mpr z)) hn (fun r_5 H locs hR hz hk hS => ?_)
  have er_5 := hR
  have fw := fw.new hk
  have fo := fo.kept (hk _ fo.lt (Nat.not_le.mpr fo.lt))
  have fj := fj.kept (hk _ fj.lt (Nat.not_le.mpr fj.lt))
  have fk := fk.new hk
  have fe := fe.kept (hk _ fe.lt (Nat.not_le.mpr fe.lt))
  have fr := fr.kept (hk _ fr.lt (Nat.not_le.mpr fr.lt))
  have fL1 := fL1.kept (hk _ fL1.lt (Nat.not_le.mpr fL1.lt))
  have fL2 := fL2.kept (hk _ fL2.lt (Nat.not_le.mpr fL2.lt))
  have fL3 := fL3.kept (hk _ fL3.lt (Nat.not_le.mpr fL3.lt))
  have fL4 := fL4.kept (hk _ fL4.lt (Nat.not_le.mpr fL4.lt))
  refine lv_lconst (pc := 38) (v := 1) hx hb dX5_areNextNow_38 (by decide) ?_
  refine r_lcne (pc := 39) (tgt := 47) E dX5_areNextNow_39 dX5_areNextNow_40 (by decide) (fun c_7 => ?_) (fun c_7 => ?_)
  · refine lv_iconst (pc := 47) (v := 0) hx hb dX5_areNextNow_47 (by decide) ?_
    refine r_zret (pc := 48) E hr hlk hS (by omega) (by omega) rfl ?_ dX5_areNextNow_48
    subst er_5; first | with_reducible rfl | (simp [m_nx1, c_7]; done)
  · refine lv_iconst (pc := 43) (v := 1) hx hb dX5_areNextNow_43 (by decide) ?_
    refine lv_goto (pc := 44) (tgt := 48) hx hb dX5_areNextNow_44 (by decide) ?_
    refine r_zret (pc := 48) E hr hlk hS (by omega) (by omega) rfl ?_ dX5_areNextNow_48
    subst er_5; first | with_reducible rfl | (simp [m_nx1, c_7]; done)
set_option maxHeartbeats 4000000 in
set_option maxRecDepth 100000 in
/-- BestratiosModel.areNext(II)Z -/
theorem c_X5_areNext (l : Launch) (D : va_G) (tk : Nat → ClassId) (N0 : Nat) (sa : Nat → Nat)  (sz : Nat) (P : Nat → Prop) (hPN : ∀ q, P q → N0 ≤ q) (hPs : ∀ q, sz ≤ q → P q) (mo n9 : Nat) (kn th : Int32) (tt bb : Nat → Int64) (eT eB oT oB : Int64) (pk : Nat) (ca rf : Int32) (vs : Nat → Value) (x1 : Int32) (x2 : Int32) : Met l yX5_areNext (wsy yX5_areNext cX5_areNext 3 (some .boolean)) ({ frames := 3, cells := 0, slots := 0, locals := 63 } : Room) (cP D tk N0 sa [.ref mo, .int x1, .int x2] sz (fun H => MI D tk sa P mo tt bb eT eB oT oB pk ca rf vs kn n9 th H)) (kQi (fun r H => ∃ th1, MI D tk sa P mo tt bb eT eB oT oB pk ca rf vs kn n9 th1 H ∧ QU (m_areNo x1 x2) 0 (m_nx1 (tt (nn x1)) (bb (nn x1)) (tt (nn x2)) (bb (nn x2))) r th1) (P)) (0) (0) (P) := by
  refine mStart RX5 rfl (by decide +kernel) (Nat.le_of_ble_eq_true rfl) ?_
  intro p e s m args below meth c E hr hlk hnm hsz hC hF ls hl
  subst hsz
  obtain ⟨hx, hb, -⟩ := id E
  have hA : ∀ q, (P) q → N0 ≤ q := hPN
  have hn : ∀ q, s.heap.size ≤ q → (P) q := hPs
  have hS : va_S (P) s.heap s.heap [] := va_S.rf
  have hl : lv_has ls 3 [(0, .ref mo), (1, .int x1), (2, .int x2)] := hl
  have hM : MI D tk sa P mo tt bb eT eB oT oB pk ca rf vs kn n9 th s.heap := hF
  obtain ⟨ra, rl, ex, ro, rt, fo, fj, fk, fe, fr, fw, ⟨hPm, hPa, hPl, hPe, hPr, hPk⟩, hFk, hFe, hFr, hpk, hn9⟩ := hM
  have g_fo := hPm
  have g_fj := hPa
  refine lv_aload_n (pc := 0) hx hb dX5_areNext_0 rfl (lv_at hl 0 rfl) ?_
  refine lv_iload_n (pc := 1) hx hb dX5_areNext_1 rfl (lv_at hl 1 rfl) ?_
  refine lv_iload_n (pc := 2) hx hb dX5_areNext_2 rfl (lv_at hl 2 rfl) ?_
  refine k_i (pc := 3) (k_S E hC hS hA hl.1 (c_X5_areNo l D tk N0 sa s.heap.size x1 x2 ) kw_1286 kw_1287 kw_5 kw_1288 (n := 2) (by decide +kernel) rfl ⟨⟨rfl, rfl⟩, ⟨Nat.le_of_ble_eq_true rfl, Nat.le_of_ble_eq_true rfl⟩, (by dsimp only; omega), (by dsimp only; omega)⟩ rfl (Nat.le_of_ble_eq_true rfl) trivial dX5_areNext_3) hS (fun q z w => absurd w (Nat.not_le.mpr z)) hn (fun r_1 H locs hR hz hk hS => ?_)
  have er_1 := hR
  have fw := fw.new hk
  have fo := fo.kept (hk _ fo.lt (Nat.not_le.mpr fo.lt))
  have fj := fj.kept (hk _ fj.lt (Nat.not_le.mpr fj.lt))
  have fk := fk.new hk
  have fe := fe.kept (hk _ fe.lt (Nat.not_le.mpr fe.lt))
  have fr := fr.kept (hk _ fr.lt (Nat.not_le.mpr fr.lt))
  refine lv_iconst (pc := 6) (v := 0) hx hb dX5_areNext_6 (by decide) ?_
  have hZ0_ := hS.1
  have t_fo := fo.lt
  have t_fj := fj.lt
  have t_fk := fun k (hk9 : k < 6) => (fk k hk9).lt
  have t_fe := fe.lt
  have t_fr := fr.lt
  refine k_i (pc := 7) (k_V E hC hS hA hl.1 (c1.recv hC fo rfl) rfl (c_X5_fails l D tk N0 sa H.size P hPN (fun q h9 => hPs q (Nat.le_trans hS.1 h9)) mo n9 kn th tt bb eT eB oT oB pk ca rf vs r_1 0 ) kw_1251 kw_1253 kp_20 kw_5 kw_1254 (n := 2) (by decide +kernel) rfl ⟨⟨rfl, rfl⟩, ⟨Nat.le_of_ble_eq_true rfl, Nat.le_of_ble_eq_true rfl⟩, (by dsimp only; omega), (by dsimp only; omega)⟩ rfl (Nat.le_of_ble_eq_true rfl) ⟨_, _, _, _, _, fo, fj, fk, fe, fr, fw, ⟨hPm, hPa, hPl, hPe, hPr, hPk⟩, hFk, hFe, hFr, hpk, hn9⟩ dX5_areNext_7) hS (fun q _ h => h) hn (fun r_3 H locs hR hz hk hS => ?_)
  obtain ⟨er_3, hM⟩ := hR
  obtain ⟨ra, rl, ex, ro, rt, fo, fj, fk, fe, fr, fw, ⟨hPm, hPa, hPl, hPe, hPr, hPk⟩, hFk, hFe, hFr, hpk, hn9⟩ := hM
  have g_fo := hPm
  have g_fj := hPa
  refine lv_if_ne (pc := 10) (tgt := 26) hx hb dX5_areNext_10 (by decide) (fun c_4 => ?_) (fun c_4 => ?_)
  · refine lv_iconst (pc := 26) (v := 0) hx hb dX5_areNext_26 (by decide) ?_
    refine r_zret (pc := 27) E hr hlk hS (by omega) (by omega) rfl ?_ dX5_areNext_27
    exact ⟨_, ⟨_, _, _, _, _, fo, fj, fk, fe, fr, fw, ⟨hPm, hPa, hPl, hPe, hPr, hPk⟩, hFk, hFe, hFr, hpk, hn9⟩, QU.fail (by subst er_1 er_3; first | rfl | (simp [m_or, m_not, m_is0, m_lt0, m_fl, c_4]; done)) (by subst er_1 er_3; first | rfl | (simp [m_or, m_not, m_is0, m_lt0, m_fl, c_4]; done)) (fun z9 => c_4 (er_3.trans z9))⟩
  · refine lv_aload_n (pc := 13) hx hb dX5_areNext_13 rfl (lv_at hl 0 rfl) ?_
    refine lv_iload_n (pc := 14) hx hb dX5_areNext_14 rfl (lv_at hl 1 rfl) ?_
    refine lv_iload_n (pc := 15) hx hb dX5_areNext_15 rfl (lv_at hl 2 rfl) ?_
    have hZ0_ := hS.1
    have t_fo := fo.lt
    have t_fj := fj.lt
    have t_fk := fun k (hk9 : k < 6) => (fk k hk9).lt
    have t_fe := fe.lt
    have t_fr := fr.lt
    obtain ⟨hx_5, hk_5⟩ := m_noN (m_ano (er_1.symm.trans (m_fl0 (er_3.symm.trans c_4)).1)).1
    obtain ⟨hx_6, hk_6⟩ := m_noN (m_ano (er_1.symm.trans (m_fl0 (er_3.symm.trans c_4)).1)).2
    refine k_i (pc := 16) (k_V E hC hS hA hl.1 (c1.recv hC fo rfl) rfl (c_X5_areNextNow l D tk N0 sa H.size P hPN mo n9 kn ((m_th r_1 0)) tt bb eT eB oT oB pk ca rf vs x1 (nn x1) hx_5 hk_5 x2 (nn x2) hx_6 hk_6 ) kw_1403 kw_1405 kp_24 kw_5 kw_1406 (n := 2) (by decide +kernel) rfl ⟨⟨rfl, rfl⟩, ⟨Nat.le_of_ble_eq_true rfl, Nat.le_of_ble_eq_true rfl⟩, (by dsimp only; omega), (by dsimp only; omega)⟩ rfl (Nat.le_of_ble_eq_true rfl) ⟨_, _, _, _, _, fo, fj, fk, fe, fr, fw, ⟨hPm, hPa, hPl, hPe, hPr, hPk⟩, hFk, hFe, hFr, hpk, hn9⟩ dX5_areNext_16) hS (fun q z w => absurd w (Nat.not_le.mpr z)) hn (fun r_7 H locs hR hz hk hS => ?_)
    have fw := fw.new hk
    have fo := fo.kept (hk _ fo.lt (Nat.not_le.mpr fo.lt))
    have fj := fj.kept (hk _ fj.lt (Nat.not_le.mpr fj.lt))
    have fk := fk.new hk
    have fe := fe.kept (hk _ fe.lt (Nat.not_le.mpr fe.lt))
    have fr := fr.kept (hk _ fr.lt (Nat.not_le.mpr fr.lt))
    have er_7 := hR
    refine lv_if_eq (pc := 19) (tgt := 26) hx hb dX5_areNext_19 (by decide) (fun c_8 => ?_) (fun c_8 => ?_)
    · refine lv_iconst (pc := 26) (v := 0) hx hb dX5_areNext_26 (by decide) ?_
      refine r_zret (pc := 27) E hr hlk hS (by omega) (by omega) rfl ?_ dX5_areNext_27
      exact ⟨_, ⟨_, _, _, _, _, fo, fj, fk, fe, fr, fw, ⟨hPm, hPa, hPl, hPe, hPr, hPk⟩, hFk, hFe, hFr, hpk, hn9⟩, QU.ok (by subst er_1 er_3 er_7; first | rfl | (simp [m_or, m_not, m_is0, m_lt0, m_fl, c_4, c_8]; done)) (by subst er_1 er_3 er_7; first | rfl | (simp [m_or, m_not, m_is0, m_lt0, m_fl, c_4, c_8]; done)) (er_3.symm.trans c_4) (c_8.symm.trans er_7)⟩
    · refine lv_iconst (pc := 22) (v := 1) hx hb dX5_areNext_22 (by decide) ?_
      refine lv_goto (pc := 23) (tgt := 27) hx hb dX5_areNext_23 (by decide) ?_
      refine r_zret (pc := 27) E hr hlk hS (by omega) (by omega) rfl ?_ dX5_areNext_27
      exact ⟨_, ⟨_, _, _, _, _, fo, fj, fk, fe, fr, fw, ⟨hPm, hPa, hPl, hPe, hPr, hPk⟩, hFk, hFe, hFr, hpk, hn9⟩, QU.ok (by subst er_1 er_3 er_7; first | rfl | (simp [m_or, m_not, m_is0, m_lt0, m_fl, c_4, c_8]; done)) (by subst er_1 er_3 er_7; first | rfl | (simp [m_or, m_not, m_is0, m_lt0, m_fl, c_4, c_8]; done)) (er_3.symm.trans c_4) (m_nx1o er_7 c_8)⟩
set_option maxHeartbeats 4000000 in
set_option maxRecDepth 100000 in
/-- BestratiosModel.terms(I)Ljava/lang/String; -/
theorem c_X5_terms (l : Launch) (D : va_G) (tk : Nat → ClassId) (N0 : Nat) (sa : Nat → Nat)  (sz : Nat) (P : Nat → Prop) (hPN : ∀ q, P q → N0 ≤ q) (hPs : ∀ q, sz ≤ q → P q) (mo n9 : Nat) (kn th : Int32) (tt bb : Nat → Int64) (eT eB oT oB : Int64) (pk : Nat) (ca rf : Int32) (vs : Nat → Value) (x1 : Int32) : Met l yX5_terms (wsy yX5_terms cX5_terms 2 (some (.object "java/lang/String"))) ({ frames := 8, cells := 351, slots := 56939, locals := 186 } : Room) (cP D tk N0 sa [.ref mo, .int x1] sz (fun H => MI D tk sa P mo tt bb eT eB oT oB pk ca rf vs kn n9 th H)) (kQr (fun r H => ∃ th1, MI D tk sa P mo tt bb eT eB oT oB pk ca rf vs kn n9 th1 H) (P)) (351) (56939) (P) := by
  refine mStart RX5 rfl (by decide +kernel) (Nat.le_of_ble_eq_true rfl) ?_
  intro p e s m args below meth c E hr hlk hnm hsz hC hF ls hl
  subst hsz
  obtain ⟨hx, hb, -⟩ := id E
  have hA : ∀ q, (P) q → N0 ≤ q := hPN
  have hn : ∀ q, s.heap.size ≤ q → (P) q := hPs
  have hS : va_S (P) s.heap s.heap [] := va_S.rf
  have hl : lv_has ls 2 [(0, .ref mo), (1, .int x1)] := hl
  have hM : MI D tk sa P mo tt bb eT eB oT oB pk ca rf vs kn n9 th s.heap := hF
  obtain ⟨ra, rl, ex, ro, rt, fo, fj, fk, fe, fr, fw, ⟨hPm, hPa, hPl, hPe, hPr, hPk⟩, hFk, hFe, hFr, hpk, hn9⟩ := hM
  have g_fo := hPm
  have g_fj := hPa
  refine lv_aload_n (pc := 0) hx hb dX5_terms_0 rfl (lv_at hl 0 rfl) ?_
  refine lv_iload_n (pc := 1) hx hb dX5_terms_1 rfl (lv_at hl 1 rfl) ?_
  refine k_i (pc := 2) (k_S E hC hS hA hl.1 (c_X5_isNo l D tk N0 sa s.heap.size x1 ) kw_1245 kw_1246 kw_5 kw_1247 (n := 1) (by decide +kernel) rfl ⟨⟨rfl, rfl⟩, ⟨Nat.le_of_ble_eq_true rfl, Nat.le_of_ble_eq_true rfl⟩, (by dsimp only; omega), (by dsimp only; omega)⟩ rfl (Nat.le_of_ble_eq_true rfl) trivial dX5_terms_2) hS (fun q z w => absurd w (Nat.not_le.mpr z)) hn (fun r_1 H locs hR hz hk hS => ?_)
  have er_1 := hR
  have fw := fw.new hk
  have fo := fo.kept (hk _ fo.lt (Nat.not_le.mpr fo.lt))
  have fj := fj.kept (hk _ fj.lt (Nat.not_le.mpr fj.lt))
  have fk := fk.new hk
  have fe := fe.kept (hk _ fe.lt (Nat.not_le.mpr fe.lt))
  have fr := fr.kept (hk _ fr.lt (Nat.not_le.mpr fr.lt))
  refine lv_iconst (pc := 5) (v := 0) hx hb dX5_terms_5 (by decide) ?_
  have hZ0_ := hS.1
  have t_fo := fo.lt
  have t_fj := fj.lt
  have t_fk := fun k (hk9 : k < 6) => (fk k hk9).lt
  have t_fe := fe.lt
  have t_fr := fr.lt
  refine k_i (pc := 6) (k_V E hC hS hA hl.1 (c1.recv hC fo rfl) rfl (c_X5_fails l D tk N0 sa H.size P hPN (fun q h9 => hPs q (Nat.le_trans hS.1 h9)) mo n9 kn th tt bb eT eB oT oB pk ca rf vs r_1 0 ) kw_1251 kw_1253 kp_20 kw_5 kw_1254 (n := 2) (by decide +kernel) rfl ⟨⟨rfl, rfl⟩, ⟨Nat.le_of_ble_eq_true rfl, Nat.le_of_ble_eq_true rfl⟩, (by dsimp only; omega), (by dsimp only; omega)⟩ rfl (Nat.le_of_ble_eq_true rfl) ⟨_, _, _, _, _, fo, fj, fk, fe, fr, fw, ⟨hPm, hPa, hPl, hPe, hPr, hPk⟩, hFk, hFe, hFr, hpk, hn9⟩ dX5_terms_6) hS (fun q _ h => h) hn (fun r_3 H locs hR hz hk hS => ?_)
  obtain ⟨er_3, hM⟩ := hR
  obtain ⟨ra, rl, ex, ro, rt, fo, fj, fk, fe, fr, fw, ⟨hPm, hPa, hPl, hPe, hPr, hPk⟩, hFk, hFe, hFr, hpk, hn9⟩ := hM
  have g_fo := hPm
  have g_fj := hPa
  refine lv_if_eq (pc := 9) (tgt := 17) hx hb dX5_terms_9 (by decide) (fun c_4 => ?_) (fun c_4 => ?_)
  · refine lv_aload_n (pc := 17) hx hb dX5_terms_17 rfl (lv_at hl 0 rfl) ?_
    refine r_get (pc := 18) E hC fo 0 (v := .ref ra) rfl rfl (by decide) uX5 (List.mem_cons_of_mem _ kw_1209) (fun _ h => h) dX5_terms_18 ?_
    refine lv_iload_n (pc := 21) hx hb dX5_terms_21 rfl (lv_at hl 1 rfl) ?_
    obtain ⟨hx_5, hk_5⟩ := m_noN (er_1.symm.trans (m_fl0 (er_3.symm.trans c_4)).1)
    refine r_aaldJ (pc := 22) E hC fj (nn x1) hx_5 hk_5 (by decide) rfl dX5_terms_22 ?_
    have fL6 := fk (nn x1) hk_5
    have mF_fL6 := hFk (nn x1) hk_5
    have Pq_fL6 := hPk (nn x1) hk_5
    have hZ0_ := hS.1
    have t_fo := fo.lt
    have t_fj := fj.lt
    have t_fk := fun k (hk9 : k < 6) => (fk k hk9).lt
    have t_fe := fe.lt
    have t_fr := fr.lt
    have t_fL6 := fL6.lt
    refine k_r (pc := 23) (k_S E hC hS hA hl.1 (c_X5_termsOf l D tk N0 sa H.size (rt (nn x1)) (tt (nn x1)) (bb (nn x1)) mF_fL6) kw_1411 kw_1412 kw_5 kw_1413 (n := 1) (by decide +kernel) rfl ⟨⟨rfl, rfl⟩, ⟨Nat.le_of_ble_eq_true rfl, Nat.le_of_ble_eq_true rfl⟩, (by dsimp only; omega), (by dsimp only; omega)⟩ rfl (Nat.le_of_ble_eq_true rfl) fL6 dX5_terms_23) hS (fun q z w => absurd w (Nat.not_le.mpr z)) hn (fun r_7 H locs hR hz hk hS => ?_)
    have fw := fw.new hk
    have fo := fo.kept (hk _ fo.lt (Nat.not_le.mpr fo.lt))
    have fj := fj.kept (hk _ fj.lt (Nat.not_le.mpr fj.lt))
    have fk := fk.new hk
    have fe := fe.kept (hk _ fe.lt (Nat.not_le.mpr fe.lt))
    have fr := fr.kept (hk _ fr.lt (Nat.not_le.mpr fr.lt))
    have fL6 := fL6.kept (hk _ fL6.lt (Nat.not_le.mpr fL6.lt))
    obtain ⟨nl8, bb8, cap8, ff8, ww8, md8, zr9_, zb9_, fl8, fR8, el8, hPT8, hln8, hlm8, hlc8, hlp8, ⟨hTL8, hTA8⟩, gg8, hEU8⟩ := hR
    have hcb8 := m_acB hlp8
    have s_fl8 : s.heap.size ≤ r_7 := Nat.le_trans hZ0_ zr9_
    have g_fl8 := hn _ s_fl8
    have l_fo_fl8 : mo < r_7 := Nat.lt_of_lt_of_le t_fo zr9_
    have l_fj_fl8 : ra < r_7 := Nat.lt_of_lt_of_le t_fj zr9_
    have nW_fl8 : ∀ k, k < 6 → rt k ≠ r_7 := fun k hk9 => Nat.ne_of_lt (Nat.lt_of_lt_of_le (t_fk k hk9) zr9_)
    have l_fe_fl8 : ex < r_7 := Nat.lt_of_lt_of_le t_fe zr9_
    have l_fr_fl8 : ro < r_7 := Nat.lt_of_lt_of_le t_fr zr9_
    have l_fL6_fl8 : rt (nn x1) < r_7 := Nat.lt_of_lt_of_le t_fL6 zr9_
    have s_fR8 : s.heap.size ≤ bb8 := Nat.le_trans hZ0_ zb9_
    have g_fR8 := hn _ s_fR8
    have l_fo_fR8 : mo < bb8 := Nat.lt_of_lt_of_le t_fo zb9_
    have l_fj_fR8 : ra < bb8 := Nat.lt_of_lt_of_le t_fj zb9_
    have nW_fR8 : ∀ k, k < 6 → rt k ≠ bb8 := fun k hk9 => Nat.ne_of_lt (Nat.lt_of_lt_of_le (t_fk k hk9) zb9_)
    have l_fe_fR8 : ex < bb8 := Nat.lt_of_lt_of_le t_fe zb9_
    have l_fr_fR8 : ro < bb8 := Nat.lt_of_lt_of_le t_fr zb9_
    have l_fL6_fR8 : rt (nn x1) < bb8 := Nat.lt_of_lt_of_le t_fL6 zb9_
    have hZ0_ := hS.1
    have t_fo := fo.lt
    have t_fj := fj.lt
    have t_fk := fun k (hk9 : k < 6) => (fk k hk9).lt
    have t_fe := fe.lt
    have t_fr := fr.lt
    have t_fL6 := fL6.lt
    have t_fR8 := fR8.lt
    have t_fl8 := fl8.lt
    refine k_r (pc := 26) (k_S E hC hS hA hl.1 (c_X5_told l D tk N0 sa H.size r_7 bb8 nl8 cap8 md8 ff8 ww8 (by omega) (by omega) (by omega) hPT8.pv) kw_1483 kw_1484 kw_5 kw_1485 (n := 1) (by decide +kernel) rfl ⟨⟨rfl, rfl⟩, ⟨Nat.le_of_ble_eq_true rfl, Nat.le_of_ble_eq_true rfl⟩, (by dsimp only; omega), (by dsimp only; omega)⟩ rfl (Nat.le_of_ble_eq_true rfl) ⟨fl8, fR8, el8⟩ dX5_terms_26) hS (fun q z w => absurd w (Nat.not_le.mpr z)) hn (fun r_9 H locs hR hz hk hS => ?_)
    have fw := fw.new hk
    have fo := fo.kept (hk _ fo.lt (Nat.not_le.mpr fo.lt))
    have fj := fj.kept (hk _ fj.lt (Nat.not_le.mpr fj.lt))
    have fk := fk.new hk
    have fe := fe.kept (hk _ fe.lt (Nat.not_le.mpr fe.lt))
    have fr := fr.kept (hk _ fr.lt (Nat.not_le.mpr fr.lt))
    have fL6 := fL6.kept (hk _ fL6.lt (Nat.not_le.mpr fL6.lt))
    have fR8 := fR8.kept (hk _ fR8.lt (Nat.not_le.mpr fR8.lt))
    have fl8 := fl8.kept (hk _ fl8.lt (Nat.not_le.mpr fl8.lt))
    have el8 := el8.new hk
    obtain ⟨n_f10, hn_f10, f10⟩ := hR
    refine r_aret (pc := 29) E hr (Or.inl ⟨_, rfl⟩) hlk hS (by omega) (by omega) ?_ dX5_terms_29
    exact ⟨_, ⟨_, _, _, _, _, fo, fj, fk, fe, fr, fw, ⟨hPm, hPa, hPl, hPe, hPr, hPk⟩, hFk, hFe, hFr, hpk, hn9⟩⟩
  · refine va_ldcS (pc := 12) hx hb E.2.2.2.1 (hC.2.2.2.2.1 6 _ rfl).1 dX5_terms_12 ?_
    have k11 : SX D tk (sa (10 + 6)) 0 H := hC.str hS hA 6 _ rfl (by decide)
    refine lv_goto (pc := 14) (tgt := 29) hx hb dX5_terms_14 (by decide) ?_
    refine r_aret (pc := 29) E hr (Or.inl ⟨_, rfl⟩) hlk hS (by omega) (by omega) ?_ dX5_terms_29
    exact ⟨_, ⟨_, _, _, _, _, fo, fj, fk, fe, fr, fw, ⟨hPm, hPa, hPl, hPe, hPr, hPk⟩, hFk, hFe, hFr, hpk, hn9⟩⟩
set_option maxHeartbeats 4000000 in
set_option maxRecDepth 100000 in
/-- BestratiosModel.term(II)I -/
theorem c_X5_term (l : Launch) (D : va_G) (tk : Nat → ClassId) (N0 : Nat) (sa : Nat → Nat)  (sz : Nat) (P : Nat → Prop) (hPN : ∀ q, P q → N0 ≤ q) (hPs : ∀ q, sz ≤ q → P q) (mo n9 : Nat) (kn th : Int32) (tt bb : Nat → Int64) (eT eB oT oB : Int64) (pk : Nat) (ca rf : Int32) (vs : Nat → Value) (x1 : Int32) (x2 : Int32) : Met l yX5_term (wsy yX5_term cX5_term 4 (some .int)) ({ frames := 8, cells := 49, slots := 175, locals := 186 } : Room) (cP D tk N0 sa [.ref mo, .int x1, .int x2] sz (fun H => MI D tk sa P mo tt bb eT eB oT oB pk ca rf vs kn n9 th H)) (kQi (fun r H => ∃ th1, MI D tk sa P mo tt bb eT eB oT oB pk ca rf vs kn n9 th1 H ∧ QU (m_isNo x1) (m_lt0 x2) (m_TM (tt (nn x1)) (bb (nn x1)) x2) r th1) (P)) (49) (175) (P) := by
  refine mStart RX5 rfl (by decide +kernel) (Nat.le_of_ble_eq_true rfl) ?_
  intro p e s m args below meth c E hr hlk hnm hsz hC hF ls hl
  subst hsz
  obtain ⟨hx, hb, -⟩ := id E
  have hA : ∀ q, (P) q → N0 ≤ q := hPN
  have hn : ∀ q, s.heap.size ≤ q → (P) q := hPs
  have hS : va_S (P) s.heap s.heap [] := va_S.rf
  have hl : lv_has ls 4 [(0, .ref mo), (1, .int x1), (2, .int x2)] := hl
  have hM : MI D tk sa P mo tt bb eT eB oT oB pk ca rf vs kn n9 th s.heap := hF
  obtain ⟨ra, rl, ex, ro, rt, fo, fj, fk, fe, fr, fw, ⟨hPm, hPa, hPl, hPe, hPr, hPk⟩, hFk, hFe, hFr, hpk, hn9⟩ := hM
  have g_fo := hPm
  have g_fj := hPa
  refine lv_aload_n (pc := 0) hx hb dX5_term_0 rfl (lv_at hl 0 rfl) ?_
  refine lv_iload_n (pc := 1) hx hb dX5_term_1 rfl (lv_at hl 1 rfl) ?_
  refine k_i (pc := 2) (k_S E hC hS hA hl.1 (c_X5_isNo l D tk N0 sa s.heap.size x1 ) kw_1245 kw_1246 kw_5 kw_1247 (n := 1) (by decide +kernel) rfl ⟨⟨rfl, rfl⟩, ⟨Nat.le_of_ble_eq_true rfl, Nat.le_of_ble_eq_true rfl⟩, (by dsimp only; omega), (by dsimp only; omega)⟩ rfl (Nat.le_of_ble_eq_true rfl) trivial dX5_term_2) hS (fun q z w => absurd w (Nat.not_le.mpr z)) hn (fun r_1 H locs hR hz hk hS => ?_)
  have er_1 := hR
  have fw := fw.new hk
  have fo := fo.kept (hk _ fo.lt (Nat.not_le.mpr fo.lt))
  have fj := fj.kept (hk _ fj.lt (Nat.not_le.mpr fj.lt))
  have fk := fk.new hk
  have fe := fe.kept (hk _ fe.lt (Nat.not_le.mpr fe.lt))
  have fr := fr.kept (hk _ fr.lt (Nat.not_le.mpr fr.lt))
  refine lv_iload_n (pc := 5) hx hb dX5_term_5 rfl (lv_at hl 2 rfl) ?_
  refine lv_if_ge (pc := 6) (tgt := 13) hx hb dX5_term_6 (by decide) (fun c_3 => ?_) (fun c_3 => ?_)
  · refine lv_iconst (pc := 13) (v := 0) hx hb dX5_term_13 (by decide) ?_
    have hZ0_ := hS.1
    have t_fo := fo.lt
    have t_fj := fj.lt
    have t_fk := fun k (hk9 : k < 6) => (fk k hk9).lt
    have t_fe := fe.lt
    have t_fr := fr.lt
    refine k_i (pc := 14) (k_V E hC hS hA hl.1 (c1.recv hC fo rfl) rfl (c_X5_fails l D tk N0 sa H.size P hPN (fun q h9 => hPs q (Nat.le_trans hS.1 h9)) mo n9 kn th tt bb eT eB oT oB pk ca rf vs r_1 0 ) kw_1251 kw_1253 kp_20 kw_5 kw_1254 (n := 2) (by decide +kernel) rfl ⟨⟨rfl, rfl⟩, ⟨Nat.le_of_ble_eq_true rfl, Nat.le_of_ble_eq_true rfl⟩, (by dsimp only; omega), (by dsimp only; omega)⟩ rfl (Nat.le_of_ble_eq_true rfl) ⟨_, _, _, _, _, fo, fj, fk, fe, fr, fw, ⟨hPm, hPa, hPl, hPe, hPr, hPk⟩, hFk, hFe, hFr, hpk, hn9⟩ dX5_term_14) hS (fun q _ h => h) hn (fun r_4 H locs hR hz hk hS => ?_)
    obtain ⟨er_4, hM⟩ := hR
    obtain ⟨ra, rl, ex, ro, rt, fo, fj, fk, fe, fr, fw, ⟨hPm, hPa, hPl, hPe, hPr, hPk⟩, hFk, hFe, hFr, hpk, hn9⟩ := hM
    have g_fo := hPm
    have g_fj := hPa
    refine lv_if_eq (pc := 17) (tgt := 22) hx hb dX5_term_17 (by decide) (fun c_5 => ?_) (fun c_5 => ?_)
    · refine lv_aload_n (pc := 22) hx hb dX5_term_22 rfl (lv_at hl 0 rfl) ?_
      refine r_get (pc := 23) E hC fo 0 (v := .ref ra) rfl rfl (by decide) uX5 (List.mem_cons_of_mem _ kw_1209) (fun _ h => h) dX5_term_23 ?_
      refine lv_iload_n (pc := 26) hx hb dX5_term_26 rfl (lv_at hl 1 rfl) ?_
      obtain ⟨hx_6, hk_6⟩ := m_noN (er_1.symm.trans (m_fl0 (er_4.symm.trans c_5)).1)
      refine r_aaldJ (pc := 27) E hC fj (nn x1) hx_6 hk_6 (by decide) rfl dX5_term_27 ?_
      have fL7 := fk (nn x1) hk_6
      have mF_fL7 := hFk (nn x1) hk_6
      have Pq_fL7 := hPk (nn x1) hk_6
      have hZ0_ := hS.1
      have t_fo := fo.lt
      have t_fj := fj.lt
      have t_fk := fun k (hk9 : k < 6) => (fk k hk9).lt
      have t_fe := fe.lt
      have t_fr := fr.lt
      have t_fL7 := fL7.lt
      refine k_r (pc := 28) (k_S E hC hS hA hl.1 (c_X5_termsOf l D tk N0 sa H.size (rt (nn x1)) (tt (nn x1)) (bb (nn x1)) mF_fL7) kw_1411 kw_1412 kw_5 kw_1413 (n := 1) (by decide +kernel) rfl ⟨⟨rfl, rfl⟩, ⟨Nat.le_of_ble_eq_true rfl, Nat.le_of_ble_eq_true rfl⟩, (by dsimp only; omega), (by dsimp only; omega)⟩ rfl (Nat.le_of_ble_eq_true rfl) fL7 dX5_term_28) hS (fun q z w => absurd w (Nat.not_le.mpr z)) hn (fun r_8 H locs hR hz hk hS => ?_)
      have fw := fw.new hk
      have fo := fo.kept (hk _ fo.lt (Nat.not_le.mpr fo.lt))
      have fj := fj.kept (hk _ fj.lt (Nat.not_le.mpr fj.lt))
      have fk := fk.new hk
      have fe := fe.kept (hk _ fe.lt (Nat.not_le.mpr fe.lt))
      have fr := fr.kept (hk _ fr.lt (Nat.not_le.mpr fr.lt))
      have fL7 := fL7.kept (hk _ fL7.lt (Nat.not_le.mpr fL7.lt))
      obtain ⟨nl9, bb9, cap9, ff9, ww9, md9, zr9_, zb9_, fl9, fR9, el9, hPT9, hln9, hlm9, hlc9, hlp9, ⟨hTL9, hTA9⟩, gg9, hEU9⟩ := hR
      have hcb9 := m_acB hlp9
      have s_fl9 : s.heap.size ≤ r_8 := Nat.le_trans hZ0_ zr9_
      have g_fl9 := hn _ s_fl9
      have l_fo_fl9 : mo < r_8 := Nat.lt_of_lt_of_le t_fo zr9_
      have l_fj_fl9 : ra < r_8 := Nat.lt_of_lt_of_le t_fj zr9_
      have nW_fl9 : ∀ k, k < 6 → rt k ≠ r_8 := fun k hk9 => Nat.ne_of_lt (Nat.lt_of_lt_of_le (t_fk k hk9) zr9_)
      have l_fe_fl9 : ex < r_8 := Nat.lt_of_lt_of_le t_fe zr9_
      have l_fr_fl9 : ro < r_8 := Nat.lt_of_lt_of_le t_fr zr9_
      have l_fL7_fl9 : rt (nn x1) < r_8 := Nat.lt_of_lt_of_le t_fL7 zr9_
      have s_fR9 : s.heap.size ≤ bb9 := Nat.le_trans hZ0_ zb9_
      have g_fR9 := hn _ s_fR9
      have l_fo_fR9 : mo < bb9 := Nat.lt_of_lt_of_le t_fo zb9_
      have l_fj_fR9 : ra < bb9 := Nat.lt_of_lt_of_le t_fj zb9_
      have nW_fR9 : ∀ k, k < 6 → rt k ≠ bb9 := fun k hk9 => Nat.ne_of_lt (Nat.lt_of_lt_of_le (t_fk k hk9) zb9_)
      have l_fe_fR9 : ex < bb9 := Nat.lt_of_lt_of_le t_fe zb9_
      have l_fr_fR9 : ro < bb9 := Nat.lt_of_lt_of_le t_fr zb9_
      have l_fL7_fR9 : rt (nn x1) < bb9 := Nat.lt_of_lt_of_le t_fL7 zb9_
      refine lv_astore_n (pc := 31) (lv' := [(3, .ref r_8), (0, .ref mo), (1, .int x1), (2, .int x2)]) hx hb dX5_term_31 rfl hl (by decide) rfl (fun ls hl => ?_)
      refine lv_iload_n (pc := 32) hx hb dX5_term_32 rfl (lv_at hl 3 rfl) ?_
      refine lv_aload_n (pc := 33) hx hb dX5_term_33 rfl (lv_at hl 0 rfl) ?_
      refine k_i (pc := 34) (k_V E hC hS hA hl.1 (c1.recv hC fl9 rfl) rfl (c_Jx4a65c_size_8abf5 l D tk N0 sa H.size r_8 bb9 nl9 md9) kw_1546 kw_1547 kw_1548 kw_8 kw_1549 (n := 0) (by decide +kernel) rfl ⟨⟨rfl, rfl⟩, ⟨Nat.le_of_ble_eq_true rfl, Nat.le_of_ble_eq_true rfl⟩, (by dsimp only; omega), (by dsimp only; omega)⟩ rfl (Nat.le_of_ble_eq_true rfl) fl9 dX5_term_34) hS (fun q z w => absurd w (Nat.not_le.mpr z)) hn (fun r_10 H locs hR hz hk hS => ?_)
      have fw := fw.new hk
      have fo := fo.kept (hk _ fo.lt (Nat.not_le.mpr fo.lt))
      have fj := fj.kept (hk _ fj.lt (Nat.not_le.mpr fj.lt))
      have fk := fk.new hk
      have fe := fe.kept (hk _ fe.lt (Nat.not_le.mpr fe.lt))
      have fr := fr.kept (hk _ fr.lt (Nat.not_le.mpr fr.lt))
      have fL7 := fL7.kept (hk _ fL7.lt (Nat.not_le.mpr fL7.lt))
      have fR9 := fR9.kept (hk _ fR9.lt (Nat.not_le.mpr fR9.lt))
      have fl9 := fl9.kept (hk _ fl9.lt (Nat.not_le.mpr fl9.lt))
      have el9 := el9.new hk
      rw [show r_10 = nI nl9 from hR]
      refine lv_icmp_ge (pc := 37) (tgt := 55) hx hb dX5_term_37 (by decide) (fun c_11 => ?_) (fun c_11 => ?_)
      · refine lv_bipush (pc := 55) (v := (-9)) hx hb dX5_term_55 (by decide) ?_
        refine r_iret (pc := 57) E hr hlk hS (by omega) (by omega) ?_ dX5_term_57
        exact ⟨_, ⟨_, _, _, _, _, fo, fj, fk, fe, fr, fw, ⟨hPm, hPa, hPl, hPe, hPr, hPk⟩, hFk, hFe, hFr, hpk, hn9⟩, QU.ok (by subst er_1 er_4; first | rfl | (simp [m_or, m_not, m_is0, m_lt0, m_fl, c_3, Int32.not_lt.mpr c_3, c_5, c_11, Int32.not_lt.mpr c_11]; done)) (by subst er_1 er_4; first | rfl | (simp [m_or, m_not, m_is0, m_lt0, m_fl, c_3, Int32.not_lt.mpr c_3, c_5, c_11, Int32.not_lt.mpr c_11]; done)) (er_4.symm.trans c_5) (by unfold m_TM; rw [← hTL9, if_pos c_11])⟩
      · refine lv_aload_n (pc := 40) hx hb dX5_term_40 rfl (lv_at hl 0 rfl) ?_
        refine lv_iload_n (pc := 41) hx hb dX5_term_41 rfl (lv_at hl 3 rfl) ?_
        obtain ⟨j9, hj1, hj2⟩ := m_ix c_3 c_11 (by omega)
        obtain ⟨qe12, hq12, he12⟩ := el9 j9 hj2
        obtain ⟨xe12, ev12, pv12⟩ := hPT9.pv j9 hj2
        rw [ev12] at he12
        refine k_r (pc := 42) (k_V E hC hS hA hl.1 (c1.recv hC fl9 rfl) rfl (c_Jx4a65c_get_915e3 l D tk N0 sa H.size r_8 bb9 nl9 cap9 j9 qe12 md9 x2 ff9 hj1 hj2 (by omega) (by omega) hq12) kw_1550 kw_1551 kw_1552 kw_8 kw_1553 (n := 1) (by decide +kernel) rfl ⟨⟨rfl, rfl⟩, ⟨Nat.le_of_ble_eq_true rfl, Nat.le_of_ble_eq_true rfl⟩, (by dsimp only; omega), (by dsimp only; omega)⟩ rfl (Nat.le_of_ble_eq_true rfl) ⟨fl9, fR9⟩ dX5_term_42) hS (fun q z w => absurd w (Nat.not_le.mpr z)) hn (fun r_13 H locs hR hz hk hS => ?_)
        have fw := fw.new hk
        have fo := fo.kept (hk _ fo.lt (Nat.not_le.mpr fo.lt))
        have fj := fj.kept (hk _ fj.lt (Nat.not_le.mpr fj.lt))
        have fk := fk.new hk
        have fe := fe.kept (hk _ fe.lt (Nat.not_le.mpr fe.lt))
        have fr := fr.kept (hk _ fr.lt (Nat.not_le.mpr fr.lt))
        have fL7 := fL7.kept (hk _ fL7.lt (Nat.not_le.mpr fL7.lt))
        have fR9 := fR9.kept (hk _ fR9.lt (Nat.not_le.mpr fR9.lt))
        have fl9 := fl9.kept (hk _ fl9.lt (Nat.not_le.mpr fl9.lt))
        have el9 := el9.new hk
        have he12 := he12.kept (hk _ he12.lt (Nat.not_le.mpr he12.lt))
        rw [show r_13 = qe12 from hR]
        refine r_castO (pc := 45) E hC he12 rfl kw_1532 dX5_term_45 ?_
        refine k_l (pc := 48) (k_V E hC hS hA hl.1 (xf.recv hC he12 rfl) rfl (c_J13_longValue_f9912 l D tk N0 sa H.size qe12 xe12) kw_1533 kw_1534 kw_1535 kw_17 kw_1536 (n := 0) (by decide +kernel) rfl ⟨⟨rfl, rfl⟩, ⟨Nat.le_of_ble_eq_true rfl, Nat.le_of_ble_eq_true rfl⟩, (by dsimp only; omega), (by dsimp only; omega)⟩ rfl (Nat.le_of_ble_eq_true rfl) he12 dX5_term_48) hS (fun q z w => absurd w (Nat.not_le.mpr z)) hn (fun r_14 H locs hR hz hk hS => ?_)
        have fw := fw.new hk
        have fo := fo.kept (hk _ fo.lt (Nat.not_le.mpr fo.lt))
        have fj := fj.kept (hk _ fj.lt (Nat.not_le.mpr fj.lt))
        have fk := fk.new hk
        have fe := fe.kept (hk _ fe.lt (Nat.not_le.mpr fe.lt))
        have fr := fr.kept (hk _ fr.lt (Nat.not_le.mpr fr.lt))
        have fL7 := fL7.kept (hk _ fL7.lt (Nat.not_le.mpr fL7.lt))
        have fR9 := fR9.kept (hk _ fR9.lt (Nat.not_le.mpr fR9.lt))
        have fl9 := fl9.kept (hk _ fl9.lt (Nat.not_le.mpr fl9.lt))
        have el9 := el9.new hk
        have he12 := he12.kept (hk _ he12.lt (Nat.not_le.mpr he12.lt))
        have er_14 : r_14 = xe12 := hR
        refine lv_l2i (pc := 51) (v := r_14.toInt32) hx hb dX5_term_51 rfl ?_
        refine lv_goto (pc := 52) (tgt := 57) hx hb dX5_term_52 (by decide) ?_
        refine r_iret (pc := 57) E hr hlk hS (by omega) (by omega) ?_ dX5_term_57
        exact ⟨_, ⟨_, _, _, _, _, fo, fj, fk, fe, fr, fw, ⟨hPm, hPa, hPl, hPe, hPr, hPk⟩, hFk, hFe, hFr, hpk, hn9⟩, QU.ok (by subst er_1 er_4 er_14; first | rfl | (simp [m_or, m_not, m_is0, m_lt0, m_fl, c_3, Int32.not_lt.mpr c_3, c_5, c_11, Int32.not_le.mp c_11]; done)) (by subst er_1 er_4 er_14; first | rfl | (simp [m_or, m_not, m_is0, m_lt0, m_fl, c_3, Int32.not_lt.mpr c_3, c_5, c_11, Int32.not_le.mp c_11]; done)) (er_4.symm.trans c_5) (by unfold m_TM; rw [← hTL9, if_neg c_11, er_14, m_lgI ev12 (hTA9 j9 hj2), show nn x2 = j9 from by rw [hj1]; exact nI_clamp (by omega)])⟩
    · refine lv_iconst (pc := 20) (v := 0) hx hb dX5_term_20 (by decide) ?_
      refine r_iret (pc := 21) E hr hlk hS (by omega) (by omega) ?_ dX5_term_21
      exact ⟨_, ⟨_, _, _, _, _, fo, fj, fk, fe, fr, fw, ⟨hPm, hPa, hPl, hPe, hPr, hPk⟩, hFk, hFe, hFr, hpk, hn9⟩, QU.fail (by subst er_1 er_4; first | rfl | (simp [m_or, m_not, m_is0, m_lt0, m_fl, c_3, Int32.not_lt.mpr c_3, c_5]; done)) (by subst er_1 er_4; first | rfl | (simp [m_or, m_not, m_is0, m_lt0, m_fl, c_3, Int32.not_lt.mpr c_3, c_5]; done)) (fun z9 => c_5 (er_4.trans z9))⟩
  · refine lv_iconst (pc := 9) (v := 1) hx hb dX5_term_9 (by decide) ?_
    refine lv_goto (pc := 10) (tgt := 14) hx hb dX5_term_10 (by decide) ?_
    have hZ0_ := hS.1
    have t_fo := fo.lt
    have t_fj := fj.lt
    have t_fk := fun k (hk9 : k < 6) => (fk k hk9).lt
    have t_fe := fe.lt
    have t_fr := fr.lt
    refine k_i (pc := 14) (k_V E hC hS hA hl.1 (c1.recv hC fo rfl) rfl (c_X5_fails l D tk N0 sa H.size P hPN (fun q h9 => hPs q (Nat.le_trans hS.1 h9)) mo n9 kn th tt bb eT eB oT oB pk ca rf vs r_1 1 ) kw_1251 kw_1253 kp_20 kw_5 kw_1254 (n := 2) (by decide +kernel) rfl ⟨⟨rfl, rfl⟩, ⟨Nat.le_of_ble_eq_true rfl, Nat.le_of_ble_eq_true rfl⟩, (by dsimp only; omega), (by dsimp only; omega)⟩ rfl (Nat.le_of_ble_eq_true rfl) ⟨_, _, _, _, _, fo, fj, fk, fe, fr, fw, ⟨hPm, hPa, hPl, hPe, hPr, hPk⟩, hFk, hFe, hFr, hpk, hn9⟩ dX5_term_14) hS (fun q _ h => h) hn (fun r_15 H locs hR hz hk hS => ?_)
    obtain ⟨er_15, hM⟩ := hR
    obtain ⟨ra, rl, ex, ro, rt, fo, fj, fk, fe, fr, fw, ⟨hPm, hPa, hPl, hPe, hPr, hPk⟩, hFk, hFe, hFr, hpk, hn9⟩ := hM
    have g_fo := hPm
    have g_fj := hPa
    have ef_r_15 : r_15 = 1 := er_15.trans (m_fl1 _)
    rw [ef_r_15]
    refine lv_if_eq (pc := 17) (tgt := 22) hx hb dX5_term_17 (by decide) (fun c_16 => ?_) (fun c_16 => ?_)
    · exact absurd c_16 (by decide)
    refine lv_iconst (pc := 20) (v := 0) hx hb dX5_term_20 (by decide) ?_
    refine r_iret (pc := 21) E hr hlk hS (by omega) (by omega) ?_ dX5_term_21
    exact ⟨_, ⟨_, _, _, _, _, fo, fj, fk, fe, fr, fw, ⟨hPm, hPa, hPl, hPe, hPr, hPk⟩, hFk, hFe, hFr, hpk, hn9⟩, QU.fail (by subst er_1; first | rfl | (simp [m_or, m_not, m_is0, m_lt0, m_fl, c_3, Int32.not_le.mp c_3]; done)) (by subst er_1; first | rfl | (simp [m_or, m_not, m_is0, m_lt0, m_fl, c_3, Int32.not_le.mp c_3]; done)) (fun z9 => absurd (ef_r_15.symm.trans (er_15.trans z9)) (by decide))⟩
set_option maxHeartbeats 4000000 in
set_option maxRecDepth 100000 in
/-- BestratiosModel.convergent(III)I -/
theorem c_X5_convergent (l : Launch) (D : va_G) (tk : Nat → ClassId) (N0 : Nat) (sa : Nat → Nat)  (sz : Nat) (P : Nat → Prop) (hPN : ∀ q, P q → N0 ≤ q) (hPs : ∀ q, sz ≤ q → P q) (mo n9 : Nat) (kn th : Int32) (tt bb : Nat → Int64) (eT eB oT oB : Int64) (pk : Nat) (ca rf : Int32) (vs : Nat → Value) (x1 : Int32) (x2 : Int32) (x3 : Int32) : Met l yX5_convergent (wsy yX5_convergent cX5_convergent 5 (some .int)) ({ frames := 8, cells := 50, slots := 177, locals := 186 } : Room) (cP D tk N0 sa [.ref mo, .int x1, .int x2, .int x3] sz (fun H => MI D tk sa P mo tt bb eT eB oT oB pk ca rf vs kn n9 th H)) (kQi (fun r H => ∃ th1 tt1 bb1 rf1, MI D tk sa P mo tt1 bb1 eT eB oT oB pk ca rf1 vs kn n9 th1 H ∧ AC (m_areNo x1 x2) (m_lt0 x3) tt bb rf (nn x1) (m_CV (tt (nn x2)) (bb (nn x2)) x3) r th1 tt1 bb1 rf1) (P)) (50) (177) (P) := by
  refine mStart RX5 rfl (by decide +kernel) (Nat.le_of_ble_eq_true rfl) ?_
  intro p e s m args below meth c E hr hlk hnm hsz hC hF ls hl
  subst hsz
  obtain ⟨hx, hb, -⟩ := id E
  have hA : ∀ q, (P) q → N0 ≤ q := hPN
  have hn : ∀ q, s.heap.size ≤ q → (P) q := hPs
  have hS : va_S (P) s.heap s.heap [] := va_S.rf
  have hl : lv_has ls 5 [(0, .ref mo), (1, .int x1), (2, .int x2), (3, .int x3)] := hl
  have hM : MI D tk sa P mo tt bb eT eB oT oB pk ca rf vs kn n9 th s.heap := hF
  obtain ⟨ra, rl, ex, ro, rt, fo, fj, fk, fe, fr, fw, ⟨hPm, hPa, hPl, hPe, hPr, hPk⟩, hFk, hFe, hFr, hpk, hn9⟩ := hM
  have g_fo := hPm
  have g_fj := hPa
  refine lv_aload_n (pc := 0) hx hb dX5_convergent_0 rfl (lv_at hl 0 rfl) ?_
  refine lv_iload_n (pc := 1) hx hb dX5_convergent_1 rfl (lv_at hl 1 rfl) ?_
  refine lv_iload_n (pc := 2) hx hb dX5_convergent_2 rfl (lv_at hl 2 rfl) ?_
  refine k_i (pc := 3) (k_S E hC hS hA hl.1 (c_X5_areNo l D tk N0 sa s.heap.size x1 x2 ) kw_1286 kw_1287 kw_5 kw_1288 (n := 2) (by decide +kernel) rfl ⟨⟨rfl, rfl⟩, ⟨Nat.le_of_ble_eq_true rfl, Nat.le_of_ble_eq_true rfl⟩, (by dsimp only; omega), (by dsimp only; omega)⟩ rfl (Nat.le_of_ble_eq_true rfl) trivial dX5_convergent_3) hS (fun q z w => absurd w (Nat.not_le.mpr z)) hn (fun r_1 H locs hR hz hk hS => ?_)
  have er_1 := hR
  have fw := fw.new hk
  have fo := fo.kept (hk _ fo.lt (Nat.not_le.mpr fo.lt))
  have fj := fj.kept (hk _ fj.lt (Nat.not_le.mpr fj.lt))
  have fk := fk.new hk
  have fe := fe.kept (hk _ fe.lt (Nat.not_le.mpr fe.lt))
  have fr := fr.kept (hk _ fr.lt (Nat.not_le.mpr fr.lt))
  refine lv_iload_n (pc := 6) hx hb dX5_convergent_6 rfl (lv_at hl 3 rfl) ?_
  refine lv_if_ge (pc := 7) (tgt := 14) hx hb dX5_convergent_7 (by decide) (fun c_3 => ?_) (fun c_3 => ?_)
  · refine lv_iconst (pc := 14) (v := 0) hx hb dX5_convergent_14 (by decide) ?_
    have hZ0_ := hS.1
    have t_fo := fo.lt
    have t_fj := fj.lt
    have t_fk := fun k (hk9 : k < 6) => (fk k hk9).lt
    have t_fe := fe.lt
    have t_fr := fr.lt
    refine k_i (pc := 15) (k_V E hC hS hA hl.1 (c1.recv hC fo rfl) rfl (c_X5_fails l D tk N0 sa H.size P hPN (fun q h9 => hPs q (Nat.le_trans hS.1 h9)) mo n9 kn th tt bb eT eB oT oB pk ca rf vs r_1 0 ) kw_1251 kw_1253 kp_20 kw_5 kw_1254 (n := 2) (by decide +kernel) rfl ⟨⟨rfl, rfl⟩, ⟨Nat.le_of_ble_eq_true rfl, Nat.le_of_ble_eq_true rfl⟩, (by dsimp only; omega), (by dsimp only; omega)⟩ rfl (Nat.le_of_ble_eq_true rfl) ⟨_, _, _, _, _, fo, fj, fk, fe, fr, fw, ⟨hPm, hPa, hPl, hPe, hPr, hPk⟩, hFk, hFe, hFr, hpk, hn9⟩ dX5_convergent_15) hS (fun q _ h => h) hn (fun r_4 H locs hR hz hk hS => ?_)
    obtain ⟨er_4, hM⟩ := hR
    obtain ⟨ra, rl, ex, ro, rt, fo, fj, fk, fe, fr, fw, ⟨hPm, hPa, hPl, hPe, hPr, hPk⟩, hFk, hFe, hFr, hpk, hn9⟩ := hM
    have g_fo := hPm
    have g_fj := hPa
    refine lv_if_eq (pc := 18) (tgt := 23) hx hb dX5_convergent_18 (by decide) (fun c_5 => ?_) (fun c_5 => ?_)
    · refine lv_aload_n (pc := 23) hx hb dX5_convergent_23 rfl (lv_at hl 0 rfl) ?_
      refine r_get (pc := 24) E hC fo 0 (v := .ref ra) rfl rfl (by decide) uX5 (List.mem_cons_of_mem _ kw_1209) (fun _ h => h) dX5_convergent_24 ?_
      refine lv_iload_n (pc := 27) hx hb dX5_convergent_27 rfl (lv_at hl 2 rfl) ?_
      obtain ⟨hx_6, hk_6⟩ := m_noN (m_ano (er_1.symm.trans (m_fl0 (er_4.symm.trans c_5)).1)).2
      refine r_aaldJ (pc := 28) E hC fj (nn x2) hx_6 hk_6 (by decide) rfl dX5_convergent_28 ?_
      have fL7 := fk (nn x2) hk_6
      have mF_fL7 := hFk (nn x2) hk_6
      have Pq_fL7 := hPk (nn x2) hk_6
      have hZ0_ := hS.1
      have t_fo := fo.lt
      have t_fj := fj.lt
      have t_fk := fun k (hk9 : k < 6) => (fk k hk9).lt
      have t_fe := fe.lt
      have t_fr := fr.lt
      have t_fL7 := fL7.lt
      refine k_r (pc := 29) (k_S E hC hS hA hl.1 (c_X5_termsOf l D tk N0 sa H.size (rt (nn x2)) (tt (nn x2)) (bb (nn x2)) mF_fL7) kw_1411 kw_1412 kw_5 kw_1413 (n := 1) (by decide +kernel) rfl ⟨⟨rfl, rfl⟩, ⟨Nat.le_of_ble_eq_true rfl, Nat.le_of_ble_eq_true rfl⟩, (by dsimp only; omega), (by dsimp only; omega)⟩ rfl (Nat.le_of_ble_eq_true rfl) fL7 dX5_convergent_29) hS (fun q z w => absurd w (Nat.not_le.mpr z)) hn (fun r_8 H locs hR hz hk hS => ?_)
      have fw := fw.new hk
      have fo := fo.kept (hk _ fo.lt (Nat.not_le.mpr fo.lt))
      have fj := fj.kept (hk _ fj.lt (Nat.not_le.mpr fj.lt))
      have fk := fk.new hk
      have fe := fe.kept (hk _ fe.lt (Nat.not_le.mpr fe.lt))
      have fr := fr.kept (hk _ fr.lt (Nat.not_le.mpr fr.lt))
      have fL7 := fL7.kept (hk _ fL7.lt (Nat.not_le.mpr fL7.lt))
      obtain ⟨nl9, bb9, cap9, ff9, ww9, md9, zr9_, zb9_, fl9, fR9, el9, hPT9, hln9, hlm9, hlc9, hlp9, ⟨hTL9, hTA9⟩, gg9, hEU9⟩ := hR
      have hcb9 := m_acB hlp9
      have s_fl9 : s.heap.size ≤ r_8 := Nat.le_trans hZ0_ zr9_
      have g_fl9 := hn _ s_fl9
      have l_fo_fl9 : mo < r_8 := Nat.lt_of_lt_of_le t_fo zr9_
      have l_fj_fl9 : ra < r_8 := Nat.lt_of_lt_of_le t_fj zr9_
      have nW_fl9 : ∀ k, k < 6 → rt k ≠ r_8 := fun k hk9 => Nat.ne_of_lt (Nat.lt_of_lt_of_le (t_fk k hk9) zr9_)
      have l_fe_fl9 : ex < r_8 := Nat.lt_of_lt_of_le t_fe zr9_
      have l_fr_fl9 : ro < r_8 := Nat.lt_of_lt_of_le t_fr zr9_
      have l_fL7_fl9 : rt (nn x2) < r_8 := Nat.lt_of_lt_of_le t_fL7 zr9_
      have s_fR9 : s.heap.size ≤ bb9 := Nat.le_trans hZ0_ zb9_
      have g_fR9 := hn _ s_fR9
      have l_fo_fR9 : mo < bb9 := Nat.lt_of_lt_of_le t_fo zb9_
      have l_fj_fR9 : ra < bb9 := Nat.lt_of_lt_of_le t_fj zb9_
      have nW_fR9 : ∀ k, k < 6 → rt k ≠ bb9 := fun k hk9 => Nat.ne_of_lt (Nat.lt_of_lt_of_le (t_fk k hk9) zb9_)
      have l_fe_fR9 : ex < bb9 := Nat.lt_of_lt_of_le t_fe zb9_
      have l_fr_fR9 : ro < bb9 := Nat.lt_of_lt_of_le t_fr zb9_
      have l_fL7_fR9 : rt (nn x2) < bb9 := Nat.lt_of_lt_of_le t_fL7 zb9_
      refine lv_astore (pc := 32) (lv' := [(4, .ref r_8), (0, .ref mo), (1, .int x1), (2, .int x2), (3, .int x3)]) hx hb dX5_convergent_32 hl (by decide) rfl (fun ls hl => ?_)
      refine lv_aload_n (pc := 34) hx hb dX5_convergent_34 rfl (lv_at hl 1 rfl) ?_
      refine lv_iload_n (pc := 35) hx hb dX5_convergent_35 rfl (lv_at hl 2 rfl) ?_
      refine lv_iload_n (pc := 36) hx hb dX5_convergent_36 rfl (lv_at hl 4 rfl) ?_
      refine lv_aload (pc := 37) hx hb dX5_convergent_37 (lv_at hl 0 rfl) ?_
      refine k_i (pc := 39) (k_V E hC hS hA hl.1 (c1.recv hC fl9 rfl) rfl (c_Jx4a65c_size_8abf5 l D tk N0 sa H.size r_8 bb9 nl9 md9) kw_1546 kw_1547 kw_1548 kw_8 kw_1549 (n := 0) (by decide +kernel) rfl ⟨⟨rfl, rfl⟩, ⟨Nat.le_of_ble_eq_true rfl, Nat.le_of_ble_eq_true rfl⟩, (by dsimp only; omega), (by dsimp only; omega)⟩ rfl (Nat.le_of_ble_eq_true rfl) fl9 dX5_convergent_39) hS (fun q z w => absurd w (Nat.not_le.mpr z)) hn (fun r_10 H locs hR hz hk hS => ?_)
      have fw := fw.new hk
      have fo := fo.kept (hk _ fo.lt (Nat.not_le.mpr fo.lt))
      have fj := fj.kept (hk _ fj.lt (Nat.not_le.mpr fj.lt))
      have fk := fk.new hk
      have fe := fe.kept (hk _ fe.lt (Nat.not_le.mpr fe.lt))
      have fr := fr.kept (hk _ fr.lt (Nat.not_le.mpr fr.lt))
      have fL7 := fL7.kept (hk _ fL7.lt (Nat.not_le.mpr fL7.lt))
      have fR9 := fR9.kept (hk _ fR9.lt (Nat.not_le.mpr fR9.lt))
      have fl9 := fl9.kept (hk _ fl9.lt (Nat.not_le.mpr fl9.lt))
      have el9 := el9.new hk
      rw [show r_10 = nI nl9 from hR]
      refine lv_icmp_ge (pc := 42) (tgt := 56) hx hb dX5_convergent_42 (by decide) (fun c_11 => ?_) (fun c_11 => ?_)
      · refine lv_null (pc := 56) hx hb dX5_convergent_56 ?_
        have hZ0_ := hS.1
        have t_fo := fo.lt
        have t_fj := fj.lt
        have t_fk := fun k (hk9 : k < 6) => (fk k hk9).lt
        have t_fe := fe.lt
        have t_fr := fr.lt
        have t_fL7 := fL7.lt
        have t_fR9 := fR9.lt
        have t_fl9 := fl9.lt
        obtain ⟨hx_12, hk_12⟩ := m_noN (m_ano (er_1.symm.trans (m_fl0 (er_4.symm.trans c_5)).1)).1
        refine k_i (pc := 57) (k_V E hC hS hA hl.1 (c1.recv hC fo rfl) rfl (c_X5_become_N l D tk N0 sa H.size P hPN (fun q h9 => hPs q (Nat.le_trans hS.1 h9)) mo n9 kn ((m_th r_1 0)) tt bb eT eB oT oB pk ca rf vs x1 (nn x1) hx_12 hk_12 ) kw_1255 kw_1257 kp_21 kw_5 kw_1258 (n := 2) (by decide +kernel) rfl ⟨⟨rfl, rfl⟩, ⟨Nat.le_of_ble_eq_true rfl, Nat.le_of_ble_eq_true rfl⟩, (by dsimp only; omega), (by dsimp only; omega)⟩ rfl (Nat.le_of_ble_eq_true rfl) ⟨_, _, _, _, _, fo, fj, fk, fe, fr, fw, ⟨hPm, hPa, hPl, hPe, hPr, hPk⟩, hFk, hFe, hFr, hpk, hn9⟩ dX5_convergent_57) hS (fun q _ h => h) hn (fun r_13 H locs hR hz hk hS => ?_)
        obtain ⟨tt_14, bb_14, rf_14, hM, hBE_14⟩ := hR
        obtain ⟨ra, rl, ex, ro, rt, fo, fj, fk, fe, fr, fw, ⟨hPm, hPa, hPl, hPe, hPr, hPk⟩, hFk, hFe, hFr, hpk, hn9⟩ := hM
        have g_fo := hPm
        have g_fj := hPa
        refine r_iret (pc := 60) E hr hlk hS (by omega) (by omega) ?_ dX5_convergent_60
        exact ⟨_, _, _, _, ⟨_, _, _, _, _, fo, fj, fk, fe, fr, fw, ⟨hPm, hPa, hPl, hPe, hPr, hPk⟩, hFk, hFe, hFr, hpk, hn9⟩, AC.ok (by subst er_1 er_4; first | rfl | (simp [m_or, m_not, m_is0, m_lt0, m_fl, c_3, Int32.not_lt.mpr c_3, c_5, c_11, Int32.not_lt.mpr c_11]; done)) (by subst er_1 er_4; first | rfl | (simp [m_or, m_not, m_is0, m_lt0, m_fl, c_3, Int32.not_lt.mpr c_3, c_5, c_11, Int32.not_lt.mpr c_11]; done)) (er_4.symm.trans c_5) (hBE_14.cast (by unfold m_CV; rw [← hTL9, if_pos c_11]))⟩
      · refine lv_aload (pc := 45) hx hb dX5_convergent_45 (lv_at hl 0 rfl) ?_
        refine lv_iload_n (pc := 47) hx hb dX5_convergent_47 rfl (lv_at hl 4 rfl) ?_
        refine lv_iconst (pc := 48) (v := 1) hx hb dX5_convergent_48 (by decide) ?_
        refine lv_iadd (pc := 49) hx hb dX5_convergent_49 ?_
        obtain ⟨j9, hj1, hj2⟩ := m_ix c_3 c_11 (by omega)
        have hZ0_ := hS.1
        have t_fo := fo.lt
        have t_fj := fj.lt
        have t_fk := fun k (hk9 : k < 6) => (fk k hk9).lt
        have t_fe := fe.lt
        have t_fr := fr.lt
        have t_fL7 := fL7.lt
        have t_fR9 := fR9.lt
        have t_fl9 := fl9.lt
        refine k_o (pc := 50) (k_S E hC hS hA hl.1 (c_X5_folded l D tk N0 sa H.size r_8 bb9 nl9 cap9 md9 (x3 + 1) ff9 ww9 ((j9 + 1)) _ (by omega) (by omega) (by rw [hj1]; exact nI_1 j9) (by omega) (by omega) hPT9.pf hTA9) kw_1566 kw_1567 kw_5 kw_1568 (n := 2) (by decide +kernel) rfl ⟨⟨rfl, rfl⟩, ⟨Nat.le_of_ble_eq_true rfl, Nat.le_of_ble_eq_true rfl⟩, (by dsimp only; omega), (by dsimp only; omega)⟩ rfl (Nat.le_of_ble_eq_true rfl) ⟨fl9, fR9, el9⟩ dX5_convergent_50) hS (fun q z w => absurd w (Nat.not_le.mpr z)) hn (fun r_15 H locs hR hz hk hS => ?_)
        have fw := fw.new hk
        have fo := fo.kept (hk _ fo.lt (Nat.not_le.mpr fo.lt))
        have fj := fj.kept (hk _ fj.lt (Nat.not_le.mpr fj.lt))
        have fk := fk.new hk
        have fe := fe.kept (hk _ fe.lt (Nat.not_le.mpr fe.lt))
        have fr := fr.kept (hk _ fr.lt (Nat.not_le.mpr fr.lt))
        have fL7 := fL7.kept (hk _ fL7.lt (Nat.not_le.mpr fL7.lt))
        have fR9 := fR9.kept (hk _ fR9.lt (Nat.not_le.mpr fR9.lt))
        have fl9 := fl9.kept (hk _ fl9.lt (Nat.not_le.mpr fl9.lt))
        have el9 := el9.new hk
        rcases hR with ⟨rfl, hv_f16⟩ | ⟨q_f16, tt_f16, bb_f16, rfl, z9_, f16, hb_f16, hv_f16⟩
        · refine lv_goto (pc := 53) (tgt := 57) hx hb dX5_convergent_53 (by decide) ?_
          have hZ0_ := hS.1
          have t_fo := fo.lt
          have t_fj := fj.lt
          have t_fk := fun k (hk9 : k < 6) => (fk k hk9).lt
          have t_fe := fe.lt
          have t_fr := fr.lt
          have t_fL7 := fL7.lt
          have t_fR9 := fR9.lt
          have t_fl9 := fl9.lt
          obtain ⟨hx_17, hk_17⟩ := m_noN (m_ano (er_1.symm.trans (m_fl0 (er_4.symm.trans c_5)).1)).1
          refine k_i (pc := 57) (k_V E hC hS hA hl.1 (c1.recv hC fo rfl) rfl (c_X5_become_N l D tk N0 sa H.size P hPN (fun q h9 => hPs q (Nat.le_trans hS.1 h9)) mo n9 kn ((m_th r_1 0)) tt bb eT eB oT oB pk ca rf vs x1 (nn x1) hx_17 hk_17 ) kw_1255 kw_1257 kp_21 kw_5 kw_1258 (n := 2) (by decide +kernel) rfl ⟨⟨rfl, rfl⟩, ⟨Nat.le_of_ble_eq_true rfl, Nat.le_of_ble_eq_true rfl⟩, (by dsimp only; omega), (by dsimp only; omega)⟩ rfl (Nat.le_of_ble_eq_true rfl) ⟨_, _, _, _, _, fo, fj, fk, fe, fr, fw, ⟨hPm, hPa, hPl, hPe, hPr, hPk⟩, hFk, hFe, hFr, hpk, hn9⟩ dX5_convergent_57) hS (fun q _ h => h) hn (fun r_18 H locs hR hz hk hS => ?_)
          obtain ⟨tt_19, bb_19, rf_19, hM, hBE_19⟩ := hR
          obtain ⟨ra, rl, ex, ro, rt, fo, fj, fk, fe, fr, fw, ⟨hPm, hPa, hPl, hPe, hPr, hPk⟩, hFk, hFe, hFr, hpk, hn9⟩ := hM
          have g_fo := hPm
          have g_fj := hPa
          refine r_iret (pc := 60) E hr hlk hS (by omega) (by omega) ?_ dX5_convergent_60
          exact ⟨_, _, _, _, ⟨_, _, _, _, _, fo, fj, fk, fe, fr, fw, ⟨hPm, hPa, hPl, hPe, hPr, hPk⟩, hFk, hFe, hFr, hpk, hn9⟩, AC.ok (by subst er_1 er_4; first | rfl | (simp [m_or, m_not, m_is0, m_lt0, m_fl, c_3, Int32.not_lt.mpr c_3, c_5, c_11, Int32.not_le.mp c_11]; done)) (by subst er_1 er_4; first | rfl | (simp [m_or, m_not, m_is0, m_lt0, m_fl, c_3, Int32.not_lt.mpr c_3, c_5, c_11, Int32.not_le.mp c_11]; done)) (er_4.symm.trans c_5) (hBE_19.cast (by unfold m_CV; rw [← hTL9, if_neg c_11, show nn x3 = j9 from by rw [hj1]; exact nI_clamp (by omega)]; exact hv_f16.symm))⟩
        · have s_f16 : s.heap.size ≤ q_f16 := Nat.le_trans hZ0_ z9_
          have g_f16 := hn _ s_f16
          have l_fo_f16 : mo < q_f16 := Nat.lt_of_lt_of_le t_fo z9_
          have l_fj_f16 : ra < q_f16 := Nat.lt_of_lt_of_le t_fj z9_
          have nW_f16 : ∀ k, k < 6 → rt k ≠ q_f16 := fun k hk9 => Nat.ne_of_lt (Nat.lt_of_lt_of_le (t_fk k hk9) z9_)
          have l_fe_f16 : ex < q_f16 := Nat.lt_of_lt_of_le t_fe z9_
          have l_fr_f16 : ro < q_f16 := Nat.lt_of_lt_of_le t_fr z9_
          have l_fL7_f16 : rt (nn x2) < q_f16 := Nat.lt_of_lt_of_le t_fL7 z9_
          have l_fR9_f16 : bb9 < q_f16 := Nat.lt_of_lt_of_le t_fR9 z9_
          have l_fl9_f16 : r_8 < q_f16 := Nat.lt_of_lt_of_le t_fl9 z9_
          refine lv_goto (pc := 53) (tgt := 57) hx hb dX5_convergent_53 (by decide) ?_
          have hZ0_ := hS.1
          have t_fo := fo.lt
          have t_fj := fj.lt
          have t_fk := fun k (hk9 : k < 6) => (fk k hk9).lt
          have t_fe := fe.lt
          have t_fr := fr.lt
          have t_fL7 := fL7.lt
          have t_fR9 := fR9.lt
          have t_fl9 := fl9.lt
          have t_f16 := f16.lt
          obtain ⟨hx_20, hk_20⟩ := m_noN (m_ano (er_1.symm.trans (m_fl0 (er_4.symm.trans c_5)).1)).1
          refine k_i (pc := 57) (k_V E hC hS hA hl.1 (c1.recv hC fo rfl) rfl (c_X5_become l D tk N0 sa H.size P hPN (fun q h9 => hPs q (Nat.le_trans hS.1 h9)) mo n9 kn ((m_th r_1 0)) tt bb eT eB oT oB pk ca rf vs x1 (nn x1) hx_20 hk_20 q_f16 tt_f16 bb_f16 (hPs _ s_f16) hb_f16) kw_1255 kw_1257 kp_21 kw_5 kw_1258 (n := 2) (by decide +kernel) rfl ⟨⟨rfl, rfl⟩, ⟨Nat.le_of_ble_eq_true rfl, Nat.le_of_ble_eq_true rfl⟩, (by dsimp only; omega), (by dsimp only; omega)⟩ rfl (Nat.le_of_ble_eq_true rfl) ⟨⟨_, _, _, _, _, fo, fj, fk, fe, fr, fw, ⟨hPm, hPa, hPl, hPe, hPr, hPk⟩, hFk, hFe, hFr, hpk, hn9⟩, f16⟩ dX5_convergent_57) hS (fun q _ h => h) hn (fun r_21 H locs hR hz hk hS => ?_)
          obtain ⟨tt_22, bb_22, rf_22, hM, hBE_22⟩ := hR
          obtain ⟨ra, rl, ex, ro, rt, fo, fj, fk, fe, fr, fw, ⟨hPm, hPa, hPl, hPe, hPr, hPk⟩, hFk, hFe, hFr, hpk, hn9⟩ := hM
          have g_fo := hPm
          have g_fj := hPa
          refine r_iret (pc := 60) E hr hlk hS (by omega) (by omega) ?_ dX5_convergent_60
          exact ⟨_, _, _, _, ⟨_, _, _, _, _, fo, fj, fk, fe, fr, fw, ⟨hPm, hPa, hPl, hPe, hPr, hPk⟩, hFk, hFe, hFr, hpk, hn9⟩, AC.ok (by subst er_1 er_4; first | rfl | (simp [m_or, m_not, m_is0, m_lt0, m_fl, c_3, Int32.not_lt.mpr c_3, c_5, c_11, Int32.not_le.mp c_11]; done)) (by subst er_1 er_4; first | rfl | (simp [m_or, m_not, m_is0, m_lt0, m_fl, c_3, Int32.not_lt.mpr c_3, c_5, c_11, Int32.not_le.mp c_11]; done)) (er_4.symm.trans c_5) (hBE_22.cast (by unfold m_CV; rw [← hTL9, if_neg c_11, show nn x3 = j9 from by rw [hj1]; exact nI_clamp (by omega)]; exact hv_f16.symm))⟩
    · refine lv_iconst (pc := 21) (v := 0) hx hb dX5_convergent_21 (by decide) ?_
      refine r_iret (pc := 22) E hr hlk hS (by omega) (by omega) ?_ dX5_convergent_22
      exact ⟨_, _, _, _, ⟨_, _, _, _, _, fo, fj, fk, fe, fr, fw, ⟨hPm, hPa, hPl, hPe, hPr, hPk⟩, hFk, hFe, hFr, hpk, hn9⟩, AC.fail (by subst er_1 er_4; first | rfl | (simp [m_or, m_not, m_is0, m_lt0, m_fl, c_3, Int32.not_lt.mpr c_3, c_5]; done)) (by subst er_1 er_4; first | rfl | (simp [m_or, m_not, m_is0, m_lt0, m_fl, c_3, Int32.not_lt.mpr c_3, c_5]; done)) (fun z9 => c_5 (er_4.trans z9))⟩
  · refine lv_iconst (pc := 10) (v := 1) hx hb dX5_convergent_10 (by decide) ?_
    refine lv_goto (pc := 11) (tgt := 15) hx hb dX5_convergent_11 (by decide) ?_
    have hZ0_ := hS.1
    have t_fo := fo.lt
    have t_fj := fj.lt
    have t_fk := fun k (hk9 : k < 6) => (fk k hk9).lt
    have t_fe := fe.lt
    have t_fr := fr.lt
    refine k_i (pc := 15) (k_V E hC hS hA hl.1 (c1.recv hC fo rfl) rfl (c_X5_fails l D tk N0 sa H.size P hPN (fun q h9 => hPs q (Nat.le_trans hS.1 h9)) mo n9 kn th tt bb eT eB oT oB pk ca rf vs r_1 1 ) kw_1251 kw_1253 kp_20 kw_5 kw_1254 (n := 2) (by decide +kernel) rfl ⟨⟨rfl, rfl⟩, ⟨Nat.le_of_ble_eq_true rfl, Nat.le_of_ble_eq_true rfl⟩, (by dsimp only; omega), (by dsimp only; omega)⟩ rfl (Nat.le_of_ble_eq_true rfl) ⟨_, _, _, _, _, fo, fj, fk, fe, fr, fw, ⟨hPm, hPa, hPl, hPe, hPr, hPk⟩, hFk, hFe, hFr, hpk, hn9⟩ dX5_convergent_15) hS (fun q _ h => h) hn (fun r_23 H locs hR hz hk hS => ?_)
    obtain ⟨er_23, hM⟩ := hR
    obtain ⟨ra, rl, ex, ro, rt, fo, fj, fk, fe, fr, fw, ⟨hPm, hPa, hPl, hPe, hPr, hPk⟩, hFk, hFe, hFr, hpk, hn9⟩ := hM
    have g_fo := hPm
    have g_fj := hPa
    have ef_r_23 : r_23 = 1 := er_23.trans (m_fl1 _)
    rw [ef_r_23]
    refine lv_if_eq (pc := 18) (tgt := 23) hx hb dX5_convergent_18 (by decide) (fun c_24 => ?_) (fun c_24 => ?_)
    · exact absurd c_24 (by decide)
    refine lv_iconst (pc := 21) (v := 0) hx hb dX5_convergent_21 (by decide) ?_
    refine r_iret (pc := 22) E hr hlk hS (by omega) (by omega) ?_ dX5_convergent_22
    exact ⟨_, _, _, _, ⟨_, _, _, _, _, fo, fj, fk, fe, fr, fw, ⟨hPm, hPa, hPl, hPe, hPr, hPk⟩, hFk, hFe, hFr, hpk, hn9⟩, AC.fail (by subst er_1; first | rfl | (simp [m_or, m_not, m_is0, m_lt0, m_fl, c_3, Int32.not_le.mp c_3]; done)) (by subst er_1; first | rfl | (simp [m_or, m_not, m_is0, m_lt0, m_fl, c_3, Int32.not_le.mp c_3]; done)) (fun z9 => absurd (ef_r_23.symm.trans (er_23.trans z9)) (by decide))⟩
set_option maxHeartbeats 4000000 in
set_option maxRecDepth 100000 in
/-- BestratiosModel.lower(III)I -/
theorem c_X5_lower (l : Launch) (D : va_G) (tk : Nat → ClassId) (N0 : Nat) (sa : Nat → Nat)  (sz : Nat) (P : Nat → Prop) (hPN : ∀ q, P q → N0 ≤ q) (hPs : ∀ q, sz ≤ q → P q) (mo n9 : Nat) (kn th : Int32) (tt bb : Nat → Int64) (eT eB oT oB : Int64) (pk : Nat) (ca rf : Int32) (vs : Nat → Value) (x1 : Int32) (x2 : Int32) (x3 : Int32) : Met l yX5_lower (wsy yX5_lower cX5_lower 4 (some .int)) ({ frames := 4, cells := 200, slots := 400, locals := 104 } : Room) (cP D tk N0 sa [.ref mo, .int x1, .int x2, .int x3] sz (fun H => MI D tk sa P mo tt bb eT eB oT oB pk ca rf vs kn n9 th H)) (kQi (fun r H => ∃ th1 tt1 bb1 rf1, MI D tk sa P mo tt1 bb1 eT eB oT oB pk ca rf1 vs kn n9 th1 H ∧ AC (m_areNo x1 x2) (m_not (m_isIn x3 1 200)) tt bb rf (nn x1) (some (m_NB (tt (nn x2)) (bb (nn x2)) (nn x3) 0)) r th1 tt1 bb1 rf1) (P)) (200) (400) (P) := by
  refine mStart RX5 rfl (by decide +kernel) (Nat.le_of_ble_eq_true rfl) ?_
  intro p e s m args below meth c E hr hlk hnm hsz hC hF ls hl
  subst hsz
  obtain ⟨hx, hb, -⟩ := id E
  have hA : ∀ q, (P) q → N0 ≤ q := hPN
  have hn : ∀ q, s.heap.size ≤ q → (P) q := hPs
  have hS : va_S (P) s.heap s.heap [] := va_S.rf
  have hl : lv_has ls 4 [(0, .ref mo), (1, .int x1), (2, .int x2), (3, .int x3)] := hl
  have hM : MI D tk sa P mo tt bb eT eB oT oB pk ca rf vs kn n9 th s.heap := hF
  obtain ⟨ra, rl, ex, ro, rt, fo, fj, fk, fe, fr, fw, ⟨hPm, hPa, hPl, hPe, hPr, hPk⟩, hFk, hFe, hFr, hpk, hn9⟩ := hM
  have g_fo := hPm
  have g_fj := hPa
  refine lv_aload_n (pc := 0) hx hb dX5_lower_0 rfl (lv_at hl 0 rfl) ?_
  refine lv_iload_n (pc := 1) hx hb dX5_lower_1 rfl (lv_at hl 1 rfl) ?_
  refine lv_iload_n (pc := 2) hx hb dX5_lower_2 rfl (lv_at hl 2 rfl) ?_
  refine k_i (pc := 3) (k_S E hC hS hA hl.1 (c_X5_areNo l D tk N0 sa s.heap.size x1 x2 ) kw_1286 kw_1287 kw_5 kw_1288 (n := 2) (by decide +kernel) rfl ⟨⟨rfl, rfl⟩, ⟨Nat.le_of_ble_eq_true rfl, Nat.le_of_ble_eq_true rfl⟩, (by dsimp only; omega), (by dsimp only; omega)⟩ rfl (Nat.le_of_ble_eq_true rfl) trivial dX5_lower_3) hS (fun q z w => absurd w (Nat.not_le.mpr z)) hn (fun r_1 H locs hR hz hk hS => ?_)
  have er_1 := hR
  have fw := fw.new hk
  have fo := fo.kept (hk _ fo.lt (Nat.not_le.mpr fo.lt))
  have fj := fj.kept (hk _ fj.lt (Nat.not_le.mpr fj.lt))
  have fk := fk.new hk
  have fe := fe.kept (hk _ fe.lt (Nat.not_le.mpr fe.lt))
  have fr := fr.kept (hk _ fr.lt (Nat.not_le.mpr fr.lt))
  refine lv_iload_n (pc := 6) hx hb dX5_lower_6 rfl (lv_at hl 3 rfl) ?_
  refine lv_iconst (pc := 7) (v := 1) hx hb dX5_lower_7 (by decide) ?_
  refine lv_sipush (pc := 8) (v := 200) hx hb dX5_lower_8 (by decide) ?_
  refine k_i (pc := 11) (k_S E hC hS hA hl.1 (c_X5_isIn l D tk N0 sa H.size x3 1 200 ) kw_1248 kw_1249 kw_5 kw_1250 (n := 3) (by decide +kernel) rfl ⟨⟨rfl, rfl⟩, ⟨Nat.le_of_ble_eq_true rfl, Nat.le_of_ble_eq_true rfl⟩, (by dsimp only; omega), (by dsimp only; omega)⟩ rfl (Nat.le_of_ble_eq_true rfl) trivial dX5_lower_11) hS (fun q z w => absurd w (Nat.not_le.mpr z)) hn (fun r_3 H locs hR hz hk hS => ?_)
  have er_3 := hR
  have fw := fw.new hk
  have fo := fo.kept (hk _ fo.lt (Nat.not_le.mpr fo.lt))
  have fj := fj.kept (hk _ fj.lt (Nat.not_le.mpr fj.lt))
  have fk := fk.new hk
  have fe := fe.kept (hk _ fe.lt (Nat.not_le.mpr fe.lt))
  have fr := fr.kept (hk _ fr.lt (Nat.not_le.mpr fr.lt))
  refine lv_if_ne (pc := 14) (tgt := 21) hx hb dX5_lower_14 (by decide) (fun c_5 => ?_) (fun c_5 => ?_)
  · refine lv_iconst (pc := 21) (v := 0) hx hb dX5_lower_21 (by decide) ?_
    have hZ0_ := hS.1
    have t_fo := fo.lt
    have t_fj := fj.lt
    have t_fk := fun k (hk9 : k < 6) => (fk k hk9).lt
    have t_fe := fe.lt
    have t_fr := fr.lt
    refine k_i (pc := 22) (k_V E hC hS hA hl.1 (c1.recv hC fo rfl) rfl (c_X5_fails l D tk N0 sa H.size P hPN (fun q h9 => hPs q (Nat.le_trans hS.1 h9)) mo n9 kn th tt bb eT eB oT oB pk ca rf vs r_1 0 ) kw_1251 kw_1253 kp_20 kw_5 kw_1254 (n := 2) (by decide +kernel) rfl ⟨⟨rfl, rfl⟩, ⟨Nat.le_of_ble_eq_true rfl, Nat.le_of_ble_eq_true rfl⟩, (by dsimp only; omega), (by dsimp only; omega)⟩ rfl (Nat.le_of_ble_eq_true rfl) ⟨_, _, _, _, _, fo, fj, fk, fe, fr, fw, ⟨hPm, hPa, hPl, hPe, hPr, hPk⟩, hFk, hFe, hFr, hpk, hn9⟩ dX5_lower_22) hS (fun q _ h => h) hn (fun r_6 H locs hR hz hk hS => ?_)
    obtain ⟨er_6, hM⟩ := hR
    obtain ⟨ra, rl, ex, ro, rt, fo, fj, fk, fe, fr, fw, ⟨hPm, hPa, hPl, hPe, hPr, hPk⟩, hFk, hFe, hFr, hpk, hn9⟩ := hM
    have g_fo := hPm
    have g_fj := hPa
    refine lv_if_eq (pc := 25) (tgt := 32) hx hb dX5_lower_25 (by decide) (fun c_7 => ?_) (fun c_7 => ?_)
    · refine lv_aload_n (pc := 32) hx hb dX5_lower_32 rfl (lv_at hl 0 rfl) ?_
      refine lv_iload_n (pc := 33) hx hb dX5_lower_33 rfl (lv_at hl 1 rfl) ?_
      refine lv_aload_n (pc := 34) hx hb dX5_lower_34 rfl (lv_at hl 0 rfl) ?_
      refine r_get (pc := 35) E hC fo 0 (v := .ref ra) rfl rfl (by decide) uX5 (List.mem_cons_of_mem _ kw_1209) (fun _ h => h) dX5_lower_35 ?_
      refine lv_iload_n (pc := 38) hx hb dX5_lower_38 rfl (lv_at hl 2 rfl) ?_
      obtain ⟨hx_8, hk_8⟩ := m_noN (m_ano (er_1.symm.trans (m_fl0 (er_6.symm.trans c_7)).1)).2
      refine r_aaldJ (pc := 39) E hC fj (nn x2) hx_8 hk_8 (by decide) rfl dX5_lower_39 ?_
      have fL9 := fk (nn x2) hk_8
      have mF_fL9 := hFk (nn x2) hk_8
      have Pq_fL9 := hPk (nn x2) hk_8
      refine lv_iload_n (pc := 40) hx hb dX5_lower_40 rfl (lv_at hl 3 rfl) ?_
      refine lv_iconst (pc := 41) (v := 0) hx hb dX5_lower_41 (by decide) ?_
      obtain ⟨kn_, hkn1, hkn2, hkn3⟩ := m_in1 (x := x3) (hi_ := 200) (by decide) (fun z9 => c_5 (er_3.trans z9))
      have hZ0_ := hS.1
      have t_fo := fo.lt
      have t_fj := fj.lt
      have t_fk := fun k (hk9 : k < 6) => (fk k hk9).lt
      have t_fe := fe.lt
      have t_fr := fr.lt
      have t_fL9 := fL9.lt
      refine k_r (pc := 42) (k_S E hC hS hA hl.1 (c_X5_neighbour l D tk N0 sa H.size (rt (nn x2)) (tt (nn x2)) (bb (nn x2)) x3 0 kn_ mF_fL9 hkn1 hkn2 hkn3) kw_1627 kw_1628 kw_5 kw_1629 (n := 3) (by decide +kernel) rfl ⟨⟨rfl, rfl⟩, ⟨Nat.le_of_ble_eq_true rfl, Nat.le_of_ble_eq_true rfl⟩, (by dsimp only; omega), (by dsimp only; omega)⟩ rfl (Nat.le_of_ble_eq_true rfl) fL9 dX5_lower_42) hS (fun q z w => absurd w (Nat.not_le.mpr z)) hn (fun r_10 H locs hR hz hk hS => ?_)
      have fw := fw.new hk
      have fo := fo.kept (hk _ fo.lt (Nat.not_le.mpr fo.lt))
      have fj := fj.kept (hk _ fj.lt (Nat.not_le.mpr fj.lt))
      have fk := fk.new hk
      have fe := fe.kept (hk _ fe.lt (Nat.not_le.mpr fe.lt))
      have fr := fr.kept (hk _ fr.lt (Nat.not_le.mpr fr.lt))
      have fL9 := fL9.kept (hk _ fL9.lt (Nat.not_le.mpr fL9.lt))
      obtain ⟨z9_, tt_f11, bb_f11, f11, hb_f11, hv_f11⟩ := hR
      have s_f11 : s.heap.size ≤ r_10 := Nat.le_trans hZ0_ z9_
      have g_f11 := hn _ s_f11
      have l_fo_f11 : mo < r_10 := Nat.lt_of_lt_of_le t_fo z9_
      have l_fj_f11 : ra < r_10 := Nat.lt_of_lt_of_le t_fj z9_
      have nW_f11 : ∀ k, k < 6 → rt k ≠ r_10 := fun k hk9 => Nat.ne_of_lt (Nat.lt_of_lt_of_le (t_fk k hk9) z9_)
      have l_fe_f11 : ex < r_10 := Nat.lt_of_lt_of_le t_fe z9_
      have l_fr_f11 : ro < r_10 := Nat.lt_of_lt_of_le t_fr z9_
      have l_fL9_f11 : rt (nn x2) < r_10 := Nat.lt_of_lt_of_le t_fL9 z9_
      have hZ0_ := hS.1
      have t_fo := fo.lt
      have t_fj := fj.lt
      have t_fk := fun k (hk9 : k < 6) => (fk k hk9).lt
      have t_fe := fe.lt
      have t_fr := fr.lt
      have t_fL9 := fL9.lt
      have t_f11 := f11.lt
      obtain ⟨hx_12, hk_12⟩ := m_noN (m_ano (er_1.symm.trans (m_fl0 (er_6.symm.trans c_7)).1)).1
      refine k_i (pc := 45) (k_V E hC hS hA hl.1 (c1.recv hC fo rfl) rfl (c_X5_become l D tk N0 sa H.size P hPN (fun q h9 => hPs q (Nat.le_trans hS.1 h9)) mo n9 kn ((m_th r_1 0)) tt bb eT eB oT oB pk ca rf vs x1 (nn x1) hx_12 hk_12 r_10 tt_f11 bb_f11 (hPs _ s_f11) hb_f11.1) kw_1255 kw_1257 kp_21 kw_5 kw_1258 (n := 2) (by decide +kernel) rfl ⟨⟨rfl, rfl⟩, ⟨Nat.le_of_ble_eq_true rfl, Nat.le_of_ble_eq_true rfl⟩, (by dsimp only; omega), (by dsimp only; omega)⟩ rfl (Nat.le_of_ble_eq_true rfl) ⟨⟨_, _, _, _, _, fo, fj, fk, fe, fr, fw, ⟨hPm, hPa, hPl, hPe, hPr, hPk⟩, hFk, hFe, hFr, hpk, hn9⟩, f11⟩ dX5_lower_45) hS (fun q _ h => h) hn (fun r_13 H locs hR hz hk hS => ?_)
      obtain ⟨tt_14, bb_14, rf_14, hM, hBE_14⟩ := hR
      obtain ⟨ra, rl, ex, ro, rt, fo, fj, fk, fe, fr, fw, ⟨hPm, hPa, hPl, hPe, hPr, hPk⟩, hFk, hFe, hFr, hpk, hn9⟩ := hM
      have g_fo := hPm
      have g_fj := hPa
      refine r_iret (pc := 48) E hr hlk hS (by omega) (by omega) ?_ dX5_lower_48
      exact ⟨_, _, _, _, ⟨_, _, _, _, _, fo, fj, fk, fe, fr, fw, ⟨hPm, hPa, hPl, hPe, hPr, hPk⟩, hFk, hFe, hFr, hpk, hn9⟩, AC.ok (by subst er_1 er_3 er_6; first | rfl | (simp [m_or, m_not, m_is0, m_lt0, m_fl, c_5, c_7]; done)) (by subst er_1 er_3 er_6; first | rfl | (simp [m_or, m_not, m_is0, m_lt0, m_fl, c_5, c_7]; done)) (er_6.symm.trans c_7) (hBE_14.cast (by rw [hv_f11, show nn x3 = kn_ from by rw [hkn1]; exact nI_clamp (by omega)]))⟩
    · refine lv_iconst (pc := 28) (v := 0) hx hb dX5_lower_28 (by decide) ?_
      refine lv_goto (pc := 29) (tgt := 48) hx hb dX5_lower_29 (by decide) ?_
      refine r_iret (pc := 48) E hr hlk hS (by omega) (by omega) ?_ dX5_lower_48
      exact ⟨_, _, _, _, ⟨_, _, _, _, _, fo, fj, fk, fe, fr, fw, ⟨hPm, hPa, hPl, hPe, hPr, hPk⟩, hFk, hFe, hFr, hpk, hn9⟩, AC.fail (by subst er_1 er_3 er_6; first | rfl | (simp [m_or, m_not, m_is0, m_lt0, m_fl, c_5, c_7]; done)) (by subst er_1 er_3 er_6; first | rfl | (simp [m_or, m_not, m_is0, m_lt0, m_fl, c_5, c_7]; done)) (fun z9 => c_7 (er_6.trans z9))⟩
  · refine lv_iconst (pc := 17) (v := 1) hx hb dX5_lower_17 (by decide) ?_
    refine lv_goto (pc := 18) (tgt := 22) hx hb dX5_lower_18 (by decide) ?_
    have hZ0_ := hS.1
    have t_fo := fo.lt
    have t_fj := fj.lt
    have t_fk := fun k (hk9 : k < 6) => (fk k hk9).lt
    have t_fe := fe.lt
    have t_fr := fr.lt
    refine k_i (pc := 22) (k_V E hC hS hA hl.1 (c1.recv hC fo rfl) rfl (c_X5_fails l D tk N0 sa H.size P hPN (fun q h9 => hPs q (Nat.le_trans hS.1 h9)) mo n9 kn th tt bb eT eB oT oB pk ca rf vs r_1 1 ) kw_1251 kw_1253 kp_20 kw_5 kw_1254 (n := 2) (by decide +kernel) rfl ⟨⟨rfl, rfl⟩, ⟨Nat.le_of_ble_eq_true rfl, Nat.le_of_ble_eq_true rfl⟩, (by dsimp only; omega), (by dsimp only; omega)⟩ rfl (Nat.le_of_ble_eq_true rfl) ⟨_, _, _, _, _, fo, fj, fk, fe, fr, fw, ⟨hPm, hPa, hPl, hPe, hPr, hPk⟩, hFk, hFe, hFr, hpk, hn9⟩ dX5_lower_22) hS (fun q _ h => h) hn (fun r_15 H locs hR hz hk hS => ?_)
    obtain ⟨er_15, hM⟩ := hR
    obtain ⟨ra, rl, ex, ro, rt, fo, fj, fk, fe, fr, fw, ⟨hPm, hPa, hPl, hPe, hPr, hPk⟩, hFk, hFe, hFr, hpk, hn9⟩ := hM
    have g_fo := hPm
    have g_fj := hPa
    have ef_r_15 : r_15 = 1 := er_15.trans (m_fl1 _)
    rw [ef_r_15]
    refine lv_if_eq (pc := 25) (tgt := 32) hx hb dX5_lower_25 (by decide) (fun c_16 => ?_) (fun c_16 => ?_)
    · exact absurd c_16 (by decide)
    refine lv_iconst (pc := 28) (v := 0) hx hb dX5_lower_28 (by decide) ?_
    refine lv_goto (pc := 29) (tgt := 48) hx hb dX5_lower_29 (by decide) ?_
    refine r_iret (pc := 48) E hr hlk hS (by omega) (by omega) ?_ dX5_lower_48
    exact ⟨_, _, _, _, ⟨_, _, _, _, _, fo, fj, fk, fe, fr, fw, ⟨hPm, hPa, hPl, hPe, hPr, hPk⟩, hFk, hFe, hFr, hpk, hn9⟩, AC.fail (by subst er_1 er_3; first | rfl | (simp [m_or, m_not, m_is0, m_lt0, m_fl, c_5]; done)) (by subst er_1 er_3; first | rfl | (simp [m_or, m_not, m_is0, m_lt0, m_fl, c_5]; done)) (fun z9 => absurd (ef_r_15.symm.trans (er_15.trans z9)) (by decide))⟩
set_option maxHeartbeats 4000000 in
set_option maxRecDepth 100000 in
/-- BestratiosModel.upper(III)I -/
theorem c_X5_upper (l : Launch) (D : va_G) (tk : Nat → ClassId) (N0 : Nat) (sa : Nat → Nat)  (sz : Nat) (P : Nat → Prop) (hPN : ∀ q, P q → N0 ≤ q) (hPs : ∀ q, sz ≤ q → P q) (mo n9 : Nat) (kn th : Int32) (tt bb : Nat → Int64) (eT eB oT oB : Int64) (pk : Nat) (ca rf : Int32) (vs : Nat → Value) (x1 : Int32) (x2 : Int32) (x3 : Int32) : Met l yX5_upper (wsy yX5_upper cX5_upper 4 (some .int)) ({ frames := 4, cells := 200, slots := 400, locals := 104 } : Room) (cP D tk N0 sa [.ref mo, .int x1, .int x2, .int x3] sz (fun H => MI D tk sa P mo tt bb eT eB oT oB pk ca rf vs kn n9 th H)) (kQi (fun r H => ∃ th1 tt1 bb1 rf1, MI D tk sa P mo tt1 bb1 eT eB oT oB pk ca rf1 vs kn n9 th1 H ∧ AC (m_areNo x1 x2) (m_not (m_isIn x3 1 200)) tt bb rf (nn x1) (some (m_NB (tt (nn x2)) (bb (nn x2)) (nn x3) 1)) r th1 tt1 bb1 rf1) (P)) (200) (400) (P) := by
  refine mStart RX5 rfl (by decide +kernel) (Nat.le_of_ble_eq_true rfl) ?_
  intro p e s m args below meth c E hr hlk hnm hsz hC hF ls hl
  subst hsz
  obtain ⟨hx, hb, -⟩ := id E
  have hA : ∀ q, (P) q → N0 ≤ q := hPN
  have hn : ∀ q, s.heap.size ≤ q → (P) q := hPs
  have hS : va_S (P) s.heap s.heap [] := va_S.rf
  have hl : lv_has ls 4 [(0, .ref mo), (1, .int x1), (2, .int x2), (3, .int x3)] := hl
  have hM : MI D tk sa P mo tt bb eT eB oT oB pk ca rf vs kn n9 th s.heap := hF
  obtain ⟨ra, rl, ex, ro, rt, fo, fj, fk, fe, fr, fw, ⟨hPm, hPa, hPl, hPe, hPr, hPk⟩, hFk, hFe, hFr, hpk, hn9⟩ := hM
  have g_fo := hPm
  have g_fj := hPa
  refine lv_aload_n (pc := 0) hx hb dX5_upper_0 rfl (lv_at hl 0 rfl) ?_
  refine lv_iload_n (pc := 1) hx hb dX5_upper_1 rfl (lv_at hl 1 rfl) ?_
  refine lv_iload_n (pc := 2) hx hb dX5_upper_2 rfl (lv_at hl 2 rfl) ?_
  refine k_i (pc := 3) (k_S E hC hS hA hl.1 (c_X5_areNo l D tk N0 sa s.heap.size x1 x2 ) kw_1286 kw_1287 kw_5 kw_1288 (n := 2) (by decide +kernel) rfl ⟨⟨rfl, rfl⟩, ⟨Nat.le_of_ble_eq_true rfl, Nat.le_of_ble_eq_true rfl⟩, (by dsimp only; omega), (by dsimp only; omega)⟩ rfl (Nat.le_of_ble_eq_true rfl) trivial dX5_upper_3) hS (fun q z w => absurd w (Nat.not_le.mpr z)) hn (fun r_1 H locs hR hz hk hS => ?_)
  have er_1 := hR
  have fw := fw.new hk
  have fo := fo.kept (hk _ fo.lt (Nat.not_le.mpr fo.lt))
  have fj := fj.kept (hk _ fj.lt (Nat.not_le.mpr fj.lt))
  have fk := fk.new hk
  have fe := fe.kept (hk _ fe.lt (Nat.not_le.mpr fe.lt))
  have fr := fr.kept (hk _ fr.lt (Nat.not_le.mpr fr.lt))
  refine lv_iload_n (pc := 6) hx hb dX5_upper_6 rfl (lv_at hl 3 rfl) ?_
  refine lv_iconst (pc := 7) (v := 1) hx hb dX5_upper_7 (by decide) ?_
  refine lv_sipush (pc := 8) (v := 200) hx hb dX5_upper_8 (by decide) ?_
  refine k_i (pc := 11) (k_S E hC hS hA hl.1 (c_X5_isIn l D tk N0 sa H.size x3 1 200 ) kw_1248 kw_1249 kw_5 kw_1250 (n := 3) (by decide +kernel) rfl ⟨⟨rfl, rfl⟩, ⟨Nat.le_of_ble_eq_true rfl, Nat.le_of_ble_eq_true rfl⟩, (by dsimp only; omega), (by dsimp only; omega)⟩ rfl (Nat.le_of_ble_eq_true rfl) trivial dX5_upper_11) hS (fun q z w => absurd w (Nat.not_le.mpr z)) hn (fun r_3 H locs hR hz hk hS => ?_)
  have er_3 := hR
  have fw := fw.new hk
  have fo := fo.kept (hk _ fo.lt (Nat.not_le.mpr fo.lt))
  have fj := fj.kept (hk _ fj.lt (Nat.not_le.mpr fj.lt))
  have fk := fk.new hk
  have fe := fe.kept (hk _ fe.lt (Nat.not_le.mpr fe.lt))
  have fr := fr.kept (hk _ fr.lt (Nat.not_le.mpr fr.lt))
  refine lv_if_ne (pc := 14) (tgt := 21) hx hb dX5_upper_14 (by decide) (fun c_5 => ?_) (fun c_5 => ?_)
  · refine lv_iconst (pc := 21) (v := 0) hx hb dX5_upper_21 (by decide) ?_
    have hZ0_ := hS.1
    have t_fo := fo.lt
    have t_fj := fj.lt
    have t_fk := fun k (hk9 : k < 6) => (fk k hk9).lt
    have t_fe := fe.lt
    have t_fr := fr.lt
    refine k_i (pc := 22) (k_V E hC hS hA hl.1 (c1.recv hC fo rfl) rfl (c_X5_fails l D tk N0 sa H.size P hPN (fun q h9 => hPs q (Nat.le_trans hS.1 h9)) mo n9 kn th tt bb eT eB oT oB pk ca rf vs r_1 0 ) kw_1251 kw_1253 kp_20 kw_5 kw_1254 (n := 2) (by decide +kernel) rfl ⟨⟨rfl, rfl⟩, ⟨Nat.le_of_ble_eq_true rfl, Nat.le_of_ble_eq_true rfl⟩, (by dsimp only; omega), (by dsimp only; omega)⟩ rfl (Nat.le_of_ble_eq_true rfl) ⟨_, _, _, _, _, fo, fj, fk, fe, fr, fw, ⟨hPm, hPa, hPl, hPe, hPr, hPk⟩, hFk, hFe, hFr, hpk, hn9⟩ dX5_upper_22) hS (fun q _ h => h) hn (fun r_6 H locs hR hz hk hS => ?_)
    obtain ⟨er_6, hM⟩ := hR
    obtain ⟨ra, rl, ex, ro, rt, fo, fj, fk, fe, fr, fw, ⟨hPm, hPa, hPl, hPe, hPr, hPk⟩, hFk, hFe, hFr, hpk, hn9⟩ := hM
    have g_fo := hPm
    have g_fj := hPa
    refine lv_if_eq (pc := 25) (tgt := 32) hx hb dX5_upper_25 (by decide) (fun c_7 => ?_) (fun c_7 => ?_)
    · refine lv_aload_n (pc := 32) hx hb dX5_upper_32 rfl (lv_at hl 0 rfl) ?_
      refine lv_iload_n (pc := 33) hx hb dX5_upper_33 rfl (lv_at hl 1 rfl) ?_
      refine lv_aload_n (pc := 34) hx hb dX5_upper_34 rfl (lv_at hl 0 rfl) ?_
      refine r_get (pc := 35) E hC fo 0 (v := .ref ra) rfl rfl (by decide) uX5 (List.mem_cons_of_mem _ kw_1209) (fun _ h => h) dX5_upper_35 ?_
      refine lv_iload_n (pc := 38) hx hb dX5_upper_38 rfl (lv_at hl 2 rfl) ?_
      obtain ⟨hx_8, hk_8⟩ := m_noN (m_ano (er_1.symm.trans (m_fl0 (er_6.symm.trans c_7)).1)).2
      refine r_aaldJ (pc := 39) E hC fj (nn x2) hx_8 hk_8 (by decide) rfl dX5_upper_39 ?_
      have fL9 := fk (nn x2) hk_8
      have mF_fL9 := hFk (nn x2) hk_8
      have Pq_fL9 := hPk (nn x2) hk_8
      refine lv_iload_n (pc := 40) hx hb dX5_upper_40 rfl (lv_at hl 3 rfl) ?_
      refine lv_iconst (pc := 41) (v := 1) hx hb dX5_upper_41 (by decide) ?_
      obtain ⟨kn_, hkn1, hkn2, hkn3⟩ := m_in1 (x := x3) (hi_ := 200) (by decide) (fun z9 => c_5 (er_3.trans z9))
      have hZ0_ := hS.1
      have t_fo := fo.lt
      have t_fj := fj.lt
      have t_fk := fun k (hk9 : k < 6) => (fk k hk9).lt
      have t_fe := fe.lt
      have t_fr := fr.lt
      have t_fL9 := fL9.lt
      refine k_r (pc := 42) (k_S E hC hS hA hl.1 (c_X5_neighbour l D tk N0 sa H.size (rt (nn x2)) (tt (nn x2)) (bb (nn x2)) x3 1 kn_ mF_fL9 hkn1 hkn2 hkn3) kw_1627 kw_1628 kw_5 kw_1629 (n := 3) (by decide +kernel) rfl ⟨⟨rfl, rfl⟩, ⟨Nat.le_of_ble_eq_true rfl, Nat.le_of_ble_eq_true rfl⟩, (by dsimp only; omega), (by dsimp only; omega)⟩ rfl (Nat.le_of_ble_eq_true rfl) fL9 dX5_upper_42) hS (fun q z w => absurd w (Nat.not_le.mpr z)) hn (fun r_10 H locs hR hz hk hS => ?_)
      have fw := fw.new hk
      have fo := fo.kept (hk _ fo.lt (Nat.not_le.mpr fo.lt))
      have fj := fj.kept (hk _ fj.lt (Nat.not_le.mpr fj.lt))
      have fk := fk.new hk
      have fe := fe.kept (hk _ fe.lt (Nat.not_le.mpr fe.lt))
      have fr := fr.kept (hk _ fr.lt (Nat.not_le.mpr fr.lt))
      have fL9 := fL9.kept (hk _ fL9.lt (Nat.not_le.mpr fL9.lt))
      obtain ⟨z9_, tt_f11, bb_f11, f11, hb_f11, hv_f11⟩ := hR
      have s_f11 : s.heap.size ≤ r_10 := Nat.le_trans hZ0_ z9_
      have g_f11 := hn _ s_f11
      have l_fo_f11 : mo < r_10 := Nat.lt_of_lt_of_le t_fo z9_
      have l_fj_f11 : ra < r_10 := Nat.lt_of_lt_of_le t_fj z9_
      have nW_f11 : ∀ k, k < 6 → rt k ≠ r_10 := fun k hk9 => Nat.ne_of_lt (Nat.lt_of_lt_of_le (t_fk k hk9) z9_)
      have l_fe_f11 : ex < r_10 := Nat.lt_of_lt_of_le t_fe z9_
      have l_fr_f11 : ro < r_10 := Nat.lt_of_lt_of_le t_fr z9_
      have l_fL9_f11 : rt (nn x2) < r_10 := Nat.lt_of_lt_of_le t_fL9 z9_
      have hZ0_ := hS.1
      have t_fo := fo.lt
      have t_fj := fj.lt
      have t_fk := fun k (hk9 : k < 6) => (fk k hk9).lt
      have t_fe := fe.lt
      have t_fr := fr.lt
      have t_fL9 := fL9.lt
      have t_f11 := f11.lt
      obtain ⟨hx_12, hk_12⟩ := m_noN (m_ano (er_1.symm.trans (m_fl0 (er_6.symm.trans c_7)).1)).1
      refine k_i (pc := 45) (k_V E hC hS hA hl.1 (c1.recv hC fo rfl) rfl (c_X5_become l D tk N0 sa H.size P hPN (fun q h9 => hPs q (Nat.le_trans hS.1 h9)) mo n9 kn ((m_th r_1 0)) tt bb eT eB oT oB pk ca rf vs x1 (nn x1) hx_12 hk_12 r_10 tt_f11 bb_f11 (hPs _ s_f11) hb_f11.1) kw_1255 kw_1257 kp_21 kw_5 kw_1258 (n := 2) (by decide +kernel) rfl ⟨⟨rfl, rfl⟩, ⟨Nat.le_of_ble_eq_true rfl, Nat.le_of_ble_eq_true rfl⟩, (by dsimp only; omega), (by dsimp only; omega)⟩ rfl (Nat.le_of_ble_eq_true rfl) ⟨⟨_, _, _, _, _, fo, fj, fk, fe, fr, fw, ⟨hPm, hPa, hPl, hPe, hPr, hPk⟩, hFk, hFe, hFr, hpk, hn9⟩, f11⟩ dX5_upper_45) hS (fun q _ h => h) hn (fun r_13 H locs hR hz hk hS => ?_)
      obtain ⟨tt_14, bb_14, rf_14, hM, hBE_14⟩ := hR
      obtain ⟨ra, rl, ex, ro, rt, fo, fj, fk, fe, fr, fw, ⟨hPm, hPa, hPl, hPe, hPr, hPk⟩, hFk, hFe, hFr, hpk, hn9⟩ := hM
      have g_fo := hPm
      have g_fj := hPa
      refine r_iret (pc := 48) E hr hlk hS (by omega) (by omega) ?_ dX5_upper_48
      exact ⟨_, _, _, _, ⟨_, _, _, _, _, fo, fj, fk, fe, fr, fw, ⟨hPm, hPa, hPl, hPe, hPr, hPk⟩, hFk, hFe, hFr, hpk, hn9⟩, AC.ok (by subst er_1 er_3 er_6; first | rfl | (simp [m_or, m_not, m_is0, m_lt0, m_fl, c_5, c_7]; done)) (by subst er_1 er_3 er_6; first | rfl | (simp [m_or, m_not, m_is0, m_lt0, m_fl, c_5, c_7]; done)) (er_6.symm.trans c_7) (hBE_14.cast (by rw [hv_f11, show nn x3 = kn_ from by rw [hkn1]; exact nI_clamp (by omega)]))⟩
    · refine lv_iconst (pc := 28) (v := 0) hx hb dX5_upper_28 (by decide) ?_
      refine lv_goto (pc := 29) (tgt := 48) hx hb dX5_upper_29 (by decide) ?_
      refine r_iret (pc := 48) E hr hlk hS (by omega) (by omega) ?_ dX5_upper_48
      exact ⟨_, _, _, _, ⟨_, _, _, _, _, fo, fj, fk, fe, fr, fw, ⟨hPm, hPa, hPl, hPe, hPr, hPk⟩, hFk, hFe, hFr, hpk, hn9⟩, AC.fail (by subst er_1 er_3 er_6; first | rfl | (simp [m_or, m_not, m_is0, m_lt0, m_fl, c_5, c_7]; done)) (by subst er_1 er_3 er_6; first | rfl | (simp [m_or, m_not, m_is0, m_lt0, m_fl, c_5, c_7]; done)) (fun z9 => c_7 (er_6.trans z9))⟩
  · refine lv_iconst (pc := 17) (v := 1) hx hb dX5_upper_17 (by decide) ?_
    refine lv_goto (pc := 18) (tgt := 22) hx hb dX5_upper_18 (by decide) ?_
    have hZ0_ := hS.1
    have t_fo := fo.lt
    have t_fj := fj.lt
    have t_fk := fun k (hk9 : k < 6) => (fk k hk9).lt
    have t_fe := fe.lt
    have t_fr := fr.lt
    refine k_i (pc := 22) (k_V E hC hS hA hl.1 (c1.recv hC fo rfl) rfl (c_X5_fails l D tk N0 sa H.size P hPN (fun q h9 => hPs q (Nat.le_trans hS.1 h9)) mo n9 kn th tt bb eT eB oT oB pk ca rf vs r_1 1 ) kw_1251 kw_1253 kp_20 kw_5 kw_1254 (n := 2) (by decide +kernel) rfl ⟨⟨rfl, rfl⟩, ⟨Nat.le_of_ble_eq_true rfl, Nat.le_of_ble_eq_true rfl⟩, (by dsimp only; omega), (by dsimp only; omega)⟩ rfl (Nat.le_of_ble_eq_true rfl) ⟨_, _, _, _, _, fo, fj, fk, fe, fr, fw, ⟨hPm, hPa, hPl, hPe, hPr, hPk⟩, hFk, hFe, hFr, hpk, hn9⟩ dX5_upper_22) hS (fun q _ h => h) hn (fun r_15 H locs hR hz hk hS => ?_)
    obtain ⟨er_15, hM⟩ := hR
    obtain ⟨ra, rl, ex, ro, rt, fo, fj, fk, fe, fr, fw, ⟨hPm, hPa, hPl, hPe, hPr, hPk⟩, hFk, hFe, hFr, hpk, hn9⟩ := hM
    have g_fo := hPm
    have g_fj := hPa
    have ef_r_15 : r_15 = 1 := er_15.trans (m_fl1 _)
    rw [ef_r_15]
    refine lv_if_eq (pc := 25) (tgt := 32) hx hb dX5_upper_25 (by decide) (fun c_16 => ?_) (fun c_16 => ?_)
    · exact absurd c_16 (by decide)
    refine lv_iconst (pc := 28) (v := 0) hx hb dX5_upper_28 (by decide) ?_
    refine lv_goto (pc := 29) (tgt := 48) hx hb dX5_upper_29 (by decide) ?_
    refine r_iret (pc := 48) E hr hlk hS (by omega) (by omega) ?_ dX5_upper_48
    exact ⟨_, _, _, _, ⟨_, _, _, _, _, fo, fj, fk, fe, fr, fw, ⟨hPm, hPa, hPl, hPe, hPr, hPk⟩, hFk, hFe, hFr, hpk, hn9⟩, AC.fail (by subst er_1 er_3; first | rfl | (simp [m_or, m_not, m_is0, m_lt0, m_fl, c_5]; done)) (by subst er_1 er_3; first | rfl | (simp [m_or, m_not, m_is0, m_lt0, m_fl, c_5]; done)) (fun z9 => absurd (ef_r_15.symm.trans (er_15.trans z9)) (by decide))⟩
set_option maxHeartbeats 4000000 in
set_option maxRecDepth 100000 in
/-- BestratiosModel.best(III)I -/
theorem c_X5_best (l : Launch) (D : va_G) (tk : Nat → ClassId) (N0 : Nat) (sa : Nat → Nat)  (sz : Nat) (P : Nat → Prop) (hPN : ∀ q, P q → N0 ≤ q) (hPs : ∀ q, sz ≤ q → P q) (mo n9 : Nat) (kn th : Int32) (tt bb : Nat → Int64) (eT eB oT oB : Int64) (pk : Nat) (ca rf : Int32) (vs : Nat → Value) (x1 : Int32) (x2 : Int32) (x3 : Int32) : Met l yX5_best (wsy yX5_best cX5_best 4 (some .int)) ({ frames := 5, cells := 400, slots := 800, locals := 131 } : Room) (cP D tk N0 sa [.ref mo, .int x1, .int x2, .int x3] sz (fun H => MI D tk sa P mo tt bb eT eB oT oB pk ca rf vs kn n9 th H)) (kQi (fun r H => ∃ th1 tt1 bb1 rf1, MI D tk sa P mo tt1 bb1 eT eB oT oB pk ca rf1 vs kn n9 th1 H ∧ AC (m_areNo x1 x2) (m_not (m_isIn x3 1 200)) tt bb rf (nn x1) (some (m_BS (tt (nn x2)) (bb (nn x2)) (nn x3))) r th1 tt1 bb1 rf1) (P)) (400) (800) (P) := by
  refine mStart RX5 rfl (by decide +kernel) (Nat.le_of_ble_eq_true rfl) ?_
  intro p e s m args below meth c E hr hlk hnm hsz hC hF ls hl
  subst hsz
  obtain ⟨hx, hb, -⟩ := id E
  have hA : ∀ q, (P) q → N0 ≤ q := hPN
  have hn : ∀ q, s.heap.size ≤ q → (P) q := hPs
  have hS : va_S (P) s.heap s.heap [] := va_S.rf
  have hl : lv_has ls 4 [(0, .ref mo), (1, .int x1), (2, .int x2), (3, .int x3)] := hl
  have hM : MI D tk sa P mo tt bb eT eB oT oB pk ca rf vs kn n9 th s.heap := hF
  obtain ⟨ra, rl, ex, ro, rt, fo, fj, fk, fe, fr, fw, ⟨hPm, hPa, hPl, hPe, hPr, hPk⟩, hFk, hFe, hFr, hpk, hn9⟩ := hM
  have g_fo := hPm
  have g_fj := hPa
  refine lv_aload_n (pc := 0) hx hb dX5_best_0 rfl (lv_at hl 0 rfl) ?_
  refine lv_iload_n (pc := 1) hx hb dX5_best_1 rfl (lv_at hl 1 rfl) ?_
  refine lv_iload_n (pc := 2) hx hb dX5_best_2 rfl (lv_at hl 2 rfl) ?_
  refine k_i (pc := 3) (k_S E hC hS hA hl.1 (c_X5_areNo l D tk N0 sa s.heap.size x1 x2 ) kw_1286 kw_1287 kw_5 kw_1288 (n := 2) (by decide +kernel) rfl ⟨⟨rfl, rfl⟩, ⟨Nat.le_of_ble_eq_true rfl, Nat.le_of_ble_eq_true rfl⟩, (by dsimp only; omega), (by dsimp only; omega)⟩ rfl (Nat.le_of_ble_eq_true rfl) trivial dX5_best_3) hS (fun q z w => absurd w (Nat.not_le.mpr z)) hn (fun r_1 H locs hR hz hk hS => ?_)
  have er_1 := hR
  have fw := fw.new hk
  have fo := fo.kept (hk _ fo.lt (Nat.not_le.mpr fo.lt))
  have fj := fj.kept (hk _ fj.lt (Nat.not_le.mpr fj.lt))
  have fk := fk.new hk
  have fe := fe.kept (hk _ fe.lt (Nat.not_le.mpr fe.lt))
  have fr := fr.kept (hk _ fr.lt (Nat.not_le.mpr fr.lt))
  refine lv_iload_n (pc := 6) hx hb dX5_best_6 rfl (lv_at hl 3 rfl) ?_
  refine lv_iconst (pc := 7) (v := 1) hx hb dX5_best_7 (by decide) ?_
  refine lv_sipush (pc := 8) (v := 200) hx hb dX5_best_8 (by decide) ?_
  refine k_i (pc := 11) (k_S E hC hS hA hl.1 (c_X5_isIn l D tk N0 sa H.size x3 1 200 ) kw_1248 kw_1249 kw_5 kw_1250 (n := 3) (by decide +kernel) rfl ⟨⟨rfl, rfl⟩, ⟨Nat.le_of_ble_eq_true rfl, Nat.le_of_ble_eq_true rfl⟩, (by dsimp only; omega), (by dsimp only; omega)⟩ rfl (Nat.le_of_ble_eq_true rfl) trivial dX5_best_11) hS (fun q z w => absurd w (Nat.not_le.mpr z)) hn (fun r_3 H locs hR hz hk hS => ?_)
  have er_3 := hR
  have fw := fw.new hk
  have fo := fo.kept (hk _ fo.lt (Nat.not_le.mpr fo.lt))
  have fj := fj.kept (hk _ fj.lt (Nat.not_le.mpr fj.lt))
  have fk := fk.new hk
  have fe := fe.kept (hk _ fe.lt (Nat.not_le.mpr fe.lt))
  have fr := fr.kept (hk _ fr.lt (Nat.not_le.mpr fr.lt))
  refine lv_if_ne (pc := 14) (tgt := 21) hx hb dX5_best_14 (by decide) (fun c_5 => ?_) (fun c_5 => ?_)
  · refine lv_iconst (pc := 21) (v := 0) hx hb dX5_best_21 (by decide) ?_
    have hZ0_ := hS.1
    have t_fo := fo.lt
    have t_fj := fj.lt
    have t_fk := fun k (hk9 : k < 6) => (fk k hk9).lt
    have t_fe := fe.lt
    have t_fr := fr.lt
    refine k_i (pc := 22) (k_V E hC hS hA hl.1 (c1.recv hC fo rfl) rfl (c_X5_fails l D tk N0 sa H.size P hPN (fun q h9 => hPs q (Nat.le_trans hS.1 h9)) mo n9 kn th tt bb eT eB oT oB pk ca rf vs r_1 0 ) kw_1251 kw_1253 kp_20 kw_5 kw_1254 (n := 2) (by decide +kernel) rfl ⟨⟨rfl, rfl⟩, ⟨Nat.le_of_ble_eq_true rfl, Nat.le_of_ble_eq_true rfl⟩, (by dsimp only; omega), (by dsimp only; omega)⟩ rfl (Nat.le_of_ble_eq_true rfl) ⟨_, _, _, _, _, fo, fj, fk, fe, fr, fw, ⟨hPm, hPa, hPl, hPe, hPr, hPk⟩, hFk, hFe, hFr, hpk, hn9⟩ dX5_best_22) hS (fun q _ h => h) hn (fun r_6 H locs hR hz hk hS => ?_)
    obtain ⟨er_6, hM⟩ := hR
    obtain ⟨ra, rl, ex, ro, rt, fo, fj, fk, fe, fr, fw, ⟨hPm, hPa, hPl, hPe, hPr, hPk⟩, hFk, hFe, hFr, hpk, hn9⟩ := hM
    have g_fo := hPm
    have g_fj := hPa
    refine lv_if_eq (pc := 25) (tgt := 32) hx hb dX5_best_25 (by decide) (fun c_7 => ?_) (fun c_7 => ?_)
    · refine lv_aload_n (pc := 32) hx hb dX5_best_32 rfl (lv_at hl 0 rfl) ?_
      refine lv_iload_n (pc := 33) hx hb dX5_best_33 rfl (lv_at hl 1 rfl) ?_
      refine lv_aload_n (pc := 34) hx hb dX5_best_34 rfl (lv_at hl 0 rfl) ?_
      refine r_get (pc := 35) E hC fo 0 (v := .ref ra) rfl rfl (by decide) uX5 (List.mem_cons_of_mem _ kw_1209) (fun _ h => h) dX5_best_35 ?_
      refine lv_iload_n (pc := 38) hx hb dX5_best_38 rfl (lv_at hl 2 rfl) ?_
      obtain ⟨hx_8, hk_8⟩ := m_noN (m_ano (er_1.symm.trans (m_fl0 (er_6.symm.trans c_7)).1)).2
      refine r_aaldJ (pc := 39) E hC fj (nn x2) hx_8 hk_8 (by decide) rfl dX5_best_39 ?_
      have fL9 := fk (nn x2) hk_8
      have mF_fL9 := hFk (nn x2) hk_8
      have Pq_fL9 := hPk (nn x2) hk_8
      refine lv_iload_n (pc := 40) hx hb dX5_best_40 rfl (lv_at hl 3 rfl) ?_
      obtain ⟨kn_, hkn1, hkn2, hkn3⟩ := m_in1 (x := x3) (hi_ := 200) (by decide) (fun z9 => c_5 (er_3.trans z9))
      have hZ0_ := hS.1
      have t_fo := fo.lt
      have t_fj := fj.lt
      have t_fk := fun k (hk9 : k < 6) => (fk k hk9).lt
      have t_fe := fe.lt
      have t_fr := fr.lt
      have t_fL9 := fL9.lt
      refine k_r (pc := 41) (k_S E hC hS hA hl.1 (c_X5_bestOf l D tk N0 sa H.size (rt (nn x2)) (tt (nn x2)) (bb (nn x2)) x3 kn_ mF_fL9 hkn1 hkn2 hkn3) kw_1638 kw_1639 kw_5 kw_1640 (n := 2) (by decide +kernel) rfl ⟨⟨rfl, rfl⟩, ⟨Nat.le_of_ble_eq_true rfl, Nat.le_of_ble_eq_true rfl⟩, (by dsimp only; omega), (by dsimp only; omega)⟩ rfl (Nat.le_of_ble_eq_true rfl) fL9 dX5_best_41) hS (fun q z w => absurd w (Nat.not_le.mpr z)) hn (fun r_10 H locs hR hz hk hS => ?_)
      have fw := fw.new hk
      have fo := fo.kept (hk _ fo.lt (Nat.not_le.mpr fo.lt))
      have fj := fj.kept (hk _ fj.lt (Nat.not_le.mpr fj.lt))
      have fk := fk.new hk
      have fe := fe.kept (hk _ fe.lt (Nat.not_le.mpr fe.lt))
      have fr := fr.kept (hk _ fr.lt (Nat.not_le.mpr fr.lt))
      have fL9 := fL9.kept (hk _ fL9.lt (Nat.not_le.mpr fL9.lt))
      obtain ⟨z9_, tt_f11, bb_f11, f11, hb_f11, hv_f11⟩ := hR
      have s_f11 : s.heap.size ≤ r_10 := Nat.le_trans hZ0_ z9_
      have g_f11 := hn _ s_f11
      have l_fo_f11 : mo < r_10 := Nat.lt_of_lt_of_le t_fo z9_
      have l_fj_f11 : ra < r_10 := Nat.lt_of_lt_of_le t_fj z9_
      have nW_f11 : ∀ k, k < 6 → rt k ≠ r_10 := fun k hk9 => Nat.ne_of_lt (Nat.lt_of_lt_of_le (t_fk k hk9) z9_)
      have l_fe_f11 : ex < r_10 := Nat.lt_of_lt_of_le t_fe z9_
      have l_fr_f11 : ro < r_10 := Nat.lt_of_lt_of_le t_fr z9_
      have l_fL9_f11 : rt (nn x2) < r_10 := Nat.lt_of_lt_of_le t_fL9 z9_
      have hZ0_ := hS.1
      have t_fo := fo.lt
      have t_fj := fj.lt
      have t_fk := fun k (hk9 : k < 6) => (fk k hk9).lt
      have t_fe := fe.lt
      have t_fr := fr.lt
      have t_fL9 := fL9.lt
      have t_f11 := f11.lt
      obtain ⟨hx_12, hk_12⟩ := m_noN (m_ano (er_1.symm.trans (m_fl0 (er_6.symm.trans c_7)).1)).1
      refine k_i (pc := 44) (k_V E hC hS hA hl.1 (c1.recv hC fo rfl) rfl (c_X5_become l D tk N0 sa H.size P hPN (fun q h9 => hPs q (Nat.le_trans hS.1 h9)) mo n9 kn ((m_th r_1 0)) tt bb eT eB oT oB pk ca rf vs x1 (nn x1) hx_12 hk_12 r_10 tt_f11 bb_f11 (hPs _ s_f11) hb_f11.1) kw_1255 kw_1257 kp_21 kw_5 kw_1258 (n := 2) (by decide +kernel) rfl ⟨⟨rfl, rfl⟩, ⟨Nat.le_of_ble_eq_true rfl, Nat.le_of_ble_eq_true rfl⟩, (by dsimp only; omega), (by dsimp only; omega)⟩ rfl (Nat.le_of_ble_eq_true rfl) ⟨⟨_, _, _, _, _, fo, fj, fk, fe, fr, fw, ⟨hPm, hPa, hPl, hPe, hPr, hPk⟩, hFk, hFe, hFr, hpk, hn9⟩, f11⟩ dX5_best_44) hS (fun q _ h => h) hn (fun r_13 H locs hR hz hk hS => ?_)
      obtain ⟨tt_14, bb_14, rf_14, hM, hBE_14⟩ := hR
      obtain ⟨ra, rl, ex, ro, rt, fo, fj, fk, fe, fr, fw, ⟨hPm, hPa, hPl, hPe, hPr, hPk⟩, hFk, hFe, hFr, hpk, hn9⟩ := hM
      have g_fo := hPm
      have g_fj := hPa
      refine r_iret (pc := 47) E hr hlk hS (by omega) (by omega) ?_ dX5_best_47
      exact ⟨_, _, _, _, ⟨_, _, _, _, _, fo, fj, fk, fe, fr, fw, ⟨hPm, hPa, hPl, hPe, hPr, hPk⟩, hFk, hFe, hFr, hpk, hn9⟩, AC.ok (by subst er_1 er_3 er_6; first | rfl | (simp [m_or, m_not, m_is0, m_lt0, m_fl, c_5, c_7]; done)) (by subst er_1 er_3 er_6; first | rfl | (simp [m_or, m_not, m_is0, m_lt0, m_fl, c_5, c_7]; done)) (er_6.symm.trans c_7) (hBE_14.cast (by rw [hv_f11, show nn x3 = kn_ from by rw [hkn1]; exact nI_clamp (by omega)]))⟩
    · refine lv_iconst (pc := 28) (v := 0) hx hb dX5_best_28 (by decide) ?_
      refine lv_goto (pc := 29) (tgt := 47) hx hb dX5_best_29 (by decide) ?_
      refine r_iret (pc := 47) E hr hlk hS (by omega) (by omega) ?_ dX5_best_47
      exact ⟨_, _, _, _, ⟨_, _, _, _, _, fo, fj, fk, fe, fr, fw, ⟨hPm, hPa, hPl, hPe, hPr, hPk⟩, hFk, hFe, hFr, hpk, hn9⟩, AC.fail (by subst er_1 er_3 er_6; first | rfl | (simp [m_or, m_not, m_is0, m_lt0, m_fl, c_5, c_7]; done)) (by subst er_1 er_3 er_6; first | rfl | (simp [m_or, m_not, m_is0, m_lt0, m_fl, c_5, c_7]; done)) (fun z9 => c_7 (er_6.trans z9))⟩
  · refine lv_iconst (pc := 17) (v := 1) hx hb dX5_best_17 (by decide) ?_
    refine lv_goto (pc := 18) (tgt := 22) hx hb dX5_best_18 (by decide) ?_
    have hZ0_ := hS.1
    have t_fo := fo.lt
    have t_fj := fj.lt
    have t_fk := fun k (hk9 : k < 6) => (fk k hk9).lt
    have t_fe := fe.lt
    have t_fr := fr.lt
    refine k_i (pc := 22) (k_V E hC hS hA hl.1 (c1.recv hC fo rfl) rfl (c_X5_fails l D tk N0 sa H.size P hPN (fun q h9 => hPs q (Nat.le_trans hS.1 h9)) mo n9 kn th tt bb eT eB oT oB pk ca rf vs r_1 1 ) kw_1251 kw_1253 kp_20 kw_5 kw_1254 (n := 2) (by decide +kernel) rfl ⟨⟨rfl, rfl⟩, ⟨Nat.le_of_ble_eq_true rfl, Nat.le_of_ble_eq_true rfl⟩, (by dsimp only; omega), (by dsimp only; omega)⟩ rfl (Nat.le_of_ble_eq_true rfl) ⟨_, _, _, _, _, fo, fj, fk, fe, fr, fw, ⟨hPm, hPa, hPl, hPe, hPr, hPk⟩, hFk, hFe, hFr, hpk, hn9⟩ dX5_best_22) hS (fun q _ h => h) hn (fun r_15 H locs hR hz hk hS => ?_)
    obtain ⟨er_15, hM⟩ := hR
    obtain ⟨ra, rl, ex, ro, rt, fo, fj, fk, fe, fr, fw, ⟨hPm, hPa, hPl, hPe, hPr, hPk⟩, hFk, hFe, hFr, hpk, hn9⟩ := hM
    have g_fo := hPm
    have g_fj := hPa
    have ef_r_15 : r_15 = 1 := er_15.trans (m_fl1 _)
    rw [ef_r_15]
    refine lv_if_eq (pc := 25) (tgt := 32) hx hb dX5_best_25 (by decide) (fun c_16 => ?_) (fun c_16 => ?_)
    · exact absurd c_16 (by decide)
    refine lv_iconst (pc := 28) (v := 0) hx hb dX5_best_28 (by decide) ?_
    refine lv_goto (pc := 29) (tgt := 47) hx hb dX5_best_29 (by decide) ?_
    refine r_iret (pc := 47) E hr hlk hS (by omega) (by omega) ?_ dX5_best_47
    exact ⟨_, _, _, _, ⟨_, _, _, _, _, fo, fj, fk, fe, fr, fw, ⟨hPm, hPa, hPl, hPe, hPr, hPk⟩, hFk, hFe, hFr, hpk, hn9⟩, AC.fail (by subst er_1 er_3; first | rfl | (simp [m_or, m_not, m_is0, m_lt0, m_fl, c_5]; done)) (by subst er_1 er_3; first | rfl | (simp [m_or, m_not, m_is0, m_lt0, m_fl, c_5]; done)) (fun z9 => absurd (ef_r_15.symm.trans (er_15.trans z9)) (by decide))⟩
