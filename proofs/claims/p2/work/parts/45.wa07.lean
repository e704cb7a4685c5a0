set_option maxHeartbeats 4000000 in
set_option maxRecDepth 100000 in
/-- BestratiosModel.times(III)I -/
theorem c_X5_times (l : Launch) (D : va_G) (tk : Nat → ClassId) (N0 : Nat) (sa : Nat → Nat)  (sz : Nat) (P : Nat → Prop) (hPN : ∀ q, P q → N0 ≤ q) (hPs : ∀ q, sz ≤ q → P q) (mo n9 : Nat) (kn th : Int32) (tt bb : Nat → Int64) (eT eB oT oB : Int64) (pk : Nat) (ca rf : Int32) (vs : Nat → Value) (x1 : Int32) (x2 : Int32) (x3 : Int32) : Met l yX5_times (wsy yX5_times cX5_times 4 (some .int)) ({ frames := 4, cells := 1, slots := 2, locals := 98 } : Room) (cP D tk N0 sa [.ref mo, .int x1, .int x2, .int x3] sz (fun H => MI D tk sa P mo tt bb eT eB oT oB pk ca rf vs kn n9 th H)) (kQi (fun r H => ∃ th1 tt1 bb1 rf1, MI D tk sa P mo tt1 bb1 eT eB oT oB pk ca rf1 vs kn n9 th1 H ∧ AC (m_or (m_isNo x1) (m_areNo x2 x3)) 0 tt bb rf (nn x1) (LO (tt (nn x2) * tt (nn x3)) (bb (nn x2) * bb (nn x3))) r th1 tt1 bb1 rf1) (P)) (1) (2) (P) := by
  refine mStart RX5 rfl (by decide +kernel) (Nat.le_of_ble_eq_true rfl) ?_
  intro p e s m args below meth c E hr hlk hnm hsz hC hF ls hl
  subst hsz
  obtain ⟨hx, hb, -⟩ := id E
  have hA : ∀ q, (P) q → N0 ≤ q := hPN
  have hn : ∀ q, s.heap.size ≤ q → (P) q := hPs
  have hS : va_S (P) s.heap s.heap [] := va_S.rf
  have hl : lv_has ls 4 [(0, .ref mo), (1, .int x1), (2, .int x2), (3, .int x3)] := hl
  have hM : MI D tk sa P mo tt bb eT eB oT oB pk ca rf vs kn n9 th s.heap := hF
  obtain ⟨ra, rl, ex, ro, rt, fo, fj, fk, fe, fr, fw, ⟨hPm, hPa, hPl, hPe, hPr, hPk⟩, hFk, hFe, hFr, hpk, hn9⟩ := hM
  have g_fo := hPm
  have g_fj := hPa
  refine lv_aload_n (pc := 0) hx hb dX5_times_0 rfl (lv_at hl 0 rfl) ?_
  refine lv_iload_n (pc := 1) hx hb dX5_times_1 rfl (lv_at hl 1 rfl) ?_
  refine k_i (pc := 2) (k_S E hC hS hA hl.1 (c_X5_isNo l D tk N0 sa s.heap.size x1 ) kw_1245 kw_1246 kw_5 kw_1247 (n := 1) (by decide +kernel) rfl ⟨⟨rfl, rfl⟩, ⟨Nat.le_of_ble_eq_true rfl, Nat.le_of_ble_eq_true rfl⟩, (by dsimp only; omega), (by dsimp only; omega)⟩ rfl (Nat.le_of_ble_eq_true rfl) trivial dX5_times_2) hS (fun q z w => absurd w (Nat.not_le.mpr z)) hn (fun r_1 H locs hR hz hk hS => ?_)
  have er_1 := hR
  have fw := fw.new hk
  have fo := fo.kept (hk _ fo.lt (Nat.not_le.mpr fo.lt))
  have fj := fj.kept (hk _ fj.lt (Nat.not_le.mpr fj.lt))
  have fk := fk.new hk
  have fe := fe.kept (hk _ fe.lt (Nat.not_le.mpr fe.lt))
  have fr := fr.kept (hk _ fr.lt (Nat.not_le.mpr fr.lt))
  refine lv_if_ne (pc := 5) (tgt := 16) hx hb dX5_times_5 (by decide) (fun c_3 => ?_) (fun c_3 => ?_)
  · refine lv_iconst (pc := 16) (v := 1) hx hb dX5_times_16 (by decide) ?_
    refine lv_goto (pc := 17) (tgt := 21) hx hb dX5_times_17 (by decide) ?_
    refine lv_iconst (pc := 21) (v := 0) hx hb dX5_times_21 (by decide) ?_
    have hZ0_ := hS.1
    have t_fo := fo.lt
    have t_fj := fj.lt
    have t_fk := fun k (hk9 : k < 6) => (fk k hk9).lt
    have t_fe := fe.lt
    have t_fr := fr.lt
    refine k_i (pc := 22) (k_V E hC hS hA hl.1 (c1.recv hC fo rfl) rfl (c_X5_fails l D tk N0 sa H.size P hPN (fun q h9 => hPs q (Nat.le_trans hS.1 h9)) mo n9 kn th tt bb eT eB oT oB pk ca rf vs 1 0 ) kw_1251 kw_1253 kp_20 kw_5 kw_1254 (n := 2) (by decide +kernel) rfl ⟨⟨rfl, rfl⟩, ⟨Nat.le_of_ble_eq_true rfl, Nat.le_of_ble_eq_true rfl⟩, (by dsimp only; omega), (by dsimp only; omega)⟩ rfl (Nat.le_of_ble_eq_true rfl) ⟨_, _, _, _, _, fo, fj, fk, fe, fr, fw, ⟨hPm, hPa, hPl, hPe, hPr, hPk⟩, hFk, hFe, hFr, hpk, hn9⟩ dX5_times_22) hS (fun q _ h => h) hn (fun r_4 H locs hR hz hk hS => ?_)
    obtain ⟨er_4, hM⟩ := hR
    obtain ⟨ra, rl, ex, ro, rt, fo, fj, fk, fe, fr, fw, ⟨hPm, hPa, hPl, hPe, hPr, hPk⟩, hFk, hFe, hFr, hpk, hn9⟩ := hM
    have g_fo := hPm
    have g_fj := hPa
    have ef_r_4 : r_4 = 1 := er_4.trans (if_neg (by decide))
    rw [ef_r_4]
    refine lv_if_eq (pc := 25) (tgt := 32) hx hb dX5_times_25 (by decide) (fun c_5 => ?_) (fun c_5 => ?_)
    · exact absurd c_5 (by decide)
    refine lv_iconst (pc := 28) (v := 0) hx hb dX5_times_28 (by decide) ?_
    refine lv_goto (pc := 29) (tgt := 52) hx hb dX5_times_29 (by decide) ?_
    refine r_iret (pc := 52) E hr hlk hS (by omega) (by omega) ?_ dX5_times_52
    exact ⟨_, _, _, _, ⟨_, _, _, _, _, fo, fj, fk, fe, fr, fw, ⟨hPm, hPa, hPl, hPe, hPr, hPk⟩, hFk, hFe, hFr, hpk, hn9⟩, AC.fail (by subst er_1; first | rfl | (simp [m_or, m_not, m_is0, m_lt0, m_fl, c_3]; done)) (by subst er_1; first | rfl | (simp [m_or, m_not, m_is0, m_lt0, m_fl, c_3]; done)) (fun z9 => absurd (ef_r_4.symm.trans (er_4.trans z9)) (by decide))⟩
  · refine lv_iload_n (pc := 8) hx hb dX5_times_8 rfl (lv_at hl 2 rfl) ?_
    refine lv_iload_n (pc := 9) hx hb dX5_times_9 rfl (lv_at hl 3 rfl) ?_
    refine k_i (pc := 10) (k_S E hC hS hA hl.1 (c_X5_areNo l D tk N0 sa H.size x2 x3 ) kw_1286 kw_1287 kw_5 kw_1288 (n := 2) (by decide +kernel) rfl ⟨⟨rfl, rfl⟩, ⟨Nat.le_of_ble_eq_true rfl, Nat.le_of_ble_eq_true rfl⟩, (by dsimp only; omega), (by dsimp only; omega)⟩ rfl (Nat.le_of_ble_eq_true rfl) trivial dX5_times_10) hS (fun q z w => absurd w (Nat.not_le.mpr z)) hn (fun r_6 H locs hR hz hk hS => ?_)
    have er_6 := hR
    have fw := fw.new hk
    have fo := fo.kept (hk _ fo.lt (Nat.not_le.mpr fo.lt))
    have fj := fj.kept (hk _ fj.lt (Nat.not_le.mpr fj.lt))
    have fk := fk.new hk
    have fe := fe.kept (hk _ fe.lt (Nat.not_le.mpr fe.lt))
    have fr := fr.kept (hk _ fr.lt (Nat.not_le.mpr fr.lt))
    refine lv_if_eq (pc := 13) (tgt := 20) hx hb dX5_times_13 (by decide) (fun c_8 => ?_) (fun c_8 => ?_)
    · refine lv_iconst (pc := 20) (v := 0) hx hb dX5_times_20 (by decide) ?_
      refine lv_iconst (pc := 21) (v := 0) hx hb dX5_times_21 (by decide) ?_
      have hZ0_ := hS.1
      have t_fo := fo.lt
      have t_fj := fj.lt
      have t_fk := fun k (hk9 : k < 6) => (fk k hk9).lt
      have t_fe := fe.lt
      have t_fr := fr.lt
      refine k_i (pc := 22) (k_V E hC hS hA hl.1 (c1.recv hC fo rfl) rfl (c_X5_fails l D tk N0 sa H.size P hPN (fun q h9 => hPs q (Nat.le_trans hS.1 h9)) mo n9 kn th tt bb eT eB oT oB pk ca rf vs 0 0 ) kw_1251 kw_1253 kp_20 kw_5 kw_1254 (n := 2) (by decide +kernel) rfl ⟨⟨rfl, rfl⟩, ⟨Nat.le_of_ble_eq_true rfl, Nat.le_of_ble_eq_true rfl⟩, (by dsimp only; omega), (by dsimp only; omega)⟩ rfl (Nat.le_of_ble_eq_true rfl) ⟨_, _, _, _, _, fo, fj, fk, fe, fr, fw, ⟨hPm, hPa, hPl, hPe, hPr, hPk⟩, hFk, hFe, hFr, hpk, hn9⟩ dX5_times_22) hS (fun q _ h => h) hn (fun r_9 H locs hR hz hk hS => ?_)
      obtain ⟨er_9, hM⟩ := hR
      obtain ⟨ra, rl, ex, ro, rt, fo, fj, fk, fe, fr, fw, ⟨hPm, hPa, hPl, hPe, hPr, hPk⟩, hFk, hFe, hFr, hpk, hn9⟩ := hM
      have g_fo := hPm
      have g_fj := hPa
      have ef_r_9 : r_9 = 0 := er_9.trans rfl
      rw [ef_r_9]
      refine lv_if_eq (pc := 25) (tgt := 32) hx hb dX5_times_25 (by decide) (fun c_10 => ?_) (fun c_10 => ?_)
      rotate_left
      · exact absurd (by decide) c_10
      refine lv_aload_n (pc := 32) hx hb dX5_times_32 rfl (lv_at hl 0 rfl) ?_
      refine lv_iload_n (pc := 33) hx hb dX5_times_33 rfl (lv_at hl 1 rfl) ?_
      refine lv_aload_n (pc := 34) hx hb dX5_times_34 rfl (lv_at hl 0 rfl) ?_
      refine r_get (pc := 35) E hC fo 0 (v := .ref ra) rfl rfl (by decide) uX5 (List.mem_cons_of_mem _ kw_1209) (fun _ h => h) dX5_times_35 ?_
      refine lv_iload_n (pc := 38) hx hb dX5_times_38 rfl (lv_at hl 2 rfl) ?_
      obtain ⟨hx_11, hk_11⟩ := m_noN (m_ano (er_6.symm.trans c_8)).1
      refine r_aaldJ (pc := 39) E hC fj (nn x2) hx_11 hk_11 (by decide) rfl dX5_times_39 ?_
      have fL12 := fk (nn x2) hk_11
      have mF_fL12 := hFk (nn x2) hk_11
      have Pq_fL12 := hPk (nn x2) hk_11
      refine lv_aload_n (pc := 40) hx hb dX5_times_40 rfl (lv_at hl 0 rfl) ?_
      refine r_get (pc := 41) E hC fo 0 (v := .ref ra) rfl rfl (by decide) uX5 (List.mem_cons_of_mem _ kw_1209) (fun _ h => h) dX5_times_41 ?_
      refine lv_iload_n (pc := 44) hx hb dX5_times_44 rfl (lv_at hl 3 rfl) ?_
      obtain ⟨hx_13, hk_13⟩ := m_noN (m_ano (er_6.symm.trans c_8)).2
      refine r_aaldJ (pc := 45) E hC fj (nn x3) hx_13 hk_13 (by decide) rfl dX5_times_45 ?_
      have fL14 := fk (nn x3) hk_13
      have mF_fL14 := hFk (nn x3) hk_13
      have Pq_fL14 := hPk (nn x3) hk_13
      have hP9 := m_prod mF_fL12 mF_fL14
      have hZ0_ := hS.1
      have t_fo := fo.lt
      have t_fj := fj.lt
      have t_fk := fun k (hk9 : k < 6) => (fk k hk9).lt
      have t_fe := fe.lt
      have t_fr := fr.lt
      have t_fL12 := fL12.lt
      have t_fL14 := fL14.lt
      refine k_r (pc := 46) (k_S E hC hS hA hl.1 (c_X5_product l D tk N0 sa H.size (rt (nn x2)) (tt (nn x2)) (bb (nn x2)) (rt (nn x3)) (tt (nn x3)) (bb (nn x3)) hP9.1) kw_1308 kw_1309 kw_5 kw_1310 (n := 2) (by decide +kernel) rfl ⟨⟨rfl, rfl⟩, ⟨Nat.le_of_ble_eq_true rfl, Nat.le_of_ble_eq_true rfl⟩, (by dsimp only; omega), (by dsimp only; omega)⟩ rfl (Nat.le_of_ble_eq_true rfl) ⟨fL12, fL14⟩ dX5_times_46) hS (fun q z w => absurd w (Nat.not_le.mpr z)) hn (fun r_15 H locs hR hz hk hS => ?_)
      have fw := fw.new hk
      have fo := fo.kept (hk _ fo.lt (Nat.not_le.mpr fo.lt))
      have fj := fj.kept (hk _ fj.lt (Nat.not_le.mpr fj.lt))
      have fk := fk.new hk
      have fe := fe.kept (hk _ fe.lt (Nat.not_le.mpr fe.lt))
      have fr := fr.kept (hk _ fr.lt (Nat.not_le.mpr fr.lt))
      have fL12 := fL12.kept (hk _ fL12.lt (Nat.not_le.mpr fL12.lt))
      have fL14 := fL14.kept (hk _ fL14.lt (Nat.not_le.mpr fL14.lt))
      obtain ⟨z9_, f16⟩ := hR
      have s_f16 : s.heap.size ≤ r_15 := Nat.le_trans hZ0_ z9_
      have g_f16 := hn _ s_f16
      have l_fo_f16 : mo < r_15 := Nat.lt_of_lt_of_le t_fo z9_
      have l_fj_f16 : ra < r_15 := Nat.lt_of_lt_of_le t_fj z9_
      have nW_f16 : ∀ k, k < 6 → rt k ≠ r_15 := fun k hk9 => Nat.ne_of_lt (Nat.lt_of_lt_of_le (t_fk k hk9) z9_)
      have l_fe_f16 : ex < r_15 := Nat.lt_of_lt_of_le t_fe z9_
      have l_fr_f16 : ro < r_15 := Nat.lt_of_lt_of_le t_fr z9_
      have l_fL12_f16 : rt (nn x2) < r_15 := Nat.lt_of_lt_of_le t_fL12 z9_
      have l_fL14_f16 : rt (nn x3) < r_15 := Nat.lt_of_lt_of_le t_fL14 z9_
      have hZ0_ := hS.1
      have t_fo := fo.lt
      have t_fj := fj.lt
      have t_fk := fun k (hk9 : k < 6) => (fk k hk9).lt
      have t_fe := fe.lt
      have t_fr := fr.lt
      have t_fL12 := fL12.lt
      have t_fL14 := fL14.lt
      have t_f16 := f16.lt
      obtain ⟨hx_17, hk_17⟩ := m_noN (er_1.symm.trans c_3)
      refine k_i (pc := 49) (k_V E hC hS hA hl.1 (c1.recv hC fo rfl) rfl (c_X5_become l D tk N0 sa H.size P hPN (fun q h9 => hPs q (Nat.le_trans hS.1 h9)) mo n9 kn ((m_th 0 0)) tt bb eT eB oT oB pk ca rf vs x1 (nn x1) hx_17 hk_17 r_15 (m_loT ((tt (nn x2)) * (tt (nn x3))) ((bb (nn x2)) * (bb (nn x3)))) (m_loB ((tt (nn x2)) * (tt (nn x3))) ((bb (nn x2)) * (bb (nn x3)))) (hPs _ s_f16) hP9.2.1) kw_1255 kw_1257 kp_21 kw_5 kw_1258 (n := 2) (by decide +kernel) rfl ⟨⟨rfl, rfl⟩, ⟨Nat.le_of_ble_eq_true rfl, Nat.le_of_ble_eq_true rfl⟩, (by dsimp only; omega), (by dsimp only; omega)⟩ rfl (Nat.le_of_ble_eq_true rfl) ⟨⟨_, _, _, _, _, fo, fj, fk, fe, fr, fw, ⟨hPm, hPa, hPl, hPe, hPr, hPk⟩, hFk, hFe, hFr, hpk, hn9⟩, f16⟩ dX5_times_49) hS (fun q _ h => h) hn (fun r_18 H locs hR hz hk hS => ?_)
      obtain ⟨tt_19, bb_19, rf_19, hM, hBE_19⟩ := hR
      obtain ⟨ra, rl, ex, ro, rt, fo, fj, fk, fe, fr, fw, ⟨hPm, hPa, hPl, hPe, hPr, hPk⟩, hFk, hFe, hFr, hpk, hn9⟩ := hM
      have g_fo := hPm
      have g_fj := hPa
      refine r_iret (pc := 52) E hr hlk hS (by omega) (by omega) ?_ dX5_times_52
      exact ⟨_, _, _, _, ⟨_, _, _, _, _, fo, fj, fk, fe, fr, fw, ⟨hPm, hPa, hPl, hPe, hPr, hPk⟩, hFk, hFe, hFr, hpk, hn9⟩, AC.ok (by subst er_1 er_6; first | rfl | (simp [m_or, m_not, m_is0, m_lt0, m_fl, c_3, c_8]; done)) (by subst er_1 er_6; first | rfl | (simp [m_or, m_not, m_is0, m_lt0, m_fl, c_3, c_8]; done)) (er_9.symm.trans ef_r_9) (hBE_19.cast (by subst er_1 er_6; first | rfl | (simp [LO, c_3, c_8]; done)))⟩
    · refine lv_iconst (pc := 16) (v := 1) hx hb dX5_times_16 (by decide) ?_
      refine lv_goto (pc := 17) (tgt := 21) hx hb dX5_times_17 (by decide) ?_
      refine lv_iconst (pc := 21) (v := 0) hx hb dX5_times_21 (by decide) ?_
      have hZ0_ := hS.1
      have t_fo := fo.lt
      have t_fj := fj.lt
      have t_fk := fun k (hk9 : k < 6) => (fk k hk9).lt
      have t_fe := fe.lt
      have t_fr := fr.lt
      refine k_i (pc := 22) (k_V E hC hS hA hl.1 (c1.recv hC fo rfl) rfl (c_X5_fails l D tk N0 sa H.size P hPN (fun q h9 => hPs q (Nat.le_trans hS.1 h9)) mo n9 kn th tt bb eT eB oT oB pk ca rf vs 1 0 ) kw_1251 kw_1253 kp_20 kw_5 kw_1254 (n := 2) (by decide +kernel) rfl ⟨⟨rfl, rfl⟩, ⟨Nat.le_of_ble_eq_true rfl, Nat.le_of_ble_eq_true rfl⟩, (by dsimp only; omega), (by dsimp only; omega)⟩ rfl (Nat.le_of_ble_eq_true rfl) ⟨_, _, _, _, _, fo, fj, fk, fe, fr, fw, ⟨hPm, hPa, hPl, hPe, hPr, hPk⟩, hFk, hFe, hFr, hpk, hn9⟩ dX5_times_22) hS (fun q _ h => h) hn (fun r_20 H locs hR hz hk hS => ?_)
      obtain ⟨er_20, hM⟩ := hR
      obtain ⟨ra, rl, ex, ro, rt, fo, fj, fk, fe, fr, fw, ⟨hPm, hPa, hPl, hPe, hPr, hPk⟩, hFk, hFe, hFr, hpk, hn9⟩ := hM
      have g_fo := hPm
      have g_fj := hPa
      have ef_r_20 : r_20 = 1 := er_20.trans (if_neg (by decide))
      rw [ef_r_20]
      refine lv_if_eq (pc := 25) (tgt := 32) hx hb dX5_times_25 (by decide) (fun c_21 => ?_) (fun c_21 => ?_)
      · exact absurd c_21 (by decide)
      refine lv_iconst (pc := 28) (v := 0) hx hb dX5_times_28 (by decide) ?_
      refine lv_goto (pc := 29) (tgt := 52) hx hb dX5_times_29 (by decide) ?_
      refine r_iret (pc := 52) E hr hlk hS (by omega) (by omega) ?_ dX5_times_52
      exact ⟨_, _, _, _, ⟨_, _, _, _, _, fo, fj, fk, fe, fr, fw, ⟨hPm, hPa, hPl, hPe, hPr, hPk⟩, hFk, hFe, hFr, hpk, hn9⟩, AC.fail (by subst er_1 er_6; first | rfl | (simp [m_or, m_not, m_is0, m_lt0, m_fl, c_3, c_8]; done)) (by subst er_1 er_6; first | rfl | (simp [m_or, m_not, m_is0, m_lt0, m_fl, c_3, c_8]; done)) (fun z9 => absurd (ef_r_20.symm.trans (er_20.trans z9)) (by decide))⟩
