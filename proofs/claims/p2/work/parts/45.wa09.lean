set_option maxHeartbeats 4000000 in
set_option maxRecDepth 100000 in
/-- BestratiosModel.over(III)I -/
theorem c_X5_over (l : Launch) (D : va_G) (tk : Nat → ClassId) (N0 : Nat) (sa : Nat → Nat)  (sz : Nat) (P : Nat → Prop) (hPN : ∀ q, P q → N0 ≤ q) (hPs : ∀ q, sz ≤ q → P q) (mo n9 : Nat) (kn th : Int32) (tt bb : Nat → Int64) (eT eB oT oB : Int64) (pk : Nat) (ca rf : Int32) (vs : Nat → Value) (x1 : Int32) (x2 : Int32) (x3 : Int32) : Met l yX5_over (wsy yX5_over cX5_over 5 (some .int)) ({ frames := 4, cells := 2, slots := 4, locals := 98 } : Room) (cP D tk N0 sa [.ref mo, .int x1, .int x2, .int x3] sz (fun H => MI D tk sa P mo tt bb eT eB oT oB pk ca rf vs kn n9 th H)) (kQi (fun r H => ∃ th1 tt1 bb1 rf1, MI D tk sa P mo tt1 bb1 eT eB oT oB pk ca rf1 vs kn n9 th1 H ∧ AC (m_or (m_isNo x1) (m_areNo x2 x3)) 0 tt bb rf (nn x1) (m_OV (tt (nn x2)) (bb (nn x2)) (tt (nn x3)) (bb (nn x3))) r th1 tt1 bb1 rf1) (P)) (2) (4) (P) := by
  refine mStart RX5 rfl (by decide +kernel) (Nat.le_of_ble_eq_true rfl) ?_
  intro p e s m args below meth c E hr hlk hnm hsz hC hF ls hl
  subst hsz
  obtain ⟨hx, hb, -⟩ := id E
  have hA : ∀ q, (P) q → N0 ≤ q := hPN
  have hn : ∀ q, s.heap.size ≤ q → (P) q := hPs
  have hS : va_S (P) s.heap s.heap [] := va_S.rf
  have hl : lv_has ls 5 [(0, .ref mo), (1, .int x1), (2, .int x2), (3, .int x3)] := hl
  have hM : MI D tk sa P mo tt bb eT eB oT oB pk ca rf vs kn n9 th s.heap := hF
  obtain ⟨ra, rl, ex, ro, rt, fo, fj, fk, fe, fr, fw, ⟨hPm, hPa, hPl, hPe, hPr, hPk⟩, hFk, hFe, hFr, hpk, hn9⟩ := hM
  have g_fo := hPm
  have g_fj := hPa
  refine lv_aload_n (pc := 0) hx hb dX5_over_0 rfl (lv_at hl 0 rfl) ?_
  refine lv_iload_n (pc := 1) hx hb dX5_over_1 rfl (lv_at hl 1 rfl) ?_
  refine k_i (pc := 2) (k_S E hC hS hA hl.1 (c_X5_isNo l D tk N0 sa s.heap.size x1 ) kw_1245 kw_1246 kw_5 kw_1247 (n := 1) (by decide +kernel) rfl ⟨⟨rfl, rfl⟩, ⟨Nat.le_of_ble_eq_true rfl, Nat.le_of_ble_eq_true rfl⟩, (by dsimp only; omega), (by dsimp only; omega)⟩ rfl (Nat.le_of_ble_eq_true rfl) trivial dX5_over_2) hS (fun q z w => absurd w (Nat.not_le.mpr z)) hn (fun r_1 H locs hR hz hk hS => ?_)
  have er_1 := hR
  have fw := fw.new hk
  have fo := fo.kept (hk _ fo.lt (Nat.not_le.mpr fo.lt))
  have fj := fj.kept (hk _ fj.lt (Nat.not_le.mpr fj.lt))
  have fk := fk.new hk
  have fe := fe.kept (hk _ fe.lt (Nat.not_le.mpr fe.lt))
  have fr := fr.kept (hk _ fr.lt (Nat.not_le.mpr fr.lt))
  refine lv_if_ne (pc := 5) (tgt := 16) hx hb dX5_over_5 (by decide) (fun c_3 => ?_) (fun c_3 => ?_)
  · refine lv_iconst (pc := 16) (v := 1) hx hb dX5_over_16 (by decide) ?_
    refine lv_goto (pc := 17) (tgt := 21) hx hb dX5_over_17 (by decide) ?_
    refine lv_iconst (pc := 21) (v := 0) hx hb dX5_over_21 (by decide) ?_
    have hZ0_ := hS.1
    have t_fo := fo.lt
    have t_fj := fj.lt
    have t_fk := fun k (hk9 : k < 6) => (fk k hk9).lt
    have t_fe := fe.lt
    have t_fr := fr.lt
    refine k_i (pc := 22) (k_V E hC hS hA hl.1 (c1.recv hC fo rfl) rfl (c_X5_fails l D tk N0 sa H.size P hPN (fun q h9 => hPs q (Nat.le_trans hS.1 h9)) mo n9 kn th tt bb eT eB oT oB pk ca rf vs 1 0 ) kw_1251 kw_1253 kp_20 kw_5 kw_1254 (n := 2) (by decide +kernel) rfl ⟨⟨rfl, rfl⟩, ⟨Nat.le_of_ble_eq_true rfl, Nat.le_of_ble_eq_true rfl⟩, (by dsimp only; omega), (by dsimp only; omega)⟩ rfl (Nat.le_of_ble_eq_true rfl) ⟨_, _, _, _, _, fo, fj, fk, fe, fr, fw, ⟨hPm, hPa, hPl, hPe, hPr, hPk⟩, hFk, hFe, hFr, hpk, hn9⟩ dX5_over_22) hS (fun q _ h => h) hn (fun r_4 H locs hR hz hk hS => ?_)
    obtain ⟨er_4, hM⟩ := hR
    obtain ⟨ra, rl, ex, ro, rt, fo, fj, fk, fe, fr, fw, ⟨hPm, hPa, hPl, hPe, hPr, hPk⟩, hFk, hFe, hFr, hpk, hn9⟩ := hM
    have g_fo := hPm
    have g_fj := hPa
    have ef_r_4 : r_4 = 1 := er_4.trans (if_neg (by decide))
    rw [ef_r_4]
    refine lv_if_eq (pc := 25) (tgt := 30) hx hb dX5_over_25 (by decide) (fun c_5 => ?_) (fun c_5 => ?_)
    · exact absurd c_5 (by decide)
    refine lv_iconst (pc := 28) (v := 0) hx hb dX5_over_28 (by decide) ?_
    refine r_iret (pc := 29) E hr hlk hS (by omega) (by omega) ?_ dX5_over_29
    exact ⟨_, _, _, _, ⟨_, _, _, _, _, fo, fj, fk, fe, fr, fw, ⟨hPm, hPa, hPl, hPe, hPr, hPk⟩, hFk, hFe, hFr, hpk, hn9⟩, AC.fail (by subst er_1; first | rfl | (simp [m_or, m_not, m_is0, m_lt0, m_fl, c_3]; done)) (by subst er_1; first | rfl | (simp [m_or, m_not, m_is0, m_lt0, m_fl, c_3]; done)) (fun z9 => absurd (ef_r_4.symm.trans (er_4.trans z9)) (by decide))⟩
  · refine lv_iload_n (pc := 8) hx hb dX5_over_8 rfl (lv_at hl 2 rfl) ?_
    refine lv_iload_n (pc := 9) hx hb dX5_over_9 rfl (lv_at hl 3 rfl) ?_
    refine k_i (pc := 10) (k_S E hC hS hA hl.1 (c_X5_areNo l D tk N0 sa H.size x2 x3 ) kw_1286 kw_1287 kw_5 kw_1288 (n := 2) (by decide +kernel) rfl ⟨⟨rfl, rfl⟩, ⟨Nat.le_of_ble_eq_true rfl, Nat.le_of_ble_eq_true rfl⟩, (by dsimp only; omega), (by dsimp only; omega)⟩ rfl (Nat.le_of_ble_eq_true rfl) trivial dX5_over_10) hS (fun q z w => absurd w (Nat.not_le.mpr z)) hn (fun r_6 H locs hR hz hk hS => ?_)
    have er_6 := hR
    have fw := fw.new hk
    have fo := fo.kept (hk _ fo.lt (Nat.not_le.mpr fo.lt))
    have fj := fj.kept (hk _ fj.lt (Nat.not_le.mpr fj.lt))
    have fk := fk.new hk
    have fe := fe.kept (hk _ fe.lt (Nat.not_le.mpr fe.lt))
    have fr := fr.kept (hk _ fr.lt (Nat.not_le.mpr fr.lt))
    refine lv_if_eq (pc := 13) (tgt := 20) hx hb dX5_over_13 (by decide) (fun c_8 => ?_) (fun c_8 => ?_)
    · refine lv_iconst (pc := 20) (v := 0) hx hb dX5_over_20 (by decide) ?_
      refine lv_iconst (pc := 21) (v := 0) hx hb dX5_over_21 (by decide) ?_
      have hZ0_ := hS.1
      have t_fo := fo.lt
      have t_fj := fj.lt
      have t_fk := fun k (hk9 : k < 6) => (fk k hk9).lt
      have t_fe := fe.lt
      have t_fr := fr.lt
      refine k_i (pc := 22) (k_V E hC hS hA hl.1 (c1.recv hC fo rfl) rfl (c_X5_fails l D tk N0 sa H.size P hPN (fun q h9 => hPs q (Nat.le_trans hS.1 h9)) mo n9 kn th tt bb eT eB oT oB pk ca rf vs 0 0 ) kw_1251 kw_1253 kp_20 kw_5 kw_1254 (n := 2) (by decide +kernel) rfl ⟨⟨rfl, rfl⟩, ⟨Nat.le_of_ble_eq_true rfl, Nat.le_of_ble_eq_true rfl⟩, (by dsimp only; omega), (by dsimp only; omega)⟩ rfl (Nat.le_of_ble_eq_true rfl) ⟨_, _, _, _, _, fo, fj, fk, fe, fr, fw, ⟨hPm, hPa, hPl, hPe, hPr, hPk⟩, hFk, hFe, hFr, hpk, hn9⟩ dX5_over_22) hS (fun q _ h => h) hn (fun r_9 H locs hR hz hk hS => ?_)
      obtain ⟨er_9, hM⟩ := hR
      obtain ⟨ra, rl, ex, ro, rt, fo, fj, fk, fe, fr, fw, ⟨hPm, hPa, hPl, hPe, hPr, hPk⟩, hFk, hFe, hFr, hpk, hn9⟩ := hM
      have g_fo := hPm
      have g_fj := hPa
      have ef_r_9 : r_9 = 0 := er_9.trans rfl
      rw [ef_r_9]
      refine lv_if_eq (pc := 25) (tgt := 30) hx hb dX5_over_25 (by decide) (fun c_10 => ?_) (fun c_10 => ?_)
      rotate_left
      · exact absurd (by decide) c_10
      refine lv_aload_n (pc := 30) hx hb dX5_over_30 rfl (lv_at hl 0 rfl) ?_
      refine r_get (pc := 31) E hC fo 0 (v := .ref ra) rfl rfl (by decide) uX5 (List.mem_cons_of_mem _ kw_1209) (fun _ h => h) dX5_over_31 ?_
      refine lv_iload_n (pc := 34) hx hb dX5_over_34 rfl (lv_at hl 3 rfl) ?_
      obtain ⟨hx_11, hk_11⟩ := m_noN (m_ano (er_6.symm.trans c_8)).2
      refine r_aaldJ (pc := 35) E hC fj (nn x3) hx_11 hk_11 (by decide) rfl dX5_over_35 ?_
      have fL12 := fk (nn x3) hk_11
      have mF_fL12 := hFk (nn x3) hk_11
      have Pq_fL12 := hPk (nn x3) hk_11
      have hZ0_ := hS.1
      have t_fo := fo.lt
      have t_fj := fj.lt
      have t_fk := fun k (hk9 : k < 6) => (fk k hk9).lt
      have t_fe := fe.lt
      have t_fr := fr.lt
      have t_fL12 := fL12.lt
      refine k_o (pc := 36) (k_S E hC hS hA hl.1 (c_X5_inverse l D tk N0 sa H.size (rt (nn x3)) (tt (nn x3)) (bb (nn x3)) (fun z9 => (m_inv mF_fL12 z9).1)) kw_1315 kw_1316 kw_5 kw_1317 (n := 1) (by decide +kernel) rfl ⟨⟨rfl, rfl⟩, ⟨Nat.le_of_ble_eq_true rfl, Nat.le_of_ble_eq_true rfl⟩, (by dsimp only; omega), (by dsimp only; omega)⟩ rfl (Nat.le_of_ble_eq_true rfl) fL12 dX5_over_36) hS (fun q z w => absurd w (Nat.not_le.mpr z)) hn (fun r_13 H locs hR hz hk hS => ?_)
      have fw := fw.new hk
      have fo := fo.kept (hk _ fo.lt (Nat.not_le.mpr fo.lt))
      have fj := fj.kept (hk _ fj.lt (Nat.not_le.mpr fj.lt))
      have fk := fk.new hk
      have fe := fe.kept (hk _ fe.lt (Nat.not_le.mpr fe.lt))
      have fr := fr.kept (hk _ fr.lt (Nat.not_le.mpr fr.lt))
      have fL12 := fL12.kept (hk _ fL12.lt (Nat.not_le.mpr fL12.lt))
      rcases hR with ⟨rfl, hn_14⟩ | ⟨q_f14, rfl, hn_14, z9_, f14⟩
      · refine lv_astoreN (pc := 39) (lv' := [(4, .null), (0, .ref mo), (1, .int x1), (2, .int x2), (3, .int x3)]) hx hb dX5_over_39 hl (by decide) rfl (fun ls hl => ?_)
        refine lv_aload_n (pc := 41) hx hb dX5_over_41 rfl (lv_at hl 1 rfl) ?_
        refine lv_iload_n (pc := 42) hx hb dX5_over_42 rfl (lv_at hl 2 rfl) ?_
        refine lv_aloadN (pc := 43) hx hb dX5_over_43 (lv_at hl 0 rfl) ?_
        refine lv_ifnonnullN (pc := 45) hx hb dX5_over_45 ?_
        refine lv_null (pc := 48) hx hb dX5_over_48 ?_
        refine lv_goto (pc := 49) (tgt := 63) hx hb dX5_over_49 (by decide) ?_
        have hZ0_ := hS.1
        have t_fo := fo.lt
        have t_fj := fj.lt
        have t_fk := fun k (hk9 : k < 6) => (fk k hk9).lt
        have t_fe := fe.lt
        have t_fr := fr.lt
        have t_fL12 := fL12.lt
        obtain ⟨hx_15, hk_15⟩ := m_noN (er_1.symm.trans c_3)
        refine k_i (pc := 63) (k_V E hC hS hA hl.1 (c1.recv hC fo rfl) rfl (c_X5_become_N l D tk N0 sa H.size P hPN (fun q h9 => hPs q (Nat.le_trans hS.1 h9)) mo n9 kn ((m_th 0 0)) tt bb eT eB oT oB pk ca rf vs x1 (nn x1) hx_15 hk_15 ) kw_1255 kw_1257 kp_21 kw_5 kw_1258 (n := 2) (by decide +kernel) rfl ⟨⟨rfl, rfl⟩, ⟨Nat.le_of_ble_eq_true rfl, Nat.le_of_ble_eq_true rfl⟩, (by dsimp only; omega), (by dsimp only; omega)⟩ rfl (Nat.le_of_ble_eq_true rfl) ⟨_, _, _, _, _, fo, fj, fk, fe, fr, fw, ⟨hPm, hPa, hPl, hPe, hPr, hPk⟩, hFk, hFe, hFr, hpk, hn9⟩ dX5_over_63) hS (fun q _ h => h) hn (fun r_16 H locs hR hz hk hS => ?_)
        obtain ⟨tt_17, bb_17, rf_17, hM, hBE_17⟩ := hR
        obtain ⟨ra, rl, ex, ro, rt, fo, fj, fk, fe, fr, fw, ⟨hPm, hPa, hPl, hPe, hPr, hPk⟩, hFk, hFe, hFr, hpk, hn9⟩ := hM
        have g_fo := hPm
        have g_fj := hPa
        refine r_iret (pc := 66) E hr hlk hS (by omega) (by omega) ?_ dX5_over_66
        exact ⟨_, _, _, _, ⟨_, _, _, _, _, fo, fj, fk, fe, fr, fw, ⟨hPm, hPa, hPl, hPe, hPr, hPk⟩, hFk, hFe, hFr, hpk, hn9⟩, AC.ok (by subst er_1 er_6; first | rfl | (simp [m_or, m_not, m_is0, m_lt0, m_fl, c_3, c_8]; done)) (by subst er_1 er_6; first | rfl | (simp [m_or, m_not, m_is0, m_lt0, m_fl, c_3, c_8]; done)) (er_9.symm.trans ef_r_9) (hBE_17.cast (by unfold m_OV; rw [if_pos hn_14]))⟩
      · have s_f14 : s.heap.size ≤ q_f14 := Nat.le_trans hZ0_ z9_
        have g_f14 := hn _ s_f14
        have l_fo_f14 : mo < q_f14 := Nat.lt_of_lt_of_le t_fo z9_
        have l_fj_f14 : ra < q_f14 := Nat.lt_of_lt_of_le t_fj z9_
        have nW_f14 : ∀ k, k < 6 → rt k ≠ q_f14 := fun k hk9 => Nat.ne_of_lt (Nat.lt_of_lt_of_le (t_fk k hk9) z9_)
        have l_fe_f14 : ex < q_f14 := Nat.lt_of_lt_of_le t_fe z9_
        have l_fr_f14 : ro < q_f14 := Nat.lt_of_lt_of_le t_fr z9_
        have l_fL12_f14 : rt (nn x3) < q_f14 := Nat.lt_of_lt_of_le t_fL12 z9_
        refine lv_astore (pc := 39) (lv' := [(4, .ref q_f14), (0, .ref mo), (1, .int x1), (2, .int x2), (3, .int x3)]) hx hb dX5_over_39 hl (by decide) rfl (fun ls hl => ?_)
        refine lv_aload_n (pc := 41) hx hb dX5_over_41 rfl (lv_at hl 1 rfl) ?_
        refine lv_iload_n (pc := 42) hx hb dX5_over_42 rfl (lv_at hl 2 rfl) ?_
        refine lv_aload (pc := 43) hx hb dX5_over_43 (lv_at hl 0 rfl) ?_
        refine lv_ifnonnull (pc := 45) (tgt := 52) hx hb dX5_over_45 (by decide) ?_
        refine lv_aload_n (pc := 52) hx hb dX5_over_52 rfl (lv_at hl 1 rfl) ?_
        refine r_get (pc := 53) E hC fo 0 (v := .ref ra) rfl rfl (by decide) uX5 (List.mem_cons_of_mem _ kw_1209) (fun _ h => h) dX5_over_53 ?_
        refine lv_iload_n (pc := 56) hx hb dX5_over_56 rfl (lv_at hl 3 rfl) ?_
        obtain ⟨hx_18, hk_18⟩ := m_noN (m_ano (er_6.symm.trans c_8)).1
        refine r_aaldJ (pc := 57) E hC fj (nn x2) hx_18 hk_18 (by decide) rfl dX5_over_57 ?_
        have fL19 := fk (nn x2) hk_18
        have mF_fL19 := hFk (nn x2) hk_18
        have Pq_fL19 := hPk (nn x2) hk_18
        refine lv_aload (pc := 58) hx hb dX5_over_58 (lv_at hl 0 rfl) ?_
        have hP9 := m_prod mF_fL19 (m_invP mF_fL12 hn_14)
        have hZ0_ := hS.1
        have t_fo := fo.lt
        have t_fj := fj.lt
        have t_fk := fun k (hk9 : k < 6) => (fk k hk9).lt
        have t_fe := fe.lt
        have t_fr := fr.lt
        have t_fL12 := fL12.lt
        have t_f14 := f14.lt
        have t_fL19 := fL19.lt
        refine k_r (pc := 60) (k_S E hC hS hA hl.1 (c_X5_product l D tk N0 sa H.size (rt (nn x2)) (tt (nn x2)) (bb (nn x2)) q_f14 (m_loT (bb (nn x3)) (tt (nn x3))) (m_loB (bb (nn x3)) (tt (nn x3))) hP9.1) kw_1308 kw_1309 kw_5 kw_1310 (n := 2) (by decide +kernel) rfl ⟨⟨rfl, rfl⟩, ⟨Nat.le_of_ble_eq_true rfl, Nat.le_of_ble_eq_true rfl⟩, (by dsimp only; omega), (by dsimp only; omega)⟩ rfl (Nat.le_of_ble_eq_true rfl) ⟨fL19, f14⟩ dX5_over_60) hS (fun q z w => absurd w (Nat.not_le.mpr z)) hn (fun r_20 H locs hR hz hk hS => ?_)
        have fw := fw.new hk
        have fo := fo.kept (hk _ fo.lt (Nat.not_le.mpr fo.lt))
        have fj := fj.kept (hk _ fj.lt (Nat.not_le.mpr fj.lt))
        have fk := fk.new hk
        have fe := fe.kept (hk _ fe.lt (Nat.not_le.mpr fe.lt))
        have fr := fr.kept (hk _ fr.lt (Nat.not_le.mpr fr.lt))
        have fL12 := fL12.kept (hk _ fL12.lt (Nat.not_le.mpr fL12.lt))
        have f14 := f14.kept (hk _ f14.lt (Nat.not_le.mpr f14.lt))
        have fL19 := fL19.kept (hk _ fL19.lt (Nat.not_le.mpr fL19.lt))
        obtain ⟨z9_, f21⟩ := hR
        have s_f21 : s.heap.size ≤ r_20 := Nat.le_trans hZ0_ z9_
        have g_f21 := hn _ s_f21
        have l_fo_f21 : mo < r_20 := Nat.lt_of_lt_of_le t_fo z9_
        have l_fj_f21 : ra < r_20 := Nat.lt_of_lt_of_le t_fj z9_
        have nW_f21 : ∀ k, k < 6 → rt k ≠ r_20 := fun k hk9 => Nat.ne_of_lt (Nat.lt_of_lt_of_le (t_fk k hk9) z9_)
        have l_fe_f21 : ex < r_20 := Nat.lt_of_lt_of_le t_fe z9_
        have l_fr_f21 : ro < r_20 := Nat.lt_of_lt_of_le t_fr z9_
        have l_fL12_f21 : rt (nn x3) < r_20 := Nat.lt_of_lt_of_le t_fL12 z9_
        have l_f14_f21 : q_f14 < r_20 := Nat.lt_of_lt_of_le t_f14 z9_
        have l_fL19_f21 : rt (nn x2) < r_20 := Nat.lt_of_lt_of_le t_fL19 z9_
        have hZ0_ := hS.1
        have t_fo := fo.lt
        have t_fj := fj.lt
        have t_fk := fun k (hk9 : k < 6) => (fk k hk9).lt
        have t_fe := fe.lt
        have t_fr := fr.lt
        have t_fL12 := fL12.lt
        have t_f14 := f14.lt
        have t_fL19 := fL19.lt
        have t_f21 := f21.lt
        obtain ⟨hx_22, hk_22⟩ := m_noN (er_1.symm.trans c_3)
        refine k_i (pc := 63) (k_V E hC hS hA hl.1 (c1.recv hC fo rfl) rfl (c_X5_become l D tk N0 sa H.size P hPN (fun q h9 => hPs q (Nat.le_trans hS.1 h9)) mo n9 kn ((m_th 0 0)) tt bb eT eB oT oB pk ca rf vs x1 (nn x1) hx_22 hk_22 r_20 (m_loT ((tt (nn x2)) * (m_loT (bb (nn x3)) (tt (nn x3)))) ((bb (nn x2)) * (m_loB (bb (nn x3)) (tt (nn x3))))) (m_loB ((tt (nn x2)) * (m_loT (bb (nn x3)) (tt (nn x3)))) ((bb (nn x2)) * (m_loB (bb (nn x3)) (tt (nn x3))))) (hPs _ s_f21) hP9.2.1) kw_1255 kw_1257 kp_21 kw_5 kw_1258 (n := 2) (by decide +kernel) rfl ⟨⟨rfl, rfl⟩, ⟨Nat.le_of_ble_eq_true rfl, Nat.le_of_ble_eq_true rfl⟩, (by dsimp only; omega), (by dsimp only; omega)⟩ rfl (Nat.le_of_ble_eq_true rfl) ⟨⟨_, _, _, _, _, fo, fj, fk, fe, fr, fw, ⟨hPm, hPa, hPl, hPe, hPr, hPk⟩, hFk, hFe, hFr, hpk, hn9⟩, f21⟩ dX5_over_63) hS (fun q _ h => h) hn (fun r_23 H locs hR hz hk hS => ?_)
        obtain ⟨tt_24, bb_24, rf_24, hM, hBE_24⟩ := hR
        obtain ⟨ra, rl, ex, ro, rt, fo, fj, fk, fe, fr, fw, ⟨hPm, hPa, hPl, hPe, hPr, hPk⟩, hFk, hFe, hFr, hpk, hn9⟩ := hM
        have g_fo := hPm
        have g_fj := hPa
        refine r_iret (pc := 66) E hr hlk hS (by omega) (by omega) ?_ dX5_over_66
        exact ⟨_, _, _, _, ⟨_, _, _, _, _, fo, fj, fk, fe, fr, fw, ⟨hPm, hPa, hPl, hPe, hPr, hPk⟩, hFk, hFe, hFr, hpk, hn9⟩, AC.ok (by subst er_1 er_6; first | rfl | (simp [m_or, m_not, m_is0, m_lt0, m_fl, c_3, c_8]; done)) (by subst er_1 er_6; first | rfl | (simp [m_or, m_not, m_is0, m_lt0, m_fl, c_3, c_8]; done)) (er_9.symm.trans ef_r_9) (hBE_24.cast (by unfold m_OV; rw [if_neg hn_14]; rfl))⟩
    · refine lv_iconst (pc := 16) (v := 1) hx hb dX5_over_16 (by decide) ?_
      refine lv_goto (pc := 17) (tgt := 21) hx hb dX5_over_17 (by decide) ?_
      refine lv_iconst (pc := 21) (v := 0) hx hb dX5_over_21 (by decide) ?_
      have hZ0_ := hS.1
      have t_fo := fo.lt
      have t_fj := fj.lt
      have t_fk := fun k (hk9 : k < 6) => (fk k hk9).lt
      have t_fe := fe.lt
      have t_fr := fr.lt
      refine k_i (pc := 22) (k_V E hC hS hA hl.1 (c1.recv hC fo rfl) rfl (c_X5_fails l D tk N0 sa H.size P hPN (fun q h9 => hPs q (Nat.le_trans hS.1 h9)) mo n9 kn th tt bb eT eB oT oB pk ca rf vs 1 0 ) kw_1251 kw_1253 kp_20 kw_5 kw_1254 (n := 2) (by decide +kernel) rfl ⟨⟨rfl, rfl⟩, ⟨Nat.le_of_ble_eq_true rfl, Nat.le_of_ble_eq_true rfl⟩, (by dsimp only; omega), (by dsimp only; omega)⟩ rfl (Nat.le_of_ble_eq_true rfl) ⟨_, _, _, _, _, fo, fj, fk, fe, fr, fw, ⟨hPm, hPa, hPl, hPe, hPr, hPk⟩, hFk, hFe, hFr, hpk, hn9⟩ dX5_over_22) hS (fun q _ h => h) hn (fun r_25 H locs hR hz hk hS => ?_)
      obtain ⟨er_25, hM⟩ := hR
      obtain ⟨ra, rl, ex, ro, rt, fo, fj, fk, fe, fr, fw, ⟨hPm, hPa, hPl, hPe, hPr, hPk⟩, hFk, hFe, hFr, hpk, hn9⟩ := hM
      have g_fo := hPm
      have g_fj := hPa
      have ef_r_25 : r_25 = 1 := er_25.trans (if_neg (by decide))
      rw [ef_r_25]
      refine lv_if_eq (pc := 25) (tgt := 30) hx hb dX5_over_25 (by decide) (fun c_26 => ?_) (fun c_26 => ?_)
      · exact absurd c_26 (by decide)
      refine lv_iconst (pc := 28) (v := 0) hx hb dX5_over_28 (by decide) ?_
      refine r_iret (pc := 29) E hr hlk hS (by omega) (by omega) ?_ dX5_over_29
      exact ⟨_, _, _, _, ⟨_, _, _, _, _, fo, fj, fk, fe, fr, fw, ⟨hPm, hPa, hPl, hPe, hPr, hPk⟩, hFk, hFe, hFr, hpk, hn9⟩, AC.fail (by subst er_1 er_6; first | rfl | (simp [m_or, m_not, m_is0, m_lt0, m_fl, c_3, c_8]; done)) (by subst er_1 er_6; first | rfl | (simp [m_or, m_not, m_is0, m_lt0, m_fl, c_3, c_8]; done)) (fun z9 => absurd (ef_r_25.symm.trans (er_25.trans z9)) (by decide))⟩
