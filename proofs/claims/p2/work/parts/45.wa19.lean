set_option maxHeartbeats 4000000 in
set_option maxRecDepth 100000 in
/-- BestratiosModel.terms(I)Ljava/lang/String; -/
theorem c_X5_terms (l : Launch) (D : va_G) (tk : Nat → ClassId) (N0 : Nat) (sa : Nat → Nat)  (sz : Nat) (P : Nat → Prop) (hPN : ∀ q, P q → N0 ≤ q) (hPs : ∀ q, sz ≤ q → P q) (mo n9 : Nat) (kn th : Int32) (tt bb : Nat → Int64) (eT eB oT oB : Int64) (pk : Nat) (ca rf : Int32) (vs : Nat → Value) (x1 : Int32) : Met l yX5_terms (wsy yX5_terms cX5_terms 2 (some (.object "java/lang/String"))) ({ frames := 8, cells := 351, slots := 56939, locals := 186 } : Room) (cP D tk N0 sa [.ref mo, .int x1] sz (fun H => MI D tk sa P mo tt bb eT eB oT oB pk ca rf vs kn n9 th H)) (kQr (fun r H => ∃ th1, MI D tk sa P mo tt bb eT eB oT oB pk ca rf vs kn n9 th1 H) (P)) (351) (56939) (P) := by
  refine mStart RX5 rfl (by decide +kernel) (Nat.le_of_ble_eq_true rfl) ?_
  intro p e s m args below meth c E hr hlk hnm hsz hC hF ls hl
  subst hsz
  obtain ⟨hx, hb, -⟩ := id E
  have hA : ∀ q, (P) q → N0 ≤ q := hPN
  have hn : ∀ q, s.heap.size ≤ q → (P) q := hPs
  have hS : va_S (P) s.heap s.heap [] := va_S.rf
  have hl : lv_has ls 2 [(0, .ref mo), (1, .int x1)] := hl
  have hM : MI D tk sa P mo tt bb eT eB oT oB pk ca rf vs kn n9 th s.heap := hF
  obtain ⟨ra, rl, ex, ro, rt, fo, fj, fk, fe, fr, fw, ⟨hPm, hPa, hPl, hPe, hPr, hPk⟩, hFk, hFe, hFr, hpk, hn9⟩ := hM
  have g_fo := hPm
  have g_fj := hPa
  refine lv_aload_n (pc := 0) hx hb dX5_terms_0 rfl (lv_at hl 0 rfl) ?_
  refine lv_iload_n (pc := 1) hx hb dX5_terms_1 rfl (lv_at hl 1 rfl) ?_
  refine k_i (pc := 2) (k_S E hC hS hA hl.1 (c_X5_isNo l D tk N0 sa s.heap.size x1 ) kw_1245 kw_1246 kw_5 kw_1247 (n := 1) (by decide +kernel) rfl ⟨⟨rfl, rfl⟩, ⟨Nat.le_of_ble_eq_true rfl, Nat.le_of_ble_eq_true rfl⟩, (by dsimp only; omega), (by dsimp only; omega)⟩ rfl (Nat.le_of_ble_eq_true rfl) trivial dX5_terms_2) hS (fun q z w => absurd w (Nat.not_le.mpr z)) hn (fun r_1 H locs hR hz hk hS => ?_)
  have er_1 := hR
  have fw := fw.new hk
  have fo := fo.kept (hk _ fo.lt (Nat.not_le.mpr fo.lt))
  have fj := fj.kept (hk _ fj.lt (Nat.not_le.mpr fj.lt))
  have fk := fk.new hk
  have fe := fe.kept (hk _ fe.lt (Nat.not_le.mpr fe.lt))
  have fr := fr.kept (hk _ fr.lt (Nat.not_le.mpr fr.lt))
  refine lv_iconst (pc := 5) (v := 0) hx hb dX5_terms_5 (by decide) ?_
  have hZ0_ := hS.1
  have t_fo := fo.lt
  have t_fj := fj.lt
  have t_fk := fun k (hk9 : k < 6) => (fk k hk9).lt
  have t_fe := fe.lt
  have t_fr := fr.lt
  refine k_i (pc := 6) (k_V E hC hS hA hl.1 (c1.recv hC fo rfl) rfl (c_X5_fails l D tk N0 sa H.size P hPN (fun q h9 => hPs q (Nat.le_trans hS.1 h9)) mo n9 kn th tt bb eT eB oT oB pk ca rf vs r_1 0 ) kw_1251 kw_1253 kp_20 kw_5 kw_1254 (n := 2) (by decide +kernel) rfl ⟨⟨rfl, rfl⟩, ⟨Nat.le_of_ble_eq_true rfl, Nat.le_of_ble_eq_true rfl⟩, (by dsimp only; omega), (by dsimp only; omega)⟩ rfl (Nat.le_of_ble_eq_true rfl) ⟨_, _, _, _, _, fo, fj, fk, fe, fr, fw, ⟨hPm, hPa, hPl, hPe, hPr, hPk⟩, hFk, hFe, hFr, hpk, hn9⟩ dX5_terms_6) hS (fun q _ h => h) hn (fun r_3 H locs hR hz hk hS => ?_)
  obtain ⟨er_3, hM⟩ := hR
  obtain ⟨ra, rl, ex, ro, rt, fo, fj, fk, fe, fr, fw, ⟨hPm, hPa, hPl, hPe, hPr, hPk⟩, hFk, hFe, hFr, hpk, hn9⟩ := hM
  have g_fo := hPm
  have g_fj := hPa
  refine lv_if_eq (pc := 9) (tgt := 17) hx hb dX5_terms_9 (by decide) (fun c_4 => ?_) (fun c_4 => ?_)
  · refine lv_aload_n (pc := 17) hx hb dX5_terms_17 rfl (lv_at hl 0 rfl) ?_
    refine r_get (pc := 18) E hC fo 0 (v := .ref ra) rfl rfl (by decide) uX5 (List.mem_cons_of_mem _ kw_1209) (fun _ h => h) dX5_terms_18 ?_
    refine lv_iload_n (pc := 21) hx hb dX5_terms_21 rfl (lv_at hl 1 rfl) ?_
    obtain ⟨hx_5, hk_5⟩ := m_noN (er_1.symm.trans (m_fl0 (er_3.symm.trans c_4)).1)
    refine r_aaldJ (pc := 22) E hC fj (nn x1) hx_5 hk_5 (by decide) rfl dX5_terms_22 ?_
    have fL6 := fk (nn x1) hk_5
    have mF_fL6 := hFk (nn x1) hk_5
    have Pq_fL6 := hPk (nn x1) hk_5
    have hZ0_ := hS.1
    have t_fo := fo.lt
    have t_fj := fj.lt
    have t_fk := fun k (hk9 : k < 6) => (fk k hk9).lt
    have t_fe := fe.lt
    have t_fr := fr.lt
    have t_fL6 := fL6.lt
    refine k_r (pc := 23) (k_S E hC hS hA hl.1 (c_X5_termsOf l D tk N0 sa H.size (rt (nn x1)) (tt (nn x1)) (bb (nn x1)) mF_fL6) kw_1411 kw_1412 kw_5 kw_1413 (n := 1) (by decide +kernel) rfl ⟨⟨rfl, rfl⟩, ⟨Nat.le_of_ble_eq_true rfl, Nat.le_of_ble_eq_true rfl⟩, (by dsimp only; omega), (by dsimp only; omega)⟩ rfl (Nat.le_of_ble_eq_true rfl) fL6 dX5_terms_23) hS (fun q z w => absurd w (Nat.not_le.mpr z)) hn (fun r_7 H locs hR hz hk hS => ?_)
    have fw := fw.new hk
    have fo := fo.kept (hk _ fo.lt (Nat.not_le.mpr fo.lt))
    have fj := fj.kept (hk _ fj.lt (Nat.not_le.mpr fj.lt))
    have fk := fk.new hk
    have fe := fe.kept (hk _ fe.lt (Nat.not_le.mpr fe.lt))
    have fr := fr.kept (hk _ fr.lt (Nat.not_le.mpr fr.lt))
    have fL6 := fL6.kept (hk _ fL6.lt (Nat.not_le.mpr fL6.lt))
    obtain ⟨nl8, bb8, cap8, ff8, ww8, md8, zr9_, zb9_, fl8, fR8, el8, hPT8, hln8, hlm8, hlc8, hlp8, ⟨hTL8, hTA8⟩, gg8, hEU8⟩ := hR
    have hcb8 := m_acB hlp8
    have s_fl8 : s.heap.size ≤ r_7 := Nat.le_trans hZ0_ zr9_
    have g_fl8 := hn _ s_fl8
    have l_fo_fl8 : mo < r_7 := Nat.lt_of_lt_of_le t_fo zr9_
    have l_fj_fl8 : ra < r_7 := Nat.lt_of_lt_of_le t_fj zr9_
    have nW_fl8 : ∀ k, k < 6 → rt k ≠ r_7 := fun k hk9 => Nat.ne_of_lt (Nat.lt_of_lt_of_le (t_fk k hk9) zr9_)
    have l_fe_fl8 : ex < r_7 := Nat.lt_of_lt_of_le t_fe zr9_
    have l_fr_fl8 : ro < r_7 := Nat.lt_of_lt_of_le t_fr zr9_
    have l_fL6_fl8 : rt (nn x1) < r_7 := Nat.lt_of_lt_of_le t_fL6 zr9_
    have s_fR8 : s.heap.size ≤ bb8 := Nat.le_trans hZ0_ zb9_
    have g_fR8 := hn _ s_fR8
    have l_fo_fR8 : mo < bb8 := Nat.lt_of_lt_of_le t_fo zb9_
    have l_fj_fR8 : ra < bb8 := Nat.lt_of_lt_of_le t_fj zb9_
    have nW_fR8 : ∀ k, k < 6 → rt k ≠ bb8 := fun k hk9 => Nat.ne_of_lt (Nat.lt_of_lt_of_le (t_fk k hk9) zb9_)
    have l_fe_fR8 : ex < bb8 := Nat.lt_of_lt_of_le t_fe zb9_
    have l_fr_fR8 : ro < bb8 := Nat.lt_of_lt_of_le t_fr zb9_
    have l_fL6_fR8 : rt (nn x1) < bb8 := Nat.lt_of_lt_of_le t_fL6 zb9_
    have hZ0_ := hS.1
    have t_fo := fo.lt
    have t_fj := fj.lt
    have t_fk := fun k (hk9 : k < 6) => (fk k hk9).lt
    have t_fe := fe.lt
    have t_fr := fr.lt
    have t_fL6 := fL6.lt
    have t_fR8 := fR8.lt
    have t_fl8 := fl8.lt
    refine k_r (pc := 26) (k_S E hC hS hA hl.1 (c_X5_told l D tk N0 sa H.size r_7 bb8 nl8 cap8 md8 ff8 ww8 (by omega) (by omega) (by omega) hPT8.pv) kw_1483 kw_1484 kw_5 kw_1485 (n := 1) (by decide +kernel) rfl ⟨⟨rfl, rfl⟩, ⟨Nat.le_of_ble_eq_true rfl, Nat.le_of_ble_eq_true rfl⟩, (by dsimp only; omega), (by dsimp only; omega)⟩ rfl (Nat.le_of_ble_eq_true rfl) ⟨fl8, fR8, el8⟩ dX5_terms_26) hS (fun q z w => absurd w (Nat.not_le.mpr z)) hn (fun r_9 H locs hR hz hk hS => ?_)
    have fw := fw.new hk
    have fo := fo.kept (hk _ fo.lt (Nat.not_le.mpr fo.lt))
    have fj := fj.kept (hk _ fj.lt (Nat.not_le.mpr fj.lt))
    have fk := fk.new hk
    have fe := fe.kept (hk _ fe.lt (Nat.not_le.mpr fe.lt))
    have fr := fr.kept (hk _ fr.lt (Nat.not_le.mpr fr.lt))
    have fL6 := fL6.kept (hk _ fL6.lt (Nat.not_le.mpr fL6.lt))
    have fR8 := fR8.kept (hk _ fR8.lt (Nat.not_le.mpr fR8.lt))
    have fl8 := fl8.kept (hk _ fl8.lt (Nat.not_le.mpr fl8.lt))
    have el8 := el8.new hk
    obtain ⟨n_f10, hn_f10, f10⟩ := hR
    refine r_aret (pc := 29) E hr (Or.inl ⟨_, rfl⟩) hlk hS (by omega) (by omega) ?_ dX5_terms_29
    exact ⟨_, ⟨_, _, _, _, _, fo, fj, fk, fe, fr, fw, ⟨hPm, hPa, hPl, hPe, hPr, hPk⟩, hFk, hFe, hFr, hpk, hn9⟩⟩
  · refine va_ldcS (pc := 12) hx hb E.2.2.2.1 (hC.2.2.2.2.1 6 _ rfl).1 dX5_terms_12 ?_
    have k11 : SX D tk (sa (10 + 6)) 0 H := hC.str hS hA 6 _ rfl (by decide)
    refine lv_goto (pc := 14) (tgt := 29) hx hb dX5_terms_14 (by decide) ?_
    refine r_aret (pc := 29) E hr (Or.inl ⟨_, rfl⟩) hlk hS (by omega) (by omega) ?_ dX5_terms_29
    exact ⟨_, ⟨_, _, _, _, _, fo, fj, fk, fe, fr, fw, ⟨hPm, hPa, hPl, hPe, hPr, hPk⟩, hFk, hFe, hFr, hpk, hn9⟩⟩
