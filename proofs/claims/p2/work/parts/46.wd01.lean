set_option maxHeartbeats 4000000 in
set_option maxRecDepth 100000 in
/-- BestratiosModel.row()Ljava/lang/String; -/
theorem c_X5_row (l : Launch) (D : va_G) (tk : Nat → ClassId) (N0 : Nat) (sa : Nat → Nat)  (sz : Nat) (P : Nat → Prop) (hPN : ∀ q, P q → N0 ≤ q) (hPs : ∀ q, sz ≤ q → P q) (mo n9 : Nat) (kn th : Int32) (tt bb : Nat → Int64) (eT eB oT oB : Int64) (pk : Nat) (ca rf : Int32) (vs : Nat → Value)  : Met l yX5_row (wsy yX5_row cX5_row 1 (some (.object "java/lang/String"))) ({ frames := 8, cells := 325, slots := 56930, locals := 180 } : Room) (cP D tk N0 sa [.ref mo] sz (fun H => MI D tk sa P mo tt bb eT eB oT oB pk ca rf vs kn n9 th H)) (kQr (fun r H => ∃ th1, MI D tk sa P mo tt bb eT eB oT oB pk ca rf vs kn n9 th1 H) (P)) (325) (56930) (P) := by
  refine mStart RX5 rfl (by decide +kernel) (Nat.le_of_ble_eq_true rfl) ?_
  intro p e s m args below meth c E hr hlk hnm hsz hC hF ls hl
  subst hsz
  obtain ⟨hx, hb, -⟩ := id E
  have hA : ∀ q, (P) q → N0 ≤ q := hPN
  have hn : ∀ q, s.heap.size ≤ q → (P) q := hPs
  have hS : va_S (P) s.heap s.heap [] := va_S.rf
  have hl : lv_has ls 1 [(0, .ref mo)] := hl
  have hM : MI D tk sa P mo tt bb eT eB oT oB pk ca rf vs kn n9 th s.heap := hF
  obtain ⟨ra, rl, ex, ro, rt, fo, fj, fk, fe, fr, fw, ⟨hPm, hPa, hPl, hPe, hPr, hPk⟩, hFk, hFe, hFr, hpk, hn9⟩ := hM
  have g_fo := hPm
  have g_fj := hPa
  refine lv_aload_n (pc := 0) hx hb dX5_row_0 rfl (lv_at hl 0 rfl) ?_
  refine lv_iconst (pc := 1) (v := 0) hx hb dX5_row_1 (by decide) ?_
  refine r_put (pc := 2) E hC fo hS g_fo 8 tyX5 tyX5_ok nmX5 rfl (by decide) (Nat.le_of_ble_eq_true rfl) uX5 (List.mem_cons_of_mem _ kw_1217) (fun _ h => h) rfl rfl rfl dX5_row_2 (fun H locs n_ ho hz hS => ?_)
  have fw := fw.put ho (fun q9 h9 => clA.ne h9 fo.cl (hC.oo 7 13 rfl rfl (by decide))) (fun q9 h9 => clA.ne h9 fo.cl (hC.ao 13 4 rfl rfl)) (fun q9 h9 => clA.ne h9 fo.cl (hC.ceo (Or.inr rfl) 13 rfl (by decide)))
  have nW_fo : ∀ k, k < 6 → rt k ≠ mo := fun k hk9 => clA.ne (fk k hk9).cla fo.cl (hC.ao 13 0 rfl rfl)
  have fj := fj.kept (ho _ (clA.ne fj.cla fo.cl (hC.ao 13 3 rfl rfl)))
  have fk := fk.kept (fun k hk9 => ho _ (nW_fo k hk9))
  have fe := fe.kept (ho _ (clA.ne fe.cla fo.cl (hC.ao 13 0 rfl rfl)))
  have fr := fr.kept (ho _ (clA.ne fr.cla fo.cl (hC.ao 13 0 rfl rfl)))
  have fo : c1 D mo (.inr (13, [.ref ra, .ref rl, .ref ex, .ref ro, .int (nI pk), .int ca, .int rf, .int kn, .int 0])) H := n_
  rcases Nat.eq_zero_or_pos n9 with h0r | h0r
  · subst h0r
    obtain ⟨mdr, br, f0w⟩ := fw.obj
    refine lv_aload_n (pc := 5) hx hb dX5_row_5 rfl (lv_at hl 0 rfl) ?_
    have hZ0_ := hS.1
    have t_fo := fo.lt
    have t_fj := fj.lt
    have t_fk := fun k (hk9 : k < 6) => (fk k hk9).lt
    have t_fe := fe.lt
    have t_fr := fr.lt
    have t_f0w := f0w.lt
    refine k_r (pc := 6) (k_V E hC hS hA hl.1 (c1.recv hC fo rfl) rfl (c_X5_rowNow_E l D tk N0 sa H.size mo ra rl ex ro pk br ca rf kn 0 mdr) kw_1610 kw_1612 kp_29 kw_5 kw_1613 (n := 0) (by decide +kernel) rfl ⟨⟨rfl, rfl⟩, ⟨Nat.le_of_ble_eq_true rfl, Nat.le_of_ble_eq_true rfl⟩, (by dsimp only; omega), (by dsimp only; omega)⟩ rfl (Nat.le_of_ble_eq_true rfl) ⟨fo, f0w⟩ dX5_row_6) hS (fun q z w => absurd w (Nat.not_le.mpr z)) hn (fun r_1 H locs hR hz hk hS => ?_)
    have fw := fw.new hk
    have fo := fo.kept (hk _ fo.lt (Nat.not_le.mpr fo.lt))
    have fj := fj.kept (hk _ fj.lt (Nat.not_le.mpr fj.lt))
    have fk := fk.new hk
    have fe := fe.kept (hk _ fe.lt (Nat.not_le.mpr fe.lt))
    have fr := fr.kept (hk _ fr.lt (Nat.not_le.mpr fr.lt))
    have f0w := f0w.kept (hk _ f0w.lt (Nat.not_le.mpr f0w.lt))
    obtain ⟨z9_, fl2⟩ := hR
    have s_fl2 : s.heap.size ≤ r_1 := Nat.le_trans hZ0_ z9_
    have g_fl2 := hn _ s_fl2
    have l_fo_fl2 : mo < r_1 := Nat.lt_of_lt_of_le t_fo z9_
    have l_fj_fl2 : ra < r_1 := Nat.lt_of_lt_of_le t_fj z9_
    have nW_fl2 : ∀ k, k < 6 → rt k ≠ r_1 := fun k hk9 => Nat.ne_of_lt (Nat.lt_of_lt_of_le (t_fk k hk9) z9_)
    have l_fe_fl2 : ex < r_1 := Nat.lt_of_lt_of_le t_fe z9_
    have l_fr_fl2 : ro < r_1 := Nat.lt_of_lt_of_le t_fr z9_
    have l_f0w_fl2 : rl < r_1 := Nat.lt_of_lt_of_le t_f0w z9_
    have hZ0_ := hS.1
    have t_fo := fo.lt
    have t_fj := fj.lt
    have t_fk := fun k (hk9 : k < 6) => (fk k hk9).lt
    have t_fe := fe.lt
    have t_fr := fr.lt
    have t_f0w := f0w.lt
    have t_fl2 := fl2.lt
    refine k_r (pc := 9) (k_S E hC hS hA hl.1 (c_X5_told_E l D tk N0 sa H.size r_1 0) kw_1483 kw_1484 kw_5 kw_1485 (n := 1) (by decide +kernel) rfl ⟨⟨rfl, rfl⟩, ⟨Nat.le_of_ble_eq_true rfl, Nat.le_of_ble_eq_true rfl⟩, (by dsimp only; omega), (by dsimp only; omega)⟩ rfl (Nat.le_of_ble_eq_true rfl) fl2 dX5_row_9) hS (fun q z w => absurd w (Nat.not_le.mpr z)) hn (fun r_3 H locs hR hz hk hS => ?_)
    have fw := fw.new hk
    have fo := fo.kept (hk _ fo.lt (Nat.not_le.mpr fo.lt))
    have fj := fj.kept (hk _ fj.lt (Nat.not_le.mpr fj.lt))
    have fk := fk.new hk
    have fe := fe.kept (hk _ fe.lt (Nat.not_le.mpr fe.lt))
    have fr := fr.kept (hk _ fr.lt (Nat.not_le.mpr fr.lt))
    have f0w := f0w.kept (hk _ f0w.lt (Nat.not_le.mpr f0w.lt))
    have fl2 := fl2.kept (hk _ fl2.lt (Nat.not_le.mpr fl2.lt))
    obtain ⟨n_f4, hn_f4, f4⟩ := hR
    refine r_aret (pc := 12) E hr (Or.inl ⟨_, rfl⟩) hlk hS (by omega) (by omega) ?_ dX5_row_12
    exact ⟨_, ⟨_, _, _, _, _, fo, fj, fk, fe, fr, fw, ⟨hPm, hPa, hPl, hPe, hPr, hPk⟩, hFk, hFe, hFr, hpk, hn9⟩⟩
  · rcases fw with ⟨h1r, -⟩ | ⟨mdr, br, capr, fnr, hPb, f0w, fRw, elw, hPI, hncr, hmcr⟩
    · exact absurd h1r (by omega)
    have g_f0w := hPl
    have nW_f0w : ∀ k, k < 6 → rt k ≠ rl := fun k hk9 => clA.ne (fk k hk9).cla f0w.cl (hC.ao 7 0 rfl rfl)
    have g_fRw := hPb
    have nW_fRw : ∀ k, k < 6 → rt k ≠ br := fun k hk9 => clA.ne (fk k hk9).cla fRw.cla (hC.aa 0 4 rfl rfl (by dsimp only; decide))
    have hcbr := m_acB hmcr
    refine lv_aload_n (pc := 5) hx hb dX5_row_5 rfl (lv_at hl 0 rfl) ?_
    have hZ0_ := hS.1
    have t_fo := fo.lt
    have t_fj := fj.lt
    have t_fk := fun k (hk9 : k < 6) => (fk k hk9).lt
    have t_fe := fe.lt
    have t_fr := fr.lt
    have t_f0w := f0w.lt
    have t_fRw := fRw.lt
    refine k_r (pc := 6) (k_V E hC hS hA hl.1 (c1.recv hC fo rfl) rfl (c_X5_rowNow_A l D tk N0 sa H.size mo ra rl ex ro pk br ca rf kn 0 mdr n9 capr fnr vs h0r hn9 hncr (by omega) hPI) kw_1610 kw_1612 kp_29 kw_5 kw_1613 (n := 0) (by decide +kernel) rfl ⟨⟨rfl, rfl⟩, ⟨Nat.le_of_ble_eq_true rfl, Nat.le_of_ble_eq_true rfl⟩, (by dsimp only; omega), (by dsimp only; omega)⟩ rfl (Nat.le_of_ble_eq_true rfl) ⟨fo, f0w, fRw, elw⟩ dX5_row_6) hS (fun q z w => absurd w (Nat.not_le.mpr z)) hn (fun r_5 H locs hR hz hk hS => ?_)
    have fo := fo.kept (hk _ fo.lt (Nat.not_le.mpr fo.lt))
    have fj := fj.kept (hk _ fj.lt (Nat.not_le.mpr fj.lt))
    have fk := fk.new hk
    have fe := fe.kept (hk _ fe.lt (Nat.not_le.mpr fe.lt))
    have fr := fr.kept (hk _ fr.lt (Nat.not_le.mpr fr.lt))
    have f0w := f0w.kept (hk _ f0w.lt (Nat.not_le.mpr f0w.lt))
    have fRw := fRw.kept (hk _ fRw.lt (Nat.not_le.mpr fRw.lt))
    have elw := elw.new hk
    obtain ⟨bb6, cap6, ff6, ww6, md6, zr9_, zb9_, fl6, fR6, el6, hPQ6, hlc6, hlp6⟩ := hR
    have hcb6 := m_acB hlp6
    have s_fl6 : s.heap.size ≤ r_5 := Nat.le_trans hZ0_ zr9_
    have g_fl6 := hn _ s_fl6
    have l_fo_fl6 : mo < r_5 := Nat.lt_of_lt_of_le t_fo zr9_
    have l_fj_fl6 : ra < r_5 := Nat.lt_of_lt_of_le t_fj zr9_
    have nW_fl6 : ∀ k, k < 6 → rt k ≠ r_5 := fun k hk9 => Nat.ne_of_lt (Nat.lt_of_lt_of_le (t_fk k hk9) zr9_)
    have l_fe_fl6 : ex < r_5 := Nat.lt_of_lt_of_le t_fe zr9_
    have l_fr_fl6 : ro < r_5 := Nat.lt_of_lt_of_le t_fr zr9_
    have l_f0w_fl6 : rl < r_5 := Nat.lt_of_lt_of_le t_f0w zr9_
    have l_fRw_fl6 : br < r_5 := Nat.lt_of_lt_of_le t_fRw zr9_
    have s_fR6 : s.heap.size ≤ bb6 := Nat.le_trans hZ0_ zb9_
    have g_fR6 := hn _ s_fR6
    have l_fo_fR6 : mo < bb6 := Nat.lt_of_lt_of_le t_fo zb9_
    have l_fj_fR6 : ra < bb6 := Nat.lt_of_lt_of_le t_fj zb9_
    have nW_fR6 : ∀ k, k < 6 → rt k ≠ bb6 := fun k hk9 => Nat.ne_of_lt (Nat.lt_of_lt_of_le (t_fk k hk9) zb9_)
    have l_fe_fR6 : ex < bb6 := Nat.lt_of_lt_of_le t_fe zb9_
    have l_fr_fR6 : ro < bb6 := Nat.lt_of_lt_of_le t_fr zb9_
    have l_f0w_fR6 : rl < bb6 := Nat.lt_of_lt_of_le t_f0w zb9_
    have l_fRw_fR6 : br < bb6 := Nat.lt_of_lt_of_le t_fRw zb9_
    have hZ0_ := hS.1
    have t_fo := fo.lt
    have t_fj := fj.lt
    have t_fk := fun k (hk9 : k < 6) => (fk k hk9).lt
    have t_fe := fe.lt
    have t_fr := fr.lt
    have t_f0w := f0w.lt
    have t_fRw := fRw.lt
    have t_fR6 := fR6.lt
    have t_fl6 := fl6.lt
    refine k_r (pc := 9) (k_S E hC hS hA hl.1 (c_X5_told l D tk N0 sa H.size r_5 bb6 n9 cap6 md6 ff6 ww6 (by omega) (by omega) (by omega) (hPQ6.pv hPI)) kw_1483 kw_1484 kw_5 kw_1485 (n := 1) (by decide +kernel) rfl ⟨⟨rfl, rfl⟩, ⟨Nat.le_of_ble_eq_true rfl, Nat.le_of_ble_eq_true rfl⟩, (by dsimp only; omega), (by dsimp only; omega)⟩ rfl (Nat.le_of_ble_eq_true rfl) ⟨fl6, fR6, el6⟩ dX5_row_9) hS (fun q z w => absurd w (Nat.not_le.mpr z)) hn (fun r_7 H locs hR hz hk hS => ?_)
    have fo := fo.kept (hk _ fo.lt (Nat.not_le.mpr fo.lt))
    have fj := fj.kept (hk _ fj.lt (Nat.not_le.mpr fj.lt))
    have fk := fk.new hk
    have fe := fe.kept (hk _ fe.lt (Nat.not_le.mpr fe.lt))
    have fr := fr.kept (hk _ fr.lt (Nat.not_le.mpr fr.lt))
    have f0w := f0w.kept (hk _ f0w.lt (Nat.not_le.mpr f0w.lt))
    have fRw := fRw.kept (hk _ fRw.lt (Nat.not_le.mpr fRw.lt))
    have elw := elw.new hk
    have fR6 := fR6.kept (hk _ fR6.lt (Nat.not_le.mpr fR6.lt))
    have fl6 := fl6.kept (hk _ fl6.lt (Nat.not_le.mpr fl6.lt))
    have el6 := el6.new hk
    obtain ⟨n_f8, hn_f8, f8⟩ := hR
    refine r_aret (pc := 12) E hr (Or.inl ⟨_, rfl⟩) hlk hS (by omega) (by omega) ?_ dX5_row_12
    exact ⟨_, ⟨_, _, _, _, _, fo, fj, fk, fe, fr, (Or.inr ⟨_, _, _, _, hPb, f0w, fRw, elw, hPI, hncr, hmcr⟩), ⟨hPm, hPa, hPl, hPe, hPr, hPk⟩, hFk, hFe, hFr, hpk, hn9⟩⟩
