set_option maxHeartbeats 4000000 in
set_option maxRecDepth 100000 in
/-- BestratiosModel.swap(II)I -/
theorem c_X5_swap (l : Launch) (D : va_G) (tk : Nat → ClassId) (N0 : Nat) (sa : Nat → Nat)  (sz : Nat) (P : Nat → Prop) (hPN : ∀ q, P q → N0 ≤ q) (hPs : ∀ q, sz ≤ q → P q) (mo n9 : Nat) (kn th : Int32) (tt bb : Nat → Int64) (eT eB oT oB : Int64) (pk : Nat) (ca rf : Int32) (vs : Nat → Value) (x1 : Int32) (x2 : Int32) : Met l yX5_swap (wsy yX5_swap cX5_swap 4 (some .int)) ({ frames := 3, cells := 0, slots := 0, locals := 63 } : Room) (cP D tk N0 sa [.ref mo, .int x1, .int x2] sz (fun H => MI D tk sa P mo tt bb eT eB oT oB pk ca rf vs kn n9 th H)) (kQi (fun r H => ∃ th1 tt1 bb1, MI D tk sa P mo tt1 bb1 eT eB oT oB pk ca rf vs kn n9 th1 H ∧ SW (m_areNo x1 x2) 0 tt bb (nn x1) (nn x2) r th1 tt1 bb1) (P)) (0) (0) (P) := by
  refine mStart RX5 rfl (by decide +kernel) (Nat.le_of_ble_eq_true rfl) ?_
  intro p e s m args below meth c E hr hlk hnm hsz hC hF ls hl
  subst hsz
  obtain ⟨hx, hb, -⟩ := id E
  have hA : ∀ q, (P) q → N0 ≤ q := hPN
  have hn : ∀ q, s.heap.size ≤ q → (P) q := hPs
  have hS : va_S (P) s.heap s.heap [] := va_S.rf
  have hl : lv_has ls 4 [(0, .ref mo), (1, .int x1), (2, .int x2)] := hl
  have hM : MI D tk sa P mo tt bb eT eB oT oB pk ca rf vs kn n9 th s.heap := hF
  obtain ⟨ra, rl, ex, ro, rt, fo, fj, fk, fe, fr, fw, ⟨hPm, hPa, hPl, hPe, hPr, hPk⟩, hFk, hFe, hFr, hpk, hn9⟩ := hM
  have g_fo := hPm
  have g_fj := hPa
  refine lv_aload_n (pc := 0) hx hb dX5_swap_0 rfl (lv_at hl 0 rfl) ?_
  refine lv_iload_n (pc := 1) hx hb dX5_swap_1 rfl (lv_at hl 1 rfl) ?_
  refine lv_iload_n (pc := 2) hx hb dX5_swap_2 rfl (lv_at hl 2 rfl) ?_
  refine k_i (pc := 3) (k_S E hC hS hA hl.1 (c_X5_areNo l D tk N0 sa s.heap.size x1 x2 ) kw_1286 kw_1287 kw_5 kw_1288 (n := 2) (by decide +kernel) rfl ⟨⟨rfl, rfl⟩, ⟨Nat.le_of_ble_eq_true rfl, Nat.le_of_ble_eq_true rfl⟩, (by dsimp only; omega), (by dsimp only; omega)⟩ rfl (Nat.le_of_ble_eq_true rfl) trivial dX5_swap_3) hS (fun q z w => absurd w (Nat.not_le.mpr z)) hn (fun r_1 H locs hR hz hk hS => ?_)
  have er_1 := hR
  have fw := fw.new hk
  have fo := fo.kept (hk _ fo.lt (Nat.not_le.mpr fo.lt))
  have fj := fj.kept (hk _ fj.lt (Nat.not_le.mpr fj.lt))
  have fk := fk.new hk
  have fe := fe.kept (hk _ fe.lt (Nat.not_le.mpr fe.lt))
  have fr := fr.kept (hk _ fr.lt (Nat.not_le.mpr fr.lt))
  refine lv_iconst (pc := 6) (v := 0) hx hb dX5_swap_6 (by decide) ?_
  have hZ0_ := hS.1
  have t_fo := fo.lt
  have t_fj := fj.lt
  have t_fk := fun k (hk9 : k < 6) => (fk k hk9).lt
  have t_fe := fe.lt
  have t_fr := fr.lt
  refine k_i (pc := 7) (k_V E hC hS hA hl.1 (c1.recv hC fo rfl) rfl (c_X5_fails l D tk N0 sa H.size P hPN (fun q h9 => hPs q (Nat.le_trans hS.1 h9)) mo n9 kn th tt bb eT eB oT oB pk ca rf vs r_1 0 ) kw_1251 kw_1253 kp_20 kw_5 kw_1254 (n := 2) (by decide +kernel) rfl ⟨⟨rfl, rfl⟩, ⟨Nat.le_of_ble_eq_true rfl, Nat.le_of_ble_eq_true rfl⟩, (by dsimp only; omega), (by dsimp only; omega)⟩ rfl (Nat.le_of_ble_eq_true rfl) ⟨_, _, _, _, _, fo, fj, fk, fe, fr, fw, ⟨hPm, hPa, hPl, hPe, hPr, hPk⟩, hFk, hFe, hFr, hpk, hn9⟩ dX5_swap_7) hS (fun q _ h => h) hn (fun r_3 H locs hR hz hk hS => ?_)
  obtain ⟨er_3, hM⟩ := hR
  obtain ⟨ra, rl, ex, ro, rt, fo, fj, fk, fe, fr, fw, ⟨hPm, hPa, hPl, hPe, hPr, hPk⟩, hFk, hFe, hFr, hpk, hn9⟩ := hM
  have g_fo := hPm
  have g_fj := hPa
  refine lv_if_eq (pc := 10) (tgt := 15) hx hb dX5_swap_10 (by decide) (fun c_4 => ?_) (fun c_4 => ?_)
  · refine lv_aload_n (pc := 15) hx hb dX5_swap_15 rfl (lv_at hl 0 rfl) ?_
    refine r_get (pc := 16) E hC fo 0 (v := .ref ra) rfl rfl (by decide) uX5 (List.mem_cons_of_mem _ kw_1209) (fun _ h => h) dX5_swap_16 ?_
    refine lv_iload_n (pc := 19) hx hb dX5_swap_19 rfl (lv_at hl 1 rfl) ?_
    obtain ⟨hx_5, hk_5⟩ := m_noN (m_ano (er_1.symm.trans (m_fl0 (er_3.symm.trans c_4)).1)).1
    refine r_aaldJ (pc := 20) E hC fj (nn x1) hx_5 hk_5 (by decide) rfl dX5_swap_20 ?_
    have fL6 := fk (nn x1) hk_5
    have mF_fL6 := hFk (nn x1) hk_5
    have Pq_fL6 := hPk (nn x1) hk_5
    refine lv_astore_n (pc := 21) (lv' := [(3, .ref (rt (nn x1))), (0, .ref mo), (1, .int x1), (2, .int x2)]) hx hb dX5_swap_21 rfl hl (by decide) rfl (fun ls hl => ?_)
    refine lv_aload_n (pc := 22) hx hb dX5_swap_22 rfl (lv_at hl 1 rfl) ?_
    refine r_get (pc := 23) E hC fo 0 (v := .ref ra) rfl rfl (by decide) uX5 (List.mem_cons_of_mem _ kw_1209) (fun _ h => h) dX5_swap_23 ?_
    refine lv_iload_n (pc := 26) hx hb dX5_swap_26 rfl (lv_at hl 2 rfl) ?_
    refine lv_aload_n (pc := 27) hx hb dX5_swap_27 rfl (lv_at hl 1 rfl) ?_
    refine r_get (pc := 28) E hC fo 0 (v := .ref ra) rfl rfl (by decide) uX5 (List.mem_cons_of_mem _ kw_1209) (fun _ h => h) dX5_swap_28 ?_
    refine lv_iload_n (pc := 31) hx hb dX5_swap_31 rfl (lv_at hl 3 rfl) ?_
    obtain ⟨hx_7, hk_7⟩ := m_noN (m_ano (er_1.symm.trans (m_fl0 (er_3.symm.trans c_4)).1)).2
    refine r_aaldJ (pc := 32) E hC fj (nn x2) hx_7 hk_7 (by decide) rfl dX5_swap_32 ?_
    have fL8 := fk (nn x2) hk_7
    have mF_fL8 := hFk (nn x2) hk_7
    have Pq_fL8 := hPk (nn x2) hk_7
    refine r_aastJ (pc := 33) E hC fj fL8 hS g_fj (nn x1) hx_5 hk_5 (by decide) dX5_swap_33 (fun H locs n_ ho hz hS => ?_)
    have fw := fw.put ho (fun q9 h9 => clA.ne h9 fj.cla (hC.oa 7 3 rfl rfl)) (fun q9 h9 => clA.ne h9 fj.cla (hC.aa 4 3 rfl rfl (by dsimp only; decide))) (fun q9 h9 => clA.ne h9 fj.cla (hC.cea (Or.inr rfl) 3 rfl))
    have nW_fj : ∀ k, k < 6 → rt k ≠ ra := fun k hk9 => clA.ne (fk k hk9).cla fj.cla (hC.aa 0 3 rfl rfl (by dsimp only; decide))
    have fo := fo.kept (ho _ (clA.ne fo.cl fj.cla (hC.oa 13 3 rfl rfl)))
    have fk := fk.kept (fun k hk9 => ho _ (nW_fj k hk9))
    have fe := fe.kept (ho _ (clA.ne fe.cla fj.cla (hC.aa 0 3 rfl rfl (by dsimp only; decide))))
    have fr := fr.kept (ho _ (clA.ne fr.cla fj.cla (hC.aa 0 3 rfl rfl (by dsimp only; decide))))
    have fL6 := fL6.kept (ho _ (clA.ne fL6.cla fj.cla (hC.aa 0 3 rfl rfl (by dsimp only; decide))))
    have fL8 := fL8.kept (ho _ (clA.ne fL8.cla fj.cla (hC.aa 0 3 rfl rfl (by dsimp only; decide))))
    have fk := fk.upd fL8 (nn x1)
    have fj := n_.upJ
    have hPk := m_upP hPk Pq_fL8 (nn x1)
    have hFk := m_upF hFk mF_fL8 (nn x1)
    refine lv_aload_n (pc := 34) hx hb dX5_swap_34 rfl (lv_at hl 1 rfl) ?_
    refine r_get (pc := 35) E hC fo 0 (v := .ref ra) rfl rfl (by decide) uX5 (List.mem_cons_of_mem _ kw_1209) (fun _ h => h) dX5_swap_35 ?_
    refine lv_iload_n (pc := 38) hx hb dX5_swap_38 rfl (lv_at hl 3 rfl) ?_
    refine lv_aload_n (pc := 39) hx hb dX5_swap_39 rfl (lv_at hl 0 rfl) ?_
    refine r_aastJ (pc := 40) E hC fj fL6 hS g_fj (nn x2) hx_7 hk_7 (by decide) dX5_swap_40 (fun H locs n_ ho hz hS => ?_)
    have fw := fw.put ho (fun q9 h9 => clA.ne h9 fj.cla (hC.oa 7 3 rfl rfl)) (fun q9 h9 => clA.ne h9 fj.cla (hC.aa 4 3 rfl rfl (by dsimp only; decide))) (fun q9 h9 => clA.ne h9 fj.cla (hC.cea (Or.inr rfl) 3 rfl))
    have nW_fj : ∀ k, k < 6 → (va_up rt (nn x1) (rt (nn x2))) k ≠ ra := fun k hk9 => clA.ne (fk k hk9).cla fj.cla (hC.aa 0 3 rfl rfl (by dsimp only; decide))
    have fo := fo.kept (ho _ (clA.ne fo.cl fj.cla (hC.oa 13 3 rfl rfl)))
    have fk := fk.kept (fun k hk9 => ho _ (nW_fj k hk9))
    have fe := fe.kept (ho _ (clA.ne fe.cla fj.cla (hC.aa 0 3 rfl rfl (by dsimp only; decide))))
    have fr := fr.kept (ho _ (clA.ne fr.cla fj.cla (hC.aa 0 3 rfl rfl (by dsimp only; decide))))
    have fL6 := fL6.kept (ho _ (clA.ne fL6.cla fj.cla (hC.aa 0 3 rfl rfl (by dsimp only; decide))))
    have fL8 := fL8.kept (ho _ (clA.ne fL8.cla fj.cla (hC.aa 0 3 rfl rfl (by dsimp only; decide))))
    have fk := fk.upd fL6 (nn x2)
    have fj := n_.upJ
    have hPk := m_upP hPk Pq_fL6 (nn x2)
    have hFk := m_upF hFk mF_fL6 (nn x2)
    refine lv_aload_n (pc := 41) hx hb dX5_swap_41 rfl (lv_at hl 1 rfl) ?_
    refine r_get (pc := 42) E hC fo 0 (v := .ref ra) rfl rfl (by decide) uX5 (List.mem_cons_of_mem _ kw_1209) (fun _ h => h) dX5_swap_42 ?_
    refine lv_iload_n (pc := 45) hx hb dX5_swap_45 rfl (lv_at hl 2 rfl) ?_
    refine r_aaldJ (pc := 46) E hC fj (nn x1) hx_5 hk_5 (by decide) rfl dX5_swap_46 ?_
    have fL9 := fk (nn x1) hk_5
    have mF_fL9 := hFk (nn x1) hk_5
    have Pq_fL9 := hPk (nn x1) hk_5
    refine lv_aload_n (pc := 47) hx hb dX5_swap_47 rfl (lv_at hl 0 rfl) ?_
    have hZ0_ := hS.1
    have t_fo := fo.lt
    have t_fj := fj.lt
    have t_fk := fun k (hk9 : k < 6) => (fk k hk9).lt
    have t_fe := fe.lt
    have t_fr := fr.lt
    have t_fL6 := fL6.lt
    have t_fL8 := fL8.lt
    have t_fL9 := fL9.lt
    refine k_i (pc := 48) (k_S E hC hS hA hl.1 (c_X5_order l D tk N0 sa H.size (((va_up ((va_up rt (nn x1) (rt (nn x2)))) (nn x2) (rt (nn x1)))) (nn x1)) ((va_up (va_up tt (nn x1) (tt (nn x2))) (nn x2) (tt (nn x1))) (nn x1)) ((va_up (va_up bb (nn x1) (bb (nn x2))) (nn x2) (bb (nn x1))) (nn x1)) (rt (nn x1)) (tt (nn x1)) (bb (nn x1)) ) kw_1268 kw_1269 kw_5 kw_1270 (n := 2) (by decide +kernel) rfl ⟨⟨rfl, rfl⟩, ⟨Nat.le_of_ble_eq_true rfl, Nat.le_of_ble_eq_true rfl⟩, (by dsimp only; omega), (by dsimp only; omega)⟩ rfl (Nat.le_of_ble_eq_true rfl) ⟨fL9, fL6⟩ dX5_swap_48) hS (fun q z w => absurd w (Nat.not_le.mpr z)) hn (fun r_10 H locs hR hz hk hS => ?_)
    have fw := fw.new hk
    have fo := fo.kept (hk _ fo.lt (Nat.not_le.mpr fo.lt))
    have fj := fj.kept (hk _ fj.lt (Nat.not_le.mpr fj.lt))
    have fk := fk.new hk
    have fe := fe.kept (hk _ fe.lt (Nat.not_le.mpr fe.lt))
    have fr := fr.kept (hk _ fr.lt (Nat.not_le.mpr fr.lt))
    have fL6 := fL6.kept (hk _ fL6.lt (Nat.not_le.mpr fL6.lt))
    have fL8 := fL8.kept (hk _ fL8.lt (Nat.not_le.mpr fL8.lt))
    have fL9 := fL9.kept (hk _ fL9.lt (Nat.not_le.mpr fL9.lt))
    have er_10 := hR
    refine lv_if_eq (pc := 51) (tgt := 58) hx hb dX5_swap_51 (by decide) (fun c_11 => ?_) (fun c_11 => ?_)
    · refine lv_iconst (pc := 58) (v := 0) hx hb dX5_swap_58 (by decide) ?_
      refine k_i (pc := 59) (k_S E hC hS hA hl.1 (c_X5_bit l D tk N0 sa H.size 0 ) kw_1271 kw_1272 kw_5 kw_1273 (n := 1) (by decide +kernel) rfl ⟨⟨rfl, rfl⟩, ⟨Nat.le_of_ble_eq_true rfl, Nat.le_of_ble_eq_true rfl⟩, (by dsimp only; omega), (by dsimp only; omega)⟩ rfl (Nat.le_of_ble_eq_true rfl) trivial dX5_swap_59) hS (fun q z w => absurd w (Nat.not_le.mpr z)) hn (fun r_12 H locs hR hz hk hS => ?_)
      have er_12 := hR
      have fw := fw.new hk
      have fo := fo.kept (hk _ fo.lt (Nat.not_le.mpr fo.lt))
      have fj := fj.kept (hk _ fj.lt (Nat.not_le.mpr fj.lt))
      have fk := fk.new hk
      have fe := fe.kept (hk _ fe.lt (Nat.not_le.mpr fe.lt))
      have fr := fr.kept (hk _ fr.lt (Nat.not_le.mpr fr.lt))
      have fL6 := fL6.kept (hk _ fL6.lt (Nat.not_le.mpr fL6.lt))
      have fL8 := fL8.kept (hk _ fL8.lt (Nat.not_le.mpr fL8.lt))
      have fL9 := fL9.kept (hk _ fL9.lt (Nat.not_le.mpr fL9.lt))
      refine r_iret (pc := 62) E hr hlk hS (by omega) (by omega) ?_ dX5_swap_62
      exact ⟨_, _, _, ⟨_, _, _, _, _, fo, fj, fk, fe, fr, fw, ⟨hPm, hPa, hPl, hPe, hPr, hPk⟩, hFk, hFe, hFr, hpk, hn9⟩, SW.ok (by subst er_1 er_3 er_10 er_12; first | rfl | (simp [m_or, m_not, m_is0, m_lt0, m_fl, c_4, c_11]; done)) rfl (er_3.symm.trans c_4) (by subst er_1 er_3 er_10 er_12; first | rfl | (simp [m_bit, m_sw, c_4, c_11]; done))⟩
    · refine lv_iconst (pc := 54) (v := 1) hx hb dX5_swap_54 (by decide) ?_
      refine lv_goto (pc := 55) (tgt := 59) hx hb dX5_swap_55 (by decide) ?_
      refine k_i (pc := 59) (k_S E hC hS hA hl.1 (c_X5_bit l D tk N0 sa H.size 1 ) kw_1271 kw_1272 kw_5 kw_1273 (n := 1) (by decide +kernel) rfl ⟨⟨rfl, rfl⟩, ⟨Nat.le_of_ble_eq_true rfl, Nat.le_of_ble_eq_true rfl⟩, (by dsimp only; omega), (by dsimp only; omega)⟩ rfl (Nat.le_of_ble_eq_true rfl) trivial dX5_swap_59) hS (fun q z w => absurd w (Nat.not_le.mpr z)) hn (fun r_14 H locs hR hz hk hS => ?_)
      have er_14 := hR
      have fw := fw.new hk
      have fo := fo.kept (hk _ fo.lt (Nat.not_le.mpr fo.lt))
      have fj := fj.kept (hk _ fj.lt (Nat.not_le.mpr fj.lt))
      have fk := fk.new hk
      have fe := fe.kept (hk _ fe.lt (Nat.not_le.mpr fe.lt))
      have fr := fr.kept (hk _ fr.lt (Nat.not_le.mpr fr.lt))
      have fL6 := fL6.kept (hk _ fL6.lt (Nat.not_le.mpr fL6.lt))
      have fL8 := fL8.kept (hk _ fL8.lt (Nat.not_le.mpr fL8.lt))
      have fL9 := fL9.kept (hk _ fL9.lt (Nat.not_le.mpr fL9.lt))
      refine r_iret (pc := 62) E hr hlk hS (by omega) (by omega) ?_ dX5_swap_62
      exact ⟨_, _, _, ⟨_, _, _, _, _, fo, fj, fk, fe, fr, fw, ⟨hPm, hPa, hPl, hPe, hPr, hPk⟩, hFk, hFe, hFr, hpk, hn9⟩, SW.ok (by subst er_1 er_3 er_10 er_14; first | rfl | (simp [m_or, m_not, m_is0, m_lt0, m_fl, c_4, c_11]; done)) rfl (er_3.symm.trans c_4) (by subst er_1 er_3 er_10 er_14; first | rfl | (simp [m_bit, m_sw, c_4, c_11]; done))⟩
  · refine lv_iconst (pc := 13) (v := 0) hx hb dX5_swap_13 (by decide) ?_
    refine r_iret (pc := 14) E hr hlk hS (by omega) (by omega) ?_ dX5_swap_14
    exact ⟨_, _, _, ⟨_, _, _, _, _, fo, fj, fk, fe, fr, fw, ⟨hPm, hPa, hPl, hPe, hPr, hPk⟩, hFk, hFe, hFr, hpk, hn9⟩, SW.fail (by subst er_1 er_3; first | rfl | (simp [m_or, m_not, m_is0, m_lt0, m_fl, c_4]; done)) rfl (fun z9 => c_4 (er_3.trans z9))⟩
