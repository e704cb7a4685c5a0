set_option maxHeartbeats 4000000 in
set_option maxRecDepth 100000 in
/-- BestratiosModel.say(I)I -/
theorem c_X5_say (l : Launch) (D : va_G) (tk : Nat → ClassId) (N0 : Nat) (sa : Nat → Nat)  (sz : Nat) (P : Nat → Prop) (hPN : ∀ q, P q → N0 ≤ q) (hPs : ∀ q, sz ≤ q → P q) (mo n9 : Nat) (kn th : Int32) (tt bb : Nat → Int64) (eT eB oT oB : Int64) (pk : Nat) (ca rf : Int32) (vs : Nat → Value) (x1 : Int32) : Met l yX5_say (wsy yX5_say cX5_say 2 (some .int)) ({ frames := 7, cells := 4, slots := 60, locals := 157 } : Room) (cP D tk N0 sa [.ref mo, .int x1] sz (fun H => MI D tk sa P mo tt bb eT eB oT oB pk ca rf vs kn n9 th H)) (kQi (fun r H => ∃ n1 th1 vs1, MI D tk sa P mo tt bb eT eB oT oB pk ca rf vs1 kn n1 th1 H ∧ m_say x1 n9 r n1 th1 ∧ (th1 = 0 → vs1 = va_up vs n9 (.int x1)) ∧ (¬ th1 = 0 → vs1 = vs)) (P)) (4) (60) (P) := by
  refine mStart RX5 rfl (by decide +kernel) (Nat.le_of_ble_eq_true rfl) ?_
  intro p e s m args below meth c E hr hlk hnm hsz hC hF ls hl
  subst hsz
  obtain ⟨hx, hb, -⟩ := id E
  have hA : ∀ q, (P) q → N0 ≤ q := hPN
  have hn : ∀ q, s.heap.size ≤ q → (P) q := hPs
  have hS : va_S (P) s.heap s.heap [] := va_S.rf
  have hl : lv_has ls 2 [(0, .ref mo), (1, .int x1)] := hl
  have hM : MI D tk sa P mo tt bb eT eB oT oB pk ca rf vs kn n9 th s.heap := hF
  obtain ⟨ra, rl, ex, ro, rt, fo, fj, fk, fe, fr, fw, ⟨hPm, hPa, hPl, hPe, hPr, hPk⟩, hFk, hFe, hFr, hpk, hn9⟩ := hM
  have g_fo := hPm
  have g_fj := hPa
  refine lv_aload_n (pc := 0) hx hb dX5_say_0 rfl (lv_at hl 0 rfl) ?_
  refine lv_iload_n (pc := 1) hx hb dX5_say_1 rfl (lv_at hl 1 rfl) ?_
  refine lv_ldc (pc := 2) (v := (-99999)) hx hb E.2.2.2.1 (E.2.2.2.2 _ (List.mem_cons_of_mem _ kw_1574)) dX5_say_2 ?_
  refine lv_ldc (pc := 4) (v := 99999) hx hb E.2.2.2.1 (E.2.2.2.2 _ (List.mem_cons_of_mem _ kw_1575)) dX5_say_4 ?_
  refine k_i (pc := 6) (k_S E hC hS hA hl.1 (c_X5_isIn l D tk N0 sa s.heap.size x1 ((-99999)) 99999 ) kw_1248 kw_1249 kw_5 kw_1250 (n := 3) (by decide +kernel) rfl ⟨⟨rfl, rfl⟩, ⟨Nat.le_of_ble_eq_true rfl, Nat.le_of_ble_eq_true rfl⟩, (by dsimp only; omega), (by dsimp only; omega)⟩ rfl (Nat.le_of_ble_eq_true rfl) trivial dX5_say_6) hS (fun q z w => absurd w (Nat.not_le.mpr z)) hn (fun r_1 H locs hR hz hk hS => ?_)
  have er_1 := hR
  have fw := fw.new hk
  have fo := fo.kept (hk _ fo.lt (Nat.not_le.mpr fo.lt))
  have fj := fj.kept (hk _ fj.lt (Nat.not_le.mpr fj.lt))
  have fk := fk.new hk
  have fe := fe.kept (hk _ fe.lt (Nat.not_le.mpr fe.lt))
  have fr := fr.kept (hk _ fr.lt (Nat.not_le.mpr fr.lt))
  refine lv_if_ne (pc := 9) (tgt := 16) hx hb dX5_say_9 (by decide) (fun c_3 => ?_) (fun c_3 => ?_)
  · refine lv_iconst (pc := 16) (v := 0) hx hb dX5_say_16 (by decide) ?_
    refine lv_aload_n (pc := 17) hx hb dX5_say_17 rfl (lv_at hl 0 rfl) ?_
    refine r_get (pc := 18) E hC fo 1 (v := .ref rl) rfl rfl (by decide) uX5 (List.mem_cons_of_mem _ kw_1210) (fun _ h => h) dX5_say_18 ?_
    obtain ⟨md_4, b_4, fz4⟩ := fw.obj
    refine k_i (pc := 21) (k_V E hC hS hA hl.1 (c1.recv hC fz4 rfl) rfl (c_Jx4a65c_size_8abf5 l D tk N0 sa H.size rl b_4 n9 md_4) kw_1546 kw_1547 kw_1548 kw_8 kw_1549 (n := 0) (by decide +kernel) rfl ⟨⟨rfl, rfl⟩, ⟨Nat.le_of_ble_eq_true rfl, Nat.le_of_ble_eq_true rfl⟩, (by dsimp only; omega), (by dsimp only; omega)⟩ rfl (Nat.le_of_ble_eq_true rfl) fz4 dX5_say_21) hS (fun q z w => absurd w (Nat.not_le.mpr z)) hn (fun r_5 H locs hR hz hk hS => ?_)
    have fw := fw.new hk
    have fo := fo.kept (hk _ fo.lt (Nat.not_le.mpr fo.lt))
    have fj := fj.kept (hk _ fj.lt (Nat.not_le.mpr fj.lt))
    have fk := fk.new hk
    have fe := fe.kept (hk _ fe.lt (Nat.not_le.mpr fe.lt))
    have fr := fr.kept (hk _ fr.lt (Nat.not_le.mpr fr.lt))
    have fz4 := fz4.kept (hk _ fz4.lt (Nat.not_le.mpr fz4.lt))
    rw [show r_5 = nI n9 from hR]
    refine lv_bipush (pc := 24) (v := 16) hx hb dX5_say_24 (by decide) ?_
    refine lv_icmp_ne (pc := 26) (tgt := 33) hx hb dX5_say_26 (by decide) (fun c_6 => ?_) (fun c_6 => ?_)
    · refine lv_iconst (pc := 33) (v := 0) hx hb dX5_say_33 (by decide) ?_
      have hZ0_ := hS.1
      have t_fo := fo.lt
      have t_fj := fj.lt
      have t_fk := fun k (hk9 : k < 6) => (fk k hk9).lt
      have t_fe := fe.lt
      have t_fr := fr.lt
      have t_fz4 := fz4.lt
      refine k_i (pc := 34) (k_V E hC hS hA hl.1 (c1.recv hC fo rfl) rfl (c_X5_fails l D tk N0 sa H.size P hPN (fun q h9 => hPs q (Nat.le_trans hS.1 h9)) mo n9 kn th tt bb eT eB oT oB pk ca rf vs 0 0 ) kw_1251 kw_1253 kp_20 kw_5 kw_1254 (n := 2) (by decide +kernel) rfl ⟨⟨rfl, rfl⟩, ⟨Nat.le_of_ble_eq_true rfl, Nat.le_of_ble_eq_true rfl⟩, (by dsimp only; omega), (by dsimp only; omega)⟩ rfl (Nat.le_of_ble_eq_true rfl) ⟨_, _, _, _, _, fo, fj, fk, fe, fr, fw, ⟨hPm, hPa, hPl, hPe, hPr, hPk⟩, hFk, hFe, hFr, hpk, hn9⟩ dX5_say_34) hS (fun q _ h => h) hn (fun r_7 H locs hR hz hk hS => ?_)
      obtain ⟨er_7, hM⟩ := hR
      obtain ⟨ra, rl, ex, ro, rt, fo, fj, fk, fe, fr, fw, ⟨hPm, hPa, hPl, hPe, hPr, hPk⟩, hFk, hFe, hFr, hpk, hn9⟩ := hM
      have g_fo := hPm
      have g_fj := hPa
      have ef_r_7 : r_7 = 0 := er_7.trans rfl
      rw [ef_r_7]
      refine lv_if_eq (pc := 37) (tgt := 42) hx hb dX5_say_37 (by decide) (fun c_8 => ?_) (fun c_8 => ?_)
      rotate_left
      · exact absurd (by decide) c_8
      have hsd := m_said (x := x1) (fun z9 => c_3 (er_1.trans z9))
      have h16 : n9 ≠ 16 := fun z9 => c_6 (by rw [z9]; rfl)
      rcases fw with ⟨h0r, mdr, f0w⟩ | ⟨mdr, br, capr, fnr, hPb, f0w, fRw, elw, hPI, hncr, hmcr⟩
      · subst h0r
        have g_f0w := hPl
        have nW_f0w : ∀ k, k < 6 → rt k ≠ rl := fun k hk9 => clA.ne (fk k hk9).cla f0w.cl (hC.ao 7 0 rfl rfl)
        refine lv_aload_n (pc := 42) hx hb dX5_say_42 rfl (lv_at hl 0 rfl) ?_
        refine r_get (pc := 43) E hC fo 1 (v := .ref rl) rfl rfl (by decide) uX5 (List.mem_cons_of_mem _ kw_1210) (fun _ h => h) dX5_say_43 ?_
        refine lv_iload_n (pc := 46) hx hb dX5_say_46 rfl (lv_at hl 1 rfl) ?_
        have hZ0_ := hS.1
        have t_fo := fo.lt
        have t_fj := fj.lt
        have t_fk := fun k (hk9 : k < 6) => (fk k hk9).lt
        have t_fe := fe.lt
        have t_fr := fr.lt
        have t_f0w := f0w.lt
        refine k_r (pc := 47) (k_S E hC hS hA hl.1 (c_J6_valueOf_2dffe l D tk N0 sa H.size x1) kw_1576 kw_1577 kw_22 kw_1578 (n := 1) (by decide +kernel) rfl ⟨⟨rfl, rfl⟩, ⟨Nat.le_of_ble_eq_true rfl, Nat.le_of_ble_eq_true rfl⟩, (by dsimp only; omega), (by dsimp only; omega)⟩ rfl (Nat.le_of_ble_eq_true rfl) trivial dX5_say_47) hS (fun q z w => absurd w (Nat.not_le.mpr z)) hn (fun r_9 H locs hR hz hk hS => ?_)
        have fo := fo.kept (hk _ fo.lt (Nat.not_le.mpr fo.lt))
        have fj := fj.kept (hk _ fj.lt (Nat.not_le.mpr fj.lt))
        have fk := fk.new hk
        have fe := fe.kept (hk _ fe.lt (Nat.not_le.mpr fe.lt))
        have fr := fr.kept (hk _ fr.lt (Nat.not_le.mpr fr.lt))
        have f0w := f0w.kept (hk _ f0w.lt (Nat.not_le.mpr f0w.lt))
        have f10 := hR
        have hZ0_ := hS.1
        have t_fo := fo.lt
        have t_fj := fj.lt
        have t_fk := fun k (hk9 : k < 6) => (fk k hk9).lt
        have t_fe := fe.lt
        have t_fr := fr.lt
        have t_f0w := f0w.lt
        have t_f10 := f10.lt
        refine k_i (pc := 50) (k_V E hC hS hA hl.1 (c1.recv hC f0w rfl) rfl (c_Jx4a65c_add_9ea2d_E l D tk N0 sa H.size rl r_9 2 mdr (.int x1) vs (hA _ g_f0w) (Or.inr rfl)) kw_1434 kw_1435 kw_1436 kw_8 kw_1437 (n := 1) (by decide +kernel) rfl ⟨⟨rfl, rfl⟩, ⟨Nat.le_of_ble_eq_true rfl, Nat.le_of_ble_eq_true rfl⟩, (by dsimp only; omega), (by dsimp only; omega)⟩ rfl (Nat.le_of_ble_eq_true rfl) ⟨f0w, f10⟩ dX5_say_50) hS (inA1.to g_f0w) hn (fun r_11 H locs hR hz hk hS => ?_)
        have fo := fo.kept (hk _ fo.lt (inA1.not (clA.ne fo.cl f0w.cl (hC.oo 13 7 rfl rfl (by decide))) fo.lt))
        have fj := fj.kept (hk _ fj.lt (inA1.not (clA.ne fj.cla f0w.cl (hC.ao 7 3 rfl rfl)) fj.lt))
        have fk := fk.kept (fun k hk9 => hk _ (fk k hk9).lt (inA1.not (nW_f0w k hk9) (fk k hk9).lt))
        have fe := fe.kept (hk _ fe.lt (inA1.not (clA.ne fe.cla f0w.cl (hC.ao 7 0 rfl rfl)) fe.lt))
        have fr := fr.kept (hk _ fr.lt (inA1.not (clA.ne fr.cla f0w.cl (hC.ao 7 0 rfl rfl)) fr.lt))
        have f10 := f10.kept (hk _ f10.lt (inA1.not (clA.ne f10.cl f0w.cl (hC.oo 2 7 rfl rfl (by decide))) f10.lt))
        obtain ⟨hr9, q12, z9_, f0w, f12, e12⟩ := hR
        have s_f12 : s.heap.size ≤ q12 := Nat.le_trans hZ0_ z9_
        have g_f12 := hn _ s_f12
        have l_fo_f12 : mo < q12 := Nat.lt_of_lt_of_le t_fo z9_
        have l_fj_f12 : ra < q12 := Nat.lt_of_lt_of_le t_fj z9_
        have nW_f12 : ∀ k, k < 6 → rt k ≠ q12 := fun k hk9 => Nat.ne_of_lt (Nat.lt_of_lt_of_le (t_fk k hk9) z9_)
        have l_fe_f12 : ex < q12 := Nat.lt_of_lt_of_le t_fe z9_
        have l_fr_f12 : ro < q12 := Nat.lt_of_lt_of_le t_fr z9_
        have l_f0w_f12 : rl < q12 := Nat.lt_of_lt_of_le t_f0w z9_
        have l_f10_f12 : r_9 < q12 := Nat.lt_of_lt_of_le t_f10 z9_
        rw [hr9]
        refine lv_pop (pc := 53) hx hb dX5_say_53 rfl ?_
        refine lv_aload_n (pc := 54) hx hb dX5_say_54 rfl (lv_at hl 0 rfl) ?_
        refine r_get (pc := 55) E hC fo 1 (v := .ref rl) rfl rfl (by decide) uX5 (List.mem_cons_of_mem _ kw_1210) (fun _ h => h) dX5_say_55 ?_
        refine k_i (pc := 58) (k_V E hC hS hA hl.1 (c1.recv hC f0w rfl) rfl (c_Jx4a65c_size_8abf5 l D tk N0 sa H.size rl q12 1 (mdr + 1)) kw_1546 kw_1547 kw_1548 kw_8 kw_1549 (n := 0) (by decide +kernel) rfl ⟨⟨rfl, rfl⟩, ⟨Nat.le_of_ble_eq_true rfl, Nat.le_of_ble_eq_true rfl⟩, (by dsimp only; omega), (by dsimp only; omega)⟩ rfl (Nat.le_of_ble_eq_true rfl) f0w dX5_say_58) hS (fun q z w => absurd w (Nat.not_le.mpr z)) hn (fun r_13 H locs hR hz hk hS => ?_)
        have fo := fo.kept (hk _ fo.lt (Nat.not_le.mpr fo.lt))
        have fj := fj.kept (hk _ fj.lt (Nat.not_le.mpr fj.lt))
        have fk := fk.new hk
        have fe := fe.kept (hk _ fe.lt (Nat.not_le.mpr fe.lt))
        have fr := fr.kept (hk _ fr.lt (Nat.not_le.mpr fr.lt))
        have f0w := f0w.kept (hk _ f0w.lt (Nat.not_le.mpr f0w.lt))
        have f10 := f10.kept (hk _ f10.lt (Nat.not_le.mpr f10.lt))
        have f12 := f12.kept (hk _ f12.lt (Nat.not_le.mpr f12.lt))
        have e12 := e12.new hk
        rw [show r_13 = nI 1 from hR]
        refine r_iret (pc := 61) E hr hlk hS (by omega) (by omega) ?_ dX5_say_61
        exact ⟨_, _, _, ⟨_, _, _, _, _, fo, fj, fk, fe, fr, (Or.inr ⟨_, _, _, _, (hPs _ s_f12), f0w, f12, e12, (PI.one hsd), (by decide), (Or.inl rfl)⟩), ⟨hPm, hPa, hPl, hPe, hPr, hPk⟩, hFk, hFe, hFr, hpk, (by omega)⟩, Or.inr (Or.inr ⟨fun z9 => c_3 (er_1.trans z9), (by decide), rfl, rfl, rfl⟩), fun _ => rfl, fun z9 => absurd rfl z9⟩
      · have g_f0w := hPl
        have nW_f0w : ∀ k, k < 6 → rt k ≠ rl := fun k hk9 => clA.ne (fk k hk9).cla f0w.cl (hC.ao 7 0 rfl rfl)
        have g_fRw := hPb
        have nW_fRw : ∀ k, k < 6 → rt k ≠ br := fun k hk9 => clA.ne (fk k hk9).cla fRw.cla (hC.aa 0 4 rfl rfl (by dsimp only; decide))
        have hcbr := m_acB hmcr
        refine lv_aload_n (pc := 42) hx hb dX5_say_42 rfl (lv_at hl 0 rfl) ?_
        refine r_get (pc := 43) E hC fo 1 (v := .ref rl) rfl rfl (by decide) uX5 (List.mem_cons_of_mem _ kw_1210) (fun _ h => h) dX5_say_43 ?_
        refine lv_iload_n (pc := 46) hx hb dX5_say_46 rfl (lv_at hl 1 rfl) ?_
        have hZ0_ := hS.1
        have t_fo := fo.lt
        have t_fj := fj.lt
        have t_fk := fun k (hk9 : k < 6) => (fk k hk9).lt
        have t_fe := fe.lt
        have t_fr := fr.lt
        have t_f0w := f0w.lt
        have t_fRw := fRw.lt
        refine k_r (pc := 47) (k_S E hC hS hA hl.1 (c_J6_valueOf_2dffe l D tk N0 sa H.size x1) kw_1576 kw_1577 kw_22 kw_1578 (n := 1) (by decide +kernel) rfl ⟨⟨rfl, rfl⟩, ⟨Nat.le_of_ble_eq_true rfl, Nat.le_of_ble_eq_true rfl⟩, (by dsimp only; omega), (by dsimp only; omega)⟩ rfl (Nat.le_of_ble_eq_true rfl) trivial dX5_say_47) hS (fun q z w => absurd w (Nat.not_le.mpr z)) hn (fun r_14 H locs hR hz hk hS => ?_)
        have fo := fo.kept (hk _ fo.lt (Nat.not_le.mpr fo.lt))
        have fj := fj.kept (hk _ fj.lt (Nat.not_le.mpr fj.lt))
        have fk := fk.new hk
        have fe := fe.kept (hk _ fe.lt (Nat.not_le.mpr fe.lt))
        have fr := fr.kept (hk _ fr.lt (Nat.not_le.mpr fr.lt))
        have f0w := f0w.kept (hk _ f0w.lt (Nat.not_le.mpr f0w.lt))
        have fRw := fRw.kept (hk _ fRw.lt (Nat.not_le.mpr fRw.lt))
        have elw := elw.new hk
        have f15 := hR
        rcases Nat.lt_or_ge n9 capr with hkc | hkc9
        · refine k_i (pc := 50) (k_V E hC hS hA hl.1 (c1.recv hC f0w rfl) rfl (c_Jx4a65c_add_9ea2d l D tk N0 sa H.size rl br n9 capr r_14 2 mdr (.int x1) fnr vs (hA _ g_f0w) (hA _ g_fRw) (Or.inr rfl) hkc (by omega)) kw_1434 kw_1435 kw_1436 kw_8 kw_1437 (n := 1) (by decide +kernel) rfl ⟨⟨rfl, rfl⟩, ⟨Nat.le_of_ble_eq_true rfl, Nat.le_of_ble_eq_true rfl⟩, (by dsimp only; omega), (by dsimp only; omega)⟩ rfl (Nat.le_of_ble_eq_true rfl) ⟨f0w, fRw, elw, f15⟩ dX5_say_50) hS (inA2.to g_f0w g_fRw) hn (fun r_16 H locs hR hz hk hS => ?_)
          have fo := fo.kept (hk _ fo.lt (inA2.not (clA.ne fo.cl f0w.cl (hC.oo 13 7 rfl rfl (by decide))) (clA.ne fo.cl fRw.cla (hC.oa 13 4 rfl rfl)) fo.lt))
          have fj := fj.kept (hk _ fj.lt (inA2.not (clA.ne fj.cla f0w.cl (hC.ao 7 3 rfl rfl)) (clA.ne fj.cla fRw.cla (hC.aa 3 4 rfl rfl (by dsimp only; decide))) fj.lt))
          have fk := fk.kept (fun k hk9 => hk _ (fk k hk9).lt (inA2.not (nW_f0w k hk9) (nW_fRw k hk9) (fk k hk9).lt))
          have fe := fe.kept (hk _ fe.lt (inA2.not (clA.ne fe.cla f0w.cl (hC.ao 7 0 rfl rfl)) (clA.ne fe.cla fRw.cla (hC.aa 0 4 rfl rfl (by dsimp only; decide))) fe.lt))
          have fr := fr.kept (hk _ fr.lt (inA2.not (clA.ne fr.cla f0w.cl (hC.ao 7 0 rfl rfl)) (clA.ne fr.cla fRw.cla (hC.aa 0 4 rfl rfl (by dsimp only; decide))) fr.lt))
          have f15 := f15.kept (hk _ f15.lt (inA2.not (clA.ne f15.cl f0w.cl (hC.oo 2 7 rfl rfl (by decide))) (clA.ne f15.cl fRw.cla (hC.oa 2 4 rfl rfl)) f15.lt))
          obtain ⟨hr9, f0w, fRw, elw⟩ := hR
          rw [hr9]
          refine lv_pop (pc := 53) hx hb dX5_say_53 rfl ?_
          refine lv_aload_n (pc := 54) hx hb dX5_say_54 rfl (lv_at hl 0 rfl) ?_
          refine r_get (pc := 55) E hC fo 1 (v := .ref rl) rfl rfl (by decide) uX5 (List.mem_cons_of_mem _ kw_1210) (fun _ h => h) dX5_say_55 ?_
          refine k_i (pc := 58) (k_V E hC hS hA hl.1 (c1.recv hC f0w rfl) rfl (c_Jx4a65c_size_8abf5 l D tk N0 sa H.size rl br (n9 + 1) (mdr + 1)) kw_1546 kw_1547 kw_1548 kw_8 kw_1549 (n := 0) (by decide +kernel) rfl ⟨⟨rfl, rfl⟩, ⟨Nat.le_of_ble_eq_true rfl, Nat.le_of_ble_eq_true rfl⟩, (by dsimp only; omega), (by dsimp only; omega)⟩ rfl (Nat.le_of_ble_eq_true rfl) f0w dX5_say_58) hS (fun q z w => absurd w (Nat.not_le.mpr z)) hn (fun r_17 H locs hR hz hk hS => ?_)
          have fo := fo.kept (hk _ fo.lt (Nat.not_le.mpr fo.lt))
          have fj := fj.kept (hk _ fj.lt (Nat.not_le.mpr fj.lt))
          have fk := fk.new hk
          have fe := fe.kept (hk _ fe.lt (Nat.not_le.mpr fe.lt))
          have fr := fr.kept (hk _ fr.lt (Nat.not_le.mpr fr.lt))
          have f0w := f0w.kept (hk _ f0w.lt (Nat.not_le.mpr f0w.lt))
          have fRw := fRw.kept (hk _ fRw.lt (Nat.not_le.mpr fRw.lt))
          have f15 := f15.kept (hk _ f15.lt (Nat.not_le.mpr f15.lt))
          have elw := elw.new hk
          rw [show r_17 = nI (n9 + 1) from hR]
          refine r_iret (pc := 61) E hr hlk hS (by omega) (by omega) ?_ dX5_say_61
          exact ⟨_, _, _, ⟨_, _, _, _, _, fo, fj, fk, fe, fr, (Or.inr ⟨_, _, _, _, hPb, f0w, fRw, elw, (hPI.add hsd), (by omega), hmcr⟩), ⟨hPm, hPa, hPl, hPe, hPr, hPk⟩, hFk, hFe, hFr, hpk, (by omega)⟩, Or.inr (Or.inr ⟨fun z9 => c_3 (er_1.trans z9), (fun z9 => c_6 (by rw [z9]; rfl)), rfl, rfl, rfl⟩), fun _ => rfl, fun z9 => absurd rfl z9⟩
        · have hkc : capr = n9 := by omega
          have fRw := fRw.ofcap hkc
          have hgr := m_grow (c9 := n9) (by rw [← hkc]; exact hmcr) (by omega)
          have hgb := m_acB hgr.1
          have hZ0_ := hS.1
          have t_fo := fo.lt
          have t_fj := fj.lt
          have t_fk := fun k (hk9 : k < 6) => (fk k hk9).lt
          have t_fe := fe.lt
          have t_fr := fr.lt
          have t_f0w := f0w.lt
          have t_fRw := fRw.lt
          have t_f15 := f15.lt
          refine k_i (pc := 50) (k_V E hC hS hA hl.1 (c1.recv hC f0w rfl) rfl (c_Jx4a65c_add_9ea2d_G l D tk N0 sa H.size rl br n9 r_14 2 mdr (.int x1) fnr vs (hA _ g_f0w) (Or.inr rfl) (by omega) (by omega)) kw_1434 kw_1435 kw_1436 kw_8 kw_1437 (n := 1) (by decide +kernel) rfl ⟨⟨rfl, rfl⟩, ⟨Nat.le_of_ble_eq_true rfl, Nat.le_of_ble_eq_true rfl⟩, (by dsimp only; omega), (by dsimp only; omega)⟩ rfl (Nat.le_of_ble_eq_true rfl) ⟨f0w, fRw, elw, f15⟩ dX5_say_50) hS (inA1.to g_f0w) hn (fun r_18 H locs hR hz hk hS => ?_)
          have fo := fo.kept (hk _ fo.lt (inA1.not (clA.ne fo.cl f0w.cl (hC.oo 13 7 rfl rfl (by decide))) fo.lt))
          have fj := fj.kept (hk _ fj.lt (inA1.not (clA.ne fj.cla f0w.cl (hC.ao 7 3 rfl rfl)) fj.lt))
          have fk := fk.kept (fun k hk9 => hk _ (fk k hk9).lt (inA1.not (nW_f0w k hk9) (fk k hk9).lt))
          have fe := fe.kept (hk _ fe.lt (inA1.not (clA.ne fe.cla f0w.cl (hC.ao 7 0 rfl rfl)) fe.lt))
          have fr := fr.kept (hk _ fr.lt (inA1.not (clA.ne fr.cla f0w.cl (hC.ao 7 0 rfl rfl)) fr.lt))
          have fRw := fRw.kept (hk _ fRw.lt (inA1.not (clA.ne fRw.cla f0w.cl (hC.ao 7 4 rfl rfl)) fRw.lt))
          have f15 := f15.kept (hk _ f15.lt (inA1.not (clA.ne f15.cl f0w.cl (hC.oo 2 7 rfl rfl (by decide))) f15.lt))
          obtain ⟨hr9, q19, f_19, z9_, f0w, f19, elw⟩ := hR
          have s_f19 : s.heap.size ≤ q19 := Nat.le_trans hZ0_ z9_
          have g_f19 := hn _ s_f19
          have l_fo_f19 : mo < q19 := Nat.lt_of_lt_of_le t_fo z9_
          have l_fj_f19 : ra < q19 := Nat.lt_of_lt_of_le t_fj z9_
          have nW_f19 : ∀ k, k < 6 → rt k ≠ q19 := fun k hk9 => Nat.ne_of_lt (Nat.lt_of_lt_of_le (t_fk k hk9) z9_)
          have l_fe_f19 : ex < q19 := Nat.lt_of_lt_of_le t_fe z9_
          have l_fr_f19 : ro < q19 := Nat.lt_of_lt_of_le t_fr z9_
          have l_f0w_f19 : rl < q19 := Nat.lt_of_lt_of_le t_f0w z9_
          have l_fRw_f19 : br < q19 := Nat.lt_of_lt_of_le t_fRw z9_
          have l_f15_f19 : r_14 < q19 := Nat.lt_of_lt_of_le t_f15 z9_
          rw [hr9]
          refine lv_pop (pc := 53) hx hb dX5_say_53 rfl ?_
          refine lv_aload_n (pc := 54) hx hb dX5_say_54 rfl (lv_at hl 0 rfl) ?_
          refine r_get (pc := 55) E hC fo 1 (v := .ref rl) rfl rfl (by decide) uX5 (List.mem_cons_of_mem _ kw_1210) (fun _ h => h) dX5_say_55 ?_
          refine k_i (pc := 58) (k_V E hC hS hA hl.1 (c1.recv hC f0w rfl) rfl (c_Jx4a65c_size_8abf5 l D tk N0 sa H.size rl q19 (n9 + 1) (mdr + 1)) kw_1546 kw_1547 kw_1548 kw_8 kw_1549 (n := 0) (by decide +kernel) rfl ⟨⟨rfl, rfl⟩, ⟨Nat.le_of_ble_eq_true rfl, Nat.le_of_ble_eq_true rfl⟩, (by dsimp only; omega), (by dsimp only; omega)⟩ rfl (Nat.le_of_ble_eq_true rfl) f0w dX5_say_58) hS (fun q z w => absurd w (Nat.not_le.mpr z)) hn (fun r_20 H locs hR hz hk hS => ?_)
          have fo := fo.kept (hk _ fo.lt (Nat.not_le.mpr fo.lt))
          have fj := fj.kept (hk _ fj.lt (Nat.not_le.mpr fj.lt))
          have fk := fk.new hk
          have fe := fe.kept (hk _ fe.lt (Nat.not_le.mpr fe.lt))
          have fr := fr.kept (hk _ fr.lt (Nat.not_le.mpr fr.lt))
          have f0w := f0w.kept (hk _ f0w.lt (Nat.not_le.mpr f0w.lt))
          have fRw := fRw.kept (hk _ fRw.lt (Nat.not_le.mpr fRw.lt))
          have f15 := f15.kept (hk _ f15.lt (Nat.not_le.mpr f15.lt))
          have f19 := f19.kept (hk _ f19.lt (Nat.not_le.mpr f19.lt))
          have elw := elw.new hk
          rw [show r_20 = nI (n9 + 1) from hR]
          refine r_iret (pc := 61) E hr hlk hS (by omega) (by omega) ?_ dX5_say_61
          exact ⟨_, _, _, ⟨_, _, _, _, _, fo, fj, fk, fe, fr, (Or.inr ⟨_, _, _, _, (hPs _ s_f19), f0w, f19, elw, (hPI.add hsd), (by omega), hgr.1⟩), ⟨hPm, hPa, hPl, hPe, hPr, hPk⟩, hFk, hFe, hFr, hpk, (by omega)⟩, Or.inr (Or.inr ⟨fun z9 => c_3 (er_1.trans z9), (fun z9 => c_6 (by rw [z9]; rfl)), rfl, rfl, rfl⟩), fun _ => rfl, fun z9 => absurd rfl z9⟩
    · refine lv_iconst (pc := 29) (v := 1) hx hb dX5_say_29 (by decide) ?_
      refine lv_goto (pc := 30) (tgt := 34) hx hb dX5_say_30 (by decide) ?_
      have hZ0_ := hS.1
      have t_fo := fo.lt
      have t_fj := fj.lt
      have t_fk := fun k (hk9 : k < 6) => (fk k hk9).lt
      have t_fe := fe.lt
      have t_fr := fr.lt
      have t_fz4 := fz4.lt
      refine k_i (pc := 34) (k_V E hC hS hA hl.1 (c1.recv hC fo rfl) rfl (c_X5_fails l D tk N0 sa H.size P hPN (fun q h9 => hPs q (Nat.le_trans hS.1 h9)) mo n9 kn th tt bb eT eB oT oB pk ca rf vs 0 1 ) kw_1251 kw_1253 kp_20 kw_5 kw_1254 (n := 2) (by decide +kernel) rfl ⟨⟨rfl, rfl⟩, ⟨Nat.le_of_ble_eq_true rfl, Nat.le_of_ble_eq_true rfl⟩, (by dsimp only; omega), (by dsimp only; omega)⟩ rfl (Nat.le_of_ble_eq_true rfl) ⟨_, _, _, _, _, fo, fj, fk, fe, fr, fw, ⟨hPm, hPa, hPl, hPe, hPr, hPk⟩, hFk, hFe, hFr, hpk, hn9⟩ dX5_say_34) hS (fun q _ h => h) hn (fun r_21 H locs hR hz hk hS => ?_)
      obtain ⟨er_21, hM⟩ := hR
      obtain ⟨ra, rl, ex, ro, rt, fo, fj, fk, fe, fr, fw, ⟨hPm, hPa, hPl, hPe, hPr, hPk⟩, hFk, hFe, hFr, hpk, hn9⟩ := hM
      have g_fo := hPm
      have g_fj := hPa
      have ef_r_21 : r_21 = 1 := er_21.trans (m_fl1 _)
      rw [ef_r_21]
      refine lv_if_eq (pc := 37) (tgt := 42) hx hb dX5_say_37 (by decide) (fun c_22 => ?_) (fun c_22 => ?_)
      · exact absurd c_22 (by decide)
      refine lv_iconst (pc := 40) (v := 0) hx hb dX5_say_40 (by decide) ?_
      refine r_iret (pc := 41) E hr hlk hS (by omega) (by omega) ?_ dX5_say_41
      exact ⟨_, _, _, ⟨_, _, _, _, _, fo, fj, fk, fe, fr, fw, ⟨hPm, hPa, hPl, hPe, hPr, hPk⟩, hFk, hFe, hFr, hpk, hn9⟩, Or.inr (Or.inl ⟨fun z9 => c_3 (er_1.trans z9), (nI_eq (by omega) (by decide)).mp c_6, rfl, rfl, rfl⟩), fun z9 => absurd z9 (by decide), fun _ => rfl⟩
  · refine lv_iconst (pc := 12) (v := 1) hx hb dX5_say_12 (by decide) ?_
    refine lv_goto (pc := 13) (tgt := 17) hx hb dX5_say_13 (by decide) ?_
    refine lv_aload_n (pc := 17) hx hb dX5_say_17 rfl (lv_at hl 0 rfl) ?_
    refine r_get (pc := 18) E hC fo 1 (v := .ref rl) rfl rfl (by decide) uX5 (List.mem_cons_of_mem _ kw_1210) (fun _ h => h) dX5_say_18 ?_
    obtain ⟨md_23, b_23, fz23⟩ := fw.obj
    refine k_i (pc := 21) (k_V E hC hS hA hl.1 (c1.recv hC fz23 rfl) rfl (c_Jx4a65c_size_8abf5 l D tk N0 sa H.size rl b_23 n9 md_23) kw_1546 kw_1547 kw_1548 kw_8 kw_1549 (n := 0) (by decide +kernel) rfl ⟨⟨rfl, rfl⟩, ⟨Nat.le_of_ble_eq_true rfl, Nat.le_of_ble_eq_true rfl⟩, (by dsimp only; omega), (by dsimp only; omega)⟩ rfl (Nat.le_of_ble_eq_true rfl) fz23 dX5_say_21) hS (fun q z w => absurd w (Nat.not_le.mpr z)) hn (fun r_24 H locs hR hz hk hS => ?_)
    have fw := fw.new hk
    have fo := fo.kept (hk _ fo.lt (Nat.not_le.mpr fo.lt))
    have fj := fj.kept (hk _ fj.lt (Nat.not_le.mpr fj.lt))
    have fk := fk.new hk
    have fe := fe.kept (hk _ fe.lt (Nat.not_le.mpr fe.lt))
    have fr := fr.kept (hk _ fr.lt (Nat.not_le.mpr fr.lt))
    have fz23 := fz23.kept (hk _ fz23.lt (Nat.not_le.mpr fz23.lt))
    rw [show r_24 = nI n9 from hR]
    refine lv_bipush (pc := 24) (v := 16) hx hb dX5_say_24 (by decide) ?_
    refine lv_icmp_ne (pc := 26) (tgt := 33) hx hb dX5_say_26 (by decide) (fun c_25 => ?_) (fun c_25 => ?_)
    · refine lv_iconst (pc := 33) (v := 0) hx hb dX5_say_33 (by decide) ?_
      have hZ0_ := hS.1
      have t_fo := fo.lt
      have t_fj := fj.lt
      have t_fk := fun k (hk9 : k < 6) => (fk k hk9).lt
      have t_fe := fe.lt
      have t_fr := fr.lt
      have t_fz23 := fz23.lt
      refine k_i (pc := 34) (k_V E hC hS hA hl.1 (c1.recv hC fo rfl) rfl (c_X5_fails l D tk N0 sa H.size P hPN (fun q h9 => hPs q (Nat.le_trans hS.1 h9)) mo n9 kn th tt bb eT eB oT oB pk ca rf vs 1 0 ) kw_1251 kw_1253 kp_20 kw_5 kw_1254 (n := 2) (by decide +kernel) rfl ⟨⟨rfl, rfl⟩, ⟨Nat.le_of_ble_eq_true rfl, Nat.le_of_ble_eq_true rfl⟩, (by dsimp only; omega), (by dsimp only; omega)⟩ rfl (Nat.le_of_ble_eq_true rfl) ⟨_, _, _, _, _, fo, fj, fk, fe, fr, fw, ⟨hPm, hPa, hPl, hPe, hPr, hPk⟩, hFk, hFe, hFr, hpk, hn9⟩ dX5_say_34) hS (fun q _ h => h) hn (fun r_26 H locs hR hz hk hS => ?_)
      obtain ⟨er_26, hM⟩ := hR
      obtain ⟨ra, rl, ex, ro, rt, fo, fj, fk, fe, fr, fw, ⟨hPm, hPa, hPl, hPe, hPr, hPk⟩, hFk, hFe, hFr, hpk, hn9⟩ := hM
      have g_fo := hPm
      have g_fj := hPa
      have ef_r_26 : r_26 = 1 := er_26.trans (if_neg (by decide))
      rw [ef_r_26]
      refine lv_if_eq (pc := 37) (tgt := 42) hx hb dX5_say_37 (by decide) (fun c_27 => ?_) (fun c_27 => ?_)
      · exact absurd c_27 (by decide)
      refine lv_iconst (pc := 40) (v := 0) hx hb dX5_say_40 (by decide) ?_
      refine r_iret (pc := 41) E hr hlk hS (by omega) (by omega) ?_ dX5_say_41
      exact ⟨_, _, _, ⟨_, _, _, _, _, fo, fj, fk, fe, fr, fw, ⟨hPm, hPa, hPl, hPe, hPr, hPk⟩, hFk, hFe, hFr, hpk, hn9⟩, Or.inl ⟨er_1.symm.trans c_3, rfl, rfl, rfl⟩, fun z9 => absurd z9 (by decide), fun _ => rfl⟩
    · refine lv_iconst (pc := 29) (v := 1) hx hb dX5_say_29 (by decide) ?_
      refine lv_goto (pc := 30) (tgt := 34) hx hb dX5_say_30 (by decide) ?_
      have hZ0_ := hS.1
      have t_fo := fo.lt
      have t_fj := fj.lt
      have t_fk := fun k (hk9 : k < 6) => (fk k hk9).lt
      have t_fe := fe.lt
      have t_fr := fr.lt
      have t_fz23 := fz23.lt
      refine k_i (pc := 34) (k_V E hC hS hA hl.1 (c1.recv hC fo rfl) rfl (c_X5_fails l D tk N0 sa H.size P hPN (fun q h9 => hPs q (Nat.le_trans hS.1 h9)) mo n9 kn th tt bb eT eB oT oB pk ca rf vs 1 1 ) kw_1251 kw_1253 kp_20 kw_5 kw_1254 (n := 2) (by decide +kernel) rfl ⟨⟨rfl, rfl⟩, ⟨Nat.le_of_ble_eq_true rfl, Nat.le_of_ble_eq_true rfl⟩, (by dsimp only; omega), (by dsimp only; omega)⟩ rfl (Nat.le_of_ble_eq_true rfl) ⟨_, _, _, _, _, fo, fj, fk, fe, fr, fw, ⟨hPm, hPa, hPl, hPe, hPr, hPk⟩, hFk, hFe, hFr, hpk, hn9⟩ dX5_say_34) hS (fun q _ h => h) hn (fun r_28 H locs hR hz hk hS => ?_)
      obtain ⟨er_28, hM⟩ := hR
      obtain ⟨ra, rl, ex, ro, rt, fo, fj, fk, fe, fr, fw, ⟨hPm, hPa, hPl, hPe, hPr, hPk⟩, hFk, hFe, hFr, hpk, hn9⟩ := hM
      have g_fo := hPm
      have g_fj := hPa
      have ef_r_28 : r_28 = 1 := er_28.trans (if_neg (by decide))
      rw [ef_r_28]
      refine lv_if_eq (pc := 37) (tgt := 42) hx hb dX5_say_37 (by decide) (fun c_29 => ?_) (fun c_29 => ?_)
      · exact absurd c_29 (by decide)
      refine lv_iconst (pc := 40) (v := 0) hx hb dX5_say_40 (by decide) ?_
      refine r_iret (pc := 41) E hr hlk hS (by omega) (by omega) ?_ dX5_say_41
      exact ⟨_, _, _, ⟨_, _, _, _, _, fo, fj, fk, fe, fr, fw, ⟨hPm, hPa, hPl, hPe, hPr, hPk⟩, hFk, hFe, hFr, hpk, hn9⟩, Or.inl ⟨er_1.symm.trans c_3, rfl, rfl, rfl⟩, fun z9 => absurd z9 (by decide), fun _ => rfl⟩
