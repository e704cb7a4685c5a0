set_option maxHeartbeats 4000000 in
set_option maxRecDepth 100000 in
/-- BestratiosModel.fold(I)I -/
theorem c_X5_fold (l : Launch) (D : va_G) (tk : Nat → ClassId) (N0 : Nat) (sa : Nat → Nat)  (sz : Nat) (P : Nat → Prop) (hPN : ∀ q, P q → N0 ≤ q) (hPs : ∀ q, sz ≤ q → P q) (mo n9 : Nat) (kn th : Int32) (x1 : Int32) : Met l yX5_fold (wsy yX5_fold cX5_fold 4 (some .int)) ({ frames := 8, cells := 24, slots := 162, locals := 180 } : Room) (cP D tk N0 sa [.ref mo, .int x1] sz (fun H => MI D tk sa P mo kn n9 th H)) (kQi (fun r H => ∃ th1, MI D tk sa P mo kn n9 th1 H) (P)) (24) (162) (P) := by
  refine mStart RX5 rfl (by decide +kernel) (Nat.le_of_ble_eq_true rfl) ?_
  intro p e s m args below meth c E hr hlk hnm hsz hC hF ls hl
  subst hsz
  obtain ⟨hx, hb, -⟩ := id E
  have hA : ∀ q, (P) q → N0 ≤ q := hPN
  have hn : ∀ q, s.heap.size ≤ q → (P) q := hPs
  have hS : va_S (P) s.heap s.heap [] := va_S.rf
  have hl : lv_has ls 4 [(0, .ref mo), (1, .int x1)] := hl
  obtain ⟨Q, hQ⟩ : ∃ Q, Q = MQ below (kQi (fun r H => ∃ th1, MI D tk sa P mo kn n9 th1 H) (P)) args s (24) (162) (P) := ⟨_, rfl⟩
  rw [← hQ]
  have hM : MI D tk sa P mo kn n9 th s.heap := hF
  obtain ⟨ra, rl, ex, ro, pk, ca, rf, rt, tt, bb, eT, eB, oT, oB, fo, fj, fk, fe, fr, fw, ⟨hPm, hPa, hPl, hPe, hPr, hPk⟩, hFk, hFe, hFr, hpk, hn9⟩ := hM
  have g_fo := hPm
  have g_fj := hPa
  refine lv_aload_n (pc := 0) hx hb dX5_fold_0 rfl (lv_at hl 0 rfl) ?_
  refine lv_iload_n (pc := 1) hx hb dX5_fold_1 rfl (lv_at hl 1 rfl) ?_
  refine k_i (pc := 2) (k_S E hC hS hA hl.1 (c_X5_isNo l D tk N0 sa s.heap.size x1 ) kw_1245 kw_1246 kw_5 kw_1247 (n := 1) (by decide +kernel) rfl ⟨⟨rfl, rfl⟩, ⟨Nat.le_of_ble_eq_true rfl, Nat.le_of_ble_eq_true rfl⟩, (by dsimp only; omega), (by dsimp only; omega)⟩ rfl (Nat.le_of_ble_eq_true rfl) trivial dX5_fold_2) hS (fun q z w => absurd w (Nat.not_le.mpr z)) hn (fun r_1 H locs hR hz hk hS => ?_)
  have er_1 := hR
  have fw := fw.new hk
  have fo := fo.kept (hk _ fo.lt (Nat.not_le.mpr fo.lt))
  have fj := fj.kept (hk _ fj.lt (Nat.not_le.mpr fj.lt))
  have fk := fk.new hk
  have fe := fe.kept (hk _ fe.lt (Nat.not_le.mpr fe.lt))
  have fr := fr.kept (hk _ fr.lt (Nat.not_le.mpr fr.lt))
  refine lv_iconst (pc := 5) (v := 0) hx hb dX5_fold_5 (by decide) ?_
  have hZ0_ := hS.1
  have t_fo := fo.lt
  have t_fj := fj.lt
  have t_fk := fun k (hk9 : k < 6) => (fk k hk9).lt
  have t_fe := fe.lt
  have t_fr := fr.lt
  refine k_i (pc := 6) (k_V E hC hS hA hl.1 (c1.recv hC fo rfl) rfl (c_X5_fails l D tk N0 sa H.size P hPN (fun q h9 => hPs q (Nat.le_trans hS.1 h9)) mo n9 kn th r_1 0 ) kw_1251 kw_1253 kp_20 kw_5 kw_1254 (n := 2) (by decide +kernel) rfl ⟨⟨rfl, rfl⟩, ⟨Nat.le_of_ble_eq_true rfl, Nat.le_of_ble_eq_true rfl⟩, (by dsimp only; omega), (by dsimp only; omega)⟩ rfl (Nat.le_of_ble_eq_true rfl) ⟨_, _, _, _, _, _, _, _, _, _, _, _, _, _, fo, fj, fk, fe, fr, fw, ⟨hPm, hPa, hPl, hPe, hPr, hPk⟩, hFk, hFe, hFr, hpk, hn9⟩ dX5_fold_6) hS (fun q _ h => h) hn (fun r_3 H locs hR hz hk hS => ?_)
  obtain ⟨er_3, hM⟩ := hR
  obtain ⟨ra, rl, ex, ro, pk, ca, rf, rt, tt, bb, eT, eB, oT, oB, fo, fj, fk, fe, fr, fw, ⟨hPm, hPa, hPl, hPe, hPr, hPk⟩, hFk, hFe, hFr, hpk, hn9⟩ := hM
  have g_fo := hPm
  have g_fj := hPa
  refine lv_if_eq (pc := 9) (tgt := 14) hx hb dX5_fold_9 (by decide) (fun c_4 => ?_) (fun c_4 => ?_)
  · rcases Nat.eq_zero_or_pos n9 with h0r | h0r
    · subst h0r
      obtain ⟨mdr, br, f0w⟩ := fw.obj
      refine lv_aload_n (pc := 14) hx hb dX5_fold_14 rfl (lv_at hl 0 rfl) ?_
      refine r_get (pc := 15) E hC fo 1 (v := .ref rl) rfl rfl (by decide) uX5 (List.mem_cons_of_mem _ kw_1210) (fun _ h => h) dX5_fold_15 ?_
      obtain ⟨md_5, b_5, fz5⟩ := fw.obj
      refine k_i (pc := 18) (k_V E hC hS hA hl.1 (c1.recv hC fz5 rfl) rfl (c_Jx4a65c_size_8abf5 l D tk N0 sa H.size rl b_5 0 md_5) kw_1546 kw_1547 kw_1548 kw_8 kw_1549 (n := 0) (by decide +kernel) rfl ⟨⟨rfl, rfl⟩, ⟨Nat.le_of_ble_eq_true rfl, Nat.le_of_ble_eq_true rfl⟩, (by dsimp only; omega), (by dsimp only; omega)⟩ rfl (Nat.le_of_ble_eq_true rfl) (by exact fz5) dX5_fold_18) hS (fun q z w => absurd w (Nat.not_le.mpr z)) hn (fun r_6 H locs hR hz hk hS => ?_)
      have fw := fw.new hk
      have fo := fo.kept (hk _ fo.lt (Nat.not_le.mpr fo.lt))
      have fj := fj.kept (hk _ fj.lt (Nat.not_le.mpr fj.lt))
      have fk := fk.new hk
      have fe := fe.kept (hk _ fe.lt (Nat.not_le.mpr fe.lt))
      have fr := fr.kept (hk _ fr.lt (Nat.not_le.mpr fr.lt))
      have f0w := f0w.kept (hk _ f0w.lt (Nat.not_le.mpr f0w.lt))
      have fz5 := fz5.kept (hk _ fz5.lt (Nat.not_le.mpr fz5.lt))
      rw [show r_6 = 0 from hR.trans nI_0]
      refine lv_if_le (pc := 21) (tgt := 28) hx hb dX5_fold_21 (by decide) (fun c_7 => ?_) (fun c_7 => ?_)
      rotate_left
      · exact absurd (by decide) c_7
      refine lv_iconst (pc := 28) (v := 0) hx hb dX5_fold_28 (by decide) ?_
      refine lv_istore_n (pc := 29) (lv' := [(2, .int 0), (0, .ref mo), (1, .int x1)]) hx hb dX5_fold_29 rfl hl (by decide) rfl (fun ls hl => ?_)
      refine lv_iconst (pc := 30) (v := 1) hx hb dX5_fold_30 (by decide) ?_
      refine lv_istore_n (pc := 31) (lv' := [(3, .int 1), (2, .int 0), (0, .ref mo), (1, .int x1)]) hx hb dX5_fold_31 rfl hl (by decide) rfl (fun ls hl => ?_)
      refine lv_iload_n (pc := 32) hx hb dX5_fold_32 rfl (lv_at hl 0 rfl) ?_
      refine lv_aload_n (pc := 33) hx hb dX5_fold_33 rfl (lv_at hl 2 rfl) ?_
      refine r_get (pc := 34) E hC fo 1 (v := .ref rl) rfl rfl (by decide) uX5 (List.mem_cons_of_mem _ kw_1210) (fun _ h => h) dX5_fold_34 ?_
      obtain ⟨md_8, b_8, fz8⟩ := fw.obj
      refine k_i (pc := 37) (k_V E hC hS hA hl.1 (c1.recv hC fz8 rfl) rfl (c_Jx4a65c_size_8abf5 l D tk N0 sa H.size rl b_8 0 md_8) kw_1546 kw_1547 kw_1548 kw_8 kw_1549 (n := 0) (by decide +kernel) rfl ⟨⟨rfl, rfl⟩, ⟨Nat.le_of_ble_eq_true rfl, Nat.le_of_ble_eq_true rfl⟩, (by dsimp only; omega), (by dsimp only; omega)⟩ rfl (Nat.le_of_ble_eq_true rfl) (by exact fz8) dX5_fold_37) hS (fun q z w => absurd w (Nat.not_le.mpr z)) hn (fun r_9 H locs hR hz hk hS => ?_)
      have fw := fw.new hk
      have fo := fo.kept (hk _ fo.lt (Nat.not_le.mpr fo.lt))
      have fj := fj.kept (hk _ fj.lt (Nat.not_le.mpr fj.lt))
      have fk := fk.new hk
      have fe := fe.kept (hk _ fe.lt (Nat.not_le.mpr fe.lt))
      have fr := fr.kept (hk _ fr.lt (Nat.not_le.mpr fr.lt))
      have f0w := f0w.kept (hk _ f0w.lt (Nat.not_le.mpr f0w.lt))
      have fz5 := fz5.kept (hk _ fz5.lt (Nat.not_le.mpr fz5.lt))
      have fz8 := fz8.kept (hk _ fz8.lt (Nat.not_le.mpr fz8.lt))
      rw [show r_9 = 0 from hR.trans nI_0]
      refine lv_icmp_ge (pc := 40) (tgt := 75) hx hb dX5_fold_40 (by decide) (fun c_10 => ?_) (fun c_10 => ?_)
      rotate_left
      · exact absurd (by decide) c_10
      refine lv_aload_n (pc := 75) hx hb dX5_fold_75 rfl (lv_at hl 2 rfl) ?_
      refine lv_iload_n (pc := 76) hx hb dX5_fold_76 rfl (lv_at hl 3 rfl) ?_
      refine lv_iload_n (pc := 77) hx hb dX5_fold_77 rfl (lv_at hl 1 rfl) ?_
      refine lv_if_eq (pc := 78) (tgt := 98) hx hb dX5_fold_78 (by decide) (fun c_11 => ?_) (fun c_11 => ?_)
      rotate_left
      · exact absurd (by decide) c_11
      refine lv_null (pc := 98) hx hb dX5_fold_98 ?_
      have hZ0_ := hS.1
      have t_fo := fo.lt
      have t_fj := fj.lt
      have t_fk := fun k (hk9 : k < 6) => (fk k hk9).lt
      have t_fe := fe.lt
      have t_fr := fr.lt
      have t_f0w := f0w.lt
      have t_fz5 := fz5.lt
      have t_fz8 := fz8.lt
      obtain ⟨kx_12, hx_12, hk_12⟩ := m_no (er_1.symm.trans (m_fl0 (er_3.symm.trans c_4)).1)
      refine k_i (pc := 99) (k_V E hC hS hA hl.1 (c1.recv hC fo rfl) rfl (c_X5_become_N l D tk N0 sa H.size P hPN (fun q h9 => hPs q (Nat.le_trans hS.1 h9)) mo 0 kn ((m_th r_1 0)) x1 kx_12 hx_12 hk_12 ) kw_1255 kw_1257 kp_21 kw_5 kw_1258 (n := 2) (by decide +kernel) rfl ⟨⟨rfl, rfl⟩, ⟨Nat.le_of_ble_eq_true rfl, Nat.le_of_ble_eq_true rfl⟩, (by dsimp only; omega), (by dsimp only; omega)⟩ rfl (Nat.le_of_ble_eq_true rfl) ⟨_, _, _, _, _, _, _, _, _, _, _, _, _, _, fo, fj, fk, fe, fr, fw, ⟨hPm, hPa, hPl, hPe, hPr, hPk⟩, hFk, hFe, hFr, hpk, hn9⟩ dX5_fold_99) hS (fun q _ h => h) hn (fun r_13 H locs hR hz hk hS => ?_)
      obtain ⟨th, hM⟩ := hR
      obtain ⟨ra, rl, ex, ro, pk, ca, rf, rt, tt, bb, eT, eB, oT, oB, fo, fj, fk, fe, fr, fw, ⟨hPm, hPa, hPl, hPe, hPr, hPk⟩, hFk, hFe, hFr, hpk, hn9⟩ := hM
      have g_fo := hPm
      have g_fj := hPa
      try rw [hQ]
      refine r_iret (pc := 102) E hr hlk hS (by omega) (by omega) ?_ dX5_fold_102
      exact ⟨_, ⟨_, _, _, _, _, _, _, _, _, _, _, _, _, _, fo, fj, fk, fe, fr, fw, ⟨hPm, hPa, hPl, hPe, hPr, hPk⟩, hFk, hFe, hFr, hpk, hn9⟩⟩
    · rcases fw with ⟨h1r, -⟩ | ⟨mdr, br, capr, fnr, vsr, hPb, f0w, fRw, elw, hPI, hncr, hmcr⟩
      · exact absurd h1r (by omega)
      have g_f0w := hPl
      have nW_f0w : ∀ k, k < 6 → rt k ≠ rl := fun k hk9 => clA.ne (fk k hk9).cla f0w.cl (hC.ao 7 0 rfl rfl)
      have g_fRw := hPb
      have nW_fRw : ∀ k, k < 6 → rt k ≠ br := fun k hk9 => clA.ne (fk k hk9).cla fRw.cla (hC.aa 0 4 rfl rfl (by dsimp only; decide))
      have hcbr := m_acB hmcr
      refine lv_aload_n (pc := 14) hx hb dX5_fold_14 rfl (lv_at hl 0 rfl) ?_
      refine r_get (pc := 15) E hC fo 1 (v := .ref rl) rfl rfl (by decide) uX5 (List.mem_cons_of_mem _ kw_1210) (fun _ h => h) dX5_fold_15 ?_
      refine k_i (pc := 18) (k_V E hC hS hA hl.1 (c1.recv hC f0w rfl) rfl (c_Jx4a65c_size_8abf5 l D tk N0 sa H.size rl br n9 mdr) kw_1546 kw_1547 kw_1548 kw_8 kw_1549 (n := 0) (by decide +kernel) rfl ⟨⟨rfl, rfl⟩, ⟨Nat.le_of_ble_eq_true rfl, Nat.le_of_ble_eq_true rfl⟩, (by dsimp only; omega), (by dsimp only; omega)⟩ rfl (Nat.le_of_ble_eq_true rfl) f0w dX5_fold_18) hS (fun q z w => absurd w (Nat.not_le.mpr z)) hn (fun r_14 H locs hR hz hk hS => ?_)
      have fo := fo.kept (hk _ fo.lt (Nat.not_le.mpr fo.lt))
      have fj := fj.kept (hk _ fj.lt (Nat.not_le.mpr fj.lt))
      have fk := fk.new hk
      have fe := fe.kept (hk _ fe.lt (Nat.not_le.mpr fe.lt))
      have fr := fr.kept (hk _ fr.lt (Nat.not_le.mpr fr.lt))
      have f0w := f0w.kept (hk _ f0w.lt (Nat.not_le.mpr f0w.lt))
      have fRw := fRw.kept (hk _ fRw.lt (Nat.not_le.mpr fRw.lt))
      have elw := elw.new hk
      rw [show r_14 = nI n9 from hR]
      refine lv_if_le (pc := 21) (tgt := 28) hx hb dX5_fold_21 (by decide) (fun c_15 => ?_) (fun c_15 => ?_)
      · exact absurd (m_nle0 (by omega) c_15) (by omega)
      refine lv_iconst (pc := 24) (v := 1) hx hb dX5_fold_24 (by decide) ?_
      refine lv_goto (pc := 25) (tgt := 29) hx hb dX5_fold_25 (by decide) ?_
      refine lv_istore_n (pc := 29) (lv' := [(2, .int 1), (0, .ref mo), (1, .int x1)]) hx hb dX5_fold_29 rfl hl (by decide) rfl (fun ls hl => ?_)
      refine lv_iconst (pc := 30) (v := 1) hx hb dX5_fold_30 (by decide) ?_
      refine lv_istore_n (pc := 31) (lv' := [(3, .int 1), (2, .int 1), (0, .ref mo), (1, .int x1)]) hx hb dX5_fold_31 rfl hl (by decide) rfl (fun ls hl => ?_)
      have loop_32 : ∀ (n : Nat) (k : Nat)(u9 : Int32) (y9 : Int32), 17 - k < n → 1 ≤ k ∧ k ≤ n9 → y9 = nI k → m_isz vsr k u9 → ∀ (H : Heap) (locs : List Loc) (ls : Array Slot), va_S (P) s.heap H locs → c1 D mo (.inr (13, [.ref ra, .ref rl, .ref ex, .ref ro, .int (nI pk), .int ca, .int rf, .int kn, .int ((m_th r_1 0))])) H → c1 D ra (.inl (tk 3, 6, .inr (.inr (.inr (.inr (fun k => some (rt k))))))) H → MK D tk rt tt bb H → L2 D tk ex eT eB H → L2 D tk ro oT oB H → c1 D rl (.inr (7, [.int mdr, .ref br, .int (nI n9)])) H → c1 D br (.inl (tk 4, capr, .inr (.inr (.inr (.inr (fnr)))))) H → EL D 2 n9 fnr vsr H → lv_has ls 4 [(0, .ref mo), (1, .int x1), (2, .int u9), (3, .int y9)] → W p l e ({ frames := 8, cells := 24, slots := 162, locals := 180 } : Room) s m args below meth c H locs (0) (0) Q (F0 m 32 ls []) := by
        intro n
        induction n with
        | zero =>
          intro k u9 y9 hf9 hk9 hx9 hz9 H locs ls hS fo fj fk fe fr f0w fRw elw hl
          omega
        | succ n ih_32 =>
          intro k u9 y9 hf9 hk9 hx9 hz9 H locs ls hS fo fj fk fe fr f0w fRw elw hl
          refine lv_iload_n (pc := 32) hx hb dX5_fold_32 rfl (lv_at hl 3 rfl) ?_
          refine lv_aload_n (pc := 33) hx hb dX5_fold_33 rfl (lv_at hl 0 rfl) ?_
          refine r_get (pc := 34) E hC fo 1 (v := .ref rl) rfl rfl (by decide) uX5 (List.mem_cons_of_mem _ kw_1210) (fun _ h => h) dX5_fold_34 ?_
          refine k_i (pc := 37) (k_V E hC hS hA hl.1 (c1.recv hC f0w rfl) rfl (c_Jx4a65c_size_8abf5 l D tk N0 sa H.size rl br n9 mdr) kw_1546 kw_1547 kw_1548 kw_8 kw_1549 (n := 0) (by decide +kernel) rfl ⟨⟨rfl, rfl⟩, ⟨Nat.le_of_ble_eq_true rfl, Nat.le_of_ble_eq_true rfl⟩, (by dsimp only; omega), (by dsimp only; omega)⟩ rfl (Nat.le_of_ble_eq_true rfl) f0w dX5_fold_37) hS (fun q z w => absurd w (Nat.not_le.mpr z)) hn (fun r_16 H locs hR hz hk hS => ?_)
          have fo := fo.kept (hk _ fo.lt (Nat.not_le.mpr fo.lt))
          have fj := fj.kept (hk _ fj.lt (Nat.not_le.mpr fj.lt))
          have fk := fk.new hk
          have fe := fe.kept (hk _ fe.lt (Nat.not_le.mpr fe.lt))
          have fr := fr.kept (hk _ fr.lt (Nat.not_le.mpr fr.lt))
          have f0w := f0w.kept (hk _ f0w.lt (Nat.not_le.mpr f0w.lt))
          have fRw := fRw.kept (hk _ fRw.lt (Nat.not_le.mpr fRw.lt))
          have elw := elw.new hk
          rw [show r_16 = nI n9 from hR]
          refine lv_icmp_ge (pc := 40) (tgt := 75) hx hb dX5_fold_40 (by decide) (fun c_17 => ?_) (fun c_17 => ?_)
          · refine lv_aload_n (pc := 75) hx hb dX5_fold_75 rfl (lv_at hl 0 rfl) ?_
            refine lv_iload_n (pc := 76) hx hb dX5_fold_76 rfl (lv_at hl 1 rfl) ?_
            refine lv_iload_n (pc := 77) hx hb dX5_fold_77 rfl (lv_at hl 2 rfl) ?_
            refine lv_if_eq (pc := 78) (tgt := 98) hx hb dX5_fold_78 (by decide) (fun c_18 => ?_) (fun c_18 => ?_)
            · refine lv_null (pc := 98) hx hb dX5_fold_98 ?_
              have hZ0_ := hS.1
              have t_fo := fo.lt
              have t_fj := fj.lt
              have t_fk := fun k (hk9 : k < 6) => (fk k hk9).lt
              have t_fe := fe.lt
              have t_fr := fr.lt
              have t_f0w := f0w.lt
              have t_fRw := fRw.lt
              obtain ⟨kx_19, hx_19, hk_19⟩ := m_no (er_1.symm.trans (m_fl0 (er_3.symm.trans c_4)).1)
              refine k_i (pc := 99) (k_V E hC hS hA hl.1 (c1.recv hC fo rfl) rfl (c_X5_become_N l D tk N0 sa H.size P hPN (fun q h9 => hPs q (Nat.le_trans hS.1 h9)) mo n9 kn ((m_th r_1 0)) x1 kx_19 hx_19 hk_19 ) kw_1255 kw_1257 kp_21 kw_5 kw_1258 (n := 2) (by decide +kernel) rfl ⟨⟨rfl, rfl⟩, ⟨Nat.le_of_ble_eq_true rfl, Nat.le_of_ble_eq_true rfl⟩, (by dsimp only; omega), (by dsimp only; omega)⟩ rfl (Nat.le_of_ble_eq_true rfl) ⟨_, _, _, _, _, _, _, _, _, _, _, _, _, _, fo, fj, fk, fe, fr, (Or.inr ⟨_, _, _, _, _, hPb, f0w, fRw, elw, hPI, hncr, hmcr⟩), ⟨hPm, hPa, hPl, hPe, hPr, hPk⟩, hFk, hFe, hFr, hpk, hn9⟩ dX5_fold_99) hS (fun q _ h => h) hn (fun r_20 H locs hR hz hk hS => ?_)
              obtain ⟨th, hM⟩ := hR
              obtain ⟨ra, rl, ex, ro, pk, ca, rf, rt, tt, bb, eT, eB, oT, oB, fo, fj, fk, fe, fr, fw, ⟨hPm, hPa, hPl, hPe, hPr, hPk⟩, hFk, hFe, hFr, hpk, hn9⟩ := hM
              have g_fo := hPm
              have g_fj := hPa
              try rw [hQ]
              refine r_iret (pc := 102) E hr hlk hS (by omega) (by omega) ?_ dX5_fold_102
              exact ⟨_, ⟨_, _, _, _, _, _, _, _, _, _, _, _, _, _, fo, fj, fk, fe, fr, fw, ⟨hPm, hPa, hPl, hPe, hPr, hPk⟩, hFk, hFe, hFr, hpk, hn9⟩⟩
            · refine lv_aload_n (pc := 81) hx hb dX5_fold_81 rfl (lv_at hl 0 rfl) ?_
              have hkn9 : n9 ≤ k := Nat.not_lt.mp (fun z9 => absurd (nI_lt z9 (by omega)) (Int32.not_lt.mpr (by have h9 := c_17; rw [hx9] at h9; exact h9)))
              have hZ0_ := hS.1
              have t_fo := fo.lt
              have t_fj := fj.lt
              have t_fk := fun k (hk9 : k < 6) => (fk k hk9).lt
              have t_fe := fe.lt
              have t_fr := fr.lt
              have t_f0w := f0w.lt
              have t_fRw := fRw.lt
              refine k_r (pc := 82) (k_V E hC hS hA hl.1 (c1.recv hC fo rfl) rfl (c_X5_rowNow_A l D tk N0 sa H.size mo ra rl ex ro pk br ca rf kn ((m_th r_1 0)) mdr n9 capr fnr vsr h0r hn9 hncr (by omega) hPI) kw_1610 kw_1612 kp_29 kw_5 kw_1613 (n := 0) (by decide +kernel) rfl ⟨⟨rfl, rfl⟩, ⟨Nat.le_of_ble_eq_true rfl, Nat.le_of_ble_eq_true rfl⟩, (by dsimp only; omega), (by dsimp only; omega)⟩ rfl (Nat.le_of_ble_eq_true rfl) ⟨fo, f0w, fRw, elw⟩ dX5_fold_82) hS (fun q z w => absurd w (Nat.not_le.mpr z)) hn (fun r_21 H locs hR hz hk hS => ?_)
              have fo := fo.kept (hk _ fo.lt (Nat.not_le.mpr fo.lt))
              have fj := fj.kept (hk _ fj.lt (Nat.not_le.mpr fj.lt))
              have fk := fk.new hk
              have fe := fe.kept (hk _ fe.lt (Nat.not_le.mpr fe.lt))
              have fr := fr.kept (hk _ fr.lt (Nat.not_le.mpr fr.lt))
              have f0w := f0w.kept (hk _ f0w.lt (Nat.not_le.mpr f0w.lt))
              have fRw := fRw.kept (hk _ fRw.lt (Nat.not_le.mpr fRw.lt))
              have elw := elw.new hk
              obtain ⟨bb22, cap22, ff22, ww22, md22, zr9_, zb9_, fl22, fR22, el22, hPQ22, hlc22, hlp22⟩ := hR
              have hcb22 := m_acB hlp22
              have s_fl22 : s.heap.size ≤ r_21 := Nat.le_trans hZ0_ zr9_
              have g_fl22 := hn _ s_fl22
              have l_fo_fl22 : mo < r_21 := Nat.lt_of_lt_of_le t_fo zr9_
              have l_fj_fl22 : ra < r_21 := Nat.lt_of_lt_of_le t_fj zr9_
              have nW_fl22 : ∀ k, k < 6 → rt k ≠ r_21 := fun k hk9 => Nat.ne_of_lt (Nat.lt_of_lt_of_le (t_fk k hk9) zr9_)
              have l_fe_fl22 : ex < r_21 := Nat.lt_of_lt_of_le t_fe zr9_
              have l_fr_fl22 : ro < r_21 := Nat.lt_of_lt_of_le t_fr zr9_
              have l_f0w_fl22 : rl < r_21 := Nat.lt_of_lt_of_le t_f0w zr9_
              have l_fRw_fl22 : br < r_21 := Nat.lt_of_lt_of_le t_fRw zr9_
              have s_fR22 : s.heap.size ≤ bb22 := Nat.le_trans hZ0_ zb9_
              have g_fR22 := hn _ s_fR22
              have l_fo_fR22 : mo < bb22 := Nat.lt_of_lt_of_le t_fo zb9_
              have l_fj_fR22 : ra < bb22 := Nat.lt_of_lt_of_le t_fj zb9_
              have nW_fR22 : ∀ k, k < 6 → rt k ≠ bb22 := fun k hk9 => Nat.ne_of_lt (Nat.lt_of_lt_of_le (t_fk k hk9) zb9_)
              have l_fe_fR22 : ex < bb22 := Nat.lt_of_lt_of_le t_fe zb9_
              have l_fr_fR22 : ro < bb22 := Nat.lt_of_lt_of_le t_fr zb9_
              have l_f0w_fR22 : rl < bb22 := Nat.lt_of_lt_of_le t_f0w zb9_
              have l_fRw_fR22 : br < bb22 := Nat.lt_of_lt_of_le t_fRw zb9_
              refine lv_aload_n (pc := 85) hx hb dX5_fold_85 rfl (lv_at hl 0 rfl) ?_
              refine r_get (pc := 86) E hC fo 1 (v := .ref rl) rfl rfl (by decide) uX5 (List.mem_cons_of_mem _ kw_1210) (fun _ h => h) dX5_fold_86 ?_
              refine k_i (pc := 89) (k_V E hC hS hA hl.1 (c1.recv hC f0w rfl) rfl (c_Jx4a65c_size_8abf5 l D tk N0 sa H.size rl br n9 mdr) kw_1546 kw_1547 kw_1548 kw_8 kw_1549 (n := 0) (by decide +kernel) rfl ⟨⟨rfl, rfl⟩, ⟨Nat.le_of_ble_eq_true rfl, Nat.le_of_ble_eq_true rfl⟩, (by dsimp only; omega), (by dsimp only; omega)⟩ rfl (Nat.le_of_ble_eq_true rfl) f0w dX5_fold_89) hS (fun q z w => absurd w (Nat.not_le.mpr z)) hn (fun r_23 H locs hR hz hk hS => ?_)
              have fo := fo.kept (hk _ fo.lt (Nat.not_le.mpr fo.lt))
              have fj := fj.kept (hk _ fj.lt (Nat.not_le.mpr fj.lt))
              have fk := fk.new hk
              have fe := fe.kept (hk _ fe.lt (Nat.not_le.mpr fe.lt))
              have fr := fr.kept (hk _ fr.lt (Nat.not_le.mpr fr.lt))
              have f0w := f0w.kept (hk _ f0w.lt (Nat.not_le.mpr f0w.lt))
              have fRw := fRw.kept (hk _ fRw.lt (Nat.not_le.mpr fRw.lt))
              have elw := elw.new hk
              have fR22 := fR22.kept (hk _ fR22.lt (Nat.not_le.mpr fR22.lt))
              have fl22 := fl22.kept (hk _ fl22.lt (Nat.not_le.mpr fl22.lt))
              have el22 := el22.new hk
              rw [show r_23 = nI n9 from hR]
              have hZ0_ := hS.1
              have t_fo := fo.lt
              have t_fj := fj.lt
              have t_fk := fun k (hk9 : k < 6) => (fk k hk9).lt
              have t_fe := fe.lt
              have t_fr := fr.lt
              have t_f0w := f0w.lt
              have t_fRw := fRw.lt
              have t_fR22 := fR22.lt
              have t_fl22 := fl22.lt
              refine k_o (pc := 92) (k_S E hC hS hA hl.1 (c_X5_folded l D tk N0 sa H.size r_21 bb22 n9 cap22 md22 (nI n9) ff22 ww22 n9 (by omega) (by omega) rfl (by omega) (by omega) (hPQ22.pf hPI (fun i g1 g2 => (hz9.resolve_left c_18).2 i g1 (by omega)))) kw_1566 kw_1567 kw_5 kw_1568 (n := 2) (by decide +kernel) rfl ⟨⟨rfl, rfl⟩, ⟨Nat.le_of_ble_eq_true rfl, Nat.le_of_ble_eq_true rfl⟩, (by dsimp only; omega), (by dsimp only; omega)⟩ rfl (Nat.le_of_ble_eq_true rfl) ⟨fl22, fR22, el22⟩ dX5_fold_92) hS (fun q z w => absurd w (Nat.not_le.mpr z)) hn (fun r_24 H locs hR hz hk hS => ?_)
              have fo := fo.kept (hk _ fo.lt (Nat.not_le.mpr fo.lt))
              have fj := fj.kept (hk _ fj.lt (Nat.not_le.mpr fj.lt))
              have fk := fk.new hk
              have fe := fe.kept (hk _ fe.lt (Nat.not_le.mpr fe.lt))
              have fr := fr.kept (hk _ fr.lt (Nat.not_le.mpr fr.lt))
              have f0w := f0w.kept (hk _ f0w.lt (Nat.not_le.mpr f0w.lt))
              have fRw := fRw.kept (hk _ fRw.lt (Nat.not_le.mpr fRw.lt))
              have elw := elw.new hk
              have fR22 := fR22.kept (hk _ fR22.lt (Nat.not_le.mpr fR22.lt))
              have fl22 := fl22.kept (hk _ fl22.lt (Nat.not_le.mpr fl22.lt))
              have el22 := el22.new hk
              rcases hR with rfl | ⟨q_f25, tt_f25, bb_f25, rfl, z9_, f25, hb_f25⟩
              · refine lv_goto (pc := 95) (tgt := 99) hx hb dX5_fold_95 (by decide) ?_
                have hZ0_ := hS.1
                have t_fo := fo.lt
                have t_fj := fj.lt
                have t_fk := fun k (hk9 : k < 6) => (fk k hk9).lt
                have t_fe := fe.lt
                have t_fr := fr.lt
                have t_f0w := f0w.lt
                have t_fRw := fRw.lt
                have t_fR22 := fR22.lt
                have t_fl22 := fl22.lt
                obtain ⟨kx_26, hx_26, hk_26⟩ := m_no (er_1.symm.trans (m_fl0 (er_3.symm.trans c_4)).1)
                refine k_i (pc := 99) (k_V E hC hS hA hl.1 (c1.recv hC fo rfl) rfl (c_X5_become_N l D tk N0 sa H.size P hPN (fun q h9 => hPs q (Nat.le_trans hS.1 h9)) mo n9 kn ((m_th r_1 0)) x1 kx_26 hx_26 hk_26 ) kw_1255 kw_1257 kp_21 kw_5 kw_1258 (n := 2) (by decide +kernel) rfl ⟨⟨rfl, rfl⟩, ⟨Nat.le_of_ble_eq_true rfl, Nat.le_of_ble_eq_true rfl⟩, (by dsimp only; omega), (by dsimp only; omega)⟩ rfl (Nat.le_of_ble_eq_true rfl) ⟨_, _, _, _, _, _, _, _, _, _, _, _, _, _, fo, fj, fk, fe, fr, (Or.inr ⟨_, _, _, _, _, hPb, f0w, fRw, elw, hPI, hncr, hmcr⟩), ⟨hPm, hPa, hPl, hPe, hPr, hPk⟩, hFk, hFe, hFr, hpk, hn9⟩ dX5_fold_99) hS (fun q _ h => h) hn (fun r_27 H locs hR hz hk hS => ?_)
                obtain ⟨th, hM⟩ := hR
                obtain ⟨ra, rl, ex, ro, pk, ca, rf, rt, tt, bb, eT, eB, oT, oB, fo, fj, fk, fe, fr, fw, ⟨hPm, hPa, hPl, hPe, hPr, hPk⟩, hFk, hFe, hFr, hpk, hn9⟩ := hM
                have g_fo := hPm
                have g_fj := hPa
                try rw [hQ]
                refine r_iret (pc := 102) E hr hlk hS (by omega) (by omega) ?_ dX5_fold_102
                exact ⟨_, ⟨_, _, _, _, _, _, _, _, _, _, _, _, _, _, fo, fj, fk, fe, fr, fw, ⟨hPm, hPa, hPl, hPe, hPr, hPk⟩, hFk, hFe, hFr, hpk, hn9⟩⟩
              · have s_f25 : s.heap.size ≤ q_f25 := Nat.le_trans hZ0_ z9_
                have g_f25 := hn _ s_f25
                have l_fo_f25 : mo < q_f25 := Nat.lt_of_lt_of_le t_fo z9_
                have l_fj_f25 : ra < q_f25 := Nat.lt_of_lt_of_le t_fj z9_
                have nW_f25 : ∀ k, k < 6 → rt k ≠ q_f25 := fun k hk9 => Nat.ne_of_lt (Nat.lt_of_lt_of_le (t_fk k hk9) z9_)
                have l_fe_f25 : ex < q_f25 := Nat.lt_of_lt_of_le t_fe z9_
                have l_fr_f25 : ro < q_f25 := Nat.lt_of_lt_of_le t_fr z9_
                have l_f0w_f25 : rl < q_f25 := Nat.lt_of_lt_of_le t_f0w z9_
                have l_fRw_f25 : br < q_f25 := Nat.lt_of_lt_of_le t_fRw z9_
                have l_fR22_f25 : bb22 < q_f25 := Nat.lt_of_lt_of_le t_fR22 z9_
                have l_fl22_f25 : r_21 < q_f25 := Nat.lt_of_lt_of_le t_fl22 z9_
                refine lv_goto (pc := 95) (tgt := 99) hx hb dX5_fold_95 (by decide) ?_
                have hZ0_ := hS.1
                have t_fo := fo.lt
                have t_fj := fj.lt
                have t_fk := fun k (hk9 : k < 6) => (fk k hk9).lt
                have t_fe := fe.lt
                have t_fr := fr.lt
                have t_f0w := f0w.lt
                have t_fRw := fRw.lt
                have t_fR22 := fR22.lt
                have t_fl22 := fl22.lt
                have t_f25 := f25.lt
                obtain ⟨kx_28, hx_28, hk_28⟩ := m_no (er_1.symm.trans (m_fl0 (er_3.symm.trans c_4)).1)
                refine k_i (pc := 99) (k_V E hC hS hA hl.1 (c1.recv hC fo rfl) rfl (c_X5_become l D tk N0 sa H.size P hPN (fun q h9 => hPs q (Nat.le_trans hS.1 h9)) mo n9 kn ((m_th r_1 0)) x1 kx_28 hx_28 hk_28 q_f25 tt_f25 bb_f25 (hPs _ s_f25) hb_f25) kw_1255 kw_1257 kp_21 kw_5 kw_1258 (n := 2) (by decide +kernel) rfl ⟨⟨rfl, rfl⟩, ⟨Nat.le_of_ble_eq_true rfl, Nat.le_of_ble_eq_true rfl⟩, (by dsimp only; omega), (by dsimp only; omega)⟩ rfl (Nat.le_of_ble_eq_true rfl) ⟨⟨_, _, _, _, _, _, _, _, _, _, _, _, _, _, fo, fj, fk, fe, fr, (Or.inr ⟨_, _, _, _, _, hPb, f0w, fRw, elw, hPI, hncr, hmcr⟩), ⟨hPm, hPa, hPl, hPe, hPr, hPk⟩, hFk, hFe, hFr, hpk, hn9⟩, f25⟩ dX5_fold_99) hS (fun q _ h => h) hn (fun r_29 H locs hR hz hk hS => ?_)
                obtain ⟨th, hM⟩ := hR
                obtain ⟨ra, rl, ex, ro, pk, ca, rf, rt, tt, bb, eT, eB, oT, oB, fo, fj, fk, fe, fr, fw, ⟨hPm, hPa, hPl, hPe, hPr, hPk⟩, hFk, hFe, hFr, hpk, hn9⟩ := hM
                have g_fo := hPm
                have g_fj := hPa
                try rw [hQ]
                refine r_iret (pc := 102) E hr hlk hS (by omega) (by omega) ?_ dX5_fold_102
                exact ⟨_, ⟨_, _, _, _, _, _, _, _, _, _, _, _, _, _, fo, fj, fk, fe, fr, fw, ⟨hPm, hPa, hPl, hPe, hPr, hPk⟩, hFk, hFe, hFr, hpk, hn9⟩⟩
          · have hkn : k < n9 := Nat.not_le.mp (fun z9 => c_17 (by rw [hx9]; exact nI_le z9 (by omega)))
            refine lv_iload_n (pc := 43) hx hb dX5_fold_43 rfl (lv_at hl 2 rfl) ?_
            refine lv_aload_n (pc := 44) hx hb dX5_fold_44 rfl (lv_at hl 0 rfl) ?_
            refine r_get (pc := 45) E hC fo 1 (v := .ref rl) rfl rfl (by decide) uX5 (List.mem_cons_of_mem _ kw_1210) (fun _ h => h) dX5_fold_45 ?_
            refine lv_iload_n (pc := 48) hx hb dX5_fold_48 rfl (lv_at hl 3 rfl) ?_
            obtain ⟨qe30, hq30, he30⟩ := elw k hkn
            obtain ⟨xe30, ev30, pv30⟩ := hPI k hkn
            rw [ev30] at he30
            refine k_r (pc := 49) (k_V E hC hS hA hl.1 (c1.recv hC f0w rfl) rfl (c_Jx4a65c_get_915e3 l D tk N0 sa H.size rl br n9 capr k qe30 mdr y9 fnr hx9 hkn hncr (by omega) hq30) kw_1550 kw_1551 kw_1552 kw_8 kw_1553 (n := 1) (by decide +kernel) rfl ⟨⟨rfl, rfl⟩, ⟨Nat.le_of_ble_eq_true rfl, Nat.le_of_ble_eq_true rfl⟩, (by dsimp only; omega), (by dsimp only; omega)⟩ rfl (Nat.le_of_ble_eq_true rfl) ⟨f0w, fRw⟩ dX5_fold_49) hS (fun q z w => absurd w (Nat.not_le.mpr z)) hn (fun r_31 H locs hR hz hk hS => ?_)
            have fo := fo.kept (hk _ fo.lt (Nat.not_le.mpr fo.lt))
            have fj := fj.kept (hk _ fj.lt (Nat.not_le.mpr fj.lt))
            have fk := fk.new hk
            have fe := fe.kept (hk _ fe.lt (Nat.not_le.mpr fe.lt))
            have fr := fr.kept (hk _ fr.lt (Nat.not_le.mpr fr.lt))
            have f0w := f0w.kept (hk _ f0w.lt (Nat.not_le.mpr f0w.lt))
            have fRw := fRw.kept (hk _ fRw.lt (Nat.not_le.mpr fRw.lt))
            have elw := elw.new hk
            have he30 := he30.kept (hk _ he30.lt (Nat.not_le.mpr he30.lt))
            rw [show r_31 = qe30 from hR]
            refine r_castO (pc := 52) E hC he30 rfl kw_1614 dX5_fold_52 ?_
            refine k_i (pc := 55) (k_V E hC hS hA hl.1 (xf.recv hC he30 rfl) rfl (c_J6_intValue_8abf5 l D tk N0 sa H.size qe30 xe30) kw_1615 kw_1616 kw_1617 kw_22 kw_1618 (n := 0) (by decide +kernel) rfl ⟨⟨rfl, rfl⟩, ⟨Nat.le_of_ble_eq_true rfl, Nat.le_of_ble_eq_true rfl⟩, (by dsimp only; omega), (by dsimp only; omega)⟩ rfl (Nat.le_of_ble_eq_true rfl) he30 dX5_fold_55) hS (fun q z w => absurd w (Nat.not_le.mpr z)) hn (fun r_32 H locs hR hz hk hS => ?_)
            have fo := fo.kept (hk _ fo.lt (Nat.not_le.mpr fo.lt))
            have fj := fj.kept (hk _ fj.lt (Nat.not_le.mpr fj.lt))
            have fk := fk.new hk
            have fe := fe.kept (hk _ fe.lt (Nat.not_le.mpr fe.lt))
            have fr := fr.kept (hk _ fr.lt (Nat.not_le.mpr fr.lt))
            have f0w := f0w.kept (hk _ f0w.lt (Nat.not_le.mpr f0w.lt))
            have fRw := fRw.kept (hk _ fRw.lt (Nat.not_le.mpr fRw.lt))
            have elw := elw.new hk
            have he30 := he30.kept (hk _ he30.lt (Nat.not_le.mpr he30.lt))
            have er_32 : r_32 = xe30 := hR
            refine lv_iconst (pc := 58) (v := 1) hx hb dX5_fold_58 (by decide) ?_
            refine lv_icmp_lt (pc := 59) (tgt := 66) hx hb dX5_fold_59 (by decide) (fun c_33 => ?_) (fun c_33 => ?_)
            · refine lv_iconst (pc := 66) (v := 0) hx hb dX5_fold_66 (by decide) ?_
              refine lv_iand (pc := 67) hx hb dX5_fold_67 ?_
              obtain ⟨x_34, ex_34⟩ : ∃ z9 : Int32, z9 = u9 &&& 0 := ⟨_, rfl⟩
              rw [← ex_34]
              refine lv_istore_n (pc := 68) (lv' := [(2, .int x_34), (0, .ref mo), (1, .int x1), (3, .int y9)]) hx hb dX5_fold_68 rfl hl (by decide) rfl (fun ls hl => ?_)
              obtain ⟨x_35, ex_35⟩ : ∃ z9 : Int32, z9 = y9 + 1 := ⟨_, rfl⟩
              refine lv_iinc (pc := 69) (v := x_35) (lv' := [(3, .int x_35), (2, .int x_34), (0, .ref mo), (1, .int x1)]) hx hb dX5_fold_69 hl (k := 3) rfl (by rw [ex_35]; rfl) (by decide) rfl (fun ls hl => ?_)
              refine lv_goto (pc := 72) (tgt := 32) hx hb dX5_fold_72 (by decide) ?_
              refine W.widen (k := 0) (n := 0) (by omega) (by omega) ?_
              exact ih_32  (k + 1)  x_34 x_35 (by omega) (by omega) (i_up hx9 ex_35) (Or.inl (ex_34.trans (m_and0 _))) _ _ _ hS fo fj fk fe fr f0w fRw elw (lv_sub hl [2, 3, 1, 0] rfl)
            · refine lv_iconst (pc := 62) (v := 1) hx hb dX5_fold_62 (by decide) ?_
              refine lv_goto (pc := 63) (tgt := 67) hx hb dX5_fold_63 (by decide) ?_
              refine lv_iand (pc := 67) hx hb dX5_fold_67 ?_
              obtain ⟨x_36, ex_36⟩ : ∃ z9 : Int32, z9 = u9 &&& 1 := ⟨_, rfl⟩
              rw [← ex_36]
              refine lv_istore_n (pc := 68) (lv' := [(2, .int x_36), (0, .ref mo), (1, .int x1), (3, .int y9)]) hx hb dX5_fold_68 rfl hl (by decide) rfl (fun ls hl => ?_)
              obtain ⟨x_37, ex_37⟩ : ∃ z9 : Int32, z9 = y9 + 1 := ⟨_, rfl⟩
              refine lv_iinc (pc := 69) (v := x_37) (lv' := [(3, .int x_37), (2, .int x_36), (0, .ref mo), (1, .int x1)]) hx hb dX5_fold_69 hl (k := 3) rfl (by rw [ex_37]; rfl) (by decide) rfl (fun ls hl => ?_)
              refine lv_goto (pc := 72) (tgt := 32) hx hb dX5_fold_72 (by decide) ?_
              refine W.widen (k := 0) (n := 0) (by omega) (by omega) ?_
              exact ih_32  (k + 1)  x_36 x_37 (by omega) (by omega) (i_up hx9 ex_37) (hz9.add ev30 (by rw [← er_32]; exact Int32.not_lt.mp c_33) ex_36) _ _ _ hS fo fj fk fe fr f0w fRw elw (lv_sub hl [2, 3, 1, 0] rfl)
      refine W.widen (k := 0) (n := 0) (by omega) (by omega) ?_
      exact loop_32 17 1  1 1 (by omega) (by omega) (by decide) (Or.inr ⟨rfl, fun i g1 g2 => absurd g1 (by omega)⟩) _ _ _ hS fo fj fk fe fr f0w fRw elw (lv_sub hl [2, 3, 1, 0] rfl)
  · refine lv_iconst (pc := 12) (v := 0) hx hb dX5_fold_12 (by decide) ?_
    try rw [hQ]
    refine r_iret (pc := 13) E hr hlk hS (by omega) (by omega) ?_ dX5_fold_13
    exact ⟨_, ⟨_, _, _, _, _, _, _, _, _, _, _, _, _, _, fo, fj, fk, fe, fr, fw, ⟨hPm, hPa, hPl, hPe, hPr, hPk⟩, hFk, hFe, hFr, hpk, hn9⟩⟩
