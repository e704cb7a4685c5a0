set_option maxHeartbeats 4000000 in
set_option maxRecDepth 100000 in
/-- BestratiosModel.fails(ZZ)Z -/
theorem c_X5_fails (l : Launch) (D : va_G) (tk : Nat → ClassId) (N0 : Nat) (sa : Nat → Nat)  (sz : Nat) (P : Nat → Prop) (hPN : ∀ q, P q → N0 ≤ q) (hPs : ∀ q, sz ≤ q → P q) (mo n9 : Nat) (kn th : Int32) (tt bb : Nat → Int64) (eT eB oT oB : Int64) (pk : Nat) (ca rf : Int32) (vs : Nat → Value) (a_ : Int32) (b_ : Int32) : Met l yX5_fails (wsy yX5_fails cX5_fails 3 (some .boolean)) ({ frames := 0, cells := 0, slots := 0, locals := 0 } : Room) (cP D tk N0 sa [.ref mo, .int a_, .int b_] sz (fun H => MI D tk sa P mo tt bb eT eB oT oB pk ca rf vs kn n9 th H)) (kQi (fun r H => r = m_fl a_ b_ ∧ MI D tk sa P mo tt bb eT eB oT oB pk ca rf vs kn n9 ((m_th a_ b_)) H) (P)) (0) (0) (P) := by
  refine mStart RX5 rfl (by decide +kernel) (Nat.le_of_ble_eq_true rfl) ?_
  intro p e s m args below meth c E hr hlk hnm hsz hC hF ls hl
  subst hsz
  obtain ⟨hx, hb, -⟩ := id E
  have hA : ∀ q, (P) q → N0 ≤ q := hPN
  have hn : ∀ q, s.heap.size ≤ q → (P) q := hPs
  have hS : va_S (P) s.heap s.heap [] := va_S.rf
  have hl : lv_has ls 3 [(0, .ref mo), (1, .int a_), (2, .int b_)] := hl
  have hM : MI D tk sa P mo tt bb eT eB oT oB pk ca rf vs kn n9 th s.heap := hF
  obtain ⟨ra, rl, ex, ro, rt, fo, fj, fk, fe, fr, fw, ⟨hPm, hPa, hPl, hPe, hPr, hPk⟩, hFk, hFe, hFr, hpk, hn9⟩ := hM
  have g_fo := hPm
  have g_fj := hPa
  refine lv_aload_n (pc := 0) hx hb dX5_fails_0 rfl (lv_at hl 0 rfl) ?_
  refine lv_iload_n (pc := 1) hx hb dX5_fails_1 rfl (lv_at hl 1 rfl) ?_
  refine lv_if_eq (pc := 2) (tgt := 9) hx hb dX5_fails_2 (by decide) (fun c_1 => ?_) (fun c_1 => ?_)
  · refine lv_iload_n (pc := 9) hx hb dX5_fails_9 rfl (lv_at hl 2 rfl) ?_
    refine lv_if_eq (pc := 10) (tgt := 17) hx hb dX5_fails_10 (by decide) (fun c_2 => ?_) (fun c_2 => ?_)
    · refine lv_iconst (pc := 17) (v := 0) hx hb dX5_fails_17 (by decide) ?_
      refine r_put (pc := 18) E hC fo hS g_fo 8 tyX5 tyX5_ok nmX5 rfl (by decide) (Nat.le_of_ble_eq_true rfl) uX5 (List.mem_cons_of_mem _ kw_1217) (fun _ h => h) rfl rfl rfl dX5_fails_18 (fun H locs n_ ho hz hS => ?_)
      have fw := fw.put ho (fun q9 h9 => clA.ne h9 fo.cl (hC.oo 7 13 rfl rfl (by decide))) (fun q9 h9 => clA.ne h9 fo.cl (hC.ao 13 4 rfl rfl)) (fun q9 h9 => clA.ne h9 fo.cl (hC.ceo (Or.inr rfl) 13 rfl (by decide)))
      have nW_fo : ∀ k, k < 6 → rt k ≠ mo := fun k hk9 => clA.ne (fk k hk9).cla fo.cl (hC.ao 13 0 rfl rfl)
      have fj := fj.kept (ho _ (clA.ne fj.cla fo.cl (hC.ao 13 3 rfl rfl)))
      have fk := fk.kept (fun k hk9 => ho _ (nW_fo k hk9))
      have fe := fe.kept (ho _ (clA.ne fe.cla fo.cl (hC.ao 13 0 rfl rfl)))
      have fr := fr.kept (ho _ (clA.ne fr.cla fo.cl (hC.ao 13 0 rfl rfl)))
      have fo : c1 D mo (.inr (13, [.ref ra, .ref rl, .ref ex, .ref ro, .int (nI pk), .int ca, .int rf, .int kn, .int 0])) H := n_
      refine lv_aload_n (pc := 21) hx hb dX5_fails_21 rfl (lv_at hl 0 rfl) ?_
      refine r_get (pc := 22) E hC fo 8 (v := .int 0) rfl rfl (by decide) uX5 (List.mem_cons_of_mem _ kw_1217) (fun _ h => h) dX5_fails_22 ?_
      refine lv_if_le (pc := 25) (tgt := 32) hx hb dX5_fails_25 (by decide) (fun c_3 => ?_) (fun c_3 => ?_)
      rotate_left
      · exact absurd (by decide) c_3
      refine lv_iconst (pc := 32) (v := 0) hx hb dX5_fails_32 (by decide) ?_
      refine r_zret (pc := 33) E hr hlk hS (by omega) (by omega) rfl ?_ dX5_fails_33
      exact ⟨by simp [m_fl, c_1, c_2], by rw [show m_th a_ b_ = 0 by simp [m_th, c_1, c_2]]; exact ⟨_, _, _, _, _, fo, fj, fk, fe, fr, fw, ⟨hPm, hPa, hPl, hPe, hPr, hPk⟩, hFk, hFe, hFr, hpk, hn9⟩⟩
    · refine lv_iconst (pc := 13) (v := 2) hx hb dX5_fails_13 (by decide) ?_
      refine lv_goto (pc := 14) (tgt := 18) hx hb dX5_fails_14 (by decide) ?_
      refine r_put (pc := 18) E hC fo hS g_fo 8 tyX5 tyX5_ok nmX5 rfl (by decide) (Nat.le_of_ble_eq_true rfl) uX5 (List.mem_cons_of_mem _ kw_1217) (fun _ h => h) rfl rfl rfl dX5_fails_18 (fun H locs n_ ho hz hS => ?_)
      have fw := fw.put ho (fun q9 h9 => clA.ne h9 fo.cl (hC.oo 7 13 rfl rfl (by decide))) (fun q9 h9 => clA.ne h9 fo.cl (hC.ao 13 4 rfl rfl)) (fun q9 h9 => clA.ne h9 fo.cl (hC.ceo (Or.inr rfl) 13 rfl (by decide)))
      have nW_fo : ∀ k, k < 6 → rt k ≠ mo := fun k hk9 => clA.ne (fk k hk9).cla fo.cl (hC.ao 13 0 rfl rfl)
      have fj := fj.kept (ho _ (clA.ne fj.cla fo.cl (hC.ao 13 3 rfl rfl)))
      have fk := fk.kept (fun k hk9 => ho _ (nW_fo k hk9))
      have fe := fe.kept (ho _ (clA.ne fe.cla fo.cl (hC.ao 13 0 rfl rfl)))
      have fr := fr.kept (ho _ (clA.ne fr.cla fo.cl (hC.ao 13 0 rfl rfl)))
      have fo : c1 D mo (.inr (13, [.ref ra, .ref rl, .ref ex, .ref ro, .int (nI pk), .int ca, .int rf, .int kn, .int 2])) H := n_
      refine lv_aload_n (pc := 21) hx hb dX5_fails_21 rfl (lv_at hl 0 rfl) ?_
      refine r_get (pc := 22) E hC fo 8 (v := .int 2) rfl rfl (by decide) uX5 (List.mem_cons_of_mem _ kw_1217) (fun _ h => h) dX5_fails_22 ?_
      refine lv_if_le (pc := 25) (tgt := 32) hx hb dX5_fails_25 (by decide) (fun c_4 => ?_) (fun c_4 => ?_)
      · exact absurd c_4 (by decide)
      refine lv_iconst (pc := 28) (v := 1) hx hb dX5_fails_28 (by decide) ?_
      refine lv_goto (pc := 29) (tgt := 33) hx hb dX5_fails_29 (by decide) ?_
      refine r_zret (pc := 33) E hr hlk hS (by omega) (by omega) rfl ?_ dX5_fails_33
      exact ⟨by simp [m_fl, c_1, c_2], by rw [show m_th a_ b_ = 2 by simp [m_th, c_1, c_2]]; exact ⟨_, _, _, _, _, fo, fj, fk, fe, fr, fw, ⟨hPm, hPa, hPl, hPe, hPr, hPk⟩, hFk, hFe, hFr, hpk, hn9⟩⟩
  · refine lv_iconst (pc := 5) (v := 1) hx hb dX5_fails_5 (by decide) ?_
    refine lv_goto (pc := 6) (tgt := 18) hx hb dX5_fails_6 (by decide) ?_
    refine r_put (pc := 18) E hC fo hS g_fo 8 tyX5 tyX5_ok nmX5 rfl (by decide) (Nat.le_of_ble_eq_true rfl) uX5 (List.mem_cons_of_mem _ kw_1217) (fun _ h => h) rfl rfl rfl dX5_fails_18 (fun H locs n_ ho hz hS => ?_)
    have fw := fw.put ho (fun q9 h9 => clA.ne h9 fo.cl (hC.oo 7 13 rfl rfl (by decide))) (fun q9 h9 => clA.ne h9 fo.cl (hC.ao 13 4 rfl rfl)) (fun q9 h9 => clA.ne h9 fo.cl (hC.ceo (Or.inr rfl) 13 rfl (by decide)))
    have nW_fo : ∀ k, k < 6 → rt k ≠ mo := fun k hk9 => clA.ne (fk k hk9).cla fo.cl (hC.ao 13 0 rfl rfl)
    have fj := fj.kept (ho _ (clA.ne fj.cla fo.cl (hC.ao 13 3 rfl rfl)))
    have fk := fk.kept (fun k hk9 => ho _ (nW_fo k hk9))
    have fe := fe.kept (ho _ (clA.ne fe.cla fo.cl (hC.ao 13 0 rfl rfl)))
    have fr := fr.kept (ho _ (clA.ne fr.cla fo.cl (hC.ao 13 0 rfl rfl)))
    have fo : c1 D mo (.inr (13, [.ref ra, .ref rl, .ref ex, .ref ro, .int (nI pk), .int ca, .int rf, .int kn, .int 1])) H := n_
    refine lv_aload_n (pc := 21) hx hb dX5_fails_21 rfl (lv_at hl 0 rfl) ?_
    refine r_get (pc := 22) E hC fo 8 (v := .int 1) rfl rfl (by decide) uX5 (List.mem_cons_of_mem _ kw_1217) (fun _ h => h) dX5_fails_22 ?_
    refine lv_if_le (pc := 25) (tgt := 32) hx hb dX5_fails_25 (by decide) (fun c_5 => ?_) (fun c_5 => ?_)
    · exact absurd c_5 (by decide)
    refine lv_iconst (pc := 28) (v := 1) hx hb dX5_fails_28 (by decide) ?_
    refine lv_goto (pc := 29) (tgt := 33) hx hb dX5_fails_29 (by decide) ?_
    refine r_zret (pc := 33) E hr hlk hS (by omega) (by omega) rfl ?_ dX5_fails_33
    exact ⟨by simp [m_fl, c_1], by rw [show m_th a_ b_ = 1 by simp [m_th, c_1]]; exact ⟨_, _, _, _, _, fo, fj, fk, fe, fr, fw, ⟨hPm, hPa, hPl, hPe, hPr, hPk⟩, hFk, hFe, hFr, hpk, hn9⟩⟩
