set_option maxHeartbeats 4000000 in
set_option maxRecDepth 100000 in
/-- BestratiosModel.become(I[J)I -/
theorem c_X5_become (l : Launch) (D : va_G) (tk : Nat → ClassId) (N0 : Nat) (sa : Nat → Nat)  (sz : Nat) (P : Nat → Prop) (hPN : ∀ q, P q → N0 ≤ q) (hPs : ∀ q, sz ≤ q → P q) (mo n9 : Nat) (kn th : Int32) (tt bb : Nat → Int64) (eT eB oT oB : Int64) (pk : Nat) (ca rf : Int32) (vs : Nat → Value) (x : Int32) (k_x : Nat) (hx_x : x = nI k_x) (hk_x : k_x < 6) (pa : Nat) (ta ba : Int64) (hPq : P pa) (hb1 : 1 ≤ ba.toInt) : Met l yX5_become (wsy yX5_become cX5_become 4 (some .int)) ({ frames := 2, cells := 0, slots := 0, locals := 45 } : Room) (cP D tk N0 sa [.ref mo, .int x, .ref pa] sz (fun H => MI D tk sa P mo tt bb eT eB oT oB pk ca rf vs kn n9 th H ∧ L2 D tk pa ta ba H)) (kQi (fun r H => ∃ tt1 bb1 rf1, MI D tk sa P mo tt1 bb1 eT eB oT oB pk ca rf1 vs kn n9 th H ∧ BE tt bb rf k_x (some (ta, ba)) r tt1 bb1 rf1) (P)) (0) (0) (P) := by
  refine mStart RX5 rfl (by decide +kernel) (Nat.le_of_ble_eq_true rfl) ?_
  intro p e s m args below meth c E hr hlk hnm hsz hC hF ls hl
  subst hsz
  obtain ⟨hx, hb, -⟩ := id E
  have hA : ∀ q, (P) q → N0 ≤ q := hPN
  have hn : ∀ q, s.heap.size ≤ q → (P) q := hPs
  have hS : va_S (P) s.heap s.heap [] := va_S.rf
  have hl : lv_has ls 4 [(0, .ref mo), (1, .int x), (2, .ref pa)] := hl
  obtain ⟨hM, fa⟩ : MI D tk sa P mo tt bb eT eB oT oB pk ca rf vs kn n9 th s.heap ∧ L2 D tk pa ta ba s.heap := hF
  obtain ⟨ra, rl, ex, ro, rt, fo, fj, fk, fe, fr, fw, ⟨hPm, hPa, hPl, hPe, hPr, hPk⟩, hFk, hFe, hFr, hpk, hn9⟩ := hM
  have g_fo := hPm
  have g_fj := hPa
  refine lv_aload_n (pc := 0) hx hb dX5_become_0 rfl (lv_at hl 2 rfl) ?_
  have hZ0_ := hS.1
  have t_fo := fo.lt
  have t_fj := fj.lt
  have t_fk := fun k (hk9 : k < 6) => (fk k hk9).lt
  have t_fe := fe.lt
  have t_fr := fr.lt
  have t_fa := fa.lt
  refine k_i (pc := 1) (k_S E hC hS hA hl.1 (c_X5_isFit l D tk N0 sa s.heap.size pa ta ba ) kw_1259 kw_1260 kw_5 kw_1261 (n := 1) (by decide +kernel) rfl ⟨⟨rfl, rfl⟩, ⟨Nat.le_of_ble_eq_true rfl, Nat.le_of_ble_eq_true rfl⟩, (by dsimp only; omega), (by dsimp only; omega)⟩ rfl (Nat.le_of_ble_eq_true rfl) fa dX5_become_1) hS (fun q z w => absurd w (Nat.not_le.mpr z)) hn (fun r_1 H locs hR hz hk hS => ?_)
  have fw := fw.new hk
  have fo := fo.kept (hk _ fo.lt (Nat.not_le.mpr fo.lt))
  have fj := fj.kept (hk _ fj.lt (Nat.not_le.mpr fj.lt))
  have fk := fk.new hk
  have fe := fe.kept (hk _ fe.lt (Nat.not_le.mpr fe.lt))
  have fr := fr.kept (hk _ fr.lt (Nat.not_le.mpr fr.lt))
  have fa := fa.kept (hk _ fa.lt (Nat.not_le.mpr fa.lt))
  have er_1 := hR
  refine lv_if_ne (pc := 4) (tgt := 12) hx hb dX5_become_4 (by decide) (fun c_2 => ?_) (fun c_2 => ?_)
  · have hmF := m_fit1 (t := ta) (b := ba) (by rw [← er_1]; exact c_2) hb1
    refine lv_aload_n (pc := 12) hx hb dX5_become_12 rfl (lv_at hl 0 rfl) ?_
    refine r_get (pc := 13) E hC fo 0 (v := .ref ra) rfl rfl (by decide) uX5 (List.mem_cons_of_mem _ kw_1209) (fun _ h => h) dX5_become_13 ?_
    refine lv_iload_n (pc := 16) hx hb dX5_become_16 rfl (lv_at hl 1 rfl) ?_
    refine r_aaldJ (pc := 17) E hC fj k_x hx_x hk_x (by decide) rfl dX5_become_17 ?_
    have fL3 := fk k_x hk_x
    have mF_fL3 := hFk k_x hk_x
    have Pq_fL3 := hPk k_x hk_x
    refine lv_aload_n (pc := 18) hx hb dX5_become_18 rfl (lv_at hl 2 rfl) ?_
    have hZ0_ := hS.1
    have t_fo := fo.lt
    have t_fj := fj.lt
    have t_fk := fun k (hk9 : k < 6) => (fk k hk9).lt
    have t_fe := fe.lt
    have t_fr := fr.lt
    have t_fa := fa.lt
    have t_fL3 := fL3.lt
    refine k_i (pc := 19) (k_S E hC hS hA hl.1 (c_X5_order l D tk N0 sa H.size (rt k_x) (tt k_x) (bb k_x) pa ta ba ) kw_1268 kw_1269 kw_5 kw_1270 (n := 2) (by decide +kernel) rfl ⟨⟨rfl, rfl⟩, ⟨Nat.le_of_ble_eq_true rfl, Nat.le_of_ble_eq_true rfl⟩, (by dsimp only; omega), (by dsimp only; omega)⟩ rfl (Nat.le_of_ble_eq_true rfl) ⟨fL3, fa⟩ dX5_become_19) hS (fun q z w => absurd w (Nat.not_le.mpr z)) hn (fun r_4 H locs hR hz hk hS => ?_)
    have fw := fw.new hk
    have fo := fo.kept (hk _ fo.lt (Nat.not_le.mpr fo.lt))
    have fj := fj.kept (hk _ fj.lt (Nat.not_le.mpr fj.lt))
    have fk := fk.new hk
    have fe := fe.kept (hk _ fe.lt (Nat.not_le.mpr fe.lt))
    have fr := fr.kept (hk _ fr.lt (Nat.not_le.mpr fr.lt))
    have fa := fa.kept (hk _ fa.lt (Nat.not_le.mpr fa.lt))
    have fL3 := fL3.kept (hk _ fL3.lt (Nat.not_le.mpr fL3.lt))
    have er_4 := hR
    refine lv_if_eq (pc := 22) (tgt := 29) hx hb dX5_become_22 (by decide) (fun c_5 => ?_) (fun c_5 => ?_)
    · refine lv_iconst (pc := 29) (v := 0) hx hb dX5_become_29 (by decide) ?_
      refine lv_istore_n (pc := 30) (lv' := [(3, .int 0), (0, .ref mo), (1, .int x), (2, .ref pa)]) hx hb dX5_become_30 rfl hl (by decide) rfl (fun ls hl => ?_)
      refine lv_aload_n (pc := 31) hx hb dX5_become_31 rfl (lv_at hl 1 rfl) ?_
      refine r_get (pc := 32) E hC fo 0 (v := .ref ra) rfl rfl (by decide) uX5 (List.mem_cons_of_mem _ kw_1209) (fun _ h => h) dX5_become_32 ?_
      refine lv_iload_n (pc := 35) hx hb dX5_become_35 rfl (lv_at hl 2 rfl) ?_
      refine lv_aload_n (pc := 36) hx hb dX5_become_36 rfl (lv_at hl 3 rfl) ?_
      refine r_aastJ (pc := 37) E hC fj fa hS g_fj k_x hx_x hk_x (by decide) dX5_become_37 (fun H locs n_ ho hz hS => ?_)
      have fw := fw.put ho (fun q9 h9 => clA.ne h9 fj.cla (hC.oa 7 3 rfl rfl)) (fun q9 h9 => clA.ne h9 fj.cla (hC.aa 4 3 rfl rfl (by dsimp only; decide))) (fun q9 h9 => clA.ne h9 fj.cla (hC.cea (Or.inr rfl) 3 rfl))
      have nW_fj : ∀ k, k < 6 → rt k ≠ ra := fun k hk9 => clA.ne (fk k hk9).cla fj.cla (hC.aa 0 3 rfl rfl (by dsimp only; decide))
      have fo := fo.kept (ho _ (clA.ne fo.cl fj.cla (hC.oa 13 3 rfl rfl)))
      have fk := fk.kept (fun k hk9 => ho _ (nW_fj k hk9))
      have fe := fe.kept (ho _ (clA.ne fe.cla fj.cla (hC.aa 0 3 rfl rfl (by dsimp only; decide))))
      have fr := fr.kept (ho _ (clA.ne fr.cla fj.cla (hC.aa 0 3 rfl rfl (by dsimp only; decide))))
      have fa := fa.kept (ho _ (clA.ne fa.cla fj.cla (hC.aa 0 3 rfl rfl (by dsimp only; decide))))
      have fL3 := fL3.kept (ho _ (clA.ne fL3.cla fj.cla (hC.aa 0 3 rfl rfl (by dsimp only; decide))))
      have fk := fk.upd fa k_x
      have fj := n_.upJ
      have hPk := m_upP hPk hPq k_x
      have hFk := m_upF hFk hmF k_x
      refine lv_iload_n (pc := 38) hx hb dX5_become_38 rfl (lv_at hl 0 rfl) ?_
      refine k_i (pc := 39) (k_S E hC hS hA hl.1 (c_X5_bit l D tk N0 sa H.size 0 ) kw_1271 kw_1272 kw_5 kw_1273 (n := 1) (by decide +kernel) rfl ⟨⟨rfl, rfl⟩, ⟨Nat.le_of_ble_eq_true rfl, Nat.le_of_ble_eq_true rfl⟩, (by dsimp only; omega), (by dsimp only; omega)⟩ rfl (Nat.le_of_ble_eq_true rfl) trivial dX5_become_39) hS (fun q z w => absurd w (Nat.not_le.mpr z)) hn (fun r_6 H locs hR hz hk hS => ?_)
      have er_6 := hR
      have fw := fw.new hk
      have fo := fo.kept (hk _ fo.lt (Nat.not_le.mpr fo.lt))
      have fj := fj.kept (hk _ fj.lt (Nat.not_le.mpr fj.lt))
      have fk := fk.new hk
      have fe := fe.kept (hk _ fe.lt (Nat.not_le.mpr fe.lt))
      have fr := fr.kept (hk _ fr.lt (Nat.not_le.mpr fr.lt))
      have fa := fa.kept (hk _ fa.lt (Nat.not_le.mpr fa.lt))
      have fL3 := fL3.kept (hk _ fL3.lt (Nat.not_le.mpr fL3.lt))
      refine r_iret (pc := 42) E hr hlk hS (by omega) (by omega) ?_ dX5_become_42
      have hz9 : ¬ m_fit ta ba = 0 := (fun z9 => c_2 (er_1.trans z9))
      exact ⟨_, _, _, ⟨_, _, _, _, _, fo, fj, fk, fe, fr, fw, ⟨hPm, hPa, hPl, hPe, hPr, hPk⟩, hFk, hFe, hFr, hpk, hn9⟩, ⟨by rw [er_6]; simp only [beR, if_neg hz9]; rw [if_pos (er_4.symm.trans c_5)]; rfl, by simp only [beT, if_neg hz9], by simp only [beB, if_neg hz9], by simp only [beF, if_neg hz9]⟩⟩
    · refine lv_iconst (pc := 25) (v := 1) hx hb dX5_become_25 (by decide) ?_
      refine lv_goto (pc := 26) (tgt := 30) hx hb dX5_become_26 (by decide) ?_
      refine lv_istore_n (pc := 30) (lv' := [(3, .int 1), (0, .ref mo), (1, .int x), (2, .ref pa)]) hx hb dX5_become_30 rfl hl (by decide) rfl (fun ls hl => ?_)
      refine lv_aload_n (pc := 31) hx hb dX5_become_31 rfl (lv_at hl 1 rfl) ?_
      refine r_get (pc := 32) E hC fo 0 (v := .ref ra) rfl rfl (by decide) uX5 (List.mem_cons_of_mem _ kw_1209) (fun _ h => h) dX5_become_32 ?_
      refine lv_iload_n (pc := 35) hx hb dX5_become_35 rfl (lv_at hl 2 rfl) ?_
      refine lv_aload_n (pc := 36) hx hb dX5_become_36 rfl (lv_at hl 3 rfl) ?_
      refine r_aastJ (pc := 37) E hC fj fa hS g_fj k_x hx_x hk_x (by decide) dX5_become_37 (fun H locs n_ ho hz hS => ?_)
      have fw := fw.put ho (fun q9 h9 => clA.ne h9 fj.cla (hC.oa 7 3 rfl rfl)) (fun q9 h9 => clA.ne h9 fj.cla (hC.aa 4 3 rfl rfl (by dsimp only; decide))) (fun q9 h9 => clA.ne h9 fj.cla (hC.cea (Or.inr rfl) 3 rfl))
      have nW_fj : ∀ k, k < 6 → rt k ≠ ra := fun k hk9 => clA.ne (fk k hk9).cla fj.cla (hC.aa 0 3 rfl rfl (by dsimp only; decide))
      have fo := fo.kept (ho _ (clA.ne fo.cl fj.cla (hC.oa 13 3 rfl rfl)))
      have fk := fk.kept (fun k hk9 => ho _ (nW_fj k hk9))
      have fe := fe.kept (ho _ (clA.ne fe.cla fj.cla (hC.aa 0 3 rfl rfl (by dsimp only; decide))))
      have fr := fr.kept (ho _ (clA.ne fr.cla fj.cla (hC.aa 0 3 rfl rfl (by dsimp only; decide))))
      have fa := fa.kept (ho _ (clA.ne fa.cla fj.cla (hC.aa 0 3 rfl rfl (by dsimp only; decide))))
      have fL3 := fL3.kept (ho _ (clA.ne fL3.cla fj.cla (hC.aa 0 3 rfl rfl (by dsimp only; decide))))
      have fk := fk.upd fa k_x
      have fj := n_.upJ
      have hPk := m_upP hPk hPq k_x
      have hFk := m_upF hFk hmF k_x
      refine lv_iload_n (pc := 38) hx hb dX5_become_38 rfl (lv_at hl 0 rfl) ?_
      refine k_i (pc := 39) (k_S E hC hS hA hl.1 (c_X5_bit l D tk N0 sa H.size 1 ) kw_1271 kw_1272 kw_5 kw_1273 (n := 1) (by decide +kernel) rfl ⟨⟨rfl, rfl⟩, ⟨Nat.le_of_ble_eq_true rfl, Nat.le_of_ble_eq_true rfl⟩, (by dsimp only; omega), (by dsimp only; omega)⟩ rfl (Nat.le_of_ble_eq_true rfl) trivial dX5_become_39) hS (fun q z w => absurd w (Nat.not_le.mpr z)) hn (fun r_8 H locs hR hz hk hS => ?_)
      have er_8 := hR
      have fw := fw.new hk
      have fo := fo.kept (hk _ fo.lt (Nat.not_le.mpr fo.lt))
      have fj := fj.kept (hk _ fj.lt (Nat.not_le.mpr fj.lt))
      have fk := fk.new hk
      have fe := fe.kept (hk _ fe.lt (Nat.not_le.mpr fe.lt))
      have fr := fr.kept (hk _ fr.lt (Nat.not_le.mpr fr.lt))
      have fa := fa.kept (hk _ fa.lt (Nat.not_le.mpr fa.lt))
      have fL3 := fL3.kept (hk _ fL3.lt (Nat.not_le.mpr fL3.lt))
      refine r_iret (pc := 42) E hr hlk hS (by omega) (by omega) ?_ dX5_become_42
      have hz9 : ¬ m_fit ta ba = 0 := (fun z9 => c_2 (er_1.trans z9))
      exact ⟨_, _, _, ⟨_, _, _, _, _, fo, fj, fk, fe, fr, fw, ⟨hPm, hPa, hPl, hPe, hPr, hPk⟩, hFk, hFe, hFr, hpk, hn9⟩, ⟨by rw [er_8]; simp only [beR, if_neg hz9]; rw [if_neg (fun z9 => c_5 (er_4.trans z9))]; rfl, by simp only [beT, if_neg hz9], by simp only [beB, if_neg hz9], by simp only [beF, if_neg hz9]⟩⟩
  · refine lv_aload_n (pc := 7) hx hb dX5_become_7 rfl (lv_at hl 0 rfl) ?_
    have hZ0_ := hS.1
    have t_fo := fo.lt
    have t_fj := fj.lt
    have t_fk := fun k (hk9 : k < 6) => (fk k hk9).lt
    have t_fe := fe.lt
    have t_fr := fr.lt
    have t_fa := fa.lt
    refine k_i (pc := 8) (k_V E hC hS hA hl.1 (c1.recv hC fo rfl) rfl (c_X5_no l D tk N0 sa H.size P hPN (fun q h9 => hPs q (Nat.le_trans hS.1 h9)) mo n9 kn th tt bb eT eB oT oB pk ca rf vs  ) kw_1264 kw_1266 kp_22 kw_5 kw_1267 (n := 0) (by decide +kernel) rfl ⟨⟨rfl, rfl⟩, ⟨Nat.le_of_ble_eq_true rfl, Nat.le_of_ble_eq_true rfl⟩, (by dsimp only; omega), (by dsimp only; omega)⟩ rfl (Nat.le_of_ble_eq_true rfl) ⟨_, _, _, _, _, fo, fj, fk, fe, fr, fw, ⟨hPm, hPa, hPl, hPe, hPr, hPk⟩, hFk, hFe, hFr, hpk, hn9⟩ dX5_become_8) hS (fun q _ h => h) hn (fun r_10 H locs hR hz hk hS => ?_)
    obtain ⟨er_10, hM⟩ := hR
    obtain ⟨ra, rl, ex, ro, rt, fo, fj, fk, fe, fr, fw, ⟨hPm, hPa, hPl, hPe, hPr, hPk⟩, hFk, hFe, hFr, hpk, hn9⟩ := hM
    have g_fo := hPm
    have g_fj := hPa
    refine r_iret (pc := 11) E hr hlk hS (by omega) (by omega) ?_ dX5_become_11
    have hz9 : m_fit ta ba = 0 := (er_1.symm.trans c_2)
    exact ⟨_, _, _, ⟨_, _, _, _, _, fo, fj, fk, fe, fr, fw, ⟨hPm, hPa, hPl, hPe, hPr, hPk⟩, hFk, hFe, hFr, hpk, hn9⟩, ⟨by rw [er_10]; simp only [beR, if_pos hz9], by simp only [beT, if_pos hz9], by simp only [beB, if_pos hz9], by simp only [beF, if_pos hz9]⟩⟩
