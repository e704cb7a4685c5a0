set_option maxHeartbeats 4000000 in
set_option maxRecDepth 100000 in
/-- BestratiosModel.partNow(II)I -/
theorem c_X5_partNow (l : Launch) (D : va_G) (tk : Nat → ClassId) (N0 : Nat) (sa : Nat → Nat)  (sz : Nat) (P : Nat → Prop) (hPN : ∀ q, P q → N0 ≤ q) (mo n9 : Nat) (kn th : Int32) (tt bb : Nat → Int64) (eT eB oT oB : Int64) (pk : Nat) (ca rf : Int32) (vs : Nat → Value) (x : Int32) (k_x : Nat) (hx_x : x = nI k_x) (hk_x : k_x < 6) (w_ : Int32) (kw : Nat) (hw1 : w_ = nI kw) (hw2 : kw ≤ 3) : Met l yX5_partNow (wsy yX5_partNow cX5_partNow 5 (some .int)) ({ frames := 1, cells := 1, slots := 4, locals := 25 } : Room) (cP D tk N0 sa [.ref mo, .int x, .int w_] sz (fun H => MI D tk sa P mo tt bb eT eB oT oB pk ca rf vs kn n9 th H)) (kQi (fun r H => r = (m_pt (tt k_x) (bb k_x) kw).toInt32) (nwA sz)) (1) (4) (nwA sz) := by
  refine mStart RX5 rfl (by decide +kernel) (Nat.le_of_ble_eq_true rfl) ?_
  intro p e s m args below meth c E hr hlk hnm hsz hC hF ls hl
  subst hsz
  obtain ⟨hx, hb, -⟩ := id E
  have hA : ∀ q, (nwA s.heap.size) q → N0 ≤ q := fun q h => Nat.le_trans hC.2.1 h
  have hn : ∀ q, s.heap.size ≤ q → (nwA s.heap.size) q := fun q h => h
  have hS : va_S (nwA s.heap.size) s.heap s.heap [] := va_S.rf
  have hl : lv_has ls 5 [(0, .ref mo), (1, .int x), (2, .int w_)] := hl
  have hM : MI D tk sa P mo tt bb eT eB oT oB pk ca rf vs kn n9 th s.heap := hF
  obtain ⟨ra, rl, ex, ro, rt, fo, fj, fk, fe, fr, fw, ⟨hPm, hPa, hPl, hPe, hPr, hPk⟩, hFk, hFe, hFr, hpk, hn9⟩ := hM
  refine lv_aload_n (pc := 0) hx hb dX5_partNow_0 rfl (lv_at hl 0 rfl) ?_
  refine r_get (pc := 1) E hC fo 0 (v := .ref ra) rfl rfl (by decide) uX5 (List.mem_cons_of_mem _ kw_1209) (fun _ h => h) dX5_partNow_1 ?_
  refine lv_iload_n (pc := 4) hx hb dX5_partNow_4 rfl (lv_at hl 1 rfl) ?_
  refine r_aaldJ (pc := 5) E hC fj k_x hx_x hk_x (by decide) rfl dX5_partNow_5 ?_
  have fL1 := fk k_x hk_x
  have mF_fL1 := hFk k_x hk_x
  have Pq_fL1 := hPk k_x hk_x
  refine lv_astore_n (pc := 6) (lv' := [(3, .ref (rt k_x)), (0, .ref mo), (1, .int x), (2, .int w_)]) hx hb dX5_partNow_6 rfl hl (by decide) rfl (fun ls hl => ?_)
  refine lv_iconst (pc := 7) (v := 4) hx hb dX5_partNow_7 (by decide) ?_
  have hS0_ := hS
  refine r_newl (pc := 8) E hC hS (N := 4) (by decide) (by decide) (by decide) (by dsimp only; omega) (by dsimp only; omega) dX5_partNow_8 (fun qf2 H zq_ n_ ho_ hS => ?_)
  have fw := fw.old ho_
  have l_fo_f2 : mo < qf2 := zq_ ▸ fo.lt
  have fo := fo.kept (ho_ _ fo.lt)
  have l_fj_f2 : ra < qf2 := zq_ ▸ fj.lt
  have fj := fj.kept (ho_ _ fj.lt)
  have nW_f2 : ∀ k, k < 6 → rt k ≠ qf2 := fun k hk9 => Nat.ne_of_lt (zq_ ▸ (fk k hk9).lt)
  have fk := fk.kept (fun k hk9 => ho_ _ (fk k hk9).lt)
  have l_fe_f2 : ex < qf2 := zq_ ▸ fe.lt
  have fe := fe.kept (ho_ _ fe.lt)
  have l_fr_f2 : ro < qf2 := zq_ ▸ fr.lt
  have fr := fr.kept (ho_ _ fr.lt)
  have l_fL1_f2 : rt k_x < qf2 := zq_ ▸ fL1.lt
  have fL1 := fL1.kept (ho_ _ fL1.lt)
  have f2 := n_
  have s_f2 : s.heap.size ≤ qf2 := zq_ ▸ hS0_.1
  have g_f2 := hn _ s_f2
  refine lv_dup (pc := 10) hx hb dX5_partNow_10 rfl ?_
  refine lv_iconst (pc := 11) (v := 0) hx hb dX5_partNow_11 (by decide) ?_
  refine lv_aload_n (pc := 12) hx hb dX5_partNow_12 rfl (lv_at hl 0 rfl) ?_
  refine lv_iconst (pc := 13) (v := 0) hx hb dX5_partNow_13 (by decide) ?_
  refine r_l0 (pc := 14) E hC fL1 dX5_partNow_14 ?_
  refine r_last (pc := 15) E hC f2 hS g_f2 (by unfold vp_in; decide) dX5_partNow_15 (fun H locs n_ ho hz hS => ?_)
  have fw := fw.put ho (fun q9 h9 => clA.ne h9 f2.cla (hC.oa 7 0 rfl rfl)) (fun q9 h9 => clA.ne h9 f2.cla (hC.aa 4 0 rfl rfl (by dsimp only; decide))) (fun q9 h9 => clA.ne h9 f2.cla (hC.cea (Or.inr rfl) 0 rfl))
  have fo := fo.kept (ho _ (clA.ne fo.cl f2.cla (hC.oa 13 0 rfl rfl)))
  have fj := fj.kept (ho _ (clA.ne fj.cla f2.cla (hC.aa 3 0 rfl rfl (by dsimp only; decide))))
  have fk := fk.kept (fun k hk9 => ho _ (nW_f2 k hk9))
  have fe := fe.kept (ho _ (Nat.ne_of_lt l_fe_f2))
  have fr := fr.kept (ho _ (Nat.ne_of_lt l_fr_f2))
  have fL1 := fL1.kept (ho _ (Nat.ne_of_lt l_fL1_f2))
  have f2 : c1 D qf2 (.inl (tk 0, 4, .inr (.inl (vp_updL (fun _ => 0) 0 (tt k_x))))) H := n_
  refine lv_dup (pc := 16) hx hb dX5_partNow_16 rfl ?_
  refine lv_iconst (pc := 17) (v := 1) hx hb dX5_partNow_17 (by decide) ?_
  refine lv_aload_n (pc := 18) hx hb dX5_partNow_18 rfl (lv_at hl 0 rfl) ?_
  refine lv_iconst (pc := 19) (v := 1) hx hb dX5_partNow_19 (by decide) ?_
  refine r_l1 (pc := 20) E hC fL1 dX5_partNow_20 ?_
  refine r_last (pc := 21) E hC f2 hS g_f2 (by unfold vp_in; decide) dX5_partNow_21 (fun H locs n_ ho hz hS => ?_)
  have fw := fw.put ho (fun q9 h9 => clA.ne h9 f2.cla (hC.oa 7 0 rfl rfl)) (fun q9 h9 => clA.ne h9 f2.cla (hC.aa 4 0 rfl rfl (by dsimp only; decide))) (fun q9 h9 => clA.ne h9 f2.cla (hC.cea (Or.inr rfl) 0 rfl))
  have fo := fo.kept (ho _ (clA.ne fo.cl f2.cla (hC.oa 13 0 rfl rfl)))
  have fj := fj.kept (ho _ (clA.ne fj.cla f2.cla (hC.aa 3 0 rfl rfl (by dsimp only; decide))))
  have fk := fk.kept (fun k hk9 => ho _ (nW_f2 k hk9))
  have fe := fe.kept (ho _ (Nat.ne_of_lt l_fe_f2))
  have fr := fr.kept (ho _ (Nat.ne_of_lt l_fr_f2))
  have fL1 := fL1.kept (ho _ (Nat.ne_of_lt l_fL1_f2))
  have f2 : c1 D qf2 (.inl (tk 0, 4, .inr (.inl (vp_updL (vp_updL (fun _ => 0) 0 (tt k_x)) 1 (bb k_x))))) H := n_
  refine lv_dup (pc := 22) hx hb dX5_partNow_22 rfl ?_
  refine lv_iconst (pc := 23) (v := 2) hx hb dX5_partNow_23 (by decide) ?_
  refine lv_aload_n (pc := 24) hx hb dX5_partNow_24 rfl (lv_at hl 0 rfl) ?_
  refine lv_iconst (pc := 25) (v := 0) hx hb dX5_partNow_25 (by decide) ?_
  refine r_l0 (pc := 26) E hC fL1 dX5_partNow_26 ?_
  refine lv_lconst (pc := 27) (v := 0) hx hb dX5_partNow_27 (by decide) ?_
  refine k_i (pc := 28) (k_S E hC hS hA hl.1 (c_J13_compare_74951 l D tk N0 sa H.size (tt k_x) 0 ) kw_1391 kw_599 kw_17 kw_600 (n := 2) (by decide +kernel) rfl ⟨⟨rfl, rfl⟩, ⟨Nat.le_of_ble_eq_true rfl, Nat.le_of_ble_eq_true rfl⟩, (by dsimp only; omega), (by dsimp only; omega)⟩ rfl (Nat.le_of_ble_eq_true rfl) trivial dX5_partNow_28) hS (fun q z w => absurd w (Nat.not_le.mpr z)) hn (fun r_3 H locs hR hz hk hS => ?_)
  have er_3 := hR
  have fw := fw.new hk
  have fo := fo.kept (hk _ fo.lt (Nat.not_le.mpr fo.lt))
  have fj := fj.kept (hk _ fj.lt (Nat.not_le.mpr fj.lt))
  have fk := fk.new hk
  have fe := fe.kept (hk _ fe.lt (Nat.not_le.mpr fe.lt))
  have fr := fr.kept (hk _ fr.lt (Nat.not_le.mpr fr.lt))
  have fL1 := fL1.kept (hk _ fL1.lt (Nat.not_le.mpr fL1.lt))
  have f2 := f2.kept (hk _ f2.lt (Nat.not_le.mpr f2.lt))
  refine lv_i2l (pc := 31) (v := r_3.toInt64) hx hb dX5_partNow_31 rfl ?_
  refine r_last (pc := 32) E hC f2 hS g_f2 (by unfold vp_in; decide) dX5_partNow_32 (fun H locs n_ ho hz hS => ?_)
  have fw := fw.put ho (fun q9 h9 => clA.ne h9 f2.cla (hC.oa 7 0 rfl rfl)) (fun q9 h9 => clA.ne h9 f2.cla (hC.aa 4 0 rfl rfl (by dsimp only; decide))) (fun q9 h9 => clA.ne h9 f2.cla (hC.cea (Or.inr rfl) 0 rfl))
  have fo := fo.kept (ho _ (clA.ne fo.cl f2.cla (hC.oa 13 0 rfl rfl)))
  have fj := fj.kept (ho _ (clA.ne fj.cla f2.cla (hC.aa 3 0 rfl rfl (by dsimp only; decide))))
  have fk := fk.kept (fun k hk9 => ho _ (nW_f2 k hk9))
  have fe := fe.kept (ho _ (Nat.ne_of_lt l_fe_f2))
  have fr := fr.kept (ho _ (Nat.ne_of_lt l_fr_f2))
  have fL1 := fL1.kept (ho _ (Nat.ne_of_lt l_fL1_f2))
  have f2 : c1 D qf2 (.inl (tk 0, 4, .inr (.inl (vp_updL (vp_updL (vp_updL (fun _ => 0) 0 (tt k_x)) 1 (bb k_x)) 2 (r_3.toInt64))))) H := n_
  refine lv_dup (pc := 33) hx hb dX5_partNow_33 rfl ?_
  refine lv_iconst (pc := 34) (v := 3) hx hb dX5_partNow_34 (by decide) ?_
  refine lv_aload_n (pc := 35) hx hb dX5_partNow_35 rfl (lv_at hl 0 rfl) ?_
  refine lv_iconst (pc := 36) (v := 0) hx hb dX5_partNow_36 (by decide) ?_
  refine r_l0 (pc := 37) E hC fL1 dX5_partNow_37 ?_
  refine lv_aload_n (pc := 38) hx hb dX5_partNow_38 rfl (lv_at hl 0 rfl) ?_
  refine lv_iconst (pc := 39) (v := 1) hx hb dX5_partNow_39 (by decide) ?_
  refine r_l1 (pc := 40) E hC fL1 dX5_partNow_40 ?_
  refine k_l (pc := 41) (k_S E hC hS hA hl.1 (c_X5_floor l D tk N0 sa H.size (tt k_x) (bb k_x) (m_ne0 mF_fL1.2.1)) kw_1392 kw_1393 kw_5 kw_1394 (n := 2) (by decide +kernel) rfl ⟨⟨rfl, rfl⟩, ⟨Nat.le_of_ble_eq_true rfl, Nat.le_of_ble_eq_true rfl⟩, (by dsimp only; omega), (by dsimp only; omega)⟩ rfl (Nat.le_of_ble_eq_true rfl) trivial dX5_partNow_41) hS (fun q z w => absurd w (Nat.not_le.mpr z)) hn (fun r_5 H locs hR hz hk hS => ?_)
  have er_5 := hR
  have fw := fw.new hk
  have fo := fo.kept (hk _ fo.lt (Nat.not_le.mpr fo.lt))
  have fj := fj.kept (hk _ fj.lt (Nat.not_le.mpr fj.lt))
  have fk := fk.new hk
  have fe := fe.kept (hk _ fe.lt (Nat.not_le.mpr fe.lt))
  have fr := fr.kept (hk _ fr.lt (Nat.not_le.mpr fr.lt))
  have fL1 := fL1.kept (hk _ fL1.lt (Nat.not_le.mpr fL1.lt))
  have f2 := f2.kept (hk _ f2.lt (Nat.not_le.mpr f2.lt))
  refine r_last (pc := 44) E hC f2 hS g_f2 (by unfold vp_in; decide) dX5_partNow_44 (fun H locs n_ ho hz hS => ?_)
  have fw := fw.put ho (fun q9 h9 => clA.ne h9 f2.cla (hC.oa 7 0 rfl rfl)) (fun q9 h9 => clA.ne h9 f2.cla (hC.aa 4 0 rfl rfl (by dsimp only; decide))) (fun q9 h9 => clA.ne h9 f2.cla (hC.cea (Or.inr rfl) 0 rfl))
  have fo := fo.kept (ho _ (clA.ne fo.cl f2.cla (hC.oa 13 0 rfl rfl)))
  have fj := fj.kept (ho _ (clA.ne fj.cla f2.cla (hC.aa 3 0 rfl rfl (by dsimp only; decide))))
  have fk := fk.kept (fun k hk9 => ho _ (nW_f2 k hk9))
  have fe := fe.kept (ho _ (Nat.ne_of_lt l_fe_f2))
  have fr := fr.kept (ho _ (Nat.ne_of_lt l_fr_f2))
  have fL1 := fL1.kept (ho _ (Nat.ne_of_lt l_fL1_f2))
  have f2 : c1 D qf2 (.inl (tk 0, 4, .inr (.inl (vp_updL (vp_updL (vp_updL (vp_updL (fun _ => 0) 0 (tt k_x)) 1 (bb k_x)) 2 (r_3.toInt64)) 3 (r_5))))) H := n_
  refine lv_astore (pc := 45) (lv' := [(4, .ref qf2), (3, .ref (rt k_x)), (0, .ref mo), (1, .int x), (2, .int w_)]) hx hb dX5_partNow_45 hl (by decide) rfl (fun ls hl => ?_)
  refine lv_aload (pc := 47) hx hb dX5_partNow_47 (lv_at hl 0 rfl) ?_
  refine lv_iload_n (pc := 49) hx hb dX5_partNow_49 rfl (lv_at hl 4 rfl) ?_
  refine r_lald (pc := 50) E hC f2 (by rw [hw1]; exact vp_in_nI (by omega) (by decide)) dX5_partNow_50 ?_
  refine lv_l2i (pc := 51) (v := ((vp_updL (vp_updL (vp_updL (vp_updL (fun _ => 0) 0 (tt k_x)) 1 (bb k_x)) 2 (r_3.toInt64)) 3 (r_5)) (w_).toNatClampNeg).toInt32) hx hb dX5_partNow_51 rfl ?_
  refine r_iret (pc := 52) E hr hlk hS (by omega) (by omega) ?_ dX5_partNow_52
  have hk4 : kw = 0 ∨ kw = 1 ∨ kw = 2 ∨ kw = 3 := by omega
  subst hw1
  rw [nI_clamp (by omega)]
  rcases hk4 with rfl | rfl | rfl | rfl <;> (subst er_3 er_5; simp [m_pt, vp_updL])
