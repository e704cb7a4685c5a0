set_option maxHeartbeats 4000000 in
set_option maxRecDepth 100000 in
/-- BestratiosModel.<init>()V -/
theorem c_X5_init (l : Launch) (D : va_G) (tk : Nat → ClassId) (N0 : Nat) (sa : Nat → Nat)  (sz : Nat) (P : Nat → Prop) (mo : Nat) (hPm : P mo) (hPs : ∀ q, sz ≤ q → P q) (ha9 : N0 ≤ mo) : Met l yX5_init (wsy yX5_init cX5_init 2 none) ({ frames := 4, cells := 10, slots := 25, locals := 80 } : Room) (cP D tk N0 sa [.ref mo] sz (fun H => c1 D mo (.inr (13, [.null, .null, .null, .null, .int 0, .int 0, .int 0, .int 0, .int 0])) H)) (kQv (fun H => MI D tk sa P mo (fun _ => m_loT 0 1) (fun _ => m_loB 0 1) 0 1 0 1 0 0 0 (fun _ => .null) 0 0 0 H) (inA1 mo sz)) (10) (25) (inA1 mo sz) := by
  refine mStart RX5 rfl (by decide +kernel) (Nat.le_of_ble_eq_true rfl) ?_
  intro p e s m args below meth c E hr hlk hnm hsz hC hF ls hl
  subst hsz
  obtain ⟨hx, hb, -⟩ := id E
  have hA : ∀ q, (inA1 mo s.heap.size) q → N0 ≤ q := fun q h => h.elim (fun z => z ▸ ha9) (fun z => Nat.le_trans hC.2.1 z)
  have hn : ∀ q, s.heap.size ≤ q → (inA1 mo s.heap.size) q := fun q h => Or.inr h
  have hS : va_S (inA1 mo s.heap.size) s.heap s.heap [] := va_S.rf
  have hl : lv_has ls 2 [(0, .ref mo)] := hl
  have f0 : c1 D mo (.inr (13, [.null, .null, .null, .null, .int 0, .int 0, .int 0, .int 0, .int 0])) s.heap := hF
  have g_f0 : (inA1 mo s.heap.size) mo := Or.inl rfl
  refine lv_aload_n (pc := 0) hx hb dX5_init_0 rfl (lv_at hl 0 rfl) ?_
  refine r_oinit (pc := 1) E hl.1 kw_1167 (Nat.le_of_ble_eq_true rfl) (by decide) (by decide) dX5_init_1 ?_
  refine lv_aload_n (pc := 4) hx hb dX5_init_4 rfl (lv_at hl 0 rfl) ?_
  refine lv_bipush (pc := 5) (v := 6) hx hb dX5_init_5 (by decide) ?_
  have hS0_ := hS
  refine r_anewJ (pc := 7) E hC hS kw_1168 (N := 6) (by decide) (by decide) (by decide) (by dsimp only; omega) (by dsimp only; omega) dX5_init_7 (fun qf1 H zq_ n_ ho_ hS => ?_)
  have l_f0_f1 : mo < qf1 := zq_ ▸ f0.lt
  have f0 := f0.kept (ho_ _ f0.lt)
  have f1 := n_
  have s_f1 : s.heap.size ≤ qf1 := zq_ ▸ hS0_.1
  have g_f1 := hn _ s_f1
  refine r_putF (pc := 10) E hC (hnm.trans rfl) f0 hS g_f0 0 tyX5 tyX5_ok nmX5 rfl (by decide) (Nat.le_of_ble_eq_true rfl) uX5 (List.mem_cons_of_mem _ kw_1209) (fun _ h => h) rfl rfl rfl rfl dX5_init_10 (fun H locs n_ ho hz hS => ?_)
  have f1 := f1.kept (ho _ (clA.ne f1.cla f0.cl (hC.ao 13 3 rfl rfl)))
  have f0 : c1 D mo (.inr (13, [.ref qf1, .null, .null, .null, .int 0, .int 0, .int 0, .int 0, .int 0])) H := n_
  refine lv_aload_n (pc := 13) hx hb dX5_init_13 rfl (lv_at hl 0 rfl) ?_
  have hS0_ := hS
  refine r_new (pc := 14) E hC hS tyJx4a65c_ok uJx4a65c (List.mem_cons_of_mem _ kw_1170) (List.mem_cons_of_mem _ kw_1171) (List.mem_cons_of_mem _ kw_8) (ci := 7) rfl (fs := [.int 0, .null, .int 0]) (by decide) (by dsimp only; omega) (by dsimp only; omega) dX5_init_14 (fun qf2 H zq_ n_ ho_ hS => ?_)
  have l_f0_f2 : mo < qf2 := zq_ ▸ f0.lt
  have f0 := f0.kept (ho_ _ f0.lt)
  have l_f1_f2 : qf1 < qf2 := zq_ ▸ f1.lt
  have f1 := f1.kept (ho_ _ f1.lt)
  have f2 := n_
  have s_f2 : s.heap.size ≤ qf2 := zq_ ▸ hS0_.1
  have g_f2 := hn _ s_f2
  refine lv_dup (pc := 17) hx hb dX5_init_17 rfl ?_
  refine k_v (pc := 18) (k_I E hC hS hA hl.1 (c_Jx4a65c_init_da8c8 l D tk N0 sa H.size qf2 (hA _ g_f2)) kw_1172 kw_1173 kw_8 kw_1174 rfl (n := 0) (by decide +kernel) rfl ⟨⟨rfl, rfl⟩, ⟨Nat.le_of_ble_eq_true rfl, Nat.le_of_ble_eq_true rfl⟩, (by dsimp only; omega), (by dsimp only; omega)⟩ rfl (Nat.le_of_ble_eq_true rfl) f2 dX5_init_18) hS (inA1.to g_f2) hn (fun H locs hR hz hk hS => ?_)
  have f0 := f0.kept (hk _ f0.lt (inA1.not (clA.ne f0.cl f2.cl (hC.oo 13 7 rfl rfl (by decide))) f0.lt))
  have f1 := f1.kept (hk _ f1.lt (inA1.not (clA.ne f1.cla f2.cl (hC.ao 7 3 rfl rfl)) f1.lt))
  have f2 := hR
  refine r_putF (pc := 21) E hC (hnm.trans rfl) f0 hS g_f0 1 tyX5 tyX5_ok nmX5 rfl (by decide) (Nat.le_of_ble_eq_true rfl) uX5 (List.mem_cons_of_mem _ kw_1210) (fun _ h => h) rfl rfl rfl rfl dX5_init_21 (fun H locs n_ ho hz hS => ?_)
  have f1 := f1.kept (ho _ (clA.ne f1.cla f0.cl (hC.ao 13 3 rfl rfl)))
  have f2 := f2.kept (ho _ (clA.ne f2.cl f0.cl (hC.oo 7 13 rfl rfl (by decide))))
  have f0 : c1 D mo (.inr (13, [.ref qf1, .ref qf2, .null, .null, .int 0, .int 0, .int 0, .int 0, .int 0])) H := n_
  refine lv_aload_n (pc := 24) hx hb dX5_init_24 rfl (lv_at hl 0 rfl) ?_
  refine lv_iconst (pc := 25) (v := 2) hx hb dX5_init_25 (by decide) ?_
  have hS0_ := hS
  refine r_newl (pc := 26) E hC hS (N := 2) (by decide) (by decide) (by decide) (by dsimp only; omega) (by dsimp only; omega) dX5_init_26 (fun qf4 H zq_ n_ ho_ hS => ?_)
  have l_f0_f4 : mo < qf4 := zq_ ▸ f0.lt
  have f0 := f0.kept (ho_ _ f0.lt)
  have l_f1_f4 : qf1 < qf4 := zq_ ▸ f1.lt
  have f1 := f1.kept (ho_ _ f1.lt)
  have l_f2_f4 : qf2 < qf4 := zq_ ▸ f2.lt
  have f2 := f2.kept (ho_ _ f2.lt)
  have f4 := n_
  have s_f4 : s.heap.size ≤ qf4 := zq_ ▸ hS0_.1
  have g_f4 := hn _ s_f4
  refine lv_dup (pc := 28) hx hb dX5_init_28 rfl ?_
  refine lv_iconst (pc := 29) (v := 0) hx hb dX5_init_29 (by decide) ?_
  refine lv_lconst (pc := 30) (v := 0) hx hb dX5_init_30 (by decide) ?_
  refine r_last (pc := 31) E hC f4 hS g_f4 (by unfold vp_in; decide) dX5_init_31 (fun H locs n_ ho hz hS => ?_)
  have f0 := f0.kept (ho _ (clA.ne f0.cl f4.cla (hC.oa 13 0 rfl rfl)))
  have f1 := f1.kept (ho _ (clA.ne f1.cla f4.cla (hC.aa 3 0 rfl rfl (by dsimp only; decide))))
  have f2 := f2.kept (ho _ (clA.ne f2.cl f4.cla (hC.oa 7 0 rfl rfl)))
  have f4 : c1 D qf4 (.inl (tk 0, 2, .inr (.inl (vp_updL (fun _ => 0) 0 (0))))) H := n_
  refine lv_dup (pc := 32) hx hb dX5_init_32 rfl ?_
  refine lv_iconst (pc := 33) (v := 1) hx hb dX5_init_33 (by decide) ?_
  refine lv_lconst (pc := 34) (v := 1) hx hb dX5_init_34 (by decide) ?_
  refine r_last (pc := 35) E hC f4 hS g_f4 (by unfold vp_in; decide) dX5_init_35 (fun H locs n_ ho hz hS => ?_)
  have f0 := f0.kept (ho _ (clA.ne f0.cl f4.cla (hC.oa 13 0 rfl rfl)))
  have f1 := f1.kept (ho _ (clA.ne f1.cla f4.cla (hC.aa 3 0 rfl rfl (by dsimp only; decide))))
  have f2 := f2.kept (ho _ (clA.ne f2.cl f4.cla (hC.oa 7 0 rfl rfl)))
  have f4 : L2 D tk qf4 (0) (1) H := n_
  refine r_put (pc := 36) E hC f0 hS g_f0 2 tyX5 tyX5_ok nmX5 rfl (by decide) (Nat.le_of_ble_eq_true rfl) uX5 (List.mem_cons_of_mem _ kw_1211) (fun _ h => h) rfl rfl rfl dX5_init_36 (fun H locs n_ ho hz hS => ?_)
  have f1 := f1.kept (ho _ (clA.ne f1.cla f0.cl (hC.ao 13 3 rfl rfl)))
  have f2 := f2.kept (ho _ (clA.ne f2.cl f0.cl (hC.oo 7 13 rfl rfl (by decide))))
  have f4 := f4.kept (ho _ (clA.ne f4.cla f0.cl (hC.ao 13 0 rfl rfl)))
  have f0 : c1 D mo (.inr (13, [.ref qf1, .ref qf2, .ref qf4, .null, .int 0, .int 0, .int 0, .int 0, .int 0])) H := n_
  refine lv_aload_n (pc := 39) hx hb dX5_init_39 rfl (lv_at hl 0 rfl) ?_
  refine lv_iconst (pc := 40) (v := 2) hx hb dX5_init_40 (by decide) ?_
  have hS0_ := hS
  refine r_newl (pc := 41) E hC hS (N := 2) (by decide) (by decide) (by decide) (by dsimp only; omega) (by dsimp only; omega) dX5_init_41 (fun qf5 H zq_ n_ ho_ hS => ?_)
  have l_f0_f5 : mo < qf5 := zq_ ▸ f0.lt
  have f0 := f0.kept (ho_ _ f0.lt)
  have l_f1_f5 : qf1 < qf5 := zq_ ▸ f1.lt
  have f1 := f1.kept (ho_ _ f1.lt)
  have l_f2_f5 : qf2 < qf5 := zq_ ▸ f2.lt
  have f2 := f2.kept (ho_ _ f2.lt)
  have l_f4_f5 : qf4 < qf5 := zq_ ▸ f4.lt
  have f4 := f4.kept (ho_ _ f4.lt)
  have f5 := n_
  have s_f5 : s.heap.size ≤ qf5 := zq_ ▸ hS0_.1
  have g_f5 := hn _ s_f5
  refine lv_dup (pc := 43) hx hb dX5_init_43 rfl ?_
  refine lv_iconst (pc := 44) (v := 0) hx hb dX5_init_44 (by decide) ?_
  refine lv_lconst (pc := 45) (v := 0) hx hb dX5_init_45 (by decide) ?_
  refine r_last (pc := 46) E hC f5 hS g_f5 (by unfold vp_in; decide) dX5_init_46 (fun H locs n_ ho hz hS => ?_)
  have f0 := f0.kept (ho _ (clA.ne f0.cl f5.cla (hC.oa 13 0 rfl rfl)))
  have f1 := f1.kept (ho _ (clA.ne f1.cla f5.cla (hC.aa 3 0 rfl rfl (by dsimp only; decide))))
  have f2 := f2.kept (ho _ (clA.ne f2.cl f5.cla (hC.oa 7 0 rfl rfl)))
  have f4 := f4.kept (ho _ (Nat.ne_of_lt l_f4_f5))
  have f5 : c1 D qf5 (.inl (tk 0, 2, .inr (.inl (vp_updL (fun _ => 0) 0 (0))))) H := n_
  refine lv_dup (pc := 47) hx hb dX5_init_47 rfl ?_
  refine lv_iconst (pc := 48) (v := 1) hx hb dX5_init_48 (by decide) ?_
  refine lv_lconst (pc := 49) (v := 1) hx hb dX5_init_49 (by decide) ?_
  refine r_last (pc := 50) E hC f5 hS g_f5 (by unfold vp_in; decide) dX5_init_50 (fun H locs n_ ho hz hS => ?_)
  have f0 := f0.kept (ho _ (clA.ne f0.cl f5.cla (hC.oa 13 0 rfl rfl)))
  have f1 := f1.kept (ho _ (clA.ne f1.cla f5.cla (hC.aa 3 0 rfl rfl (by dsimp only; decide))))
  have f2 := f2.kept (ho _ (clA.ne f2.cl f5.cla (hC.oa 7 0 rfl rfl)))
  have f4 := f4.kept (ho _ (Nat.ne_of_lt l_f4_f5))
  have f5 : L2 D tk qf5 (0) (1) H := n_
  refine r_put (pc := 51) E hC f0 hS g_f0 3 tyX5 tyX5_ok nmX5 rfl (by decide) (Nat.le_of_ble_eq_true rfl) uX5 (List.mem_cons_of_mem _ kw_1212) (fun _ h => h) rfl rfl rfl dX5_init_51 (fun H locs n_ ho hz hS => ?_)
  have f1 := f1.kept (ho _ (clA.ne f1.cla f0.cl (hC.ao 13 3 rfl rfl)))
  have f2 := f2.kept (ho _ (clA.ne f2.cl f0.cl (hC.oo 7 13 rfl rfl (by decide))))
  have f4 := f4.kept (ho _ (clA.ne f4.cla f0.cl (hC.ao 13 0 rfl rfl)))
  have f5 := f5.kept (ho _ (clA.ne f5.cla f0.cl (hC.ao 13 0 rfl rfl)))
  have f0 : c1 D mo (.inr (13, [.ref qf1, .ref qf2, .ref qf4, .ref qf5, .int 0, .int 0, .int 0, .int 0, .int 0])) H := n_
  refine lv_iconst (pc := 54) (v := 0) hx hb dX5_init_54 (by decide) ?_
  refine lv_istore_n (pc := 55) (lv' := [(1, .int 0), (0, .ref mo)]) hx hb dX5_init_55 rfl hl (by decide) rfl (fun ls hl => ?_)
  refine lv_iload_n (pc := 56) hx hb dX5_init_56 rfl (lv_at hl 0 rfl) ?_
  refine lv_bipush (pc := 57) (v := 6) hx hb dX5_init_57 (by decide) ?_
  refine lv_icmp_ge (pc := 59) (tgt := 79) hx hb dX5_init_59 (by decide) (fun c_6 => ?_) (fun c_6 => ?_)
  · exact absurd c_6 (by decide)
  refine lv_aload_n (pc := 62) hx hb dX5_init_62 rfl (lv_at hl 1 rfl) ?_
  refine r_get (pc := 63) E hC f0 0 (v := .ref qf1) rfl rfl (by decide) uX5 (List.mem_cons_of_mem _ kw_1209) (fun _ h => h) dX5_init_63 ?_
  refine lv_iload_n (pc := 66) hx hb dX5_init_66 rfl (lv_at hl 0 rfl) ?_
  refine lv_lconst (pc := 67) (v := 0) hx hb dX5_init_67 (by decide) ?_
  refine lv_lconst (pc := 68) (v := 1) hx hb dX5_init_68 (by decide) ?_
  have hZ0_ := hS.1
  have t_f0 := f0.lt
  have t_f1 := f1.lt
  have t_f2 := f2.lt
  have t_f4 := f4.lt
  have t_f5 := f5.lt
  refine k_r (pc := 69) (k_S E hC hS hA hl.1 (c_X5_lowest l D tk N0 sa H.size 0 1 m_div01) kw_1199 kw_1200 kw_5 kw_1201 (n := 2) (by decide +kernel) rfl ⟨⟨rfl, rfl⟩, ⟨Nat.le_of_ble_eq_true rfl, Nat.le_of_ble_eq_true rfl⟩, (by dsimp only; omega), (by dsimp only; omega)⟩ rfl (Nat.le_of_ble_eq_true rfl) trivial dX5_init_69) hS (fun q z w => absurd w (Nat.not_le.mpr z)) hn (fun r_7 H locs hR hz hk hS => ?_)
  have f0 := f0.kept (hk _ f0.lt (Nat.not_le.mpr f0.lt))
  have f1 := f1.kept (hk _ f1.lt (Nat.not_le.mpr f1.lt))
  have f2 := f2.kept (hk _ f2.lt (Nat.not_le.mpr f2.lt))
  have f4 := f4.kept (hk _ f4.lt (Nat.not_le.mpr f4.lt))
  have f5 := f5.kept (hk _ f5.lt (Nat.not_le.mpr f5.lt))
  obtain ⟨z9_, f8⟩ := hR
  have s_f8 : s.heap.size ≤ r_7 := Nat.le_trans hZ0_ z9_
  have g_f8 := hn _ s_f8
  have l_f0_f8 : mo < r_7 := Nat.lt_of_lt_of_le t_f0 z9_
  have l_f1_f8 : qf1 < r_7 := Nat.lt_of_lt_of_le t_f1 z9_
  have l_f2_f8 : qf2 < r_7 := Nat.lt_of_lt_of_le t_f2 z9_
  have l_f4_f8 : qf4 < r_7 := Nat.lt_of_lt_of_le t_f4 z9_
  have l_f5_f8 : qf5 < r_7 := Nat.lt_of_lt_of_le t_f5 z9_
  refine r_aastJ (pc := 72) E hC f1 f8 hS g_f1 0 rfl (by decide) (by decide) dX5_init_72 (fun H locs n_ ho hz hS => ?_)
  have f0 := f0.kept (ho _ (clA.ne f0.cl f1.cla (hC.oa 13 3 rfl rfl)))
  have f2 := f2.kept (ho _ (clA.ne f2.cl f1.cla (hC.oa 7 3 rfl rfl)))
  have f4 := f4.kept (ho _ (clA.ne f4.cla f1.cla (hC.aa 0 3 rfl rfl (by dsimp only; decide))))
  have f5 := f5.kept (ho _ (clA.ne f5.cla f1.cla (hC.aa 0 3 rfl rfl (by dsimp only; decide))))
  have f8 := f8.kept (ho _ (clA.ne f8.cla f1.cla (hC.aa 0 3 rfl rfl (by dsimp only; decide))))
  have f1 := n_
  refine lv_iinc (pc := 73) (v := 1) (lv' := [(1, .int 1), (0, .ref mo)]) hx hb dX5_init_73 hl (k := 0) rfl (by decide) (by decide) rfl (fun ls hl => ?_)
  refine lv_goto (pc := 76) (tgt := 56) hx hb dX5_init_76 (by decide) ?_
  refine lv_iload_n (pc := 56) hx hb dX5_init_56 rfl (lv_at hl 0 rfl) ?_
  refine lv_bipush (pc := 57) (v := 6) hx hb dX5_init_57 (by decide) ?_
  refine lv_icmp_ge (pc := 59) (tgt := 79) hx hb dX5_init_59 (by decide) (fun c_9 => ?_) (fun c_9 => ?_)
  · exact absurd c_9 (by decide)
  refine lv_aload_n (pc := 62) hx hb dX5_init_62 rfl (lv_at hl 1 rfl) ?_
  refine r_get (pc := 63) E hC f0 0 (v := .ref qf1) rfl rfl (by decide) uX5 (List.mem_cons_of_mem _ kw_1209) (fun _ h => h) dX5_init_63 ?_
  refine lv_iload_n (pc := 66) hx hb dX5_init_66 rfl (lv_at hl 0 rfl) ?_
  refine lv_lconst (pc := 67) (v := 0) hx hb dX5_init_67 (by decide) ?_
  refine lv_lconst (pc := 68) (v := 1) hx hb dX5_init_68 (by decide) ?_
  have hZ0_ := hS.1
  have t_f0 := f0.lt
  have t_f1 := f1.lt
  have t_f2 := f2.lt
  have t_f4 := f4.lt
  have t_f5 := f5.lt
  have t_f8 := f8.lt
  refine k_r (pc := 69) (k_S E hC hS hA hl.1 (c_X5_lowest l D tk N0 sa H.size 0 1 m_div01) kw_1199 kw_1200 kw_5 kw_1201 (n := 2) (by decide +kernel) rfl ⟨⟨rfl, rfl⟩, ⟨Nat.le_of_ble_eq_true rfl, Nat.le_of_ble_eq_true rfl⟩, (by dsimp only; omega), (by dsimp only; omega)⟩ rfl (Nat.le_of_ble_eq_true rfl) trivial dX5_init_69) hS (fun q z w => absurd w (Nat.not_le.mpr z)) hn (fun r_10 H locs hR hz hk hS => ?_)
  have f0 := f0.kept (hk _ f0.lt (Nat.not_le.mpr f0.lt))
  have f1 := f1.kept (hk _ f1.lt (Nat.not_le.mpr f1.lt))
  have f2 := f2.kept (hk _ f2.lt (Nat.not_le.mpr f2.lt))
  have f4 := f4.kept (hk _ f4.lt (Nat.not_le.mpr f4.lt))
  have f5 := f5.kept (hk _ f5.lt (Nat.not_le.mpr f5.lt))
  have f8 := f8.kept (hk _ f8.lt (Nat.not_le.mpr f8.lt))
  obtain ⟨z9_, f11⟩ := hR
  have s_f11 : s.heap.size ≤ r_10 := Nat.le_trans hZ0_ z9_
  have g_f11 := hn _ s_f11
  have l_f0_f11 : mo < r_10 := Nat.lt_of_lt_of_le t_f0 z9_
  have l_f1_f11 : qf1 < r_10 := Nat.lt_of_lt_of_le t_f1 z9_
  have l_f2_f11 : qf2 < r_10 := Nat.lt_of_lt_of_le t_f2 z9_
  have l_f4_f11 : qf4 < r_10 := Nat.lt_of_lt_of_le t_f4 z9_
  have l_f5_f11 : qf5 < r_10 := Nat.lt_of_lt_of_le t_f5 z9_
  have l_f8_f11 : r_7 < r_10 := Nat.lt_of_lt_of_le t_f8 z9_
  refine r_aastJ (pc := 72) E hC f1 f11 hS g_f1 1 rfl (by decide) (by decide) dX5_init_72 (fun H locs n_ ho hz hS => ?_)
  have f0 := f0.kept (ho _ (clA.ne f0.cl f1.cla (hC.oa 13 3 rfl rfl)))
  have f2 := f2.kept (ho _ (clA.ne f2.cl f1.cla (hC.oa 7 3 rfl rfl)))
  have f4 := f4.kept (ho _ (clA.ne f4.cla f1.cla (hC.aa 0 3 rfl rfl (by dsimp only; decide))))
  have f5 := f5.kept (ho _ (clA.ne f5.cla f1.cla (hC.aa 0 3 rfl rfl (by dsimp only; decide))))
  have f8 := f8.kept (ho _ (clA.ne f8.cla f1.cla (hC.aa 0 3 rfl rfl (by dsimp only; decide))))
  have f11 := f11.kept (ho _ (clA.ne f11.cla f1.cla (hC.aa 0 3 rfl rfl (by dsimp only; decide))))
  have f1 := n_
  refine lv_iinc (pc := 73) (v := 2) (lv' := [(1, .int 2), (0, .ref mo)]) hx hb dX5_init_73 hl (k := 0) rfl (by decide) (by decide) rfl (fun ls hl => ?_)
  refine lv_goto (pc := 76) (tgt := 56) hx hb dX5_init_76 (by decide) ?_
  refine lv_iload_n (pc := 56) hx hb dX5_init_56 rfl (lv_at hl 0 rfl) ?_
  refine lv_bipush (pc := 57) (v := 6) hx hb dX5_init_57 (by decide) ?_
  refine lv_icmp_ge (pc := 59) (tgt := 79) hx hb dX5_init_59 (by decide) (fun c_12 => ?_) (fun c_12 => ?_)
  · exact absurd c_12 (by decide)
  refine lv_aload_n (pc := 62) hx hb dX5_init_62 rfl (lv_at hl 1 rfl) ?_
  refine r_get (pc := 63) E hC f0 0 (v := .ref qf1) rfl rfl (by decide) uX5 (List.mem_cons_of_mem _ kw_1209) (fun _ h => h) dX5_init_63 ?_
  refine lv_iload_n (pc := 66) hx hb dX5_init_66 rfl (lv_at hl 0 rfl) ?_
  refine lv_lconst (pc := 67) (v := 0) hx hb dX5_init_67 (by decide) ?_
  refine lv_lconst (pc := 68) (v := 1) hx hb dX5_init_68 (by decide) ?_
  have hZ0_ := hS.1
  have t_f0 := f0.lt
  have t_f1 := f1.lt
  have t_f2 := f2.lt
  have t_f4 := f4.lt
  have t_f5 := f5.lt
  have t_f8 := f8.lt
  have t_f11 := f11.lt
  refine k_r (pc := 69) (k_S E hC hS hA hl.1 (c_X5_lowest l D tk N0 sa H.size 0 1 m_div01) kw_1199 kw_1200 kw_5 kw_1201 (n := 2) (by decide +kernel) rfl ⟨⟨rfl, rfl⟩, ⟨Nat.le_of_ble_eq_true rfl, Nat.le_of_ble_eq_true rfl⟩, (by dsimp only; omega), (by dsimp only; omega)⟩ rfl (Nat.le_of_ble_eq_true rfl) trivial dX5_init_69) hS (fun q z w => absurd w (Nat.not_le.mpr z)) hn (fun r_13 H locs hR hz hk hS => ?_)
  have f0 := f0.kept (hk _ f0.lt (Nat.not_le.mpr f0.lt))
  have f1 := f1.kept (hk _ f1.lt (Nat.not_le.mpr f1.lt))
  have f2 := f2.kept (hk _ f2.lt (Nat.not_le.mpr f2.lt))
  have f4 := f4.kept (hk _ f4.lt (Nat.not_le.mpr f4.lt))
  have f5 := f5.kept (hk _ f5.lt (Nat.not_le.mpr f5.lt))
  have f8 := f8.kept (hk _ f8.lt (Nat.not_le.mpr f8.lt))
  have f11 := f11.kept (hk _ f11.lt (Nat.not_le.mpr f11.lt))
  obtain ⟨z9_, f14⟩ := hR
  have s_f14 : s.heap.size ≤ r_13 := Nat.le_trans hZ0_ z9_
  have g_f14 := hn _ s_f14
  have l_f0_f14 : mo < r_13 := Nat.lt_of_lt_of_le t_f0 z9_
  have l_f1_f14 : qf1 < r_13 := Nat.lt_of_lt_of_le t_f1 z9_
  have l_f2_f14 : qf2 < r_13 := Nat.lt_of_lt_of_le t_f2 z9_
  have l_f4_f14 : qf4 < r_13 := Nat.lt_of_lt_of_le t_f4 z9_
  have l_f5_f14 : qf5 < r_13 := Nat.lt_of_lt_of_le t_f5 z9_
  have l_f8_f14 : r_7 < r_13 := Nat.lt_of_lt_of_le t_f8 z9_
  have l_f11_f14 : r_10 < r_13 := Nat.lt_of_lt_of_le t_f11 z9_
  refine r_aastJ (pc := 72) E hC f1 f14 hS g_f1 2 rfl (by decide) (by decide) dX5_init_72 (fun H locs n_ ho hz hS => ?_)
  have f0 := f0.kept (ho _ (clA.ne f0.cl f1.cla (hC.oa 13 3 rfl rfl)))
  have f2 := f2.kept (ho _ (clA.ne f2.cl f1.cla (hC.oa 7 3 rfl rfl)))
  have f4 := f4.kept (ho _ (clA.ne f4.cla f1.cla (hC.aa 0 3 rfl rfl (by dsimp only; decide))))
  have f5 := f5.kept (ho _ (clA.ne f5.cla f1.cla (hC.aa 0 3 rfl rfl (by dsimp only; decide))))
  have f8 := f8.kept (ho _ (clA.ne f8.cla f1.cla (hC.aa 0 3 rfl rfl (by dsimp only; decide))))
  have f11 := f11.kept (ho _ (clA.ne f11.cla f1.cla (hC.aa 0 3 rfl rfl (by dsimp only; decide))))
  have f14 := f14.kept (ho _ (clA.ne f14.cla f1.cla (hC.aa 0 3 rfl rfl (by dsimp only; decide))))
  have f1 := n_
  refine lv_iinc (pc := 73) (v := 3) (lv' := [(1, .int 3), (0, .ref mo)]) hx hb dX5_init_73 hl (k := 0) rfl (by decide) (by decide) rfl (fun ls hl => ?_)
  refine lv_goto (pc := 76) (tgt := 56) hx hb dX5_init_76 (by decide) ?_
  refine lv_iload_n (pc := 56) hx hb dX5_init_56 rfl (lv_at hl 0 rfl) ?_
  refine lv_bipush (pc := 57) (v := 6) hx hb dX5_init_57 (by decide) ?_
  refine lv_icmp_ge (pc := 59) (tgt := 79) hx hb dX5_init_59 (by decide) (fun c_15 => ?_) (fun c_15 => ?_)
  · exact absurd c_15 (by decide)
  refine lv_aload_n (pc := 62) hx hb dX5_init_62 rfl (lv_at hl 1 rfl) ?_
  refine r_get (pc := 63) E hC f0 0 (v := .ref qf1) rfl rfl (by decide) uX5 (List.mem_cons_of_mem _ kw_1209) (fun _ h => h) dX5_init_63 ?_
  refine lv_iload_n (pc := 66) hx hb dX5_init_66 rfl (lv_at hl 0 rfl) ?_
  refine lv_lconst (pc := 67) (v := 0) hx hb dX5_init_67 (by decide) ?_
  refine lv_lconst (pc := 68) (v := 1) hx hb dX5_init_68 (by decide) ?_
  have hZ0_ := hS.1
  have t_f0 := f0.lt
  have t_f1 := f1.lt
  have t_f2 := f2.lt
  have t_f4 := f4.lt
  have t_f5 := f5.lt
  have t_f8 := f8.lt
  have t_f11 := f11.lt
  have t_f14 := f14.lt
  refine k_r (pc := 69) (k_S E hC hS hA hl.1 (c_X5_lowest l D tk N0 sa H.size 0 1 m_div01) kw_1199 kw_1200 kw_5 kw_1201 (n := 2) (by decide +kernel) rfl ⟨⟨rfl, rfl⟩, ⟨Nat.le_of_ble_eq_true rfl, Nat.le_of_ble_eq_true rfl⟩, (by dsimp only; omega), (by dsimp only; omega)⟩ rfl (Nat.le_of_ble_eq_true rfl) trivial dX5_init_69) hS (fun q z w => absurd w (Nat.not_le.mpr z)) hn (fun r_16 H locs hR hz hk hS => ?_)
  have f0 := f0.kept (hk _ f0.lt (Nat.not_le.mpr f0.lt))
  have f1 := f1.kept (hk _ f1.lt (Nat.not_le.mpr f1.lt))
  have f2 := f2.kept (hk _ f2.lt (Nat.not_le.mpr f2.lt))
  have f4 := f4.kept (hk _ f4.lt (Nat.not_le.mpr f4.lt))
  have f5 := f5.kept (hk _ f5.lt (Nat.not_le.mpr f5.lt))
  have f8 := f8.kept (hk _ f8.lt (Nat.not_le.mpr f8.lt))
  have f11 := f11.kept (hk _ f11.lt (Nat.not_le.mpr f11.lt))
  have f14 := f14.kept (hk _ f14.lt (Nat.not_le.mpr f14.lt))
  obtain ⟨z9_, f17⟩ := hR
  have s_f17 : s.heap.size ≤ r_16 := Nat.le_trans hZ0_ z9_
  have g_f17 := hn _ s_f17
  have l_f0_f17 : mo < r_16 := Nat.lt_of_lt_of_le t_f0 z9_
  have l_f1_f17 : qf1 < r_16 := Nat.lt_of_lt_of_le t_f1 z9_
  have l_f2_f17 : qf2 < r_16 := Nat.lt_of_lt_of_le t_f2 z9_
  have l_f4_f17 : qf4 < r_16 := Nat.lt_of_lt_of_le t_f4 z9_
  have l_f5_f17 : qf5 < r_16 := Nat.lt_of_lt_of_le t_f5 z9_
  have l_f8_f17 : r_7 < r_16 := Nat.lt_of_lt_of_le t_f8 z9_
  have l_f11_f17 : r_10 < r_16 := Nat.lt_of_lt_of_le t_f11 z9_
  have l_f14_f17 : r_13 < r_16 := Nat.lt_of_lt_of_le t_f14 z9_
  refine r_aastJ (pc := 72) E hC f1 f17 hS g_f1 3 rfl (by decide) (by decide) dX5_init_72 (fun H locs n_ ho hz hS => ?_)
  have f0 := f0.kept (ho _ (clA.ne f0.cl f1.cla (hC.oa 13 3 rfl rfl)))
  have f2 := f2.kept (ho _ (clA.ne f2.cl f1.cla (hC.oa 7 3 rfl rfl)))
  have f4 := f4.kept (ho _ (clA.ne f4.cla f1.cla (hC.aa 0 3 rfl rfl (by dsimp only; decide))))
  have f5 := f5.kept (ho _ (clA.ne f5.cla f1.cla (hC.aa 0 3 rfl rfl (by dsimp only; decide))))
  have f8 := f8.kept (ho _ (clA.ne f8.cla f1.cla (hC.aa 0 3 rfl rfl (by dsimp only; decide))))
  have f11 := f11.kept (ho _ (clA.ne f11.cla f1.cla (hC.aa 0 3 rfl rfl (by dsimp only; decide))))
  have f14 := f14.kept (ho _ (clA.ne f14.cla f1.cla (hC.aa 0 3 rfl rfl (by dsimp only; decide))))
  have f17 := f17.kept (ho _ (clA.ne f17.cla f1.cla (hC.aa 0 3 rfl rfl (by dsimp only; decide))))
  have f1 := n_
  refine lv_iinc (pc := 73) (v := 4) (lv' := [(1, .int 4), (0, .ref mo)]) hx hb dX5_init_73 hl (k := 0) rfl (by decide) (by decide) rfl (fun ls hl => ?_)
  refine lv_goto (pc := 76) (tgt := 56) hx hb dX5_init_76 (by decide) ?_
  refine lv_iload_n (pc := 56) hx hb dX5_init_56 rfl (lv_at hl 0 rfl) ?_
  refine lv_bipush (pc := 57) (v := 6) hx hb dX5_init_57 (by decide) ?_
  refine lv_icmp_ge (pc := 59) (tgt := 79) hx hb dX5_init_59 (by decide) (fun c_18 => ?_) (fun c_18 => ?_)
  · exact absurd c_18 (by decide)
  refine lv_aload_n (pc := 62) hx hb dX5_init_62 rfl (lv_at hl 1 rfl) ?_
  refine r_get (pc := 63) E hC f0 0 (v := .ref qf1) rfl rfl (by decide) uX5 (List.mem_cons_of_mem _ kw_1209) (fun _ h => h) dX5_init_63 ?_
  refine lv_iload_n (pc := 66) hx hb dX5_init_66 rfl (lv_at hl 0 rfl) ?_
  refine lv_lconst (pc := 67) (v := 0) hx hb dX5_init_67 (by decide) ?_
  refine lv_lconst (pc := 68) (v := 1) hx hb dX5_init_68 (by decide) ?_
  have hZ0_ := hS.1
  have t_f0 := f0.lt
  have t_f1 := f1.lt
  have t_f2 := f2.lt
  have t_f4 := f4.lt
  have t_f5 := f5.lt
  have t_f8 := f8.lt
  have t_f11 := f11.lt
  have t_f14 := f14.lt
  have t_f17 := f17.lt
  refine k_r (pc := 69) (k_S E hC hS hA hl.1 (c_X5_lowest l D tk N0 sa H.size 0 1 m_div01) kw_1199 kw_1200 kw_5 kw_1201 (n := 2) (by decide +kernel) rfl ⟨⟨rfl, rfl⟩, ⟨Nat.le_of_ble_eq_true rfl, Nat.le_of_ble_eq_true rfl⟩, (by dsimp only; omega), (by dsimp only; omega)⟩ rfl (Nat.le_of_ble_eq_true rfl) trivial dX5_init_69) hS (fun q z w => absurd w (Nat.not_le.mpr z)) hn (fun r_19 H locs hR hz hk hS => ?_)
  have f0 := f0.kept (hk _ f0.lt (Nat.not_le.mpr f0.lt))
  have f1 := f1.kept (hk _ f1.lt (Nat.not_le.mpr f1.lt))
  have f2 := f2.kept (hk _ f2.lt (Nat.not_le.mpr f2.lt))
  have f4 := f4.kept (hk _ f4.lt (Nat.not_le.mpr f4.lt))
  have f5 := f5.kept (hk _ f5.lt (Nat.not_le.mpr f5.lt))
  have f8 := f8.kept (hk _ f8.lt (Nat.not_le.mpr f8.lt))
  have f11 := f11.kept (hk _ f11.lt (Nat.not_le.mpr f11.lt))
  have f14 := f14.kept (hk _ f14.lt (Nat.not_le.mpr f14.lt))
  have f17 := f17.kept (hk _ f17.lt (Nat.not_le.mpr f17.lt))
  obtain ⟨z9_, f20⟩ := hR
  have s_f20 : s.heap.size ≤ r_19 := Nat.le_trans hZ0_ z9_
  have g_f20 := hn _ s_f20
  have l_f0_f20 : mo < r_19 := Nat.lt_of_lt_of_le t_f0 z9_
  have l_f1_f20 : qf1 < r_19 := Nat.lt_of_lt_of_le t_f1 z9_
  have l_f2_f20 : qf2 < r_19 := Nat.lt_of_lt_of_le t_f2 z9_
  have l_f4_f20 : qf4 < r_19 := Nat.lt_of_lt_of_le t_f4 z9_
  have l_f5_f20 : qf5 < r_19 := Nat.lt_of_lt_of_le t_f5 z9_
  have l_f8_f20 : r_7 < r_19 := Nat.lt_of_lt_of_le t_f8 z9_
  have l_f11_f20 : r_10 < r_19 := Nat.lt_of_lt_of_le t_f11 z9_
  have l_f14_f20 : r_13 < r_19 := Nat.lt_of_lt_of_le t_f14 z9_
  have l_f17_f20 : r_16 < r_19 := Nat.lt_of_lt_of_le t_f17 z9_
  refine r_aastJ (pc := 72) E hC f1 f20 hS g_f1 4 rfl (by decide) (by decide) dX5_init_72 (fun H locs n_ ho hz hS => ?_)
  have f0 := f0.kept (ho _ (clA.ne f0.cl f1.cla (hC.oa 13 3 rfl rfl)))
  have f2 := f2.kept (ho _ (clA.ne f2.cl f1.cla (hC.oa 7 3 rfl rfl)))
  have f4 := f4.kept (ho _ (clA.ne f4.cla f1.cla (hC.aa 0 3 rfl rfl (by dsimp only; decide))))
  have f5 := f5.kept (ho _ (clA.ne f5.cla f1.cla (hC.aa 0 3 rfl rfl (by dsimp only; decide))))
  have f8 := f8.kept (ho _ (clA.ne f8.cla f1.cla (hC.aa 0 3 rfl rfl (by dsimp only; decide))))
  have f11 := f11.kept (ho _ (clA.ne f11.cla f1.cla (hC.aa 0 3 rfl rfl (by dsimp only; decide))))
  have f14 := f14.kept (ho _ (clA.ne f14.cla f1.cla (hC.aa 0 3 rfl rfl (by dsimp only; decide))))
  have f17 := f17.kept (ho _ (clA.ne f17.cla f1.cla (hC.aa 0 3 rfl rfl (by dsimp only; decide))))
  have f20 := f20.kept (ho _ (clA.ne f20.cla f1.cla (hC.aa 0 3 rfl rfl (by dsimp only; decide))))
  have f1 := n_
  refine lv_iinc (pc := 73) (v := 5) (lv' := [(1, .int 5), (0, .ref mo)]) hx hb dX5_init_73 hl (k := 0) rfl (by decide) (by decide) rfl (fun ls hl => ?_)
  refine lv_goto (pc := 76) (tgt := 56) hx hb dX5_init_76 (by decide) ?_
  refine lv_iload_n (pc := 56) hx hb dX5_init_56 rfl (lv_at hl 0 rfl) ?_
  refine lv_bipush (pc := 57) (v := 6) hx hb dX5_init_57 (by decide) ?_
  refine lv_icmp_ge (pc := 59) (tgt := 79) hx hb dX5_init_59 (by decide) (fun c_21 => ?_) (fun c_21 => ?_)
  · exact absurd c_21 (by decide)
  refine lv_aload_n (pc := 62) hx hb dX5_init_62 rfl (lv_at hl 1 rfl) ?_
  refine r_get (pc := 63) E hC f0 0 (v := .ref qf1) rfl rfl (by decide) uX5 (List.mem_cons_of_mem _ kw_1209) (fun _ h => h) dX5_init_63 ?_
  refine lv_iload_n (pc := 66) hx hb dX5_init_66 rfl (lv_at hl 0 rfl) ?_
  refine lv_lconst (pc := 67) (v := 0) hx hb dX5_init_67 (by decide) ?_
  refine lv_lconst (pc := 68) (v := 1) hx hb dX5_init_68 (by decide) ?_
  have hZ0_ := hS.1
  have t_f0 := f0.lt
  have t_f1 := f1.lt
  have t_f2 := f2.lt
  have t_f4 := f4.lt
  have t_f5 := f5.lt
  have t_f8 := f8.lt
  have t_f11 := f11.lt
  have t_f14 := f14.lt
  have t_f17 := f17.lt
  have t_f20 := f20.lt
  refine k_r (pc := 69) (k_S E hC hS hA hl.1 (c_X5_lowest l D tk N0 sa H.size 0 1 m_div01) kw_1199 kw_1200 kw_5 kw_1201 (n := 2) (by decide +kernel) rfl ⟨⟨rfl, rfl⟩, ⟨Nat.le_of_ble_eq_true rfl, Nat.le_of_ble_eq_true rfl⟩, (by dsimp only; omega), (by dsimp only; omega)⟩ rfl (Nat.le_of_ble_eq_true rfl) trivial dX5_init_69) hS (fun q z w => absurd w (Nat.not_le.mpr z)) hn (fun r_22 H locs hR hz hk hS => ?_)
  have f0 := f0.kept (hk _ f0.lt (Nat.not_le.mpr f0.lt))
  have f1 := f1.kept (hk _ f1.lt (Nat.not_le.mpr f1.lt))
  have f2 := f2.kept (hk _ f2.lt (Nat.not_le.mpr f2.lt))
  have f4 := f4.kept (hk _ f4.lt (Nat.not_le.mpr f4.lt))
  have f5 := f5.kept (hk _ f5.lt (Nat.not_le.mpr f5.lt))
  have f8 := f8.kept (hk _ f8.lt (Nat.not_le.mpr f8.lt))
  have f11 := f11.kept (hk _ f11.lt (Nat.not_le.mpr f11.lt))
  have f14 := f14.kept (hk _ f14.lt (Nat.not_le.mpr f14.lt))
  have f17 := f17.kept (hk _ f17.lt (Nat.not_le.mpr f17.lt))
  have f20 := f20.kept (hk _ f20.lt (Nat.not_le.mpr f20.lt))
  obtain ⟨z9_, f23⟩ := hR
  have s_f23 : s.heap.size ≤ r_22 := Nat.le_trans hZ0_ z9_
  have g_f23 := hn _ s_f23
  have l_f0_f23 : mo < r_22 := Nat.lt_of_lt_of_le t_f0 z9_
  have l_f1_f23 : qf1 < r_22 := Nat.lt_of_lt_of_le t_f1 z9_
  have l_f2_f23 : qf2 < r_22 := Nat.lt_of_lt_of_le t_f2 z9_
  have l_f4_f23 : qf4 < r_22 := Nat.lt_of_lt_of_le t_f4 z9_
  have l_f5_f23 : qf5 < r_22 := Nat.lt_of_lt_of_le t_f5 z9_
  have l_f8_f23 : r_7 < r_22 := Nat.lt_of_lt_of_le t_f8 z9_
  have l_f11_f23 : r_10 < r_22 := Nat.lt_of_lt_of_le t_f11 z9_
  have l_f14_f23 : r_13 < r_22 := Nat.lt_of_lt_of_le t_f14 z9_
  have l_f17_f23 : r_16 < r_22 := Nat.lt_of_lt_of_le t_f17 z9_
  have l_f20_f23 : r_19 < r_22 := Nat.lt_of_lt_of_le t_f20 z9_
  refine r_aastJ (pc := 72) E hC f1 f23 hS g_f1 5 rfl (by decide) (by decide) dX5_init_72 (fun H locs n_ ho hz hS => ?_)
  have f0 := f0.kept (ho _ (clA.ne f0.cl f1.cla (hC.oa 13 3 rfl rfl)))
  have f2 := f2.kept (ho _ (clA.ne f2.cl f1.cla (hC.oa 7 3 rfl rfl)))
  have f4 := f4.kept (ho _ (clA.ne f4.cla f1.cla (hC.aa 0 3 rfl rfl (by dsimp only; decide))))
  have f5 := f5.kept (ho _ (clA.ne f5.cla f1.cla (hC.aa 0 3 rfl rfl (by dsimp only; decide))))
  have f8 := f8.kept (ho _ (clA.ne f8.cla f1.cla (hC.aa 0 3 rfl rfl (by dsimp only; decide))))
  have f11 := f11.kept (ho _ (clA.ne f11.cla f1.cla (hC.aa 0 3 rfl rfl (by dsimp only; decide))))
  have f14 := f14.kept (ho _ (clA.ne f14.cla f1.cla (hC.aa 0 3 rfl rfl (by dsimp only; decide))))
  have f17 := f17.kept (ho _ (clA.ne f17.cla f1.cla (hC.aa 0 3 rfl rfl (by dsimp only; decide))))
  have f20 := f20.kept (ho _ (clA.ne f20.cla f1.cla (hC.aa 0 3 rfl rfl (by dsimp only; decide))))
  have f23 := f23.kept (ho _ (clA.ne f23.cla f1.cla (hC.aa 0 3 rfl rfl (by dsimp only; decide))))
  have f1 := n_
  refine lv_iinc (pc := 73) (v := 6) (lv' := [(1, .int 6), (0, .ref mo)]) hx hb dX5_init_73 hl (k := 0) rfl (by decide) (by decide) rfl (fun ls hl => ?_)
  refine lv_goto (pc := 76) (tgt := 56) hx hb dX5_init_76 (by decide) ?_
  refine lv_iload_n (pc := 56) hx hb dX5_init_56 rfl (lv_at hl 0 rfl) ?_
  refine lv_bipush (pc := 57) (v := 6) hx hb dX5_init_57 (by decide) ?_
  refine lv_icmp_ge (pc := 59) (tgt := 79) hx hb dX5_init_59 (by decide) (fun c_24 => ?_) (fun c_24 => ?_)
  rotate_left
  · exact absurd (by decide) c_24
  refine r_vret (pc := 79) E hr hlk hS (by decide) (by decide) ?_ dX5_init_79
  have hrow := c1.ext (g := fun k => some ((fun k => ([r_7, r_10, r_13, r_16, r_19, r_22] : List Nat).getD k 0) k)) f1 (by
    intro k hk
    match k, hk with
    | 0, _ => exact rfl
    | 1, _ => exact rfl
    | 2, _ => exact rfl
    | 3, _ => exact rfl
    | 4, _ => exact rfl
    | 5, _ => exact rfl
    | k + 6, hk => exact absurd hk (by omega))
  have hMK : MK D tk (fun k => ([r_7, r_10, r_13, r_16, r_19, r_22] : List Nat).getD k 0) (fun _ => m_loT 0 1) (fun _ => m_loB 0 1) H := by
    intro k hk
    match k, hk with
    | 0, _ => exact f8
    | 1, _ => exact f11
    | 2, _ => exact f14
    | 3, _ => exact f17
    | 4, _ => exact f20
    | 5, _ => exact f23
    | k + 6, hk => exact absurd hk (by omega)
  have hPk : ∀ k, k < 6 → P ((fun k => ([r_7, r_10, r_13, r_16, r_19, r_22] : List Nat).getD k 0) k) := by
    intro k hk
    match k, hk with
    | 0, _ => exact hPs _ s_f8
    | 1, _ => exact hPs _ s_f11
    | 2, _ => exact hPs _ s_f14
    | 3, _ => exact hPs _ s_f17
    | 4, _ => exact hPs _ s_f20
    | 5, _ => exact hPs _ s_f23
    | k + 6, hk => exact absurd hk (by omega)
  exact ⟨_, _, _, _, _, f0, hrow, hMK, f4, f5, Or.inl ⟨rfl, _, f2⟩, ⟨hPm, hPs _ s_f1, hPs _ s_f2, hPs _ s_f4, hPs _ s_f5, hPk⟩, fun _ _ => m_F01, m_F00, ⟨m_F00, m_D00⟩, Nat.zero_le _, Nat.zero_le _⟩
