set_option maxHeartbeats 4000000 in
set_option maxRecDepth 100000 in
/-- BestratiosModel.<init>()V -/
theorem c_X5_init (l : Launch) (D : va_G) (tk : Nat → ClassId) (N0 : Nat) (sa : Nat → Nat)  (sz : Nat) (P : Nat → Prop) (mo : Nat) (hPm : P mo) (hPs : ∀ q, sz ≤ q → P q) (ha9 : N0 ≤ mo) : Met l yX5_init (wsy yX5_init cX5_init 2 none) ({ frames := 4, cells := 10, slots := 25, locals := 80 } : Room) (cP D tk N0 sa [.ref mo] sz (fun H => c1 D mo (.inr (13, [.null, .null, .null, .null, .int 0, .int 0, .int 0, .int 0, .int 0])) H)) (kQv (fun H => MI D tk sa P mo (fun _ => m_loT 0 1) (fun _ => m_loB 0 1) 0 1 0 1 0 0 0 (fun _ => .null) 0 0 0 H) (inA1 mo sz)) (10) (25) (inA1 mo sz) := by
  refine mStart RX5 rfl (by decide +kernel) (Nat.le_of_ble_eq_true rfl) ?_
  intro p e s m args below meth c E hr hlk hnm hsz hC hF ls hl
  subst hsz
  obtain ⟨hx, hb, -⟩ := id E
  have hA : ∀ q, (inA1 mo s.heap.size) q → N0 ≤ q := fun q h => h.elim (fun z => z ▸ ha9) (fun z => Nat.le_trans hC.2.1 z)
  have hn : ∀ q, s.heap.size ≤ q → (inA1 mo s.heap.size) q := fun q h => Or.inr h
  have hS : va_S (inA1 mo s.heap.size) s.heap s.heap [] := va_S.rf
  have hl : lv_has ls 2 [(0, .ref mo)] := hl
  have f0 : c1 D mo (.inr (13, [.null, .null, .null, .null, .int 0, .int 0, .int 0, .int 0, .int 0])) s.heap := hF
  have g_f0 : (inA1 mo s.heap.size) mo := Or.inl rfl
  refine lv_aload_n (pc := 0) hx hb dX5_init_0 rfl (lv_at hl 0 rfl) ?_
  refine r_oinit (pc := 1) E hl.1 kw_1167 (Nat.le_of_ble_eq_true rfl) (by decide) (by decide) dX5_init_1 ?_
  refine lv_aload_n (pc := 4) hx hb dX5_init_4 rfl (lv_at hl 0 rfl) ?_
  refine lv_bipush (pc := 5) (v := 6) hx hb dX5_init_5 (by decide) ?_
  have hS0_ := hS
  refine r_anewJ (pc := 7) E hC hS kw_1168 (N := 6) (by decide) (by decide) (by decide) (by dsimp only; omega) (by dsimp only; omega) dX5_init_7 (fun qf1 H zq_ n_ ho_ hS => ?_)
  have l_f0_f1 : mo < qf1 := zq_ ▸ f0.lt
  have f0 := f0.kept (ho_ _ f0.lt)
  have f1 := n_
  have s_f1 : s.heap.size ≤ qf1 := zq_ ▸ hS0_.1
  have g_f1 := hn _ s_f1
  refine r_putF (pc := 10) E hC (hnm.trans rfl) f0 hS g_f0 0 tyX5 tyX5_ok nmX5 rfl (by decide) (Nat.le_of_ble_eq_true rfl) uX5 (List.mem_cons_of_mem _ kw_1209) (fun _ h => h) rfl rfl rfl rfl dX5_init_10 (fun H locs n_ ho hz hS => ?_)
  have f1 := f1.kept (ho _ (clA.ne f1.cla f0.cl (hC.ao 13 3 rfl rfl)))
  have f0 : c1 D mo (.inr (13, [.ref qf1, .null, .null, .null, .int 0, .int 0, .int 0, .int 0, .int 0])) H := n_
  refine lv_aload_n (pc := 13) hx hb dX5_init_13 rfl (lv_at hl 0 rfl) ?_
  have hS0_ := hS
  refine r_new (pc := 14) E hC hS tyJx4a65c_ok uJx4a65c (List.mem_cons_of_mem _ kw_1170) (List.mem_cons_of_mem _ kw_1171) (List.mem_cons_of_mem _ kw_8) (ci := 7) rfl (fs := [.int 0, .null, .int 0]) (by decide) (by dsimp only; omega) (by dsimp only; omega) dX5_init_14 (fun qf2 H zq_ n_ ho_ hS => ?_)
  have l_f0_f2 : mo < qf2 := zq_ ▸ f0.lt
  have f0 := f0.kept (ho_ _ f0.lt)
  have l_f1_f2 : qf1 < qf2 := zq_ ▸ f1.lt
  have f1 := f1.kept (ho_ _ f1.lt)
  have f2 := n_
  have s_f2 : s.heap.size ≤ qf2 := zq_ ▸ hS0_.1
  have g_f2 := hn _ s_f2
  refine lv_dup (pc := 17) hx hb dX5_init_17 rfl ?_
  refine k_v (pc := 18) (k_I E hC hS hA hl.1 (c_Jx4a65c_init_da8c8 l D tk N0 sa H.size qf2 (hA _ g_f2)) kw_1172 kw_1173 kw_8 kw_1174 rfl (n := 0) (by decide +kernel) rfl ⟨⟨rfl, rfl⟩, ⟨Nat.le_of_ble_eq_true rfl, Nat.le_of_ble_eq_true rfl⟩, (by dsimp only; omega), (by dsimp only; omega)⟩ rfl (Nat.le_of_ble_eq_true rfl) f2 dX5_init_18) hS (inA1.to g_f2) hn (fun H locs hR hz hk hS => ?_)
  have f0 := f0.kept (hk _ f0.lt (inA1.not (clA.ne f0.cl f2.cl (hC.oo 13 7 rfl rfl (by decide))) f0.lt))
  have f1 := f1.kept (hk _ f1.lt (inA1.not (clA.ne f1.cla f2.cl (hC.ao 7 3 rfl rfl)) f1.lt))
  have f2 := hR
  refine r_putF (pc := 21) E hC (hnm.trans rfl) f0 hS g_f0 1 tyX5 tyX5_ok nmX5 rfl (by decide) (Nat.le_of_ble_eq_true rfl) uX5 (List.mem_cons_of_mem _ kw_1210) (fun _ h => h) rfl rfl rfl rfl dX5_init_21 (fun H locs n_ ho hz hS => ?_)
  have f1 := f1.kept (ho _ (clA.ne f1.cla f0.cl (hC.ao 13 3 rfl rfl)))
  have f2 := f2.kept (ho _ (clA.ne f2.cl f0.cl (hC.oo 7 13 rfl rfl (by decide))))
  have f0 : c1 D mo (.inr (13, [.ref qf1, .ref qf2, .null, .null, .int 0, .int 0, .int 0, .int 0, .int 0])) H := n_
  refine lv_aload_n (pc := 24) hx hb dX5_init_24 rfl (lv_at hl 0 rfl) ?_
  refine lv_iconst (pc := 25) (v := 2) hx hb dX5_init_25 (by decide) ?_
  have hS0_ := hS
  refine r_newl (pc := 26) E hC hS (N := 2) (by decide) (by decide) (by decide) (by dsimp only; omega) (by dsimp only; omega) dX5_init_26 (fun qf4 H zq_ n_ ho_ hS => ?_)
  have l_f0_f4 : mo < qf4 := zq_ ▸ f0.lt
  have f0 := f0.kept (ho_ _ f0.lt)
  have l_f1_f4 : qf1 < qf4 := zq_ ▸ f1.lt
  have f1 := f1.kept (ho_ _ f1.lt)
  have l_f2_f4 : qf2 < qf4 := zq_ ▸ f2.lt
  have f2 := f2.kept (ho_ _ f2.lt)
  have f4 := n_
  have s_f4 : s.heap.size ≤ qf4 := zq_ ▸ hS0_.1
  have g_f4 := hn _ s_f4
  refine lv_dup (pc := 28) hx hb dX5_init_28 rfl ?_
  refine lv_iconst (pc := 29) (v := 0) hx hb dX5_init_29 (by decide) ?_
  refine lv_lconst (pc := 30) (v := 0) hx hb dX5_init_30 (by decide) ?_
  refine r_last (pc := 31) E hC f4 hS g_f4 (by unfold vp_in; decide) dX5_init_31 (fun H locs n_ ho hz hS => ?_)
  have f0 := f0.kept (ho _ (clA.ne f0.cl f4.cla (hC.oa 13 0 rfl rfl)))
  have f1 := f1.kept (ho _ (clA.ne f1.cla f4.cla (hC.aa 3 0 rfl rfl (by dsimp only; decide))))
  have f2 := f2.kept (ho _ (clA.ne f2.cl f4.cla (hC.oa 7 0 rfl rfl)))
  have f4 : c1 D qf4 (.inl (tk 0, 2, .inr (.inl (vp_updL (fun _ => 0) 0 (0))))) H := n_
  refine lv_dup (pc := 32) hx hb dX5_init_32 rfl ?_
  refine lv_iconst (pc := 33) (v := 1) hx hb dX5_init_33 (by decide) ?_
  refine lv_lconst (pc := 34) (v := 1) hx hb dX5_init_34 (by decide) ?_
  refine r_last (pc := 35) E hC f4 hS g_f4 (by unfold vp_in; decide) dX5_init_35 (fun H locs n_ ho hz hS => ?_)
  have f0 := f0.kept (ho _ (clA.ne f0.cl f4.cla (hC.oa 13 0 rfl rfl)))
  have f1 := f1.kept (ho _ (clA.ne f1.cla f4.cla (hC.aa 3 0 rfl rfl (by dsimp only; decide))))
  have f2 := f2.kept (ho _ (clA.ne f2.cl f4.cla (hC.oa 7 0 rfl rfl)))
  have f4 : L2 D tk qf4 (0) (1) H := n_
  refine r_put (pc := 36) E hC f0 hS g_f0 2 tyX5 tyX5_ok nmX5 rfl (by decide) (Nat.le_of_ble_eq_true rfl) uX5 (List.mem_cons_of_mem _ kw_1211) (fun _ h => h) rfl rfl rfl dX5_init_36 (fun H locs n_ ho hz hS => ?_)
  have f1 := f1.kept (ho _ (clA.ne f1.cla f0.cl (hC.ao 13 3 rfl rfl)))
  have f2 := f2.kept (ho _ (clA.ne f2.cl f0.cl (hC.oo 7 13 rfl rfl (by decide))))
  have f4 := f4.kept (ho _ (clA.ne f4.cla f0.cl (hC.ao 13 0 rfl rfl)))
  have f0 : c1 D mo (.inr (13, [.ref qf1, .ref qf2, .ref qf4, .null, .int 0, .int 0, .int 0, .int 0, .int 0])) H := n_
  refine lv_aload_n (pc := 39) hx hb dX5_init_39 rfl (lv_at hl 0 rfl) ?_
  refine lv_iconst (pc := 40) (v := 2) hx hb dX5_init_40 (by decide) ?_
  have hS0_ := hS
  refine r_newl (pc := 41) E hC hS (N := 2) (by decide) (by decide) (by decide) (by dsimp only; omega) (by dsimp only; omega) dX5_init_41 (fun qf5 H zq_ n_ ho_ hS => ?_)
  have l_f0_f5 : mo < qf5 := zq_ ▸ f0.lt
  have f0 := f0.kept (ho_ _ f0.lt)
  have l_f1_f5 : qf1 < qf5 := zq_ ▸ f1.lt
  have f1 := f1.kept (ho_ _ f1.lt)
  have l_f2_f5 : qf2 < qf5 := zq_ ▸ f2.lt
  have f2 := f2.kept (ho_ _ f2.lt)
  have l_f4_f5 : qf4 < qf5 := zq_ ▸ f4.lt
  have f4 := f4.kept (ho_ _ f4.lt)
  have f5 := n_
  have s_f5 : s.heap.size ≤ qf5 := zq_ ▸ hS0_.1
  have g_f5 := hn _ s_f5
  refine lv_dup (pc := 43) hx hb dX5_init_43 rfl ?_
  refine lv_iconst (pc := 44) (v := 0) hx hb dX5_init_44 (by decide) ?_
  refine lv_lconst (pc := 45) (v := 0) hx hb dX5_init_45 (by decide) ?_
  refine r_last (pc := 46) E hC f5 hS g_f5 (by unfold vp_in; decide) dX5_init_46 (fun H locs n_ ho hz hS => ?_)
  have f0 := f0.kept (ho _ (clA.ne f0.cl f5.cla (hC.oa 13 0 rfl rfl)))
  have f1 := f1.kept (ho _ (clA.ne f1.cla f5.cla (hC.aa 3 0 rfl rfl (by dsimp only; decide))))
  have f2 := f2.kept (ho _ (clA.ne f2.cl f5.cla (hC.oa 7 0 rfl rfl)))
  have f4 := f4.kept (ho _ (Nat.ne_of_lt l_f4_f5))
  have f5 : c1 D qf5 (.inl (tk 0, 2, .inr (.inl (vp_updL (fun _ => 0) 0 (0))))) H := n_
  refine lv_dup (pc := 47) hx hb dX5_init_47 rfl ?_
  refine lv_iconst (pc := 48) (v := 1) hx hb dX5_init_48 (by decide) ?_
  refine lv_lconst (pc := 49) (v := 1) hx hb dX5_init_49 (by decide) ?_
  refine r_last (pc := 50) E hC f5 hS g_f5 (by unfold vp_in; decide) dX5_init_50 (fun H locs n_ ho hz hS => ?_)
  have f0 := f0.kept (ho _ (clA.ne f0.cl f5.cla (hC.oa 13 0 rfl rfl)))
  have f1 := f1.kept (ho _ (clA.ne f1.cla f5.cla (hC.aa 3 0 rfl rfl (by dsimp only; decide))))
  have f2 := f2.kept (ho _ (clA.ne f2.cl f5.cla (hC.oa 7 0 rfl rfl)))
  have f4 := f4.kept (ho _ (Nat.ne_of_lt l_f4_f5))
  have f5 : L2 D tk qf5 (0) (1) H := n_
  refine r_put (pc := 51) E hC f0 hS g_f0 3 tyX5 tyX5_ok nmX5 rfl (by decide) (Nat.le_of_ble_eq_true rfl) uX5 (List.mem_cons_of_mem _ kw_1212) (fun _ h => h) rfl rfl rfl dX5_init_51 (fun H locs n_ ho hz hS => ?_)
  have f1 := f1.kept (ho _ (clA.ne f1.cla f0.cl (hC.ao 13 3 rfl rfl)))
  have f2 := f2.kept (ho _ (clA.ne f2.cl f0.cl (hC.oo 7 13 rfl rfl (by decide))))
  have f4 := f4.kept (ho _ (clA.ne f4.cla f0.cl (hC.ao 13 0 rfl rfl)))
  have f5 := f5.kept (ho _ (clA.ne f5.cla f0.cl (hC.ao 13 0 rfl rfl)))
  have f0 : c1 D mo (.inr (13, [.ref qf1, .ref qf2, .ref qf4, .ref qf5, .int 0, .int 0, .int 0, .int 0, .int 0])) H := n_
  refine lv_iconst (pc := 54) (v := 0) hx hb dX5_init_54 (by decide) ?_
  refine lv_istore_n (pc := 55) (lv' := [(1, .int 0), (0, .ref mo)]) hx hb dX5_init_55 rfl hl (by decide) rfl (fun ls hl => ?_)
  refine lv_iload_n (pc := 56) hx hb dX5_init_56 rfl (lv_at hl 0 rfl) ?_
  refine lv_bipush (pc := 57) (v := 6) hx hb dX5_init_57 (by decide) ?_
  refine lv_icmp_ge (pc := 59) (tgt := 79) hx hb dX5_init_59 (by decide) (fun c_6 => ?_) (fun c_6 => ?_)
  · exact absurd c_6 (by decide)
  refine lv_aload_n (pc := 62) hx hb dX5_init_62 rfl (lv_at hl 1 rfl) ?_
  refine r_get (pc := 63) E hC f0 0 (v := .ref qf1) rfl rfl (by decide) uX5 (List.mem_cons_of_mem _ kw_1209) (fun _ h => h) dX5_init_63 ?_
  refine lv_iload_n (pc := 66) hx hb dX5_init_66 rfl (lv_at hl 0 rfl) ?_
  refine lv_lconst (pc := 67) (v := 0) hx hb dX5_init_67 (by decide) ?_
  refine lv_lconst (pc := 68) (v := 1) hx hb dX5_init_68 (by decide) ?_
  have hZ0_ := hS.1
  have t_f0 := f0.lt
  have t_f1 := f1.lt
  have t_f2 := f2.lt
  have t_f4 := f4.lt
  have t_f5 := f5.lt
  refine k_r (pc := 69) (k_S E hC hS hA hl.1 (c_X5_lowest l D tk N0 sa H.size 0 1 m_div01) kw_1199 kw_1200 kw_5 kw_1201 (n := 2) (by decide +kernel) rfl ⟨⟨rfl, rfl⟩, ⟨Nat.le_of_ble_eq_true rfl, Nat.le_of_ble_eq_true rfl⟩, (by dsimp only; omega), (by dsimp only; omega)⟩ rfl (Nat.le_of_ble_eq_true rfl) trivial dX5_init_69) hS (fun q z w => absurd w (Nat.not_le.mpr z)) hn (fun r_7 H locs hR hz hk hS => ?_)
  have f0 := f0.kept (hk _ f0.lt (Nat.not_le.mpr f0.lt))
  have f1 := f1.kept (hk _ f1.lt (Nat.not_le.mpr f1.lt))
  have f2 := f2.kept (hk _ f2.lt (Nat.not_le.mpr f2.lt))
  have f4 := f4.kept (hk _ f4.lt (Nat.not_le.mpr f4.lt))
  have f5 := f5.kept (hk _ f5.lt (Nat.not_le.mpr f5.lt))
  obtain ⟨z9_, f8⟩ := hR
  have s_f8 : s.heap.size ≤ r_7 := Nat.le_trans hZ0_ z9_
  have g_f8 := hn _ s_f8
  have l_f0_f8 : mo < r_7 := Nat.lt_of_lt_of_le t_f0 z9_
  have l_f1_f8 : qf1 < r_7 := Nat.lt_of_lt_of_le t_f1 z9_
  have l_f2_f8 : qf2 < r_7 := Nat.lt_of_lt_of_le t_f2 z9_
  have l_f4_f8 : qf4 < r_7 := Nat.lt_of_lt_of_le t_f4 z9_
  have l_f5_f8 : qf5 < r_7 := Nat.lt_of_lt_of_le t_f5 z9_
  refine r_aastJ (pc := 72) E hC f1 f8 hS g_f1 0 rfl (by decide) (by decide) dX5_init_72 (fun H locs n_ ho hz hS => ?_)
  have f0 := f0.kept (ho _ (clA.ne f0.cl f1.cla (hC.oa 13 3 rfl rfl)))
  have f2 := f2.kept (ho _ (clA.ne f2.cl f1.cla (hC.oa 7 3 rfl rfl)))
  have f4 := f4.kept (ho _ (clA.ne f4.cla f1.cla (hC.aa 0 3 rfl rfl (by dsimp only; decide))))
  have f5 := f5.kept (ho _ (clA.ne f5.cla f1.cla (hC.aa 0 3 rfl rfl (by dsimp only; decide))))
  have f8 := f8.kept (ho _ (clA.ne f8.cla f1.cla (hC.aa 0 3 rfl rfl (by dsimp only; decide))))
  have f1 := n_
  refine lv_iinc (pc := 73) (v := 1) (lv' := [(1, .int 1), (0, .ref mo)]) hx hb dX5_init_73 hl (k := 0) rfl (by decide) (by decide) rfl (fun ls hl => ?_)
  refine lv_goto (pc := 76) (tgt := 56) hx hb dX5_init_76 (by decide) ?_
  refine lv_iload_n (pc := 56) hx hb dX5_init_56 rfl (lv_at hl 0 rfl) ?_
  refine lv_bipush (pc := 57) (v := 6) hx hb dX5_init_57 (by decide) ?_
  refine lv_icmp_ge (pc := 59) (tgt := 79) hx hb dX5_init_59 (by decide) (fun c_9 => ?_) (fun c_9 => ?_)
  · exact absurd c_9 (by decide)
  refine lv_aload_n (pc := 62) hx hb dX5_init_62 rfl (lv_at hl 1 rfl) ?_
  refine r_get (pc := 63) E hC f0 0 (v := .ref qf1) rfl rfl (by decide) uX5 (List.mem_cons_of_mem _ kw_1209) (fun _ h => h) dX5_init_63 ?_
  refine lv_iload_n (pc := 66) hx hb dX5_init_66 rfl (lv_at hl 0 rfl) ?_
  refine lv_lconst (pc := 67) (v := 0) hx hb dX5_init_67 (by decide) ?_
  refine lv_lconst (pc := 68) (v := 1) hx hb dX5_init_68 (by decide) ?_
  have hZ0_ := hS.1
  have t_f0 := f0.lt
  have t_f1 := f1.lt
  have t_f2 := f2.lt
  have t_f4 := f4.lt
  have t_f5 := f5.lt
  have t_f8 := f8.lt
  refine k_r (pc := 69) (k_S E hC hS hA hl.1 (c_X5_lowest l D tk N0 sa H.size 0 1 m_div01) kw_1199 kw_1200 kw_5 kw_1201 (n := 2) (by decide +kernel) rfl ⟨⟨rfl, rfl⟩, ⟨Nat.le_of_ble_eq_true rfl, Nat.le_of_ble_eq_true rfl⟩, (by dsimp only; omega), (by dsimp only; omega)⟩ rfl (Nat.le_of_ble_eq_true rfl) trivial dX5_init_69) hS (fun q z w => absurd w (Nat.not_le.mpr z)) hn (fun r_10 H locs hR hz hk hS => ?_)
  have f0 := f0.kept (hk _ f0.lt (Nat.not_le.mpr f0.lt))
  have f1 := f1.kept (hk _ f1.lt (Nat.not_le.mpr f1.lt))
  have f2 := f2.kept (hk _ f2.lt (Nat.not_le.mpr f2.lt))
  have f4 := f4.kept (hk _ f4.lt (Nat.not_le.mpr f4.lt))
  have f5 := f5.kept (hk _ f5.lt (Nat.not_le.mpr f5.lt))
  have f8 := f8.kept (hk _ f8.lt (Nat.not_le.mpr f8.lt))
  obtain ⟨z9_, f11⟩ := hR
  have s_f11 : s.heap.size ≤ r_10 := Nat.le_trans hZ0_ z9_
  have g_f11 := hn _ s_f11
  have l_f0_f11 : mo < r_10 := Nat.lt_of_lt_of_le t_f0 z9_
  have l_f1_f11 : qf1 < r_10 := Nat.lt_of_lt_of_le t_f1 z9_
  have l_f2_f11 : qf2 < r_10 := Nat.lt_of_lt_of_le t_f2 z9_
  have l_f4_f11 : qf4 < r_10 := Nat.lt_of_lt_of_le t_f4 z9_
  have l_f5_f11 : qf5 < r_10 := Nat.lt_of_lt_of_le t_f5 z9_
  have l_f8_f11 : r_7 < r_10 := Nat.lt_of_lt_of_le t_f8 z9_
  refine r_aastJ (pc := 72) E hC f1 f11 hS g_f1 1 rfl (by decide) (by decide) dX5_init_72 (fun H locs n_ ho hz hS => ?_)
  have f0 := f0.kept (ho _ (clA.ne f0.cl f1.cla (hC.oa 13 3 rfl rfl)))
  have f2 := f2.kept (ho _ (clA.ne f2.cl f1.cla (hC.oa 7 3 rfl rfl)))
  have f4 := f4.kept (ho _ (clA.ne f4.cla f1.cla (hC.aa 0 3 rfl rfl (by dsimp only; decide))))
  have f5 := f5.kept (ho _ (clA.ne f5.cla f1.cla (hC.aa 0 3 rfl rfl (by dsimp only; decide))))
  have f8 := f8.kept (ho _ (clA.ne f8.cla f1.cla (hC.aa 0 3 rfl rfl (by dsimp only; decide))))
  have f11 := f11.kept (ho _ (clA.ne f11.cla f1.cla (hC.aa 0 3 rfl rfl (by dsimp only; decide))))
  have f1 := n_
  refine lv_iinc (pc := 73) (v := 2) (lv' := [(1, .int 2), (0, .ref mo)]) hx hb dX5_init_73 hl (k := 0) rfl (by decide) (by decide) rfl (fun ls hl => ?_)
  refine lv_goto (pc := 76) (tgt := 56) hx hb dX5_init_76 (by decide) ?_
  refine lv_iload_n (pc := 56) hx hb dX5_init_56 rfl (lv_at hl 0 rfl) ?_
  refine lv_bipush (pc := 57) (v := 6) hx hb dX5_init_57 (by decide) ?_
  refine lv_icmp_ge (pc := 59) (tgt := 79) hx hb dX5_init_59 (by decide) (fun c_12 => ?_) (fun c_12 => ?_)
  · exact absurd c_12 (by decide)
  refine lv_aload_n (pc := 62) hx hb dX5_init_62 rfl (lv_at hl 1 rfl) ?_
  refine r_get (pc := 63) E hC f0 0 (v := .ref qf1) rfl rfl (by decide) uX5 (List.mem_cons_of_mem _ kw_1209) (fun _ h => h) dX5_init_63 ?_
  refine lv_iload_n (pc := 66) hx hb dX5_init_66 rfl (lv_at hl 0 rfl) ?_
  refine lv_lconst (pc := 67) (v := 0) hx hb dX5_init_67 (by decide) ?_
  refine lv_lconst (pc := 68) (v := 1) hx hb dX5_init_68 (by decide) ?_
  have hZ0_ := hS.1
  have t_f0 := f0.lt
  have t_f1 := f1.lt
  have t_f2 := f2.lt
  have t_f4 := f4.lt
  have t_f5 := f5.lt
  have t_f8 := f8.lt
  have t_f11 := f11.lt
  refine k_r (pc := 69) (k_S E hC hS hA hl.1 (c_X5_lowest l D tk N0 sa H.size 0 1 m_div01) kw_1199 kw_1200 kw_5 kw_1201 (n := 2) (by decide +kernel) rfl ⟨⟨rfl, rfl⟩, ⟨Nat.le_of_ble_eq_true rfl, Nat.le_of_ble_eq_true rfl⟩, (by dsimp only; omega), (by dsimp only; omega)⟩ rfl (Nat.le_of_ble_eq_true rfl) trivial dX5_init_69) hS (fun q z w => absurd w (Nat.not_le.mpr z)) hn (fun r_13 H locs hR hz hk hS => ?_)
  have f0 := f0.kept (hk _ f0.lt (Nat.not_le.mpr f0.lt))
  have f1 := f1.kept (hk _ f1.lt (Nat.not_le.mpr f1.lt))
  have f2 := f2.kept (hk _ f2.lt (Nat.not_le.mpr f2.lt))
  have f4 := f4.kept (hk _ f4.lt (Nat.not_le.mpr f4.lt))
  have f5 := f5.kept (hk _ f5.lt (Nat.not_le.mpr f5.lt))
  have f8 := f8.kept (hk _ f8.lt (Nat.not_le.mpr f8.lt))
  have f11 := f11.kept (hk _ f11.lt (Nat.not_le.mpr f11.lt))
  obtain ⟨z9_, f14⟩ := hR
  have s_f14 : s.heap.size ≤ r_13 := Nat.le_trans hZ0_ z9_
  have g_f14 := hn _ s_f14
  have l_f0_f14 : mo < r_13 := Nat.lt_of_lt_of_le t_f0 z9_
  have l_f1_f14 : qf1 < r_13 := Nat.lt_of_lt_of_le t_f1 z9_
  have l_f2_f14 : qf2 < r_13 := Nat.lt_of_lt_of_le t_f2 z9_
  have l_f4_f14 : qf4 < r_13 := Nat.lt_of_lt_of_le t_f4 z9_
  have l_f5_f14 : qf5 < r_13 := Nat.lt_of_lt_of_le t_f5 z9_
  have l_f8_f14 : r_7 < r_13 := Nat.lt_of_lt_of_le t_f8 z9_
  have l_f11_f14 : r_10 < r_13 := Nat.lt_of_lt_of_le t_f11 z9_
  refine r_aastJ (pc := 72) E hC f1 f14 hS g_f1 2 rfl (by decide) (by decide) dX5_init_72 (fun H locs n_ ho hz hS => ?_)
  have f0 := f0.kept (ho _ (clA.ne f0.cl f1.cla (hC.oa 13 3 rfl rfl)))
  have f2 := f2.kept (ho _ (clA.ne f2.cl f1.cla (hC.oa 7 3 rfl rfl)))
  have f4 := f4.kept (ho _ (clA.ne f4.cla f1.cla (hC.aa 0 3 rfl rfl (by dsimp only; decide))))
  have f5 := f5.kept (ho _ (clA.ne f5.cla f1.cla (hC.aa 0 3 rfl rfl (by dsimp only; decide))))
  have f8 := f8.kept (ho _ (clA.ne f8.cla f1.cla (hC.aa 0 3 rfl rfl (by dsimp only; decide))))
  have f11 := f11.kept (ho _ (clA.ne f11.cla f1.cla (hC.aa 0 3 rfl rfl (by dsimp only; decide))))
  have f14 := f14.kept (ho _ (clA.ne f14.cla f1.cla (hC.aa 0 3 rfl rfl (by dsimp only; decide))))
  have f1 := n_
  refine lv_iinc (pc := 73) (v := 3) (lv' := [(1, .int 3), (0, .ref mo)]) hx hb dX5_init_73 hl (k := 0) rfl (by decide) (by decide) rfl (fun ls hl => ?_)
  refine lv_goto (pc := 76) (tgt := 56) hx hb dX5_init_76 (by decide) ?_
  refine lv_iload_n (pc := 56) hx hb dX5_init_56 rfl (lv_at hl 0 rfl) ?_
  refine lv_bipush (pc := 57) (v := 6) hx hb dX5_init_57 (by decide) ?_
  refine lv_icmp_ge (pc := 59) (tgt := 79) hx hb dX5_init_59 (by decide) (fun c_15 => ?_) (fun c_15 => ?_)
  · exact absurd c_15 (by decide)
  refine lv_aload_n (pc := 62) hx hb dX5_init_62 rfl (lv_at hl 1 rfl) ?_
  refine r_get (pc := 63) E hC f0 0 (v := .ref qf1) rfl rfl (by decide) uX5 (List.mem_cons_of_mem _ kw_1209) (fun _ h => h) dX5_init_63 ?_
  refine lv_iload_n (pc := 66) hx hb dX5_init_66 rfl (lv_at hl 0 rfl) ?_
  refine lv_lconst (pc := 67) (v := 0) hx hb dX5_init_67 (by decide) ?_
  refine lv_lconst (pc := 68) (v := 1) hx hb dX5_init_68 (by decide) ?_
  have hZ0_ := hS.1
  have t_f0 := f0.lt
  have t_f1 := f1.lt
  have t_f2 := f2.lt
  have t_f4 := f4.lt
  have t_f5 := f5.lt
  have t_f8 := f8.lt
  have t_f11 := f11.lt
  have t_f14 := f14.lt
  refine k_r (pc := 69) (k_S E hC hS hA hl.1 (c_X5_lowest l D tk N0 sa H.size 0 1 m_div01) kw_1199 kw_1200 kw_5 kw_1201 (n := 2) (by decide +kernel) rfl ⟨⟨rfl, rfl⟩, ⟨Nat.le_of_ble_eq_true rfl, Nat.le_of_ble_eq_true rfl⟩, (by dsimp only; omega), (by dsimp only; omega)⟩ rfl (Nat.le_of_ble_eq_true rfl) trivial dX5_init_69) hS (fun q z w => absurd w (Nat.not_le.mpr z)) hn (fun r_16 H locs hR hz hk hS => ?_)
  have f0 := f0.kept (hk _ f0.lt (Nat.not_le.mpr f0.lt))
  have f1 := f1.kept (hk _ f1.lt (Nat.not_le.mpr f1.lt))
  have f2 := f2.kept (hk _ f2.lt (Nat.not_le.mpr f2.lt))
  have f4 := f4.kept (hk _ f4.lt (Nat.not_le.mpr f4.lt))
  have f5 := f5.kept (hk _ f5.lt (Nat.not_le.mpr f5.lt))
  have f8 := f8.kept (hk _ f8.lt (Nat.not_le.mpr f8.lt))
  have f11 := f11.kept (hk _ f11.lt (Nat.not_le.mpr f11.lt))
  have f14 := f14.kept (hk _ f14.lt (Nat.not_le.mpr f14.lt))
  obtain ⟨z9_, f17⟩ := hR
  have s_f17 : s.heap.size ≤ r_16 := Nat.le_trans hZ0_ z9_
  have g_f17 := hn _ s_f17
  have l_f0_f17 : mo < r_16 := Nat.lt_of_lt_of_le t_f0 z9_
  have l_f1_f17 : qf1 < r_16 := Nat.lt_of_lt_of_le t_f1 z9_
  have l_f2_f17 : qf2 < r_16 := Nat.lt_of_lt_of_le t_f2 z9_
  have l_f4_f17 : qf4 < r_16 := Nat.lt_of_lt_of_le t_f4 z9_
  have l_f5_f17 : qf5 < r_16 := Nat.lt_of_lt_of_le t_f5 z9_
  have l_f8_f17 : r_7 < r_16 := Nat.lt_of_lt_of_le t_f8 z9_
  have l_f11_f17 : r_10 < r_16 := Nat.lt_of_lt_of_le t_f11 z9_
  have l_f14_f17 : r_13 < r_16 := Nat.lt_of_lt_of_le t_f14 z9_
  refine r_aastJ (pc := 72) E hC f1 f17 hS g_f1 3 rfl (by decide) (by decide) dX5_init_72 (fun H locs n_ ho hz hS => ?_)
  have f0 := f0.kept (ho _ (clA.ne f0.cl f1.cla (hC.oa 13 3 rfl rfl)))
  have f2 := f2.kept (ho _ (clA.ne f2.cl f1.cla (hC.oa 7 3 rfl rfl)))
  have f4 := f4.kept (ho _ (clA.ne f4.cla f1.cla (hC.aa 0 3 rfl rfl (by dsimp only; decide))))
  have f5 := f5.kept (ho _ (clA.ne f5.cla f1.cla (hC.aa 0 3 rfl rfl (by dsimp only; decide))))
  have f8 := f8.kept (ho _ (clA.ne f8.cla f1.cla (hC.aa 0 3 rfl rfl (by dsimp only; decide))))
  have f11 := f11.kept (ho _ (clA.ne f11.cla f1.cla (hC.aa 0 3 rfl rfl (by dsimp only; decide))))
  have f14 := f14.kept (ho _ (clA.ne f14.cla f1.cla (hC.aa 0 3 rfl rfl (by dsimp only; decide))))
  have f17 := f17.kept (ho _ (clA.ne f17.cla f1.cla (hC.aa 0 3 rfl rfl (by dsimp only; decide))))
  have f1 := n_
  refine lv_iinc (pc := 73) (v := 4) (lv' := [(1, .int 4), (0, .ref mo)]) hx hb dX5_init_73 hl (k := 0) rfl (by decide) (by decide) rfl (fun ls hl => ?_)
  refine lv_goto (pc := 76) (tgt := 56) hx hb dX5_init_76 (by decide) ?_
  refine lv_iload_n (pc := 56) hx hb dX5_init_56 rfl (lv_at hl 0 rfl) ?_
  refine lv_bipush (pc := 57) (v := 6) hx hb dX5_init_57 (by decide) ?_
  refine lv_icmp_ge (pc := 59) (tgt := 79) hx hb dX5_init_59 (by decide) (fun c_18 => ?_) (fun c_18 => ?_)
  · exact absurd c_18 (by decide)
  refine lv_aload_n (pc := 62) hx hb dX5_init_62 rfl (lv_at hl 1 rfl) ?_
  refine r_get (pc := 63) E hC f0 0 (v := .ref qf1) rfl rfl (by decide) uX5 (List.mem_cons_of_mem _ kw_1209) (fun _ h => h) dX5_init_63 ?_
  refine lv_iload_n (pc := 66) hx hb dX5_init_66 rfl (lv_at hl 0 rfl) ?_
  refine lv_lconst (pc := 67) (v := 0) hx hb dX5_init_67 (by decide) ?_
  refine lv_lconst (pc := 68) (v := 1) hx hb dX5_init_68 (by decide) ?_
  have hZ0_ := hS.1
  have t_f0 := f0.lt
  have t_f1 := f1.lt
  have t_f2 := f2.lt
  have t_f4 := f4.lt
  have t_f5 := f5.lt
  have t_f8 := f8.lt
  have t_f11 := f11.lt
  have t_f14 := f14.lt
  have t_f17 := f17.lt
  refine k_r (pc := 69) (k_S E hC hS hA hl.1 (c_X5_lowest l D tk N0 sa H.size 0 1 m_div01) kw_1199 kw_1200 kw_5 kw_1201 (n := 2) (by decide +kernel) rfl ⟨⟨rfl, rfl⟩, ⟨Nat.le_of_ble_eq_true rfl, Nat.le_of_ble_eq_true rfl⟩, (by dsimp only; omega), (by dsimp only; omega)⟩ rfl (Nat.le_of_ble_eq_true rfl) trivial dX5_init_69) hS (fun q z w => absurd w (Nat.not_le.mpr z)) hn (fun r_19 H locs hR hz hk hS => ?_)
  have f0 := f0.kept (hk _ f0.lt (Nat.not_le.mpr f0.lt))
  have f1 := f1.kept (hk _ f1.lt (Nat.not_le.mpr f1.lt))
  have f2 := f2.kept (hk _ f2.lt (Nat.not_le.mpr f2.lt))
  have f4 := f4.kept (hk _ f4.lt (Nat.not_le.mpr f4.lt))
  have f5 := f5.kept (hk _ f5.lt (Nat.not_le.mpr f5.lt))
  have f8 := f8.kept (hk _ f8.lt (Nat.not_le.mpr f8.lt))
  have f11 := f11.kept (hk _ f11.lt (Nat.not_le.mpr f11.lt))
  have f14 := f14.kept (hk _ f14.lt (Nat.not_le.mpr f14.lt))
  have f17 := f17.kept (hk _ f17.lt (Nat.not_le.mpr f17.lt))
  obtain ⟨z9_, f20⟩ := hR
  have s_f20 : s.heap.size ≤ r_19 := Nat.le_trans hZ0_ z9_
  have g_f20 := hn _ s_f20
  have l_f0_f20 : mo < r_19 := Nat.lt_of_lt_of_le t_f0 z9_
  have l_f1_f20 : qf1 < r_19 := Nat.lt_of_lt_of_le t_f1 z9_
  have l_f2_f20 : qf2 < r_19 := Nat.lt_of_lt_of_le t_f2 z9_
  have l_f4_f20 : qf4 < r_19 := Nat.lt_of_lt_of_le t_f4 z9_
  have l_f5_f20 : qf5 < r_19 := Nat.lt_of_lt_of_le t_f5 z9_
  have l_f8_f20 : r_7 < r_19 := Nat.lt_of_lt_of_le t_f8 z9_
  have l_f11_f20 : r_10 < r_19 := Nat.lt_of_lt_of_le t_f11 z9_
  have l_f14_f20 : r_13 < r_19 := Nat.lt_of_lt_of_le t_f14 z9_
  have l_f17_f20 : r_16 < r_19 := Nat.lt_of_lt_of_le t_f17 z9_
  refine r_aastJ (pc := 72) E hC f1 f20 hS g_f1 4 rfl (by decide) (by decide) dX5_init_72 (fun H locs n_ ho hz hS => ?_)
  have f0 := f0.kept (ho _ (clA.ne f0.cl f1.cla (hC.oa 13 3 rfl rfl)))
  have f2 := f2.kept (ho _ (clA.ne f2.cl f1.cla (hC.oa 7 3 rfl rfl)))
  have f4 := f4.kept (ho _ (clA.ne f4.cla f1.cla (hC.aa 0 3 rfl rfl (by dsimp only; decide))))
  have f5 := f5.kept (ho _ (clA.ne f5.cla f1.cla (hC.aa 0 3 rfl rfl (by dsimp only; decide))))
  have f8 := f8.kept (ho _ (clA.ne f8.cla f1.cla (hC.aa 0 3 rfl rfl (by dsimp only; decide))))
  have f11 := f11.kept (ho _ (clA.ne f11.cla f1.cla (hC.aa 0 3 rfl rfl (by dsimp only; decide))))
  have f14 := f14.kept (ho _ (clA.ne f14.cla f1.cla (hC.aa 0 3 rfl rfl (by dsimp only; decide))))
  have f17 := f17.kept (ho _ (clA.ne f17.cla f1.cla (hC.aa 0 3 rfl rfl (by dsimp only; decide))))
  have f20 := f20.kept (ho _ (clA.ne f20.cla f1.cla (hC.aa 0 3 rfl rfl (by dsimp only; decide))))
  have f1 := n_
  refine lv_iinc (pc := 73) (v := 5) (lv' := [(1, .int 5), (0, .ref mo)]) hx hb dX5_init_73 hl (k := 0) rfl (by decide) (by decide) rfl (fun ls hl => ?_)
  refine lv_goto (pc := 76) (tgt := 56) hx hb dX5_init_76 (by decide) ?_
  refine lv_iload_n (pc := 56) hx hb dX5_init_56 rfl (lv_at hl 0 rfl) ?_
  refine lv_bipush (pc := 57) (v := 6) hx hb dX5_init_57 (by decide) ?_
  refine lv_icmp_ge (pc := 59) (tgt := 79) hx hb dX5_init_59 (by decide) (fun c_21 => ?_) (fun c_21 => ?_)
  · exact absurd c_21 (by decide)
  refine lv_aload_n (pc := 62) hx hb dX5_init_62 rfl (lv_at hl 1 rfl) ?_
  refine r_get (pc := 63) E hC f0 0 (v := .ref qf1) rfl rfl (by decide) uX5 (List.mem_cons_of_mem _ kw_1209) (fun _ h => h) dX5_init_63 ?_
  refine lv_iload_n (pc := 66) hx hb dX5_init_66 rfl (lv_at hl 0 rfl) ?_
  refine lv_lconst (pc := 67) (v := 0) hx hb dX5_init_67 (by decide) ?_
  refine lv_lconst (pc := 68) (v := 1) hx hb dX5_init_68 (by decide) ?_
  have hZ0_ := hS.1
  have t_f0 := f0.lt
  have t_f1 := f1.lt
  have t_f2 := f2.lt
  have t_f4 := f4.lt
  have t_f5 := f5.lt
  have t_f8 := f8.lt
  have t_f11 := f11.lt
  have t_f14 := f14.lt
  have t_f17 := f17.lt
  have t_f20 := f20.lt
  refine k_r (pc := 69) (k_S E hC hS hA hl.1 (c_X5_lowest l D tk N0 sa H.size 0 1 m_div01) kw_1199 kw_1200 kw_5 kw_1201 (n := 2) (by decide +kernel) rfl ⟨⟨rfl, rfl⟩, ⟨Nat.le_of_ble_eq_true rfl, Nat.le_of_ble_eq_true rfl⟩, (by dsimp only; omega), (by dsimp only; omega)⟩ rfl (Nat.le_of_ble_eq_true rfl) trivial dX5_init_69) hS (fun q z w => absurd w (Nat.not_le.mpr z)) hn (fun r_22 H locs hR hz hk hS => ?_)
  have f0 := f0.kept (hk _ f0.lt (Nat.not_le.mpr f0.lt))
  have f1 := f1.kept (hk _ f1.lt (Nat.not_le.mpr f1.lt))
  have f2 := f2.kept (hk _ f2.lt (Nat.not_le.mpr f2.lt))
  have f4 := f4.kept (hk _ f4.lt (Nat.not_le.mpr f4.lt))
  have f5 := f5.kept (hk _ f5.lt (Nat.not_le.mpr f5.lt))
  have f8 := f8.kept (hk _ f8.lt (Nat.not_le.mpr f8.lt))
  have f11 := f11.kept (hk _ f11.lt (Nat.not_le.mpr f11.lt))
  have f14 := f14.kept (hk _ f14.lt (Nat.not_le.mpr f14.lt))
  have f17 := f17.kept (hk _ f17.lt (Nat.not_le.mpr f17.lt))
  have f20 := f20.kept (hk _ f20.lt (Nat.not_le.mpr f20.lt))
  obtain ⟨z9_, f23⟩ := hR
  have s_f23 : s.heap.size ≤ r_22 := Nat.le_trans hZ0_ z9_
  have g_f23 := hn _ s_f23
  have l_f0_f23 : mo < r_22 := Nat.lt_of_lt_of_le t_f0 z9_
  have l_f1_f23 : qf1 < r_22 := Nat.lt_of_lt_of_le t_f1 z9_
  have l_f2_f23 : qf2 < r_22 := Nat.lt_of_lt_of_le t_f2 z9_
  have l_f4_f23 : qf4 < r_22 := Nat.lt_of_lt_of_le t_f4 z9_
  have l_f5_f23 : qf5 < r_22 := Nat.lt_of_lt_of_le t_f5 z9_
  have l_f8_f23 : r_7 < r_22 := Nat.lt_of_lt_of_le t_f8 z9_
  have l_f11_f23 : r_10 < r_22 := Nat.lt_of_lt_of_le t_f11 z9_
  have l_f14_f23 : r_13 < r_22 := Nat.lt_of_lt_of_le t_f14 z9_
  have l_f17_f23 : r_16 < r_22 := Nat.lt_of_lt_of_le t_f17 z9_
  have l_f20_f23 : r_19 < r_22 := Nat.lt_of_lt_of_le t_f20 z9_
  refine r_aastJ (pc := 72) E hC f1 f23 hS g_f1 5 rfl (by decide) (by decide) dX5_init_72 (fun H locs n_ ho hz hS => ?_)
  have f0 := f0.kept (ho _ (clA.ne f0.cl f1.cla (hC.oa 13 3 rfl rfl)))
  have f2 := f2.kept (ho _ (clA.ne f2.cl f1.cla (hC.oa 7 3 rfl rfl)))
  have f4 := f4.kept (ho _ (clA.ne f4.cla f1.cla (hC.aa 0 3 rfl rfl (by dsimp only; decide))))
  have f5 := f5.kept (ho _ (clA.ne f5.cla f1.cla (hC.aa 0 3 rfl rfl (by dsimp only; decide))))
  have f8 := f8.kept (ho _ (clA.ne f8.cla f1.cla (hC.aa 0 3 rfl rfl (by dsimp only; decide))))
  have f11 := f11.kept (ho _ (clA.ne f11.cla f1.cla (hC.aa 0 3 rfl rfl (by dsimp only; decide))))
  have f14 := f14.kept (ho _ (clA.ne f14.cla f1.cla (hC.aa 0 3 rfl rfl (by dsimp only; decide))))
  have f17 := f17.kept (ho _ (clA.ne f17.cla f1.cla (hC.aa 0 3 rfl rfl (by dsimp only; decide))))
  have f20 := f20.kept (ho _ (clA.ne f20.cla f1.cla (hC.aa 0 3 rfl rfl (by dsimp only; decide))))
  have f23 := f23.kept (ho _ (clA.ne f23.cla f1.cla (hC.aa 0 3 rfl rfl (by dsimp only; decide))))
  have f1 := n_
  refine lv_iinc (pc := 73) (v := 6) (lv' := [(1, .int 6), (0, .ref mo)]) hx hb dX5_init_73 hl (k := 0) rfl (by decide) (by decide) rfl (fun ls hl => ?_)
  refine lv_goto (pc := 76) (tgt := 56) hx hb dX5_init_76 (by decide) ?_
  refine lv_iload_n (pc := 56) hx hb dX5_init_56 rfl (lv_at hl 0 rfl) ?_
  refine lv_bipush (pc := 57) (v := 6) hx hb dX5_init_57 (by decide) ?_
  refine lv_icmp_ge (pc := 59) (tgt := 79) hx hb dX5_init_59 (by decide) (fun c_24 => ?_) (fun c_24 => ?_)
  rotate_left
  · exact absurd (by decide) c_24
  refine r_vret (pc := 79) E hr hlk hS (by decide) (by decide) ?_ dX5_init_79
  have hrow := c1.ext (g := fun k => some ((fun k => ([r_7, r_10, r_13, r_16, r_19, r_22] : List Nat).getD k 0) k)) f1 (by
    intro k hk
    match k, hk with
    | 0, _ => exact rfl
    | 1, _ => exact rfl
    | 2, _ => exact rfl
    | 3, _ => exact rfl
    | 4, _ => exact rfl
    | 5, _ => exact rfl
    | k + 6, hk => exact absurd hk (by omega))
  have hMK : MK D tk (fun k => ([r_7, r_10, r_13, r_16, r_19, r_22] : List Nat).getD k 0) (fun _ => m_loT 0 1) (fun _ => m_loB 0 1) H := by
    intro k hk
    match k, hk with
    | 0, _ => exact f8
    | 1, _ => exact f11
    | 2, _ => exact f14
    | 3, _ => exact f17
    | 4, _ => exact f20
    | 5, _ => exact f23
    | k + 6, hk => exact absurd hk (by omega)
  have hPk : ∀ k, k < 6 → P ((fun k => ([r_7, r_10, r_13, r_16, r_19, r_22] : List Nat).getD k 0) k) := by
    intro k hk
    match k, hk with
    | 0, _ => exact hPs _ s_f8
    | 1, _ => exact hPs _ s_f11
    | 2, _ => exact hPs _ s_f14
    | 3, _ => exact hPs _ s_f17
    | 4, _ => exact hPs _ s_f20
    | 5, _ => exact hPs _ s_f23
    | k + 6, hk => exact absurd hk (by omega)
  exact ⟨_, _, _, _, _, f0, hrow, hMK, f4, f5, Or.inl ⟨rfl, _, f2⟩, ⟨hPm, hPs _ s_f1, hPs _ s_f2, hPs _ s_f4, hPs _ s_f5, hPk⟩, fun _ _ => m_F01, m_F00, ⟨m_F00, m_D00⟩, Nat.zero_le _, Nat.zero_le _⟩
/-! ===== the law's own methods: with handlers; what the class, the reference and Out's object keep of one another ===== -/
abbrev wsw (y : MethodName) (b : ByteArray) (n : Nat) (r : Option FieldType) (hh : List (Nat × Nat × Nat × Nat)) : List Cond := Cond.codeWith y b n r hh :: GW
theorem gw_inw {y : MethodName} {b : ByteArray} {n : Nat} {r : Option FieldType} {hh : List (Nat × Nat × Nat × Nat)} {w0 : Cond} (h : Cond.codeWith y b n r hh ∈ GW) : GoodIn (w0 :: GW) (wsw y b n r hh) := by
  intro w hw
  have hm : w ∈ GW := by
    rcases List.mem_cons.mp hw with rfl | hw
    · exact h
    · exact hw
  exact ⟨List.mem_cons_of_mem _ hm, good_of_word (List.mem_filter.mp hm).2⟩
/-- exceptions that are none of one another's kind -/
def NCx (U : State) : Prop := va_Nc "java/lang/IllegalArgumentException" "java/lang/IndexOutOfBoundsException" U ∧ va_Nc "java/lang/IllegalStateException" "java/lang/IllegalArgumentException" U
theorem NCx.al {u U : State} (h : NCx u) (hvm : u.vm.Alike U.vm) : NCx U := ⟨va_Nc.moved hvm h.1, va_Nc.moved hvm h.2⟩
abbrev cPW (D : va_G) (tk : Nat → ClassId) (N0 : Nat) (sa : Nat → Nat) (av : List Value) (sz : Nat) (F : Heap → Prop) : Array Value → State → Prop := va_Pc av (fun U => U.heap.size = sz ∧ Ctx D tk N0 sa U ∧ NCx U ∧ F U.heap)
theorem cPW_blind {D : va_G} {tk : Nat → ClassId} {N0 : Nat} {sa : Nat → Nat} {av : List Value} {sz : Nat} {F : Heap → Prop} : FrameBlind (cPW D tk N0 sa av sz F) := fun a U g mk q => ⟨q.1, q.2.1, q.2.2.1.call, NCx.al (u := U) (U := U.calling g mk a) q.2.2.2.1 (Vm.Alike.refl U.vm), q.2.2.2.2⟩
theorem cPW_pre {D : va_G} {tk : Nat → ClassId} {N0 : Nat} {sa : Nat → Nat} {As : List Value} {F : Heap → Prop} {s : State} {A : Nat → Prop} {H : Heap} {locs : List Loc} (h : Ctx D tk N0 sa s) (hN : NCx s) (hS : va_S A s.heap H locs) (hA : ∀ q, A q → N0 ≤ q) (hF : F H) : PreS s H (cPW D tk N0 sa As H.size F) As :=
  ⟨cPW_blind, fun U hU hW => ⟨rfl, by rw [hU], h.go hS hA hU hW, hN.al hW.alike, by rw [hU]; exact hF⟩⟩
theorem mStartW {l : Launch} {D : va_G} {tk : Nat → ClassId} {N0 : Nat} {sa : Nat → Nat} {y : MethodName} {cc : ByteArray} {maxL : Nat} {ret : Option FieldType} {rm : Room} {av : List Value} {sz : Nat} {F : Heap → Prop} {Qc : Array Value → State → Outcome → State → Prop} {mc ms : Nat} {A : Nat → Prop} {hh : List (Nat × Nat × Nat × Nat)} (own : String) (hown : y.cls = own) (hy : plainName y.cls = true) (hlen : (lg_sl av).length ≤ maxL)
    (body : ∀ p e s m args below meth c, CallFix p m c cc maxL s args (wsw y cc maxL ret hh) own → meth.sig.returnType = ret → meth.locks = false → c.exceptionTable.toList = tableOf hh → s.heap.size = sz → Ctx D tk N0 sa s → NCx s → F s.heap →
      ∀ ls, lv_has ls maxL (lv_args 0 av) → W p l e rm s m args below meth c s.heap [] 0 0 (MQ below Qc args s mc ms A) (F0 m 0 ls [])) : Met l y (wsw y cc maxL ret hh) rm (cPW D tk N0 sa av sz F) Qc mc ms A := by
  refine va_MetW (cc := cc) (maxL := maxL) (ret := ret) (hh := hh) hy rfl ?_
  intro p e s m args below meth c s₁ B hml hv
  obtain ⟨rfl, hsz, hC, hN, hF⟩ := hv
  have hl := lv_entry av (n := maxL) hlen
  rw [lg_entry_eq]
  have hts := atoms_spec (ws := wsw y cc maxL ret hh) B.pre
  exact body p e s m _ below meth c ⟨B.exec, B.bytes, hml, by rw [← hown]; exact findClass_of_methodNamed B.named, hts⟩ B.returns B.notSynchronized (vx_table (x := y) B (hts _ List.mem_cons_self)) hsz hC hN hF _ hl
section LW1
variable {p : Program} {l : Launch} {e : Env} {R : Room} {s : State} {m : MethodId} {args : Array Value} {below : List Frame} {meth : Method} {c : Code} {H : Heap} {locs : List Loc} {cells slots : Nat} {Q : State → Prop}
variable {cc : ByteArray} {pc nL : Nat} {ls : Array Slot} {rest st0 : List Value} {Ts : List Cond} {own : String} {D : va_G} {tk : Nat → ClassId} {N0 : Nat} {sa : Nat → Nat} {A0 A1 : Nat → Prop}
variable {y : MethodName} {bytes : ByteArray} {maxL mc ms n index : Nat} {ret : Option FieldType} {rm : Room} {F : Heap → Prop} {Qc : Array Value → State → Outcome → State → Prop} {XC : String → State → State → Prop} {As : List Value} {w0 : Cond} {b : Nat} {a : Array Value} {hh : List (Nat × Nat × Nat × Nat)}
/-- a call that may throw, and what is thrown is caught here -/
theorem kh_i {Rr : Int32 → Heap → Prop} {RX1 : String → Prop} (hr : vx_Run p l e R s m args below meth c H locs cells slots mc ms (F0 m pc ls st0) rest (kQi Rr A1 a) (kX RX1 H.size) A1) (hS : va_S A0 s.heap H locs) (hAA : ∀ q, q < H.size → A1 q → A0 q) (hnew : ∀ q, s.heap.size ≤ q → A0 q)
    (kx : ∀ (E1 : String) (ce : Cell) (q9 : Addr) (H1 : Heap) (locs1 : List Loc), RX1 E1 → H.size ≤ H1.size → (∀ q : Nat, q < H.size → ¬ nwA H.size q → H1[q]? = H[q]?) → va_S A0 s.heap H1 locs1 → H1[q9]? = some ce → ce.vm = .none → s.vm.findClass E1 = some ce.cls → vx_W p l e R s m args below meth c H1 locs1 (cells + mc) (slots + ms) Q (F0 m pc ls rest) q9)
    (kk : ∀ (r : Int32) (H1 : Heap) (locs1 : List Loc), Rr r H1 → H.size ≤ H1.size → (∀ q : Nat, q < H.size → ¬ A1 q → H1[q]? = H[q]?) → va_S A0 s.heap H1 locs1 → W p l e R s m args below meth c H1 locs1 (cells + mc) (slots + ms) Q (F0 m (pc + 3) ls (.int r :: rest))) : W p l e R s m args below meth c H locs cells slots Q (F0 m pc ls st0) :=
  vx_calli hr hS hAA (fun q h => by
    rcases Nat.lt_or_ge q H.size with z | z
    · exact hAA q z h
    · exact hnew q (Nat.le_trans hS.1 z)) (fun q z w => absurd w (Nat.not_le.mpr z)) (fun E1 ce q9 u t H1 locs1 ht _ _ hb hz hk hS1 h1 h2 h3 => kx E1 ce q9 H1 locs1 hb hz hk hS1 h1 h2 h3) (fun r u t H1 locs1 ht _ hp hb hz hk hS1 => by
    have e9 : u = H1 := hb.symm.trans ht
    subst e9
    exact kk r u locs1 hp hz hk hS1)
theorem kh_r {Rr : Nat → Heap → Prop} {RX1 : String → Prop} (hr : vx_Run p l e R s m args below meth c H locs cells slots mc ms (F0 m pc ls st0) rest (kQr Rr A1 a) (kX RX1 H.size) A1) (hS : va_S A0 s.heap H locs) (hAA : ∀ q, q < H.size → A1 q → A0 q) (hnew : ∀ q, s.heap.size ≤ q → A0 q)
    (kx : ∀ (E1 : String) (ce : Cell) (q9 : Addr) (H1 : Heap) (locs1 : List Loc), RX1 E1 → H.size ≤ H1.size → (∀ q : Nat, q < H.size → ¬ nwA H.size q → H1[q]? = H[q]?) → va_S A0 s.heap H1 locs1 → H1[q9]? = some ce → ce.vm = .none → s.vm.findClass E1 = some ce.cls → vx_W p l e R s m args below meth c H1 locs1 (cells + mc) (slots + ms) Q (F0 m pc ls rest) q9)
    (kk : ∀ (r : Nat) (H1 : Heap) (locs1 : List Loc), Rr r H1 → H.size ≤ H1.size → (∀ q : Nat, q < H.size → ¬ A1 q → H1[q]? = H[q]?) → va_S A0 s.heap H1 locs1 → W p l e R s m args below meth c H1 locs1 (cells + mc) (slots + ms) Q (F0 m (pc + 3) ls (.ref r :: rest))) : W p l e R s m args below meth c H locs cells slots Q (F0 m pc ls st0) := by
  intro T hT X
  rcases hr T hT X with ⟨v, st₀, t, T', L, h0, X', hL, e1, e2, ⟨⟨u, ra, hv, -, hb⟩, hF⟩, st⟩ | ⟨q, st₀, t, T', L, E1, ce, h0, X', hL, e1, e2, ⟨u, hp, hb, hF⟩, hce, hcv, hcl, st⟩
  · cases hv
    obtain ⟨k1, k2, k3⟩ := vx_keep h0 e1 hS hAA (fun q h => by
      rcases Nat.lt_or_ge q H.size with z | z
      · exact hAA q z h
      · exact hnew q (Nat.le_trans hS.1 z)) hL hF
    have e9 : u = T'.heap := hb.1.symm.trans e1.symm
    obtain ⟨t2, a1, b1⟩ := kk ra T'.heap (locs ++ L) (e9 ▸ hb.2) k1 k2 k3 T' rfl X'
    exact ⟨t2, st t2 a1, b1⟩
  · obtain ⟨k1, k2, k3⟩ := vx_keep h0 e1 hS (fun q z w => absurd w (Nat.not_le.mpr z)) (fun q h => by
      rcases Nat.lt_or_ge q H.size with z | z
      · exact hAA q z h
      · exact hnew q (Nat.le_trans hS.1 z)) hL hF
    obtain ⟨t2, a1, b1⟩ := kx E1 ce q T'.heap (locs ++ L) hb k1 k2 k3 (by rw [e1]; exact hce) hcv hcl T' rfl X'
    exact ⟨t2, st.trans a1, b1⟩
/-- caught by the first handler, or by the second, the first taking another kind -/
theorem r_c1 (E : CallFix p m c cc nL s args (w0 :: GW) own) (hC : Ctx D tk N0 sa s) {f t h k : Nat} {tl : List (Nat × Nat × Nat × Nat)} (htb : c.exceptionTable.toList = tableOf ((f, t, h, k) :: tl)) (hcv : f ≤ pc ∧ pc < t) (hk0 : k ≠ 0) {X : String} (w1 : Cond.classLink own k X ∈ GW) (w2 : Cond.castable X X ∈ tables_1) {ce : Cell} {q : Addr} (h1 : H[q]? = some ce) (h2 : ce.vm = .none) (h3 : s.vm.findClass X = some ce.cls)
    (kk : W p l e R s m args below meth c H locs cells slots Q (F0 m h ls [.ref q])) : vx_W p l e R s m args below meth c H locs cells slots Q (F0 m pc ls rest) q :=
  vx_catch (E := X) (name := X) E.2.2.2.1 [] ⟨f, t, h, k⟩ (tableOf tl) htb (fun z hz => by cases hz) (by simp only [covers, Bool.and_eq_true, decide_eq_true_eq]; exact hcv) hk0 (E.2.2.2.2 _ (List.mem_cons_of_mem _ w1)) (va_Nw.use rfl (hC.2.2.2.1 _ w2 rfl)) h1 h2 h3 kk
theorem r_c2 (E : CallFix p m c cc nL s args (w0 :: GW) own) (hC : Ctx D tk N0 sa s) {f t h k f1 t1 h1 k1 : Nat} (htb : c.exceptionTable.toList = tableOf [(f1, t1, h1, k1), (f, t, h, k)]) (hcv : f ≤ pc ∧ pc < t) (hk0 : k ≠ 0) (hk1 : k1 ≠ 0) {X X1 : String} (w1 : Cond.classLink own k X ∈ GW) (v1 : Cond.classLink own k1 X1 ∈ GW) (hN : va_Nc X X1 s) (w2 : Cond.castable X X ∈ tables_1) {ce : Cell} {q : Addr} (g1 : H[q]? = some ce) (g2 : ce.vm = .none) (g3 : s.vm.findClass X = some ce.cls)
    (kk : W p l e R s m args below meth c H locs cells slots Q (F0 m h ls [.ref q])) : vx_W p l e R s m args below meth c H locs cells slots Q (F0 m pc ls rest) q :=
  vx_catch (E := X) (name := X) E.2.2.2.1 [⟨f1, t1, h1, k1⟩] ⟨f, t, h, k⟩ [] htb (fun z hz => by
    have e := List.mem_singleton.mp hz
    subst e
    exact Or.inr ⟨hk1, X1, E.2.2.2.2 _ (List.mem_cons_of_mem _ v1), hN⟩) (by simp only [covers, Bool.and_eq_true, decide_eq_true_eq]; exact hcv) hk0 (E.2.2.2.2 _ (List.mem_cons_of_mem _ w1)) (va_Nw.use rfl (hC.2.2.2.1 _ w2 rfl)) g1 g2 g3 kk
/-- a nest mate's field; what else stands -/
theorem r_putO (host : String) (E : CallFix p m c cc nL s args Ts own) (hC : Ctx D tk N0 sa s) {a ci N index : Nat} {fs : List Value} {C ref : String} {T : u_T} (h : c1 D a (.inr (ci, fs)) H) (hS : va_S A0 s.heap H locs) (hA : A0 a) (k : Nat) (ty0 : Nat → FieldType) (hty : ∀ k, k < N → parseFieldDescriptor (T k).2.2.1 = some (ty0 k)) (hnm : ∀ a, a < N → ∀ b, b < N → a ≠ b → (T a).2.1 ≠ (T b).2.1) (hc : vwCl[ci]? = some (C, T, N)) (hk : k < N) (hl : k < fs.length) (hin : ∀ w ∈ u_ws C T N, w ∈ Ts) (hlink : Cond.fieldLinkNest own index ref (T k).2.1 (T k).2.2.1 host ∈ tables_1) (hsame : ∀ x, s.fieldFound? (T k).1 (T k).2.1 (T k).2.2.1 = some x → s.fieldFound? ref (T k).2.1 (T k).2.2.1 = some x) (hfin : (T k).2.2.2 = false) {v : Value} (hn : narrow (ty0 k) v = v) (hfit : fits (ty0 k) v = true)
    (hdg : decode cc pc = .ok (.putfield index, 3)) (kk : ∀ (H1 : Heap) (locs1 : List Loc), c1 D a (.inr (ci, fs.set k v)) H1 → (∀ q, q ≠ a → H1[q]? = H[q]?) → H1.size = H.size → va_S A0 s.heap H1 locs1 → W p l e R s m args below meth c H1 locs1 cells slots Q (F0 m (pc + 3) ls rest)) : W p l e R s m args below meth c H locs cells slots Q (F0 m pc ls (v :: .ref a :: rest)) := by
  obtain ⟨hexec, hb, -, hown, hts⟩ := E
  have hK := hC.1
  have hap := va_apart (own := own) hts hin ty0 hty hnm hK hc
  obtain ⟨r, h1, cell, q1, q2, q3, q4⟩ := h
  have hr : r = (C, T, N) := Option.some.inj (h1.symm.trans hc)
  subst hr
  obtain ⟨hSl, hfc, kC, hkC, hkind⟩ := hK.1 ci _ hc
  obtain ⟨cf, kf, fi, f, hi, hsl⟩ := hSl k hk
  have hlay := hts _ (hin _ (u_in_lay hk))
  unfold u_lay at hlay
  rw [if_neg (by rw [hfin]; decide)] at hlay
  have hst := (u_facts hfc hkC (u_lays hts hin hk) hi).1
  have h6 := u_store hfc hkC hkind hlay hi (hty k hk) hn hfit
  refine va_WputK hexec hb (f := f) hown (va_Nw.use rfl (hC.2.2.2.1 _ hlink rfl)) (hsame _ hi) hst (by rw [q2]; exact h6) q1 q3 (by rw [hsl]; exact k2_hasslot (q4 k hk)) rfl rfl hdg fun H' e1 e2 e3 => ?_
  rw [hsl] at e1 ⊢
  exact kk H' _ ⟨_, hc, t_OB.to (V := updV (vp_V fs) k v) ⟨_, e1, q2, q3, t_set q4 hap hk v⟩ (fun j _ => vp_updV_set hl v j)⟩ e3 e2 (hS.put e2 e3 hA)
/-- a call of a method with handlers -/
theorem k_SW (E : CallFix p m c cc nL s args (w0 :: GW) own) (hC : Ctx D tk N0 sa s) (hN : NCx s) (hS : va_S A0 s.heap H locs) (hA : ∀ q, A0 q → N0 ≤ q) (hl : ls.size = nL)
    (hM : Met l y (wsw y bytes maxL ret hh) rm (cPW D tk N0 sa As H.size F) Qc mc ms A1) (w1 : Cond.methodLink own index y ∈ GW) (w2 : Cond.static y ∈ GW) (w3 : Cond.initialized y.cls ∈ GW) (w4 : Cond.codeWith y bytes maxL ret hh ∈ GW) (hd : okD y n = true) (hlen : As.length = n) (hR : okR rm R maxL mc ms cells slots)
    (hst : st0 = As.reverse ++ rest) (hcat : (rest.map fun v => v.category).sum ≤ 8) (hF : F H) (hdg : decode cc pc = .ok (.invokestatic index, 3)) :
    va_Run p l e R s m args below meth c H locs cells slots mc ms (F0 m pc ls st0) rest (Qc As.toArray) A1 :=
  vx_runSW (n := As.length) (hh := hh) E hM (vx_cwSW As.length E.2.2.2.2 (goodIn_app (fun w hw => by
    simp only [List.mem_cons, List.not_mem_nil, or_false] at hw
    have hm : w ∈ GW := by rcases hw with rfl | rfl | rfl <;> assumption
    exact ⟨List.mem_cons_of_mem _ hm, good_of_word (List.mem_filter.mp hm).2⟩) (gw_inw w4)) rfl hR.1.1 hR.1.2 (okD.of (hlen ▸ hd)) hR.2.1) (cPW_pre hC hN hS hA hF) rfl rfl hl hst (lv_room hcat) hdg hR.2.2
/-- a nest mate's constructor -/
theorem k_IN (host : String) (E : CallFix p m c cc nL s args (w0 :: GW) own) (hC : Ctx D tk N0 sa s) (hS : va_S A0 s.heap H locs) (hA : ∀ q, A0 q → N0 ≤ q) (hl : ls.size = nL)
    (hM : Met l y (wsy y bytes maxL none) rm (cP D tk N0 sa (.ref b :: As) H.size F) Qc mc ms A1) (w1 : Cond.methodLinkNest own index y host ∈ tables_1) (w2 : Cond.instanceMethod y ∈ GW) (w3 : Cond.initialized y.cls ∈ GW) (w4 : Cond.code y bytes maxL none ∈ GW) (hy1 : y.name = "<init>") (hd : okD y n = true) (hlen : As.length = n) (hR : okR rm R maxL mc ms cells slots)
    (hst : st0 = As.reverse ++ .ref b :: rest) (hcat : (rest.map fun v => v.category).sum ≤ 8) (hF : F H) (hdg : decode cc pc = .ok (.invokespecial index, 3)) :
    va_Run p l e R s m args below meth c H locs cells slots mc ms (F0 m pc ls st0) rest (Qc (Value.ref b :: As).toArray) A1 :=
  va_runIN (n := As.length) E hM ⟨va_cnB As.length E.2.2.2.2 (gw_in w4) rfl hR.1.1 hR.1.2 (hC.2.2.2.1 _ w1 rfl) (E.2.2.2.2 _ (List.mem_cons_of_mem _ w3)) (okD.of (hlen ▸ hd)) hR.2.1, hy1, E.2.2.2.2 _ (List.mem_cons_of_mem _ w2)⟩ (cP_pre hC hS hA hF) rfl rfl hl hst (lv_room hcat) hdg hR.2.2
end LW1
/-! what a wrapper of the class may write: its world, Out's object, what is new -/
def lwA (ad : Nat → Nat) (uo sz : Nat) : Nat → Prop := fun q => cwA ad sz q ∨ q = uo
theorem lwA.ge {N0 sz uo : Nat} {ad : Nat → Nat} (h : ADok N0 ad) (hu : N0 ≤ uo) (hz : N0 ≤ sz) : ∀ q, lwA ad uo sz q → N0 ≤ q := fun q z => z.elim (cwA.ge h hz q) (fun e => e ▸ hu)
theorem cwC {D : va_G} {tk : Nat → ClassId} {N0 : Nat} {sa : Nat → Nat} {s : State} {ad : Nat → Nat} {g : CS} {H : Heap} (hC : Ctx D tk N0 sa s) (h : CW D tk ad g H) {a : Nat} (ha : clA a (D.1 12) H ∨ clA a (D.1 2) H) : ∀ k, k < 22 → ad k ≠ a := by
  intro k hk
  rcases ha with ha | ha
  · rcases cw_cl h hk with ⟨ci, h1, h2, hc⟩ | hc | hc
    · obtain rfl | rfl | rfl | rfl : ci = 8 ∨ ci = 9 ∨ ci = 10 ∨ ci = 11 := by omega
      · exact clA.ne hc ha (hC.oo 8 12 rfl rfl (by decide))
      · exact clA.ne hc ha (hC.oo 9 12 rfl rfl (by decide))
      · exact clA.ne hc ha (hC.oo 10 12 rfl rfl (by decide))
      · exact clA.ne hc ha (hC.oo 11 12 rfl rfl (by decide))
    · exact clA.ne hc ha (hC.ao 12 0 rfl rfl)
    · exact clA.ne hc ha (hC.ao 12 2 rfl rfl)
  · rcases cw_cl h hk with ⟨ci, h1, h2, hc⟩ | hc | hc
    · obtain rfl | rfl | rfl | rfl : ci = 8 ∨ ci = 9 ∨ ci = 10 ∨ ci = 11 := by omega
      · exact clA.ne hc ha (hC.oo 8 2 rfl rfl (by decide))
      · exact clA.ne hc ha (hC.oo 9 2 rfl rfl (by decide))
      · exact clA.ne hc ha (hC.oo 10 2 rfl rfl (by decide))
      · exact clA.ne hc ha (hC.oo 11 2 rfl rfl (by decide))
    · exact clA.ne hc ha (hC.ao 2 0 rfl rfl)
    · exact clA.ne hc ha (hC.ao 2 2 rfl rfl)
theorem lwA.not {ad : Nat → Nat} {uo sz q : Nat} (hw : ∀ k, k < 22 → ad k ≠ q) (hu : q ≠ uo) (hq : q < sz) : ¬ lwA ad uo sz q := fun z => z.elim (cwN hw hq) hu
theorem MI.kept {D : va_G} {tk : Nat → ClassId} {sa : Nat → Nat} {P S : Nat → Prop} {mo n9 : Nat} {kn th : Int32} {tt bb : Nat → Int64} {eT eB oT oB : Int64} {pk : Nat} {ca rf : Int32} {vs : Nat → Value} {H H1 : Heap} (h : MI D tk sa P mo tt bb eT eB oT oB pk ca rf vs kn n9 th H) (hq : ∀ q : Nat, q < H.size → ¬ S q → H1[q]? = H[q]?) (nP : ∀ q, q < H.size → P q → ¬ S q) (n2 : ∀ q, clA q (D.1 2) H → q < H.size → ¬ S q) : MI D tk sa P mo tt bb eT eB oT oB pk ca rf vs kn n9 th H1 := by
  obtain ⟨ra, rl, ex, ro, rt, fo, fj, fk, fe, fr, fw, ⟨hPm, hPa, hPl, hPe, hPr, hPk⟩, hM⟩ := h
  exact ⟨ra, rl, ex, ro, rt, fo.kept (hq _ fo.lt (nP _ fo.lt hPm)), fj.kept (hq _ fj.lt (nP _ fj.lt hPa)), fk.kept (fun k hk => hq _ (fk k hk).lt (nP _ (fk k hk).lt (hPk k hk))), fe.kept (hq _ fe.lt (nP _ fe.lt hPe)), fr.kept (hq _ fr.lt (nP _ fr.lt hPr)), fw.kept hq (fun q _ hl hp => nP q hl (hp.elim id (fun e => e ▸ hPl))) (fun q _ hl hp => nP q hl hp) (fun q hc hl => n2 q hc hl), ⟨hPm, hPa, hPl, hPe, hPr, hPk⟩, hM⟩
/-- the reference's cells in the law: behind the class's, and not Out's object -/
def PL (M0 uo : Nat) : Nat → Prop := fun q => M0 ≤ q ∧ q ≠ uo
theorem MI.wrap {D : va_G} {tk : Nat → ClassId} {N0 : Nat} {sa : Nat → Nat} {s : State} {ad : Nat → Nat} {g : CS} {M0 uo mo n9 : Nat} {kn th : Int32} {tt bb : Nat → Int64} {eT eB oT oB : Int64} {pk : Nat} {ca rf : Int32} {vs : Nat → Value} {H H1 : Heap} {v : List Value} (hC : Ctx D tk N0 sa s) (hW : CW D tk ad g H) (hu : c1 D uo (.inr (12, v)) H) (had : ∀ k, k < 22 → ad k < M0) (h : MI D tk sa (PL M0 uo) mo tt bb eT eB oT oB pk ca rf vs kn n9 th H) (hk : ∀ q : Nat, q < H.size → ¬ lwA ad uo H.size q → H1[q]? = H[q]?) : MI D tk sa (PL M0 uo) mo tt bb eT eB oT oB pk ca rf vs kn n9 th H1 :=
  h.kept hk (fun q hl hp => lwA.not (fun k hk9 e => by have := had k hk9; have := hp.1; omega) hp.2 hl) (fun q hc hl => lwA.not (cwC hC hW (Or.inr hc)) (clA.ne hc hu.cl (hC.oo 2 12 rfl rfl (by decide))) hl)
theorem xo_1 {a b : Nat} (h : xo a b = 0) : a = 0 := by
  unfold xo at h
  split at h
  · assumption
  · exact h
theorem xo_2 {a b : Nat} (h : xo a b = 0) : b = 0 := by
  unfold xo at h
  split at h
  · exact h
  · exact absurd h (by assumption)
theorem tx_mul0 {a : Nat} (h : 2 * a = 0) : a = 0 := by omega
theorem say_16 {x y : Int32} (h : (if x < y then 0 else 2) = (0 : Nat)) : x < y := by
  split at h
  · assumption
  · cases h
/-! ===== which exception, on both sides ===== -/
theorem bR_2 (x : Int32) : bR x = 0 ∨ bR x = 1 := by
  unfold bR
  split
  · exact Or.inr rfl
  · split
    · exact Or.inl rfl
    · exact Or.inr rfl
theorem bW_2 (x lo hi : Int32) : bW x lo hi = 0 ∨ bW x lo hi = 1 := by
  unfold bW
  split
  · exact Or.inr rfl
  · split
    · exact Or.inl rfl
    · exact Or.inr rfl
theorem bN_2 (x : Int32) : bN x = 0 ∨ bN x = 1 := by
  unfold bN
  split
  · exact Or.inl rfl
  · exact Or.inr rfl
theorem xo_2b {a b : Nat} (ha : a = 0 ∨ a = 1) (hb : b = 0 ∨ b = 1) : xo a b = 0 ∨ xo a b = 1 := by
  unfold xo
  split <;> assumption
theorem no_bR (x : Int32) : m_isNo x = nI (bR x) := by
  unfold m_isNo m_isIn bR
  by_cases a : x < 0
  · simp [a]; rfl
  · by_cases b : x < 6
    · have c : ¬ (5 : Int32) < x := fun z => by
        have h1 := Int32.lt_iff_toInt_lt.mp z
        have h2 := Int32.lt_iff_toInt_lt.mp b
        have e5 : (5 : Int32).toInt = 5 := by decide
        have e6 : (6 : Int32).toInt = 6 := by decide
        omega
      simp [a, b, c]; rfl
    · have c : (5 : Int32) < x := by
        have h2 : ¬ x.toInt < (6 : Int32).toInt := fun z => b (Int32.lt_iff_toInt_lt.mpr z)
        have e5 : (5 : Int32).toInt = 5 := by decide
        have e6 : (6 : Int32).toInt = 6 := by decide
        exact Int32.lt_iff_toInt_lt.mpr (by omega)
      simp [a, b, c]; rfl
theorem in_bW (x lo hi : Int32) : m_not (m_isIn x lo hi) = nI (bW x lo hi) := by
  unfold m_not m_isIn bW
  by_cases a : x < lo
  · simp [a]; rfl
  · by_cases b : x ≤ hi
    · simp [a, b, Int32.not_lt.mpr b]; rfl
    · simp [a, b, Int32.not_le.mp b]; rfl
theorem lt_bN (x : Int32) : m_lt0 x = nI (bN x) := by
  unfold m_lt0 bN
  by_cases a : x < 0
  · simp [a, Int32.not_le.mpr a]; rfl
  · simp [a, Int32.not_lt.mp a]; rfl
theorem or_xo {A B : Int32} {a b : Nat} (ha : a = 0 ∨ a = 1) (hb : b = 0 ∨ b = 1) (hA : A = nI a) (hB : B = nI b) : m_or A B = nI (xo a b) := by
  subst hA hB
  rcases ha with rfl | rfl <;> rcases hb with rfl | rfl <;> rfl
theorem ano_xo (x y : Int32) : m_areNo x y = nI (xo (bR x) (bR y)) := by
  have h : m_areNo x y = m_or (m_isNo x) (m_isNo y) := rfl
  rw [h]
  exact or_xo (bR_2 x) (bR_2 y) (no_bR x) (no_bR y)
theorem th_of {A B : Int32} {a b xc : Nat} (ha : a = 0 ∨ a = 1) (hb : b = 0 ∨ b = 1) (hA : A = nI a) (hB : B = nI b) (hx : xc = xo a (2 * b)) : nI xc = m_th A B ∧ (xc = 0 ↔ m_fl A B = 0) := by
  subst hA hB hx
  rcases ha with rfl | rfl <;> rcases hb with rfl | rfl <;> exact ⟨rfl, by decide⟩
theorem bR_lt6 {x : Int32} (h : bR x = 0) : nn x < 6 := bR_lt h
theorem bW_in {x lo hi : Int32} (h : bW x lo hi = 0) : lo.toInt ≤ x.toInt ∧ x.toInt ≤ hi.toInt := by
  unfold bW at h
  by_cases a : x < lo
  · rw [if_pos a] at h
    cases h
  · rw [if_neg a] at h
    by_cases b : x ≤ hi
    · exact ⟨Int32.le_iff_toInt_le.mp (Int32.not_lt.mp a), Int32.le_iff_toInt_le.mp b⟩
    · rw [if_neg b] at h
      cases h
theorem bW_nn {x hi : Int32} {n : Nat} (hn : hi.toInt = (n : Int)) (h : bW x 0 hi = 0) : x = nI (nn x) ∧ nn x ≤ n := by
  obtain ⟨h1, h2⟩ := bW_in h
  have e0 : (0 : Int32).toInt = 0 := rfl
  have e : nn x = x.toInt.toNat := rfl
  have hlt := x.toInt_lt
  refine ⟨Int32.toInt_inj.mp ?_, by omega⟩
  rw [nI_toInt (by omega)]
  omega
theorem bW_n1 {x hi : Int32} {n : Nat} (hn : hi.toInt = (n : Int)) (h : bW x 1 hi = 0) : x = nI (nn x) ∧ 1 ≤ nn x ∧ nn x ≤ n := by
  obtain ⟨h1, h2⟩ := bW_in h
  have e0 : (1 : Int32).toInt = 1 := rfl
  have e : nn x = x.toInt.toNat := rfl
  have hlt := x.toInt_lt
  refine ⟨Int32.toInt_inj.mp ?_, by omega, by omega⟩
  rw [nI_toInt (by omega)]
  omega
theorem bW_md {x : Int32} (h : bW x 0 4 = 0) : x = 0 ∨ x = 1 ∨ x = 2 ∨ x = 3 ∨ x = 4 := by
  obtain ⟨e, hn⟩ := bW_nn (n := 4) (by decide) h
  generalize nn x = k at e hn
  subst e
  have : k = 0 ∨ k = 1 ∨ k = 2 ∨ k = 3 ∨ k = 4 := by omega
  rcases this with rfl | rfl | rfl | rfl | rfl
  · exact Or.inl rfl
  · exact Or.inr (Or.inl rfl)
  · exact Or.inr (Or.inr (Or.inl rfl))
  · exact Or.inr (Or.inr (Or.inr (Or.inl rfl)))
  · exact Or.inr (Or.inr (Or.inr (Or.inr rfl)))
theorem bN_le {x : Int32} (h : bN x = 0) : 0 ≤ x := by
  unfold bN at h
  split at h
  · assumption
  · cases h
/-! ===== each call, on both sides ===== -/
/-- what a wrapper of the law tells: which exception, or the answer -/
def WR (xc : Nat) (w : CS) (y : Int64) (g : CS) (rk : Int32) (g1 : CS) (ox : Int64) : Prop := rk = nI xc ∧ (xc = 0 → g1 = w ∧ ox = y) ∧ (¬ xc = 0 → g1 = g)
/-- the same, of a text -/
def WS (xc : Nat) (w : CS) (g : CS) (rk : Int32) (g1 : CS) : Prop := rk = nI xc ∧ (xc = 0 → g1 = w) ∧ (¬ xc = 0 → g1 = g)
section RV15
variable {g g1 w : CS} {kn : Int32} {tt bb tt1 bb1 : Nat → Int64} {eT eB oT oB : Int64} {pk : Nat} {ca rf rf1 : Int32} {vs : Nat → Value} {n9 xc k : Nat} {A B rk r th y x : Int32} {ox : Int64} {o : Option (Int64 × Int64)}
theorem l_act (h : RV g kn tt bb eT eB oT oB pk ca rf vs n9) (hx : nI xc = m_th A B ∧ (xc = 0 ↔ m_fl A B = 0)) (hs : xc = 0 → SMV kn tt bb eT eB oT oB pk ca rf vs n9 k o y w) (hw : WR xc w y.toInt64 g rk g1 ox) (hm : AC A B tt bb rf k o r th tt1 bb1 rf1) : th = rk ∧ (rk = 0 → ox = r.toInt64) ∧ RV g1 kn tt1 bb1 eT eB oT oB pk ca rf1 vs n9 := by
  obtain ⟨w1, w2, w3⟩ := hw
  obtain ⟨m1, m2, m3⟩ := hm
  refine ⟨by rw [m1, w1, hx.1], ?_⟩
  by_cases c : xc = 0
  · obtain ⟨v1, v2⟩ := w2 c
    obtain ⟨s1, s2⟩ := hs c
    obtain ⟨b1, b2, b3, b4⟩ := m2 (hx.2.mp c)
    rw [v1, v2, b1, b2, b3, b4, s1]
    exact ⟨fun _ => rfl, s2⟩
  · obtain ⟨b2, b3, b4⟩ := m3 (fun z => c (hx.2.mpr z))
    rw [w3 c, b2, b3, b4]
    refine ⟨fun z => ?_, h⟩
    exfalso
    rw [w1, hx.1] at z
    refine c (hx.2.mpr ?_)
    unfold m_th at z
    unfold m_fl
    by_cases a : A = 0
    · rw [if_pos a] at z ⊢
      by_cases b : B = 0
      · rw [if_pos b]
      · rw [if_neg b] at z
        exact absurd z (by decide)
    · rw [if_neg a] at z
      exact absurd z (by decide)
/-- a question: nothing changes but what is reckoned with -/
theorem l_ask (h : RV g kn tt bb eT eB oT oB pk ca rf vs n9) (hx : nI xc = m_th A B ∧ (xc = 0 ↔ m_fl A B = 0)) (hs : xc = 0 → y = x ∧ RV w kn tt bb eT eB oT oB pk ca rf vs n9) (hw : WR xc w y.toInt64 g rk g1 ox) (hm : QU A B x r th) : th = rk ∧ (rk = 0 → ox = r.toInt64) ∧ RV g1 kn tt bb eT eB oT oB pk ca rf vs n9 := by
  obtain ⟨w1, w2, w3⟩ := hw
  obtain ⟨m1, m2⟩ := hm
  refine ⟨by rw [m1, w1, hx.1], ?_⟩
  by_cases c : xc = 0
  · obtain ⟨v1, v2⟩ := w2 c
    obtain ⟨s1, s2⟩ := hs c
    rw [v1, v2, m2 (hx.2.mp c), s1]
    exact ⟨fun _ => rfl, s2⟩
  · rw [w3 c]
    refine ⟨fun z => ?_, h⟩
    exfalso
    rw [w1, hx.1] at z
    refine c (hx.2.mpr ?_)
    unfold m_th at z
    unfold m_fl
    by_cases a : A = 0
    · rw [if_pos a] at z ⊢
      by_cases b : B = 0
      · rw [if_pos b]
      · rw [if_neg b] at z
        exact absurd z (by decide)
    · rw [if_neg a] at z
      exact absurd z (by decide)
/-- a text: nothing is held against it -/
theorem l_txt (h : RV g kn tt bb eT eB oT oB pk ca rf vs n9) (hs : xc = 0 → lz g w) (hw : WS xc w g rk g1) : RV g1 kn tt bb eT eB oT oB pk ca rf vs n9 := by
  obtain ⟨w1, w2, w3⟩ := hw
  by_cases c : xc = 0
  · rw [w2 c]
    exact h.lzv (hs c)
  · rw [w3 c]
    exact h
variable {x1 x2 x3 x4 : Int32}
theorem xe_1 (x : Int32) : nI (bR x) = m_th (m_isNo x) 0 ∧ (bR x = 0 ↔ m_fl (m_isNo x) 0 = 0) := th_of (bR_2 x) (Or.inl rfl) (no_bR x) nI_0.symm (by unfold xo; split <;> omega)
theorem xe_2 (x y : Int32) : nI (xo (bR x) (bR y)) = m_th (m_areNo x y) 0 ∧ (xo (bR x) (bR y) = 0 ↔ m_fl (m_areNo x y) 0 = 0) := th_of (xo_2b (bR_2 x) (bR_2 y)) (Or.inl rfl) (ano_xo x y) nI_0.symm (by
  generalize xo (bR x) (bR y) = q
  unfold xo; split <;> omega)
theorem xe_3 (x y z : Int32) : nI (xo (bR x) (xo (bR y) (bR z))) = m_th (m_or (m_isNo x) (m_areNo y z)) 0 ∧ (xo (bR x) (xo (bR y) (bR z)) = 0 ↔ m_fl (m_or (m_isNo x) (m_areNo y z)) 0 = 0) := th_of (xo_2b (bR_2 x) (xo_2b (bR_2 y) (bR_2 z))) (Or.inl rfl) (or_xo (bR_2 x) (xo_2b (bR_2 y) (bR_2 z)) (no_bR x) (ano_xo y z)) nI_0.symm (by
  generalize xo (bR x) (xo (bR y) (bR z)) = q
  unfold xo; split <;> omega)
theorem xe_1b {x B : Int32} {b : Nat} (hb : b = 0 ∨ b = 1) (hB : B = nI b) : nI (xo (bR x) (2 * b)) = m_th (m_isNo x) B ∧ (xo (bR x) (2 * b) = 0 ↔ m_fl (m_isNo x) B = 0) := th_of (bR_2 x) hb (no_bR x) hB rfl
theorem xe_2b {x y B : Int32} {b : Nat} (hb : b = 0 ∨ b = 1) (hB : B = nI b) : nI (xo (bR x) (xo (bR y) (2 * b))) = m_th (m_areNo x y) B ∧ (xo (bR x) (xo (bR y) (2 * b)) = 0 ↔ m_fl (m_areNo x y) B = 0) := th_of (xo_2b (bR_2 x) (bR_2 y)) hb (ano_xo x y) hB (by
  have h1 := bR_2 x
  have h2 := bR_2 y
  generalize bR x = p at *
  generalize bR y = q at *
  unfold xo
  repeat' split
  all_goals omega)
theorem xo_22 {a b : Nat} : xo (2 * a) (2 * b) = 2 * xo a b := by
  unfold xo
  repeat' split
  all_goals omega
theorem xe_put : nI (xo (bR x1) (if x3 = 0 then 2 else 0)) = m_th (m_isNo x1) (m_is0 x3) ∧ (xo (bR x1) (if x3 = 0 then 2 else 0) = 0 ↔ m_fl (m_isNo x1) (m_is0 x3) = 0) := by
  by_cases c : x3 = 0
  · rw [if_pos c, show m_is0 x3 = 1 from if_pos c]
    exact xe_1b (b := 1) (Or.inr rfl) rfl
  · rw [if_neg c, show m_is0 x3 = 0 from if_neg c]
    exact xe_1b (b := 0) (Or.inl rfl) rfl
theorem l_put (h : RV g kn tt bb eT eB oT oB pk ca rf vs n9) (hw : WR (xo (bR x1) (if x3 = 0 then 2 else 0)) (f_setW (f_become g 6 x2.toInt64 x3.toInt64) (nn x1)) (f_setR (f_become g 6 x2.toInt64 x3.toInt64) (nn x1)).toInt64 g rk g1 ox) (hm : AC (m_isNo x1) (m_is0 x3) tt bb rf (nn x1) (LO x2.toInt64 x3.toInt64) r th tt1 bb1 rf1) : th = rk ∧ (rk = 0 → ox = r.toInt64) ∧ RV g1 kn tt1 bb1 eT eB oT oB pk ca rf1 vs n9 :=
  l_act h xe_put (fun c => s_put h (bR_lt6 (xo_1 c)) (fun z => by
    have := xo_2 c
    rw [if_pos z] at this
    cases this)) hw hm
theorem l_putDecimal (h : RV g kn tt bb eT eB oT oB pk ca rf vs n9) (hw : WR (xo (bR x1) (2 * bW x3 0 9)) (f_setW (f_become g 6 x2.toInt64 (f_p10 x3)) (nn x1)) (f_setR (f_become g 6 x2.toInt64 (f_p10 x3)) (nn x1)).toInt64 g rk g1 ox) (hm : AC (m_isNo x1) (m_not (m_isIn x3 0 9)) tt bb rf (nn x1) (LO x2.toInt64 (m_pow x3)) r th tt1 bb1 rf1) : th = rk ∧ (rk = 0 → ox = r.toInt64) ∧ RV g1 kn tt1 bb1 eT eB oT oB pk ca rf1 vs n9 :=
  l_act h (xe_1b (bW_2 _ _ _) (in_bW _ _ _)) (fun c => by
    obtain ⟨e, hn⟩ := bW_nn (n := 9) (by decide) (tx_mul0 (xo_2 c))
    have := s_ptd h (bR_lt6 (xo_1 c)) (x := x2) hn
    rw [← e] at this
    exact this) hw hm
theorem l_copy (h : RV g kn tt bb eT eB oT oB pk ca rf vs n9) (hw : WR (xo (bR x1) (bR x2)) (f_setW (f_assign g 6 (nn x2)) (nn x1)) (f_setR (f_assign g 6 (nn x2)) (nn x1)).toInt64 g rk g1 ox) (hm : AC (m_areNo x1 x2) 0 tt bb rf (nn x1) (some (tt (nn x2), bb (nn x2))) r th tt1 bb1 rf1) : th = rk ∧ (rk = 0 → ox = r.toInt64) ∧ RV g1 kn tt1 bb1 eT eB oT oB pk ca rf1 vs n9 :=
  l_act h (xe_2 _ _) (fun c => s_cpy h (bR_lt6 (xo_1 c)) (bR_lt6 (xo_2 c))) hw hm
theorem l_swap (h : RV g kn tt bb eT eB oT oB pk ca rf vs n9) (hw : WR (xo (bR x1) (bR x2)) (f_setW (f_swap g (nn x1) (nn x2)) (nn x1)) (f_setR (f_swap g (nn x1) (nn x2)) (nn x1)).toInt64 g rk g1 ox) (hm : SW (m_areNo x1 x2) 0 tt bb (nn x1) (nn x2) r th tt1 bb1) : th = rk ∧ (rk = 0 → ox = r.toInt64) ∧ RV g1 kn tt1 bb1 eT eB oT oB pk ca rf vs n9 := by
  have hx := xe_2 x1 x2
  obtain ⟨w1, w2, w3⟩ := id hw
  obtain ⟨m1, m2, m3⟩ := hm
  by_cases c : xo (bR x1) (bR x2) = 0
  · obtain ⟨v1, v2⟩ := w2 c
    obtain ⟨s1, s2⟩ := s_swp h (bR_lt6 (xo_1 c)) (bR_lt6 (xo_2 c))
    obtain ⟨b1, b2, b3⟩ := m2 (hx.2.mp c)
    rw [v1, v2, b1, b2, b3, s1]
    exact ⟨by rw [m1, w1, hx.1], fun _ => rfl, s2⟩
  · obtain ⟨b2, b3⟩ := m3 (fun z => c (hx.2.mpr z))
    rw [b2, b3]
    exact l_ask (A := m_areNo x1 x2) (B := 0) (x := 0) h hx (fun z => absurd z c) hw ⟨m1, fun z => absurd (hx.2.mpr z) c⟩
theorem l_plus (h : RV g kn tt bb eT eB oT oB pk ca rf vs n9) (hw : WR (xo (bR x1) (xo (bR x2) (bR x3))) (f_setW (f_sum g 6 (nn x2) (nn x3)) (nn x1)) (f_setR (f_sum g 6 (nn x2) (nn x3)) (nn x1)).toInt64 g rk g1 ox) (hm : AC (m_or (m_isNo x1) (m_areNo x2 x3)) 0 tt bb rf (nn x1) (LO (tt (nn x2) * bb (nn x3) + (1 : Int32).toInt64 * (tt (nn x3) * bb (nn x2))) (bb (nn x2) * bb (nn x3))) r th tt1 bb1 rf1) : th = rk ∧ (rk = 0 → ox = r.toInt64) ∧ RV g1 kn tt1 bb1 eT eB oT oB pk ca rf1 vs n9 :=
  l_act h (xe_3 _ _ _) (fun c => s_pls h (bR_lt6 (xo_1 c)) (bR_lt6 (xo_1 (xo_2 c))) (bR_lt6 (xo_2 (xo_2 c)))) hw hm
theorem l_minus (h : RV g kn tt bb eT eB oT oB pk ca rf vs n9) (hw : WR (xo (bR x1) (xo (bR x2) (bR x3))) (f_setW (f_dif g 6 (nn x2) (nn x3)) (nn x1)) (f_setR (f_dif g 6 (nn x2) (nn x3)) (nn x1)).toInt64 g rk g1 ox) (hm : AC (m_or (m_isNo x1) (m_areNo x2 x3)) 0 tt bb rf (nn x1) (LO (tt (nn x2) * bb (nn x3) + (-1 : Int32).toInt64 * (tt (nn x3) * bb (nn x2))) (bb (nn x2) * bb (nn x3))) r th tt1 bb1 rf1) : th = rk ∧ (rk = 0 → ox = r.toInt64) ∧ RV g1 kn tt1 bb1 eT eB oT oB pk ca rf1 vs n9 :=
  l_act h (xe_3 _ _ _) (fun c => s_min h (bR_lt6 (xo_1 c)) (bR_lt6 (xo_1 (xo_2 c))) (bR_lt6 (xo_2 (xo_2 c)))) hw hm
theorem l_times (h : RV g kn tt bb eT eB oT oB pk ca rf vs n9) (hw : WR (xo (bR x1) (xo (bR x2) (bR x3))) (f_setW (f_mul g 6 (nn x2) (nn x3)) (nn x1)) (f_setR (f_mul g 6 (nn x2) (nn x3)) (nn x1)).toInt64 g rk g1 ox) (hm : AC (m_or (m_isNo x1) (m_areNo x2 x3)) 0 tt bb rf (nn x1) (LO (tt (nn x2) * tt (nn x3)) (bb (nn x2) * bb (nn x3))) r th tt1 bb1 rf1) : th = rk ∧ (rk = 0 → ox = r.toInt64) ∧ RV g1 kn tt1 bb1 eT eB oT oB pk ca rf1 vs n9 :=
  l_act h (xe_3 _ _ _) (fun c => s_tim h (bR_lt6 (xo_1 c)) (bR_lt6 (xo_1 (xo_2 c))) (bR_lt6 (xo_2 (xo_2 c)))) hw hm
theorem l_over (h : RV g kn tt bb eT eB oT oB pk ca rf vs n9) (hw : WR (xo (bR x1) (xo (bR x2) (bR x3))) (f_overW g (nn x1) (nn x2) (nn x3)) (f_overR g (nn x1) (nn x2) (nn x3)).toInt64 g rk g1 ox) (hm : AC (m_or (m_isNo x1) (m_areNo x2 x3)) 0 tt bb rf (nn x1) (m_OV (tt (nn x2)) (bb (nn x2)) (tt (nn x3)) (bb (nn x3))) r th tt1 bb1 rf1) : th = rk ∧ (rk = 0 → ox = r.toInt64) ∧ RV g1 kn tt1 bb1 eT eB oT oB pk ca rf1 vs n9 :=
  l_act h (xe_3 _ _ _) (fun c => s_ovr h (bR_lt6 (xo_1 c)) (bR_lt6 (xo_1 (xo_2 c))) (bR_lt6 (xo_2 (xo_2 c)))) hw hm
theorem l_mediant (h : RV g kn tt bb eT eB oT oB pk ca rf vs n9) (hw : WR (xo (bR x1) (xo (bR x2) (bR x3))) (f_setW (f_med g 6 (nn x2) (nn x3)) (nn x1)) (f_setR (f_med g 6 (nn x2) (nn x3)) (nn x1)).toInt64 g rk g1 ox) (hm : AC (m_or (m_isNo x1) (m_areNo x2 x3)) 0 tt bb rf (nn x1) (LO (tt (nn x2) + tt (nn x3)) (bb (nn x2) + bb (nn x3))) r th tt1 bb1 rf1) : th = rk ∧ (rk = 0 → ox = r.toInt64) ∧ RV g1 kn tt1 bb1 eT eB oT oB pk ca rf1 vs n9 :=
  l_act h (xe_3 _ _ _) (fun c => s_med h (bR_lt6 (xo_1 c)) (bR_lt6 (xo_1 (xo_2 c))) (bR_lt6 (xo_2 (xo_2 c)))) hw hm
theorem l_negate (h : RV g kn tt bb eT eB oT oB pk ca rf vs n9) (hw : WR (bR x1) (f_setW (f_become g 6 (-tT g (nn x1)) (tB g (nn x1))) (nn x1)) (f_setR (f_become g 6 (-tT g (nn x1)) (tB g (nn x1))) (nn x1)).toInt64 g rk g1 ox) (hm : AC (m_isNo x1) 0 tt bb rf (nn x1) (LO (-tt (nn x1)) (bb (nn x1))) r th tt1 bb1 rf1) : th = rk ∧ (rk = 0 → ox = r.toInt64) ∧ RV g1 kn tt1 bb1 eT eB oT oB pk ca rf1 vs n9 :=
  l_act h (xe_1 _) (fun c => s_neg h (bR_lt6 c)) hw hm
theorem l_invert (h : RV g kn tt bb eT eB oT oB pk ca rf vs n9) (hw : WR (bR x1) (f_invW g (nn x1)) (f_invR g (nn x1)).toInt64 g rk g1 ox) (hm : AC (m_isNo x1) 0 tt bb rf (nn x1) (m_IV (tt (nn x1)) (bb (nn x1))) r th tt1 bb1 rf1) : th = rk ∧ (rk = 0 → ox = r.toInt64) ∧ RV g1 kn tt1 bb1 eT eB oT oB pk ca rf1 vs n9 :=
  l_act h (xe_1 _) (fun c => s_inv h (bR_lt6 c)) hw hm
theorem l_raise (h : RV g kn tt bb eT eB oT oB pk ca rf vs n9) (hw : WR (xo (bR x1) (2 * bW x2 (-6) 6)) (f_raiW g (nn x1) x2) (f_raiR g (nn x1) x2).toInt64 g rk g1 ox) (hm : AC (m_isNo x1) (m_not (m_isIn x2 (-6) 6)) tt bb rf (nn x1) (m_RA (tt (nn x1)) (bb (nn x1)) x2) r th tt1 bb1 rf1) : th = rk ∧ (rk = 0 → ox = r.toInt64) ∧ RV g1 kn tt1 bb1 eT eB oT oB pk ca rf1 vs n9 :=
  l_act h (xe_1b (bW_2 _ _ _) (in_bW _ _ _)) (fun c => by
    obtain ⟨a, b⟩ := bW_in (tx_mul0 (xo_2 c))
    exact s_rai h (bR_lt6 (xo_1 c)) a b) hw hm
theorem l_convergent (h : RV g kn tt bb eT eB oT oB pk ca rf vs n9) (hw : WR (xo (bR x1) (xo (bR x2) (2 * bN x3))) (f_conW (f_apart g 1 (nn x2)) (nn x1) x3) (f_conR (f_apart g 1 (nn x2)) (nn x1) x3).toInt64 g rk g1 ox) (hm : AC (m_areNo x1 x2) (m_lt0 x3) tt bb rf (nn x1) (m_CV (tt (nn x2)) (bb (nn x2)) x3) r th tt1 bb1 rf1) : th = rk ∧ (rk = 0 → ox = r.toInt64) ∧ RV g1 kn tt1 bb1 eT eB oT oB pk ca rf1 vs n9 :=
  l_act h (xe_2b (bN_2 _) (lt_bN _)) (fun c => s_con h (bR_lt6 (xo_1 c)) (bR_lt6 (xo_1 (xo_2 c))) (bN_le (tx_mul0 (xo_2 (xo_2 c))))) hw hm
theorem l_fold (h : RV g kn tt bb eT eB oT oB pk ca rf vs n9) (hw : WR (bR x1) (f_fsW g 0 (nn x1)) (f_fsR g 0 (nn x1)).toInt64 g rk g1 ox) (hm : AC (m_isNo x1) 0 tt bb rf (nn x1) o r th tt1 bb1 rf1) (ho : m_fl (m_isNo x1) 0 = 0 → m_FO n9 vs o) : th = rk ∧ (rk = 0 → ox = r.toInt64) ∧ RV g1 kn tt1 bb1 eT eB oT oB pk ca rf1 vs n9 :=
  l_act h (xe_1 _) (fun c => s_fold h (bR_lt6 c) (ho ((xe_1 x1).2.mp c))) hw hm
theorem l_lower (h : RV g kn tt bb eT eB oT oB pk ca rf vs n9) (hw : WR (xo (bR x1) (xo (bR x2) (2 * bW x3 1 200))) (f_setW (f_nb g 6 (nn x2) x3 1) (nn x1)) (f_setR (f_nb g 6 (nn x2) x3 1) (nn x1)).toInt64 g rk g1 ox) (hm : AC (m_areNo x1 x2) (m_not (m_isIn x3 1 200)) tt bb rf (nn x1) (some (m_NB (tt (nn x2)) (bb (nn x2)) (nn x3) 0)) r th tt1 bb1 rf1) : th = rk ∧ (rk = 0 → ox = r.toInt64) ∧ RV g1 kn tt1 bb1 eT eB oT oB pk ca rf1 vs n9 :=
  l_act h (xe_2b (bW_2 _ _ _) (in_bW _ _ _)) (fun c => by
    obtain ⟨e, n1, n2⟩ := bW_n1 (n := 200) (by decide) (tx_mul0 (xo_2 (xo_2 c)))
    have := s_nb h (bR_lt6 (xo_1 c)) (bR_lt6 (xo_1 (xo_2 c))) (s := 1) (u := 0) (sd := 1) (Or.inl ⟨rfl, rfl, rfl⟩) n1 n2
    rw [← e] at this
    exact this) hw hm
theorem l_upper (h : RV g kn tt bb eT eB oT oB pk ca rf vs n9) (hw : WR (xo (bR x1) (xo (bR x2) (2 * bW x3 1 200))) (f_setW (f_nb g 6 (nn x2) x3 (-1)) (nn x1)) (f_setR (f_nb g 6 (nn x2) x3 (-1)) (nn x1)).toInt64 g rk g1 ox) (hm : AC (m_areNo x1 x2) (m_not (m_isIn x3 1 200)) tt bb rf (nn x1) (some (m_NB (tt (nn x2)) (bb (nn x2)) (nn x3) 1)) r th tt1 bb1 rf1) : th = rk ∧ (rk = 0 → ox = r.toInt64) ∧ RV g1 kn tt1 bb1 eT eB oT oB pk ca rf1 vs n9 :=
  l_act h (xe_2b (bW_2 _ _ _) (in_bW _ _ _)) (fun c => by
    obtain ⟨e, n1, n2⟩ := bW_n1 (n := 200) (by decide) (tx_mul0 (xo_2 (xo_2 c)))
    have := s_nb h (bR_lt6 (xo_1 c)) (bR_lt6 (xo_1 (xo_2 c))) (s := -1) (u := 1) (sd := -1) (Or.inr ⟨rfl, rfl, rfl⟩) n1 n2
    rw [← e] at this
    exact this) hw hm
theorem l_best (h : RV g kn tt bb eT eB oT oB pk ca rf vs n9) (hw : WR (xo (bR x1) (xo (bR x2) (2 * bW x3 1 200))) (f_setW (f_best g (nn x2) x3) (nn x1)) (f_setR (f_best g (nn x2) x3) (nn x1)).toInt64 g rk g1 ox) (hm : AC (m_areNo x1 x2) (m_not (m_isIn x3 1 200)) tt bb rf (nn x1) (some (m_BS (tt (nn x2)) (bb (nn x2)) (nn x3))) r th tt1 bb1 rf1) : th = rk ∧ (rk = 0 → ox = r.toInt64) ∧ RV g1 kn tt1 bb1 eT eB oT oB pk ca rf1 vs n9 :=
  l_act h (xe_2b (bW_2 _ _ _) (in_bW _ _ _)) (fun c => by
    obtain ⟨e, n1, n2⟩ := bW_n1 (n := 200) (by decide) (tx_mul0 (xo_2 (xo_2 c)))
    have := s_best h (bR_lt6 (xo_1 c)) (bR_lt6 (xo_1 (xo_2 c))) n1 n2
    rw [← e] at this
    exact this) hw hm
theorem l_up (h : RV g kn tt bb eT eB oT oB pk ca rf vs n9) (hw : WR (bR x1) (f_upX g (nn x1)) (f_upR g (nn x1)).toInt64 g rk g1 ox) (hm : AC (m_isNo x1) 0 tt bb rf (nn x1) (m_UP (tt (nn x1)) (bb (nn x1))) r th tt1 bb1 rf1) : th = rk ∧ (rk = 0 → ox = r.toInt64) ∧ RV g1 kn tt1 bb1 eT eB oT oB pk ca rf1 vs n9 :=
  l_act h (xe_1 _) (fun c => s_up h (bR_lt6 c)) hw hm
theorem l_down (h : RV g kn tt bb eT eB oT oB pk ca rf vs n9) (h2 : x2 = 0 ∨ x2 = 1) (hw : WR (bR x1) (f_dnX g (nn x1) x2) (f_dnR g (nn x1) x2).toInt64 g rk g1 ox) (hm : AC (m_isNo x1) 0 tt bb rf (nn x1) (m_DN (tt (nn x1)) (bb (nn x1)) x2) r th tt1 bb1 rf1) : th = rk ∧ (rk = 0 → ox = r.toInt64) ∧ RV g1 kn tt1 bb1 eT eB oT oB pk ca rf1 vs n9 :=
  l_act h (xe_1 _) (fun c => s_dn h (bR_lt6 c) h2) hw hm
theorem l_before (h : RV g kn tt bb eT eB oT oB pk ca rf vs n9) (hw : WR (bR x1) (f_befW g (nn x1)) (f_befR g (nn x1)).toInt64 g rk g1 ox) (hm : AC (m_isNo x1) 0 tt bb rf (nn x1) (m_BF (tt (nn x1)) (bb (nn x1))) r th tt1 bb1 rf1) : th = rk ∧ (rk = 0 → ox = r.toInt64) ∧ RV g1 kn tt1 bb1 eT eB oT oB pk ca rf1 vs n9 :=
  l_act h (xe_1 _) (fun c => s_bef h (bR_lt6 c)) hw hm
theorem l_next (h : RV g kn tt bb eT eB oT oB pk ca rf vs n9) (hw : WR (xo (bR x1) (2 * bW x2 1 50)) (f_nextW g (nn x1) x2) (f_nextR g (nn x1) x2).toInt64 g rk g1 ox) (hm : AN (m_isNo x1) (m_not (m_isIn x2 1 50)) tt bb rf (nn x1) (m_NX (tt (nn x1)) (bb (nn x1)) (nn x2)) r th tt1 bb1 rf1) : th = rk ∧ (rk = 0 → ox = r.toInt64) ∧ RV g1 kn tt1 bb1 eT eB oT oB pk ca rf1 vs n9 := by
  have hx := xe_1b (x := x1) (bW_2 x2 1 50) (in_bW x2 1 50)
  obtain ⟨w1, w2, w3⟩ := id hw
  obtain ⟨m1, m2, m3⟩ := hm
  by_cases c : xo (bR x1) (2 * bW x2 1 50) = 0
  · obtain ⟨v1, v2⟩ := w2 c
    obtain ⟨e, n1, n2⟩ := bW_n1 (n := 50) (by decide) (tx_mul0 (xo_2 c))
    obtain ⟨s1, s2⟩ := s_nxt h (bR_lt6 (xo_1 c)) n1 n2
    rw [← e] at s1 s2
    obtain ⟨b1, b2, b3, b4⟩ := m2 (hx.2.mp c)
    rw [v1, v2, b1, b2, b3, b4, s1]
    exact ⟨by rw [m1, w1, hx.1], fun _ => rfl, s2⟩
  · obtain ⟨b2, b3, b4⟩ := m3 (fun z => c (hx.2.mpr z))
    rw [b2, b3, b4]
    exact l_ask (A := m_isNo x1) (B := m_not (m_isIn x2 1 50)) (x := 0) h hx (fun z => absurd z c) hw ⟨m1, fun z => absurd (hx.2.mpr z) c⟩
theorem xe_smp : nI (xo (bR x1) (xo (bR x2) (xo (2 * bW x3 0 2) (2 * bW x4 0 4)))) = m_th (m_areNo x1 x2) (m_or (m_not (m_isIn x3 0 2)) (m_not (m_isIn x4 0 4))) ∧ (xo (bR x1) (xo (bR x2) (xo (2 * bW x3 0 2) (2 * bW x4 0 4))) = 0 ↔ m_fl (m_areNo x1 x2) (m_or (m_not (m_isIn x3 0 2)) (m_not (m_isIn x4 0 4))) = 0) := by
  rw [xo_22]
  exact xe_2b (xo_2b (bW_2 _ _ _) (bW_2 _ _ _)) (or_xo (bW_2 _ _ _) (bW_2 _ _ _) (in_bW _ _ _) (in_bW _ _ _))
theorem l_simplest (h : RV g kn tt bb eT eB oT oB pk ca rf vs n9) (hw : WR (xo (bR x1) (xo (bR x2) (xo (2 * bW x3 0 2) (2 * bW x4 0 4)))) (f_setW (f_sm g 6 (nn x2) x3 x4) (nn x1)) (f_setR (f_sm g 6 (nn x2) x3 x4) (nn x1)).toInt64 g rk g1 ox) (hm : AC (m_areNo x1 x2) (m_or (m_not (m_isIn x3 0 2)) (m_not (m_isIn x4 0 4))) tt bb rf (nn x1) o r th tt1 bb1 rf1) (ho : m_fl (m_areNo x1 x2) (m_or (m_not (m_isIn x3 0 2)) (m_not (m_isIn x4 0 4))) = 0 → ∃ p, o = some p ∧ m_SMP (tt (nn x2)) (bb (nn x2)) (nn x3) x4 p) : th = rk ∧ (rk = 0 → ox = r.toInt64) ∧ RV g1 kn tt1 bb1 eT eB oT oB pk ca rf1 vs n9 :=
  l_act h xe_smp (fun c => by
    obtain ⟨p, rfl, hp⟩ := ho (xe_smp.2.mp c)
    have c3 := xo_2 (xo_2 c)
    obtain ⟨e, hn⟩ := bW_nn (n := 2) (by decide) (tx_mul0 (xo_1 c3))
    have := s_smp h (bR_lt6 (xo_1 c)) (bR_lt6 (xo_1 (xo_2 c))) hn (bW_md (tx_mul0 (xo_2 c3))) hp
    rw [← e] at this
    exact this) hw hm
/-! questions -/
theorem q_part {w : Nat} (hw : w ≤ 3) {i j : Nat} {t b : Int64} (e1 : tT g i = t) (e2 : tB g i = b) (h : m_F t b) : f_part g i (nI w) = m_pt t b w := by
  have hk : w = 0 ∨ w = 1 ∨ w = 2 ∨ w = 3 := by omega
  unfold f_part
  rw [e1, e2, q_ffl (by have := h.1; omega) h.2.1]
  rcases hk with rfl | rfl | rfl | rfl
  · rw [if_pos (show nI 0 = 0 from nI_0)]
    rfl
  · rw [if_neg (show ¬ nI 1 = 0 by decide), if_pos (show nI 1 = 1 by decide)]
    rfl
  · rw [if_neg (show ¬ nI 2 = 0 by decide), if_neg (show ¬ nI 2 = 1 by decide), if_pos (show nI 2 = 2 by decide)]
    rfl
  · rw [if_neg (show ¬ nI 3 = 0 by decide), if_neg (show ¬ nI 3 = 1 by decide), if_neg (show ¬ nI 3 = 2 by decide)]
    rfl
theorem l_part (h : RV g kn tt bb eT eB oT oB pk ca rf vs n9) (hw : WR (xo (bR x1) (2 * bW x2 0 3)) g ((f_part g (nn x1) x2).toInt32).toInt64 g rk g1 ox) (hm : QU (m_isNo x1) (m_not (m_isIn x2 0 3)) ((m_pt (tt (nn x1)) (bb (nn x1)) (nn x2)).toInt32) r th) : th = rk ∧ (rk = 0 → ox = r.toInt64) ∧ RV g1 kn tt bb eT eB oT oB pk ca rf vs n9 :=
  l_ask h (xe_1b (bW_2 _ _ _) (in_bW _ _ _)) (fun c => by
    obtain ⟨e, hn⟩ := bW_nn (n := 3) (by decide) (tx_mul0 (xo_2 c))
    obtain ⟨a1, a2, a3, a4⟩ := h.1 _ (bR_lt6 (xo_1 c))
    have := q_part (g := g) (j := 0) hn a1 a2 a3
    rw [← e] at this
    rw [this]
    exact ⟨rfl, h⟩) hw hm
theorem q_cmpO {t b u v : Int64} : f_cmp (t * v) (u * b) = m_ord t b u v := by
  unfold f_cmp m_ord
  by_cases c1 : t * v < u * b
  · rw [if_pos c1, if_pos c1]
  · rw [if_neg c1, if_neg c1]
    by_cases c2 : t * v = u * b
    · rw [if_pos c2, if_neg (by rw [c2]; exact Int64.lt_irrefl)]
    · rw [if_neg c2]
      have : u * b < t * v := Int64.lt_of_le_of_ne (Int64.not_lt.mp c1) (fun z => c2 z.symm)
      rw [if_pos this]
theorem l_compare (h : RV g kn tt bb eT eB oT oB pk ca rf vs n9) (hw : WR (xo (bR x1) (bR x2)) g (f_cmp (tT g (nn x1) * tB g (nn x2)) (tT g (nn x2) * tB g (nn x1))).toInt64 g rk g1 ox) (hm : QU (m_areNo x1 x2) 0 (m_ord (tt (nn x1)) (bb (nn x1)) (tt (nn x2)) (bb (nn x2))) r th) : th = rk ∧ (rk = 0 → ox = r.toInt64) ∧ RV g1 kn tt bb eT eB oT oB pk ca rf vs n9 :=
  l_ask h (xe_2 _ _) (fun c => by
    obtain ⟨a1, a2, -, -⟩ := h.1 _ (bR_lt6 (xo_1 c))
    obtain ⟨b1, b2, -, -⟩ := h.1 _ (bR_lt6 (xo_2 c))
    rw [a1, a2, b1, b2, q_cmpO]
    exact ⟨rfl, h⟩) hw hm
theorem q_nx1 {t b u v : Int64} (h : m_F t b) (k : m_F u v) : f_next t b u v = m_nx1 t b u v := by
  obtain ⟨x1, x1b⟩ := m_mulB (x := t) (y := v) (B := 1000000000) (C := 1000000000) h.1 (by have := k.2; omega) (by decide)
  obtain ⟨x2, x2b⟩ := m_mulB (x := u) (y := b) (B := 1000000000) (C := 1000000000) k.1 (by have := h.2; omega) (by decide)
  obtain ⟨x3, x3b⟩ := m_subB (x := t * v) (y := u * b) (B := 1000000000 * 1000000000) (C := 1000000000 * 1000000000) x1b x2b (by decide)
  unfold f_next m_nx1
  have ha := m_abs (a := t * v - u * b) (by omega)
  have e1 : (1 : Int64).toInt = 1 := rfl
  have en : (-1 : Int64).toInt = -1 := by decide
  by_cases c1 : t * v - u * b = 1
  · rw [if_pos c1, if_pos (Int64.toInt_inj.mp (by rw [ha, c1, e1]; rfl))]
  · rw [if_neg c1]
    have d1 : (t * v - u * b).toInt ≠ 1 := fun z => c1 (Int64.toInt_inj.mp (by rw [z, e1]))
    by_cases c2 : t * v - u * b = -1
    · rw [if_pos c2, if_pos (Int64.toInt_inj.mp (by rw [ha, c2, e1, en]; rfl))]
    · have d2 : (t * v - u * b).toInt ≠ -1 := fun z => c2 (Int64.toInt_inj.mp (by rw [z, en]))
      rw [if_neg c2, if_neg (fun z => by
        have := congrArg Int64.toInt z
        rw [ha, e1] at this
        omega)]
theorem l_areNext (h : RV g kn tt bb eT eB oT oB pk ca rf vs n9) (hw : WR (xo (bR x1) (bR x2)) g (f_next (tT g (nn x1)) (tB g (nn x1)) (tT g (nn x2)) (tB g (nn x2))).toInt64 g rk g1 ox) (hm : QU (m_areNo x1 x2) 0 (m_nx1 (tt (nn x1)) (bb (nn x1)) (tt (nn x2)) (bb (nn x2))) r th) : th = rk ∧ (rk = 0 → ox = r.toInt64) ∧ RV g1 kn tt bb eT eB oT oB pk ca rf vs n9 :=
  l_ask h (xe_2 _ _) (fun c => by
    obtain ⟨a1, a2, a3, -⟩ := h.1 _ (bR_lt6 (xo_1 c))
    obtain ⟨b1, b2, b3, -⟩ := h.1 _ (bR_lt6 (xo_2 c))
    rw [a1, a2, b1, b2, q_nx1 a3 b3]
    exact ⟨rfl, h⟩) hw hm
theorem l_term (h : RV g kn tt bb eT eB oT oB pk ca rf vs n9) (hw : WR (xo (bR x1) (2 * bN x2)) (f_apart g 1 (nn x1)) (f_term (f_apart g 1 (nn x1)) x2).toInt64 g rk g1 ox) (hm : QU (m_isNo x1) (m_lt0 x2) (m_TM (tt (nn x1)) (bb (nn x1)) x2) r th) : th = rk ∧ (rk = 0 → ox = r.toInt64) ∧ RV g1 kn tt bb eT eB oT oB pk ca rf vs n9 :=
  l_ask h (xe_1b (bN_2 _) (lt_bN _)) (fun c => ⟨s_trm h (bR_lt6 (xo_1 c)) (bN_le (tx_mul0 (xo_2 c))), h.lzv (lz_apt g _)⟩) hw hm
theorem l_depth (h : RV g kn tt bb eT eB oT oB pk ca rf vs n9) (hw : WR (bR x1) (f_depW g (nn x1)) ((f_depR g (nn x1)).toInt32).toInt64 g rk g1 ox) (hm : QU (m_isNo x1) 0 (m_DP (tt (nn x1)) (bb (nn x1))) r th) : th = rk ∧ (rk = 0 → ox = r.toInt64) ∧ RV g1 kn tt bb eT eB oT oB pk ca rf vs n9 :=
  l_ask h (xe_1 _) (fun c => ⟨s_dep h (bR_lt6 c), h.lzv (lz_depW g _)⟩) hw hm
theorem q_whL (h : RV g kn tt bb eT eB oT oB pk ca rf vs n9) : ∀ (n k : Nat) (a : Int32), k + n = 6 → whL g n k a = m_whL bb n k a := by
  intro n
  induction n with
  | zero => intro k a _; rfl
  | succ n ih =>
    intro k a hk
    obtain ⟨-, a2, -, -⟩ := h.1 k (by omega)
    unfold whL m_whL
    rw [a2]
    by_cases c : bb k = 1
    · rw [if_pos c, if_pos c]
      exact ih (k + 1) _ (by omega)
    · rw [if_neg c, if_neg c, show a + (0 : Int32) = a from Int32.add_zero a]
      exact ih (k + 1) a (by omega)
theorem l_house (h : RV g kn tt bb eT eB oT oB pk ca rf vs n9) (hw : WR (bW x1 0 4) g (f_cnt g x1).toInt64 g rk g1 ox) (hm : QU (m_not (m_isIn x1 0 4)) 0 (m_HS bb rf kn n9 ca (nn x1)) r th) : th = rk ∧ (rk = 0 → ox = r.toInt64) ∧ RV g1 kn tt bb eT eB oT oB pk ca rf vs n9 :=
  l_ask h (th_of (bW_2 _ _ _) (Or.inl rfl) (in_bW _ _ _) nI_0.symm (by
    generalize bW x1 0 4 = q
    unfold xo; split <;> omega)) (fun c => by
    obtain ⟨e, hn⟩ := bW_nn (n := 4) (by decide) c
    refine ⟨?_, h⟩
    have hq := q_whL h 6 0 0 rfl
    obtain ⟨h1, h2, h3, ⟨a1, a2, a3, a4, a5⟩, c1, c2, c3⟩ := h
    generalize nn x1 = k at e hn ⊢
    subst e
    have hk : k = 0 ∨ k = 1 ∨ k = 2 ∨ k = 3 ∨ k = 4 := by omega
    unfold f_cnt m_HS f_whole
    rw [hq, a1, a2, a3, c1]
    rcases hk with rfl | rfl | rfl | rfl | rfl
    · rfl
    · rfl
    · rfl
    · rfl
    · rfl) hw hm
/-! the ROW -/
theorem l_say {n1 : Nat} {vs1 : Nat → Value} (h : RV g kn tt bb eT eB oT oB pk ca rf vs n9) (hw : WR (xo (bW x1 (-99999) 99999) (if tC g 0 < 16 then 0 else 2)) (f_addLast g 0 x1.toInt64) (tC (f_addLast g 0 x1.toInt64) 0).toInt64 g rk g1 ox) (hm : m_say x1 n9 r n1 th) (hv1 : th = 0 → vs1 = va_up vs n9 (.int x1)) (hv2 : ¬ th = 0 → vs1 = vs) : th = rk ∧ (rk = 0 → ox = r.toInt64) ∧ RV g1 kn tt bb eT eB oT oB pk ca rf vs1 n1 := by
  obtain ⟨h1, h2, h3⟩ := hw
  obtain ⟨c1, c2, c3⟩ := h.2.2.2.2
  have hb : bW x1 (-99999) 99999 = if m_isIn x1 (-99999) 99999 = 0 then 1 else 0 := by
    unfold bW m_isIn
    by_cases a : x1 < -99999
    · simp [a]
    · by_cases b : x1 ≤ 99999
      · simp [a, b, Int32.not_lt.mpr b]
      · simp [a, b, Int32.not_le.mp b]
  have h16 : tC g 0 < 16 ↔ n9 ≠ 16 := by
    rw [c1]
    have := nI_ltI (a := n9) (b := 16) (by omega) (by decide)
    exact ⟨fun z => by have := this.mp z; omega, fun z => this.mpr (by omega)⟩
  rcases hm with ⟨a, rfl, rfl, rfl⟩ | ⟨a, b, rfl, rfl, rfl⟩ | ⟨a, b, rfl, rfl, rfl⟩
  · have e : xo (bW x1 (-99999) 99999) (if tC g 0 < 16 then 0 else 2) = 1 := by rw [hb, if_pos a]; rfl
    rw [e] at h1 h2 h3
    rw [h1, h3 (by decide), hv2 (by decide)]
    exact ⟨rfl, fun z => absurd z (by decide), h⟩
  · have e : xo (bW x1 (-99999) 99999) (if tC g 0 < 16 then 0 else 2) = 2 := by rw [hb, if_neg a, if_neg (fun z => (h16.mp z) b)]; rfl
    rw [e] at h1 h2 h3
    rw [h1, h3 (by decide), hv2 (by decide)]
    exact ⟨rfl, fun z => absurd z (by decide), h⟩
  · have e : xo (bW x1 (-99999) 99999) (if tC g 0 < 16 then 0 else 2) = 0 := by rw [hb, if_neg a, if_pos (h16.mpr b)]; rfl
    rw [e] at h1 h2 h3
    obtain ⟨k1, k2⟩ := h2 rfl
    obtain ⟨k3, k4⟩ := s_say h (by omega) (m_said a)
    rw [h1, k1, k2, k3, hv1 rfl]
    exact ⟨rfl, fun _ => rfl, k4⟩
theorem l_unsay {n1 : Nat} (h : RV g kn tt bb eT eB oT oB pk ca rf vs n9) (hw : WR (bW x1 0 16) (f_uns g x1) (tC (f_uns g x1) 0).toInt64 g rk g1 ox) (hm : m_uns x1 n9 r n1 th) : th = rk ∧ (rk = 0 → ox = r.toInt64) ∧ RV g1 kn tt bb eT eB oT oB pk ca rf vs n1 := by
  obtain ⟨h1, h2, h3⟩ := hw
  have hb : bW x1 0 16 = if m_isIn x1 0 16 = 0 then 1 else 0 := by
    unfold bW m_isIn
    by_cases a : x1 < 0
    · simp [a]
    · by_cases b : x1 ≤ 16
      · simp [a, b, Int32.not_lt.mpr b]
      · simp [a, b, Int32.not_le.mp b]
  rcases hm with ⟨a, rfl, rfl, rfl⟩ | ⟨km, rfl, b, rfl, rfl, rfl⟩
  · have e : bW x1 0 16 = 1 := by rw [hb, if_pos a]
    rw [e] at h1 h2 h3
    rw [h1, h3 (by decide)]
    exact ⟨rfl, fun z => absurd z (by decide), h⟩
  · have e : bW (nI km) 0 16 = 0 := by
      unfold bW
      rw [if_neg (nI_pos (by omega)), if_pos (show nI km ≤ (16 : Int32) from (nI_leI (b := 16) (by omega) (by decide)).mpr b)]
    rw [e] at h1 h2 h3
    obtain ⟨k1, k2⟩ := h2 rfl
    obtain ⟨k3, k4⟩ := s_uns h b
    rw [h1, k1, k2, k3]
    exact ⟨rfl, fun _ => rfl, k4⟩
end RV15
/-! ===== the TALLY, the class's start, and what the law's calls are given ===== -/
theorem q_becN {g : CS} {i k : Nat} (h : k ≠ i) (t b : Int64) : tT (f_become g i t b) k = tT g k ∧ tB (f_become g i t b) k = tB g k := by
  unfold f_become
  by_cases c : b = 0
  · rw [if_pos c]
    exact ⟨rfl, rfl⟩
  · rw [if_neg c]
    exact ⟨va_up_ne (tT g) _ h, va_up_ne (tB g) _ h⟩
theorem lzs11 : lzs 11 := ⟨by decide, by decide, by decide⟩
theorem lzs12 : lzs 12 := ⟨by decide, by decide, by decide⟩
theorem lzs13 : lzs 13 := ⟨by decide, by decide, by decide⟩
theorem lzs14 : lzs 14 := ⟨by decide, by decide, by decide⟩
theorem q_nx2 {r : Int32} {t b u v : Int64} (er : r = f_next t b u v) (h : ¬ r = 0) : r = 1 := by
  unfold f_next at er
  split at er
  · exact er
  · split at er
    · exact er
    · exact absurd er h
section RV16
variable {g g1 : CS} {kn : Int32} {tt bb : Nat → Int64} {eT eB oT oB : Int64} {pk : Nat} {ca rf : Int32} {vs : Nat → Value} {n9 : Nat}
theorem q_sum7 {t b u v : Int64} (h : m_F t b) (k : u.toInt.natAbs ≤ 10000000000002) (hv : 1 ≤ v.toInt ∧ v.toInt ≤ 1000000000) (hsm : u.toInt.natAbs ≤ 1000000000 ∨ (b.toInt ≤ 10000 ∧ v.toInt ≤ 10000)) {y : Int64} (hy : y.toInt = u.toInt * b.toInt) (g : CS) (i : Nat) :
    tT (f_gather g i t b u v) i = m_loT (t * v + y) (b * v) ∧ tB (f_gather g i t b u v) i = m_loB (t * v + y) (b * v) ∧ L64 (m_loT (t * v + y) (b * v)) (m_loB (t * v + y) (b * v)) := by
  obtain ⟨x1, x2, x3, x4⟩ := q_gat (u := u) h k hv hsm hy
  have hl := (q_lo x3 (by omega) (m_ne0 x4)).1
  rw [x1, x2] at hl
  unfold f_gather
  obtain ⟨y1, y2⟩ := q_bec6 x3 (by omega) (m_ne0 x4) g i
  exact ⟨y1.trans x1, y2.trans x2, hl⟩
theorem q_one (x : Int64) : (1 : Int32).toInt64 * x = x := by
  rw [show (1 : Int32).toInt64 = 1 by decide, Int64.one_mul]
/-- EXACT's sum and ROUNDED's -/
theorem q_tk1 (h : RV g kn tt bb eT eB oT oB pk ca rf vs n9) (hD : m_D4 oB) {i : Nat} (hi : i < 6) {kp : Nat} (hk : kp ≤ 4) {md : Int32} (hmd : md = 0 ∨ md = 1 ∨ md = 2 ∨ md = 3 ∨ md = 4) :
    lz g (f_tk1 g i (nI kp) md) ∧ tT (f_tk1 g i (nI kp) md) 12 = (m_TLe eT eB (tt i) (bb i)).1 ∧ tB (f_tk1 g i (nI kp) md) 12 = (m_TLe eT eB (tt i) (bb i)).2 ∧ L64 (m_TLe eT eB (tt i) (bb i)).1 (m_TLe eT eB (tt i) (bb i)).2 ∧ tT (f_tk1 g i (nI kp) md) 13 = (m_TLo oT oB (tt i) (bb i) (nI kp) md).1 ∧ tB (f_tk1 g i (nI kp) md) 13 = (m_TLo oT oB (tt i) (bb i) (nI kp) md).2 ∧ L64 (m_TLo oT oB (tt i) (bb i) (nI kp) md).1 (m_TLo oT oB (tt i) (bb i) (nI kp) md).2 := by
  obtain ⟨a1, a2, a3, a4⟩ := h.1 i hi
  obtain ⟨b1, b2, b3, b4⟩ := h.2.1
  obtain ⟨c1, c2, c3, c4⟩ := h.2.2.1
  -- EXACT
  have hS : f_sum g 12 9 i = f_gather g 12 eT eB (tt i) (bb i) := by
    unfold f_sum
    rw [a1, a2, b1, b2]
  have hy : ((1 : Int32).toInt64 * (tt i * eB)).toInt = (tt i).toInt * eB.toInt := by
    rw [q_one]
    exact q_prod a3 b3
  obtain ⟨s1, s2, s3⟩ := q_sum7 (u := tt i) b3 (by have := a3.1; omega) ⟨a3.2.1, a3.2.2⟩ (Or.inl a3.1) hy g 12
  obtain ⟨S, hSd⟩ : ∃ S, S = f_sum g 12 9 i := ⟨_, rfl⟩
  have hz : lz g S := by rw [hSd]; exact lz_sum g lzs12 9 i
  rw [← hS, ← hSd] at s1 s2
  have e1 : tT S 10 = oT := ((hz.1 10 (Or.inr (Or.inr rfl))).1).trans c1
  have e2 : tB S 10 = oB := ((hz.1 10 (Or.inr (Or.inr rfl))).2).trans c2
  have e3 : tT S i = tt i := ((hz.1 i (Or.inl hi)).1).trans a1
  have e4 : tB S i = bb i := ((hz.1 i (Or.inl hi)).2).trans a2
  -- ROUNDED
  have hp := m_powD hk
  have hcutE := (q_cutI (T := tt i) (B := bb i) (k := kp) (by omega) hmd (by
    have := Nat.mul_le_mul a3.1 (show (m_pow (nI kp)).toInt.natAbs ≤ 10000 by omega)
    omega) a3.2.1 (by have := a3.2.2; omega)).2
  have hcb := m_cut4B a3 (pl := nI kp) rfl hk md
  have hG : f_tk1 g i (nI kp) md = f_gather S 13 oT oB (m_cut (tt i) (bb i) (nI kp) md) (m_pow (nI kp)) := by
    unfold f_tk1
    rw [← hSd, e1, e2, e3, e4, hcutE, q_pow (show kp ≤ 9 by omega)]
  obtain ⟨Q, hQ⟩ : ∃ Q, Q = m_cut (tt i) (bb i) (nI kp) md := ⟨_, rfl⟩
  obtain ⟨p, hpd⟩ : ∃ p, p = m_pow (nI kp) := ⟨_, rfl⟩
  rw [← hQ] at hcb
  rw [← hQ, ← hpd] at hG
  rw [← hpd] at hp
  have ho : oB.toInt.natAbs ≤ 10000 := Nat.le_of_dvd (by decide) hD
  obtain ⟨g1m, g2m⟩ := m_mulB (x := Q) (y := oB) (B := 10000000000002) (C := 10000) hcb ho (by decide)
  obtain ⟨r1, r2, r3⟩ := q_sum7 (t := oT) (b := oB) (u := Q) (v := p) c3 hcb ⟨hp.1, by omega⟩ (Or.inr ⟨by omega, by omega⟩) (y := Q * oB) g1m S 13
  obtain ⟨l1, l2⟩ := q_lo (t := Q) (b := p) (by omega) (by omega) (m_ne0 hp.1)
  obtain ⟨w1, w2, w3, w4, -⟩ := m_addP hcb hpd hk
  obtain ⟨u, hu⟩ : ∃ u, u = m_loT Q p := ⟨_, rfl⟩
  obtain ⟨v, hv⟩ : ∃ v, v = m_loB Q p := ⟨_, rfl⟩
  rw [← hu, ← hv] at l2
  rw [← hv] at w2 w3
  rw [← hu] at w4
  obtain ⟨x1, x1b⟩ := m_mulB (x := oT) (y := p) (B := 1000000000) (C := 10000) c3.1 (by omega) (by decide)
  obtain ⟨x2, x2b⟩ := m_mulB (x := oT) (y := v) (B := 1000000000) (C := 10000) c3.1 (by omega) (by decide)
  obtain ⟨x3, x3b⟩ := m_mulB (x := u) (y := oB) (B := 10000000000002) (C := 10000) w4 ho (by decide)
  obtain ⟨x4, x4b⟩ := m_mulB (x := oB) (y := p) (B := 10000) (C := 10000) ho (by omega) (by decide)
  obtain ⟨x5, x5b⟩ := m_mulB (x := oB) (y := v) (B := 10000) (C := 10000) ho (by omega) (by decide)
  obtain ⟨y1, y1b⟩ := m_addB (x := oT * p) (y := Q * oB) (B := 1000000000 * 10000) (C := 10000000000002 * 10000) x1b g2m (by decide)
  obtain ⟨y2, y2b⟩ := m_addB (x := oT * v) (y := u * oB) (B := 1000000000 * 10000) (C := 10000000000002 * 10000) x2b x3b (by decide)
  have p1 : 1 * 1 ≤ oB.toInt * p.toInt := Int.mul_le_mul c3.2.1 hp.1 (by decide) (Int.le_trans (by decide) c3.2.1)
  have p2 : 1 * 1 ≤ oB.toInt * v.toInt := Int.mul_le_mul c3.2.1 w2 (by decide) (Int.le_trans (by decide) c3.2.1)
  have hval : (oT * p + Q * oB).toInt * (oB * v).toInt = (oT * v + u * oB).toInt * (oB * p).toInt := by
    rw [y1, y2, x1, x2, x3, x4, x5, g1m]
    have k1 : oT.toInt * p.toInt * (oB.toInt * v.toInt) = oT.toInt * v.toInt * (oB.toInt * p.toInt) := by grind
    have k2 : Q.toInt * oB.toInt * (oB.toInt * v.toInt) = u.toInt * oB.toInt * (oB.toInt * p.toInt) := by
      have k3 : Q.toInt * oB.toInt * (oB.toInt * v.toInt) = (Q.toInt * v.toInt) * (oB.toInt * oB.toInt) := by grind
      have k4 : u.toInt * oB.toInt * (oB.toInt * p.toInt) = (u.toInt * p.toInt) * (oB.toInt * oB.toInt) := by grind
      rw [k3, k4, l2]
    rw [Int.add_mul, Int.add_mul, k1, k2]
  obtain ⟨z1, z2⟩ := q_loS (t := oT * p + Q * oB) (b := oB * p) (u := oT * v + u * oB) (v := oB * v) (by omega) (by omega) (m_ne0 (by rw [x4]; omega)) (by omega) (by omega) (m_ne0 (by rw [x5]; omega)) hval
  have hO : m_TLo oT oB (tt i) (bb i) (nI kp) md = (m_loT (oT * v + u * oB) (oB * v), m_loB (oT * v + u * oB) (oB * v)) := by
    unfold m_TLo m_TLc m_TLe
    dsimp only
    rw [← hQ, ← hpd, ← hu, ← hv, q_one]
  rw [hO, hG]
  dsimp only
  have hz13 : lz S (f_gather S 13 oT oB Q p) := lz_gat S lzs13 _ _ _ _
  have k12 : tT (f_gather S 13 oT oB Q p) 12 = tT S 12 ∧ tB (f_gather S 13 oT oB Q p) 12 = tB S 12 := q_becN (by decide) _ _
  refine ⟨hz.tr hz13, k12.1.trans s1, k12.2.trans s2, s3, r1.trans z1, r2.trans z2, ?_⟩
  rw [z1, z2] at r3
  exact r3
/-- it counts -/
theorem s_tk3 (h : RV g kn tt bb eT eB oT oB pk ca rf vs n9) {E1 E2 R1 R2 : Int64} (e1 : tT g 12 = E1) (e2 : tB g 12 = E2) (r1 : tT g 13 = R1) (r2 : tB g 13 = R2) (hE : m_F E1 E2) (hEL : L64 E1 E2) (hR : m_F R1 R2) (hRL : L64 R1 R2) {kp pk1 : Nat} (hm : f_max (nI pk) (nI kp) = nI pk1) (h4 : pk1 ≤ 4) :
    tI (f_tk3 g (nI kp)) 2 = ca + 1 ∧ RV (f_tk3 g (nI kp)) kn tt bb E1 E2 R1 R2 pk1 (ca + 1) rf vs n9 := by
  obtain ⟨h1, h2, h3, ⟨a1, a2, a3, a4, a5⟩, h5⟩ := h
  have hI : tI (f_tk3 g (nI kp)) = va_up (va_up (tI g) 3 (nI pk1)) 2 (ca + 1) := by
    show va_up (va_up (tI g) 3 (f_max (tI g 3) (nI kp))) 2 (va_up (tI g) 3 (f_max (tI g 3) (nI kp)) 2 + 1) = _
    rw [va_up_ne (tI g) _ (show (2 : Nat) ≠ 3 by decide), a4, a3, hm]
  have hT : tT (f_tk3 g (nI kp)) = va_up (va_up (va_up (tT g) 9 E1) 10 R1) 11 (tT g 14) := by
    show va_up (va_up (va_up (tT g) 9 (tT g 12)) 10 (va_up (tT g) 9 (tT g 12) 13)) 11 (va_up (va_up (tT g) 9 (tT g 12)) 10 (va_up (tT g) 9 (tT g 12) 13) 14) = _
    rw [va_up_ne (tT g) _ (show (13 : Nat) ≠ 9 by decide), va_up_ne (va_up (tT g) 9 (tT g 12)) _ (show (14 : Nat) ≠ 10 by decide), va_up_ne (tT g) _ (show (14 : Nat) ≠ 9 by decide), e1, r1]
  have hB : tB (f_tk3 g (nI kp)) = va_up (va_up (va_up (tB g) 9 E2) 10 R2) 11 (tB g 14) := by
    show va_up (va_up (va_up (tB g) 9 (tB g 12)) 10 (va_up (tB g) 9 (tB g 12) 13)) 11 (va_up (va_up (tB g) 9 (tB g 12)) 10 (va_up (tB g) 9 (tB g 12) 13) 14) = _
    rw [va_up_ne (tB g) _ (show (13 : Nat) ≠ 9 by decide), va_up_ne (va_up (tB g) 9 (tB g 12)) _ (show (14 : Nat) ≠ 10 by decide), va_up_ne (tB g) _ (show (14 : Nat) ≠ 9 by decide), e2, r2]
  refine ⟨by rw [hI]; exact va_up_self _ _ _, fun k hk => ?_, ?_, ?_, ?_, h5⟩
  · rw [hT, hB, va_up_ne _ _ (show k ≠ 11 by omega), va_up_ne _ _ (show k ≠ 10 by omega), va_up_ne _ _ (show k ≠ 9 by omega), va_up_ne _ _ (show k ≠ 11 by omega), va_up_ne _ _ (show k ≠ 10 by omega), va_up_ne _ _ (show k ≠ 9 by omega)]
    exact h1 k hk
  · rw [hT, hB, va_up_ne _ _ (show (9 : Nat) ≠ 11 by decide), va_up_ne _ _ (show (9 : Nat) ≠ 10 by decide), va_up_self, va_up_ne _ _ (show (9 : Nat) ≠ 11 by decide), va_up_ne _ _ (show (9 : Nat) ≠ 10 by decide), va_up_self]
    exact ⟨rfl, rfl, hE, hEL⟩
  · rw [hT, hB, va_up_ne _ _ (show (10 : Nat) ≠ 11 by decide), va_up_self, va_up_ne _ _ (show (10 : Nat) ≠ 11 by decide), va_up_self]
    exact ⟨rfl, rfl, hR, hRL⟩
  · rw [hI, va_up_ne _ _ (show (0 : Nat) ≠ 2 by decide), va_up_ne _ _ (show (0 : Nat) ≠ 3 by decide), va_up_ne _ _ (show (1 : Nat) ≠ 2 by decide), va_up_ne _ _ (show (1 : Nat) ≠ 3 by decide), va_up_self, va_up_ne _ _ (show (3 : Nat) ≠ 2 by decide), va_up_self]
    exact ⟨a1, a2, rfl, rfl, h4⟩
theorem s_tal (h : RV g kn tt bb eT eB oT oB pk ca rf vs n9) (hD : m_D4 oB) {i : Nat} (hi : i < 6) {kp : Nat} (hk : kp ≤ 4) {md : Int32} (hmd : md = 0 ∨ md = 1 ∨ md = 2 ∨ md = 3 ∨ md = 4) :
    (m_TLf (m_TLe eT eB (tt i) (bb i)) (m_TLo oT oB (tt i) (bb i) (nI kp) md) → ∀ pk1 : Nat, f_max (nI pk) (nI kp) = nI pk1 → pk1 ≤ 4 → f_talR g i (nI kp) md = ca + 1 ∧ RV (f_talW g i (nI kp) md) kn tt bb (m_TLe eT eB (tt i) (bb i)).1 (m_TLe eT eB (tt i) (bb i)).2 (m_TLo oT oB (tt i) (bb i) (nI kp) md).1 (m_TLo oT oB (tt i) (bb i) (nI kp) md).2 pk1 (ca + 1) rf vs n9) ∧
    (¬ m_TLf (m_TLe eT eB (tt i) (bb i)) (m_TLo oT oB (tt i) (bb i) (nI kp) md) → f_talR g i (nI kp) md = -9 ∧ RV (f_talW g i (nI kp) md) kn tt bb eT eB oT oB pk ca (rf + 1) vs n9) := by
  obtain ⟨z, e1, e2, e3, r1, r2, r3⟩ := q_tk1 h hD hi hk hmd
  obtain ⟨G, hG⟩ : ∃ G, G = f_tk1 g i (nI kp) md := ⟨_, rfl⟩
  obtain ⟨E, hE⟩ : ∃ E, E = m_TLe eT eB (tt i) (bb i) := ⟨_, rfl⟩
  obtain ⟨R, hR⟩ : ∃ R, R = m_TLo oT oB (tt i) (bb i) (nI kp) md := ⟨_, rfl⟩
  rw [← hG] at z e1 e2 r1 r2
  rw [← hE] at e1 e2 e3 ⊢
  rw [← hR] at r1 r2 r3 ⊢
  have hd : ¬ m_fit E.1 E.2 = 0 → ¬ m_fit R.1 R.2 = 0 → tT (f_dif G 14 12 13) 14 = (m_df E R).1 ∧ tB (f_dif G 14 12 13) 14 = (m_df E R).2 := by
    intro f1 f2
    have hF1 := q_fitF f1 e3
    have hF2 := q_fitF f2 r3
    obtain ⟨n1, n2⟩ := m_negB hF2.1 (by decide)
    have hy : ((-1 : Int32).toInt64 * (R.1 * E.2)).toInt = (-R.1).toInt * E.2.toInt := by
      obtain ⟨w1, w2⟩ := m_mulB (x := R.1) (y := E.2) (B := 1000000000) (C := 1000000000) hF2.1 (by have := hF1.2; omega) (by decide)
      rw [(m_mulB (x := (-1 : Int32).toInt64) (y := R.1 * E.2) (B := 1) (C := 1000000000 * 1000000000) (by decide) w2 (by decide)).1, w1, n1, show (-1 : Int32).toInt64.toInt = -1 by decide, Int.neg_mul, Int.neg_mul, Int.one_mul]
    have h7 := q_sum7 (u := -R.1) hF1 (by omega) ⟨hF2.2.1, hF2.2.2⟩ (Or.inl n2) hy G 14
    unfold f_dif
    rw [e1, e2, r1, r2]
    exact ⟨h7.1, h7.2.1⟩
  -- what comes of it
  have hno : ¬ m_TLf E R → f_tk2R G = 0 ∧ lz g (f_tk2W G (nI kp)) := by
    intro f
    unfold f_tk2R f_tk2W
    rw [e1, e2, r1, r2]
    by_cases f1 : m_fit E.1 E.2 = 0
    · rw [if_pos (show f_fit E.1 E.2 = 0 from f1), if_pos (show f_fit E.1 E.2 = 0 from f1)]
      exact ⟨rfl, z⟩
    · rw [if_neg (show ¬ f_fit E.1 E.2 = 0 from f1), if_neg (show ¬ f_fit E.1 E.2 = 0 from f1)]
      by_cases f2 : m_fit R.1 R.2 = 0
      · rw [if_pos (show f_fit R.1 R.2 = 0 from f2), if_pos (show f_fit R.1 R.2 = 0 from f2)]
        exact ⟨rfl, z⟩
      · rw [if_neg (show ¬ f_fit R.1 R.2 = 0 from f2), if_neg (show ¬ f_fit R.1 R.2 = 0 from f2), (hd f1 f2).1, (hd f1 f2).2]
        have f3 : m_fit (m_df E R).1 (m_df E R).2 = 0 := Decidable.byContradiction fun f3 => f ⟨f1, f2, f3⟩
        rw [if_pos (show f_fit (m_df E R).1 (m_df E R).2 = 0 from f3), if_pos (show f_fit (m_df E R).1 (m_df E R).2 = 0 from f3)]
        exact ⟨rfl, z.tr (lz_dif G lzs14 12 13)⟩
  have hyes : m_TLf E R → f_tk2R G = 1 ∧ f_tk2W G (nI kp) = f_tk3 (f_dif G 14 12 13) (nI kp) := by
    rintro ⟨f1, f2, f3⟩
    unfold f_tk2R f_tk2W
    rw [e1, e2, r1, r2, if_neg (show ¬ f_fit E.1 E.2 = 0 from f1), if_neg (show ¬ f_fit E.1 E.2 = 0 from f1), if_neg (show ¬ f_fit R.1 R.2 = 0 from f2), if_neg (show ¬ f_fit R.1 R.2 = 0 from f2), (hd f1 f2).1, (hd f1 f2).2, if_neg (show ¬ f_fit (m_df E R).1 (m_df E R).2 = 0 from f3), if_neg (show ¬ f_fit (m_df E R).1 (m_df E R).2 = 0 from f3)]
    exact ⟨rfl, rfl⟩
  unfold f_talR f_talW
  rw [← hG]
  constructor
  · intro f pk1 hm h4
    obtain ⟨y1, y2⟩ := hyes f
    rw [y1, y2, if_neg (show ¬ (1 : Int32) = 0 by decide), if_neg (show ¬ (1 : Int32) = 0 by decide)]
    obtain ⟨f1, f2, -⟩ := f
    have k12 : tT (f_dif G 14 12 13) 12 = tT G 12 ∧ tB (f_dif G 14 12 13) 12 = tB G 12 := q_becN (by decide) _ _
    have k13 : tT (f_dif G 14 12 13) 13 = tT G 13 ∧ tB (f_dif G 14 12 13) 13 = tB G 13 := q_becN (by decide) _ _
    exact s_tk3 (h.lzv (z.tr (lz_dif G lzs14 12 13))) (k12.1.trans e1) (k12.2.trans e2) (k13.1.trans r1) (k13.2.trans r2) (q_fitF f1 e3) e3 (q_fitF f2 r3) r3 hm h4
  · intro f
    obtain ⟨y1, y2⟩ := hno f
    rw [y1, if_pos rfl, if_pos rfl]
    exact ⟨rfl, (h.lzv y2).ref⟩
/-- wipe -/
theorem q_l01 : L64 (m_loT 0 1) (m_loB 0 1) := (q_lo (t := 0) (b := 1) (by decide) (by decide) (by decide)).1
theorem s_clr (h : RV g kn tt bb eT eB oT oB pk ca rf vs n9) : RV (f_clr g) kn tt bb (m_loT 0 1) (m_loB 0 1) (m_loT 0 1) (m_loB 0 1) 0 0 rf vs n9 := by
  obtain ⟨h1, h2, h3, ⟨a1, a2, a3, a4, a5⟩, h5⟩ := h
  obtain ⟨ga, hga⟩ : ∃ z, z = f_become g 9 0 1 := ⟨_, rfl⟩
  obtain ⟨gb, hgb⟩ : ∃ z, z = f_become ga 10 0 1 := ⟨_, rfl⟩
  obtain ⟨gc, hgc⟩ : ∃ z, z = f_become gb 11 0 1 := ⟨_, rfl⟩
  have e : f_clr g = uI (uI gc 2 0) 3 0 := by
    unfold f_clr
    rw [← hga, ← hgb, ← hgc]
  have ka : ∀ k, k ≠ 9 → tT ga k = tT g k ∧ tB ga k = tB g k := fun k hk => by rw [hga]; exact q_becN hk _ _
  have kb : ∀ k, k ≠ 10 → tT gb k = tT ga k ∧ tB gb k = tB ga k := fun k hk => by rw [hgb]; exact q_becN hk _ _
  have kc : ∀ k, k ≠ 11 → tT gc k = tT gb k ∧ tB gc k = tB gb k := fun k hk => by rw [hgc]; exact q_becN hk _ _
  have va : tT ga 9 = m_loT 0 1 ∧ tB ga 9 = m_loB 0 1 := by rw [hga]; exact q_bec6 (by decide) (by decide) (by decide) g 9
  have vb : tT gb 10 = m_loT 0 1 ∧ tB gb 10 = m_loB 0 1 := by rw [hgb]; exact q_bec6 (by decide) (by decide) (by decide) ga 10
  have hne : ∀ (g : CS) (i : Nat), f_become g i 0 1 = uB (uT g i (f_floorOf 0 (f_dv 0 1))) i (f_floorOf 1 (f_dv 0 1)) := fun g i => if_neg (by decide)
  have hr : tC gc = tC g ∧ tV gc = tV g ∧ tI gc = tI g := by
    rw [hgc, hne, hgb, hne, hga, hne]
    exact ⟨rfl, rfl, rfl⟩
  have hI : tI (uI (uI gc 2 0) 3 0) = va_up (va_up (tI g) 2 0) 3 0 := by
    show va_up (va_up (tI gc) 2 0) 3 0 = _
    rw [hr.2.2]
  rw [e]
  refine ⟨fun k hk => ?_, ?_, ?_, ?_, ?_⟩
  · show tT gc k = _ ∧ tB gc k = _ ∧ _
    rw [(kc k (by omega)).1, (kc k (by omega)).2, (kb k (by omega)).1, (kb k (by omega)).2, (ka k (by omega)).1, (ka k (by omega)).2]
    exact h1 k hk
  · show tT gc 9 = _ ∧ tB gc 9 = _ ∧ _
    rw [(kc 9 (by decide)).1, (kc 9 (by decide)).2, (kb 9 (by decide)).1, (kb 9 (by decide)).2, va.1, va.2]
    exact ⟨rfl, rfl, m_F01, q_l01⟩
  · show tT gc 10 = _ ∧ tB gc 10 = _ ∧ _
    rw [(kc 10 (by decide)).1, (kc 10 (by decide)).2, vb.1, vb.2]
    exact ⟨rfl, rfl, m_F01, q_l01⟩
  · rw [hI, va_up_ne _ _ (show (0 : Nat) ≠ 3 by decide), va_up_ne _ _ (show (0 : Nat) ≠ 2 by decide), va_up_ne _ _ (show (1 : Nat) ≠ 3 by decide), va_up_ne _ _ (show (1 : Nat) ≠ 2 by decide), va_up_ne _ _ (show (2 : Nat) ≠ 3 by decide), va_up_self, va_up_self]
    exact ⟨a1, a2, rfl, nI_0.symm, Nat.zero_le _⟩
  · show tC gc 0 = _ ∧ _ ∧ ∀ i, i < n9 → ∃ x : Int32, vs i = .int x ∧ tV gc 0 i = _ ∧ _
    rw [hr.1, hr.2.1]
    exact h5
/-- a new object -/
theorem RV_0 : RV cs0 0 (fun _ => m_loT 0 1) (fun _ => m_loB 0 1) 0 1 0 1 0 0 0 (fun _ => .null) 0 := by
  have e1 : m_loT 0 1 = 0 := by decide +kernel
  have e2 : m_loB 0 1 = 1 := by decide +kernel
  have hL : L64 0 1 := by
    have := q_l01
    rw [e1, e2] at this
    exact this
  have hF : m_F 0 1 := by
    have := m_F01
    rw [e1, e2] at this
    exact this
  rw [e1, e2]
  exact ⟨fun _ _ => ⟨rfl, rfl, hF, hL⟩, ⟨rfl, rfl, hF, hL⟩, ⟨rfl, rfl, hF, hL⟩, ⟨rfl, rfl, rfl, nI_0.symm, Nat.zero_le _⟩, nI_0.symm, Nat.zero_le _, fun i hi => absurd hi (Nat.not_lt_zero i)⟩
/-- what the class's methods ask for -/
theorem RV.ci (h : RV g kn tt bb eT eB oT oB pk ca rf vs n9) : CI g kn := by
  obtain ⟨h1, h2, h3, ⟨a1, a2, a3, a4, a5⟩, c1, c2, c3⟩ := h
  refine ⟨fun i hi => ?_, ?_, a2, pk, a5, a4⟩
  · rcases hi with z | rfl
    · rw [(h1 i z).1]
      exact (h1 i z).2.2.1.1
    · rw [h3.1]
      exact h3.2.2.1.1
  · rw [c1]
    exact ⟨nI_le (a := 0) (Nat.zero_le _) (by omega), nI_le (b := 16) (by omega) (by decide)⟩
variable {eT1 eB1 oT1 oB1 : Int64} {pk1 xc : Nat} {ca1 rf1 rk r th x1 x2 x3 : Int32} {ox : Int64}
theorem x_tal : nI (xo (bR x1) (xo (2 * bW x2 0 4) (2 * bW x3 0 4))) = m_th (m_isNo x1) (m_or (m_not (m_isIn x2 0 4)) (m_not (m_isIn x3 0 4))) ∧ (xo (bR x1) (xo (2 * bW x2 0 4) (2 * bW x3 0 4)) = 0 ↔ m_fl (m_isNo x1) (m_or (m_not (m_isIn x2 0 4)) (m_not (m_isIn x3 0 4))) = 0) := by
  rw [xo_22]
  exact xe_1b (xo_2b (bW_2 _ _ _) (bW_2 _ _ _)) (or_xo (bW_2 _ _ _) (bW_2 _ _ _) (in_bW _ _ _) (in_bW _ _ _))
theorem l_tally (h : RV g kn tt bb eT eB oT oB pk ca rf vs n9) (hD : m_D4 oB) (h4 : pk1 ≤ 4) (hw : WR (xo (bR x1) (xo (2 * bW x2 0 4) (2 * bW x3 0 4))) (f_talW g (nn x1) x2 x3) (f_talR g (nn x1) x2 x3).toInt64 g rk g1 ox) (hm : TL (m_isNo x1) (m_or (m_not (m_isIn x2 0 4)) (m_not (m_isIn x3 0 4))) eT eB oT oB pk ca rf (tt (nn x1)) (bb (nn x1)) x2 x3 r th eT1 eB1 oT1 oB1 pk1 ca1 rf1) : th = rk ∧ (rk = 0 → ox = r.toInt64) ∧ RV g1 kn tt bb eT1 eB1 oT1 oB1 pk1 ca1 rf1 vs n9 := by
  have hx := x_tal (x1 := x1) (x2 := x2) (x3 := x3)
  obtain ⟨w1, w2, w3⟩ := id hw
  obtain ⟨m1, m2, m3⟩ := hm
  by_cases c : xo (bR x1) (xo (2 * bW x2 0 4) (2 * bW x3 0 4)) = 0
  · obtain ⟨v1, v2⟩ := w2 c
    obtain ⟨e, hk⟩ := bW_nn (n := 4) (by decide) (tx_mul0 (xo_1 (xo_2 c)))
    obtain ⟨t1, t2⟩ := s_tal h hD (bR_lt6 (xo_1 c)) hk (bW_md (tx_mul0 (xo_2 (xo_2 c))))
    rw [← e] at t1 t2
    rw [v1, v2]
    refine ⟨by rw [m1, w1, hx.1], ?_⟩
    rcases m3 (hx.2.mp c) with ⟨f, b1, b2, b3, b4, b5, b6⟩ | ⟨f, b1, b2, b3, b4, b5, b6, b7, b8⟩
    · obtain ⟨t3, t4⟩ := t1 f pk1 b4 h4
      rw [t3, b1, b5, b6, show eT1 = _ from congrArg Prod.fst b2, show eB1 = _ from congrArg Prod.snd b2, show oT1 = _ from congrArg Prod.fst b3, show oB1 = _ from congrArg Prod.snd b3]
      exact ⟨fun _ => rfl, t4⟩
    · obtain ⟨t3, t4⟩ := t2 f
      rw [t3, b1, b2, b3, b4, b5, b6, b7, b8]
      exact ⟨fun _ => rfl, t4⟩
  · obtain ⟨b2, b3, b4, b5, b6, b7, b8⟩ := m2 (fun z => c (hx.2.mpr z))
    rw [b2, b3, b4, b5, b6, b7, b8]
    exact l_ask (A := m_isNo x1) (B := m_or (m_not (m_isIn x2 0 4)) (m_not (m_isIn x3 0 4))) (x := 0) h hx (fun z => absurd z c) hw ⟨m1, fun z => absurd (hx.2.mpr z) c⟩
end RV16
theorem qu_fl {A B x r th : Int32} (h : QU A B x r th) (h0 : th = 0) : r = x := by
  obtain ⟨h1, h2⟩ := h
  apply h2
  rw [h1] at h0
  unfold m_th at h0
  unfold m_fl
  by_cases a : A = 0
  · rw [if_pos a] at h0 ⊢
    by_cases b : B = 0
    · rw [if_pos b]
    · rw [if_neg b] at h0
      exact absurd h0 (by decide)
  · rw [if_neg a] at h0
    exact absurd h0 (by decide)
theorem q_nx3 {t b u v : Int64} {r : Int32} (h : r = m_nx1 t b u v) (h0 : ¬ r = 0) : r = 1 := by
  unfold m_nx1 at h
  split at h
  · exact h
  · exact absurd h h0
theorem MI.tl {D : va_G} {tk : Nat → ClassId} {sa : Nat → Nat} {P : Nat → Prop} {mo : Nat} {tt bb : Nat → Int64} {eT eB oT oB : Int64} {pk : Nat} {ca rf : Int32} {vs : Nat → Value} {kn : Int32} {n9 : Nat} {th : Int32} {H : Heap} (h : MI D tk sa P mo tt bb eT eB oT oB pk ca rf vs kn n9 th H) : m_D4 oB ∧ pk ≤ 4 := by
  obtain ⟨ra, rl, ex, ro, rt, fo, fj, fk, fe, fr, fw, -, hF⟩ := h
  exact ⟨hF.2.2.1.2, hF.2.2.2.1⟩
set_option maxHeartbeats 4000000 in
set_option maxRecDepth 100000 in
/-- Bestratios.cut(III)Ljava/lang/String; -/
theorem c_X3_cut_N (l : Launch) (hlst : l.stackTraces = false) (D : va_G) (tk : Nat → ClassId) (N0 : Nat) (sa : Nat → Nat) {ad : Nat → Nat} (hAD : ADok N0 ad) (sz : Nat) (g : CS) (r_ : Int32) (pl : Int32) (md : Int32) (hbw : ¬ bW pl 0 9 = 0) : vx_Met l yX3_cut (wsy yX3_cut cX3_cut 6 (some (.object "java/lang/String"))) ({ frames := 7, cells := 2, slots := 12, locals := 112 } : Room) (cP D tk N0 sa [.ref (ad 15), .int r_, .int pl, .int md] sz (fun H => CW D tk ad g H)) (kQr (fun r H => xo (bR r_) (xo (2 * bW pl 0 9) (2 * bW md 0 4)) = 0 ∧ sz ≤ r ∧ SX D tk r (0) H) (nwA sz)) (kX (fun E => (E = "java/lang/IndexOutOfBoundsException" ∧ xo (bR r_) (xo (2 * bW pl 0 9) (2 * bW md 0 4)) = 1) ∨ (E = "java/lang/IllegalArgumentException" ∧ xo (bR r_) (xo (2 * bW pl 0 9) (2 * bW md 0 4)) = 2)) sz) (2) (12) (nwA sz) := by
  refine mStartX RX3 rfl (by decide +kernel) (Nat.le_of_ble_eq_true rfl) ?_
  intro p e s m args below meth c E hr hlk htb hsz hC hF ls hl
  subst hsz
  obtain ⟨hx, hb, -⟩ := id E
  have hA : ∀ q, (nwA s.heap.size) q → N0 ≤ q := fun q h => Nat.le_trans hC.2.1 h
  have hn : ∀ q, s.heap.size ≤ q → (nwA s.heap.size) q := fun q h => h
  have hS : va_S (nwA s.heap.size) s.heap s.heap [] := va_S.rf
  have hU : ∀ q, q < s.heap.size → s.heap[q]? = s.heap[q]? := fun _ _ => rfl
  have hl : lv_has ls 6 [(0, .ref (ad 15)), (1, .int r_), (2, .int pl), (3, .int md)] := hl
  have hW : CW D tk ad g s.heap := hF
  refine lv_aload_n (pc := 0) hx hb dX3_cut_0 rfl (lv_at hl 0 rfl) ?_
  refine lv_iload_n (pc := 1) hx hb dX3_cut_1 rfl (lv_at hl 1 rfl) ?_
  have hZ := hS.1
  refine kx_r (pc := 2) (kx_V E hC hS hA hl.1 (c1.recv hC hW.obj rfl) rfl (c_X3_ratioAt l hlst D tk N0 sa hAD s.heap.size g r_ ) kw_809 kw_811 kp_15 kw_1 kw_812 (n := 1) (by decide +kernel) rfl ⟨⟨rfl, rfl⟩, ⟨Nat.le_of_ble_eq_true rfl, Nat.le_of_ble_eq_true rfl⟩, (by dsimp only; omega), (by dsimp only; omega)⟩ rfl (Nat.le_of_ble_eq_true rfl) hW dX3_cut_2) hS (fun q z w => absurd w (Nat.not_le.mpr z)) hn hlk htb hU (fun E9 h9 => by rcases h9 with ⟨rfl, h9⟩ <;> first | (simp [h9]; done) | (simp [xo, h9]; done)) ⟨by (try dsimp only); omega, by (try dsimp only); omega⟩ (fun r_1 H locs hR hz hk hS => ?_)
  have hU := fun q (hq : q < s.heap.size) => (hk q (Nat.lt_of_lt_of_le hq hZ) (Nat.not_le.mpr (Nat.lt_of_lt_of_le hq hZ))).trans (hU q hq)
  obtain ⟨ek_2, er_1⟩ := hR
  have hW := hW.new hk
  have hi_3 : nn r_ < 15 := Nat.lt_of_lt_of_le (bR_lt ek_2) (by decide)
  subst er_1
  refine lv_astore (pc := 5) (lv' := [(4, .ref (ad (nn r_))), (0, .ref (ad 15)), (1, .int r_), (2, .int pl), (3, .int md)]) hx hb dX3_cut_5 hl (by decide) rfl (fun ls hl => ?_)
  refine lv_iload_n (pc := 7) hx hb dX3_cut_7 rfl (lv_at hl 3 rfl) ?_
  refine lv_iconst (pc := 8) (v := 0) hx hb dX3_cut_8 (by decide) ?_
  refine lv_bipush (pc := 9) (v := 9) hx hb dX3_cut_9 (by decide) ?_
  have hZ := hS.1
  refine kx_v (pc := 11) (kx_S E hC hS hA hl.1 (c_X3_requireWithin l hlst D tk N0 sa H.size pl 0 9 ) kw_851 kw_852 kw_1 kw_853 (n := 3) (by decide +kernel) rfl ⟨⟨rfl, rfl⟩, ⟨Nat.le_of_ble_eq_true rfl, Nat.le_of_ble_eq_true rfl⟩, (by dsimp only; omega), (by dsimp only; omega)⟩ rfl (Nat.le_of_ble_eq_true rfl) trivial dX3_cut_11) hS (fun q z w => absurd w (Nat.not_le.mpr z)) hn hlk htb hU (fun E9 h9 => by rcases h9 with ⟨rfl, h9⟩ <;> first | (simp [h9]; done) | (simp [xo, h9, ek_2]; done)) ⟨by (try dsimp only); omega, by (try dsimp only); omega⟩ (fun H locs hR hz hk hS => ?_)
  have hU := fun q (hq : q < s.heap.size) => (hk q (Nat.lt_of_lt_of_le hq hZ) (Nat.not_le.mpr (Nat.lt_of_lt_of_le hq hZ))).trans (hU q hq)
  have ek_5 := hR
  have hW := hW.new hk
  exact absurd ek_5 hbw
/-! ===== the law's wrappers ===== -/
abbrev lwR : Room := { frames := 12, cells := 3000, slots := 8000, locals := 300 }
def OUo (D : va_G) (uo : Nat) (H : Heap) : Prop := ∃ (x : Int64) (v : Value), c1 D uo (.inr (12, [.long x, v])) H
def LR (D : va_G) (tk : Nat → ClassId) (sa ad : Nat → Nat) (uo mo : Nat) (P : Nat → Prop) (H : Heap) : Prop := ∃ (g : CS) (kn : Int32) (tt bb : Nat → Int64) (eT eB oT oB : Int64) (pk : Nat) (ca rf : Int32) (vs : Nat → Value) (n9 : Nat) (th : Int32) (ox : Int64) (ov : Value), RV g kn tt bb eT eB oT oB pk ca rf vs n9 ∧ CW D tk ad g H ∧ c1 D uo (.inr (12, [.long ox, ov])) H ∧ MI D tk sa P mo tt bb eT eB oT oB pk ca rf vs kn n9 th H
theorem wc_0 : Cond.castable "java/lang/IndexOutOfBoundsException" "java/lang/IndexOutOfBoundsException" ∈ tables_1 := List.mem_of_getElem? (i := 815) (by decide +kernel)
theorem wc_1 : Cond.castable "java/lang/IllegalArgumentException" "java/lang/IllegalArgumentException" ∈ tables_1 := List.mem_of_getElem? (i := 353) (by decide +kernel)
theorem wc_2 : Cond.castable "java/lang/IllegalStateException" "java/lang/IllegalStateException" ∈ tables_1 := List.mem_of_getElem? (i := 1014) (by decide +kernel)
theorem wh_put : Cond.codeWith yL_put cL_put 6 (some .int) [(0, 13, 16, 19), (0, 13, 20, 21)] ∈ GW := gw_t 802 (by decide +kernel) rfl
theorem wh_putDecimal : Cond.codeWith yL_putDecimal cL_putDecimal 6 (some .int) [(0, 13, 16, 19), (0, 13, 20, 21)] ∈ GW := gw_t 846 (by decide +kernel) rfl
theorem wh_copy : Cond.codeWith yL_copy cL_copy 5 (some .int) [(0, 11, 14, 19)] ∈ GW := gw_t 857 (by decide +kernel) rfl
theorem wh_swap : Cond.codeWith yL_swap cL_swap 5 (some .int) [(0, 11, 14, 19)] ∈ GW := gw_t 864 (by decide +kernel) rfl
theorem wh_plus : Cond.codeWith yL_plus cL_plus 6 (some .int) [(0, 13, 16, 19)] ∈ GW := gw_t 871 (by decide +kernel) rfl
theorem wh_minus : Cond.codeWith yL_minus cL_minus 6 (some .int) [(0, 13, 16, 19)] ∈ GW := gw_t 878 (by decide +kernel) rfl
theorem wh_times : Cond.codeWith yL_times cL_times 6 (some .int) [(0, 13, 16, 19)] ∈ GW := gw_t 885 (by decide +kernel) rfl
theorem wh_mediant : Cond.codeWith yL_mediant cL_mediant 6 (some .int) [(0, 13, 16, 19)] ∈ GW := gw_t 936 (by decide +kernel) rfl
theorem wh_over : Cond.codeWith yL_over cL_over 6 (some .int) [(0, 13, 16, 19)] ∈ GW := gw_t 896 (by decide +kernel) rfl
theorem wh_negate : Cond.codeWith yL_negate cL_negate 4 (some .int) [(0, 10, 13, 19)] ∈ GW := gw_t 907 (by decide +kernel) rfl
theorem wh_invert : Cond.codeWith yL_invert cL_invert 4 (some .int) [(0, 10, 13, 19)] ∈ GW := gw_t 914 (by decide +kernel) rfl
theorem wh_raise : Cond.codeWith yL_raise cL_raise 5 (some .int) [(0, 11, 14, 19), (0, 11, 18, 21)] ∈ GW := gw_t 921 (by decide +kernel) rfl
theorem wh_text : Cond.codeWith yL_text cL_text 4 (some .int) [(0, 9, 12, 19)] ∈ GW := gw_t 947 (by decide +kernel) rfl
theorem wh_part : Cond.codeWith yL_part cL_part 5 (some .int) [(0, 11, 14, 19), (0, 11, 18, 21)] ∈ GW := gw_t 954 (by decide +kernel) rfl
theorem wh_compare : Cond.codeWith yL_compare cL_compare 5 (some .int) [(0, 11, 14, 19)] ∈ GW := gw_t 961 (by decide +kernel) rfl
theorem wh_areNext : Cond.codeWith yL_areNext cL_areNext 5 (some .int) [(0, 18, 21, 19)] ∈ GW := gw_t 968 (by decide +kernel) rfl
theorem wh_terms : Cond.codeWith yL_terms cL_terms 4 (some .int) [(0, 9, 12, 19)] ∈ GW := gw_t 975 (by decide +kernel) rfl
theorem wh_term : Cond.codeWith yL_term cL_term 5 (some .int) [(0, 11, 14, 19), (0, 11, 18, 21)] ∈ GW := gw_t 982 (by decide +kernel) rfl
theorem wh_convergent : Cond.codeWith yL_convergent cL_convergent 6 (some .int) [(0, 13, 16, 19), (0, 13, 20, 21)] ∈ GW := gw_t 993 (by decide +kernel) rfl
theorem wh_say : Cond.codeWith yL_say cL_say 4 (some .int) [(0, 10, 13, 21), (0, 10, 16, 88)] ∈ GW := gw_t 1004 (by decide +kernel) rfl
theorem wh_unsay : Cond.codeWith yL_unsay cL_unsay 4 (some .int) [(0, 10, 13, 21)] ∈ GW := gw_t 1030 (by decide +kernel) rfl
theorem wh_fold : Cond.codeWith yL_fold cL_fold 4 (some .int) [(0, 10, 13, 19)] ∈ GW := gw_t 1037 (by decide +kernel) rfl
theorem wh_lower : Cond.codeWith yL_lower cL_lower 6 (some .int) [(0, 13, 16, 19), (0, 13, 20, 21)] ∈ GW := gw_t 1044 (by decide +kernel) rfl
theorem wh_upper : Cond.codeWith yL_upper cL_upper 6 (some .int) [(0, 13, 16, 19), (0, 13, 20, 21)] ∈ GW := gw_t 1055 (by decide +kernel) rfl
theorem wh_best : Cond.codeWith yL_best cL_best 6 (some .int) [(0, 13, 16, 19), (0, 13, 20, 21)] ∈ GW := gw_t 1062 (by decide +kernel) rfl
theorem wh_up : Cond.codeWith yL_up cL_up 4 (some .int) [(0, 10, 13, 19)] ∈ GW := gw_t 1073 (by decide +kernel) rfl
theorem wh_down : Cond.codeWith yL_down cL_down 5 (some .int) [(0, 11, 14, 19)] ∈ GW := gw_t 1084 (by decide +kernel) rfl
theorem wh_depth : Cond.codeWith yL_depth cL_depth 4 (some .int) [(0, 10, 13, 19)] ∈ GW := gw_t 1091 (by decide +kernel) rfl
theorem wh_way : Cond.codeWith yL_way cL_way 4 (some .int) [(0, 9, 12, 19)] ∈ GW := gw_t 1098 (by decide +kernel) rfl
theorem wh_next : Cond.codeWith yL_next cL_next 5 (some .int) [(0, 11, 14, 19), (0, 11, 18, 21)] ∈ GW := gw_t 1105 (by decide +kernel) rfl
theorem wh_before : Cond.codeWith yL_before cL_before 4 (some .int) [(0, 10, 13, 19)] ∈ GW := gw_t 1112 (by decide +kernel) rfl
theorem wh_cut : Cond.codeWith yL_cut cL_cut 6 (some .int) [(0, 12, 15, 19), (0, 12, 19, 21)] ∈ GW := gw_t 1119 (by decide +kernel) rfl
theorem wh_simplest : Cond.codeWith yL_simplest cL_simplest 7 (some .int) [(0, 15, 18, 19), (0, 15, 22, 21)] ∈ GW := gw_t 1126 (by decide +kernel) rfl
theorem wh_tally : Cond.codeWith yL_tally cL_tally 6 (some .int) [(0, 13, 16, 19), (0, 13, 20, 21)] ∈ GW := gw_t 1139 (by decide +kernel) rfl
theorem wh_house : Cond.codeWith yL_house cL_house 4 (some .int) [(0, 10, 13, 21)] ∈ GW := gw_t 1157 (by decide +kernel) rfl
set_option maxHeartbeats 4000000 in
set_option maxRecDepth 100000 in
/-- BestratiosLaw.put(LBestratios;IIILBestratiosLaw$Out;)I -/
theorem c_L_put (l : Launch) (hlst : l.stackTraces = false) (D : va_G) (tk : Nat → ClassId) (N0 : Nat) (sa : Nat → Nat) {ad : Nat → Nat} (hAD : ADok N0 ad) {uo : Nat} (huo : N0 ≤ uo) (sz : Nat) (g : CS) (kn : Int32) (hI : CI g kn) (x1 : Int32) (x2 : Int32) (x3 : Int32) : Met l yL_put (wsw yL_put cL_put 6 (some .int) [(0, 13, 16, 19), (0, 13, 20, 21)]) lwR (cPW D tk N0 sa [.ref (ad 15), .int x1, .int x2, .int x3, .ref uo] sz (fun H => CW D tk ad g H ∧ OUo D uo H)) (kQi (fun rk H => ∃ (g1 : CS) (ox : Int64) (ov : Value), CW D tk ad g1 H ∧ c1 D uo (.inr (12, [.long ox, ov])) H ∧ WR (xo (bR x1) (if x3 = 0 then 2 else 0)) (f_setW (f_become g 6 x2.toInt64 x3.toInt64) (nn x1)) ((f_setR (f_become g 6 x2.toInt64 x3.toInt64) (nn x1)).toInt64) g rk g1 ox) (lwA ad uo sz)) 3000 8000 (lwA ad uo sz) := by
  refine mStartW RL rfl (by decide +kernel) (Nat.le_of_ble_eq_true rfl) ?_
  intro p e s m args below meth c E hr hlk htb hsz hC hN hF ls hl
  subst hsz
  obtain ⟨hx, hb, -⟩ := id E
  have hA := lwA.ge hAD huo hC.2.1
  have hn : ∀ q, s.heap.size ≤ q → (lwA ad uo s.heap.size) q := fun q h => Or.inl (Or.inr h)
  have hS : va_S (lwA ad uo s.heap.size) s.heap s.heap [] := va_S.rf
  have hl : lv_has ls 6 [(0, .ref (ad 15)), (1, .int x1), (2, .int x2), (3, .int x3), (4, .ref uo)] := hl
  obtain ⟨hW, x9, v9, fu⟩ := hF
  have hne := cwC hC hW (Or.inl fu.cl)
  refine lv_aload (pc := 0) hx hb dL_put_0 (lv_at hl 4 rfl) ?_
  refine lv_aload_n (pc := 2) hx hb dL_put_2 rfl (lv_at hl 0 rfl) ?_
  refine lv_iload_n (pc := 3) hx hb dL_put_3 rfl (lv_at hl 1 rfl) ?_
  refine lv_iload_n (pc := 4) hx hb dL_put_4 rfl (lv_at hl 2 rfl) ?_
  refine lv_iload_n (pc := 5) hx hb dL_put_5 rfl (lv_at hl 3 rfl) ?_
  refine kh_i (pc := 6) (kx_V E hC hS hA hl.1 (c1.recv hC hW.obj rfl) rfl (c_X3_put l hlst D tk N0 sa hAD s.heap.size g x1 x2 x3) kw_805 kw_806 kw_807 kw_1 kw_808 (n := 3) (by decide +kernel) rfl ⟨⟨rfl, rfl⟩, ⟨Nat.le_of_ble_eq_true rfl, Nat.le_of_ble_eq_true rfl⟩, (by dsimp only [lwR]; omega), (by dsimp only [lwR]; omega)⟩ rfl (Nat.le_of_ble_eq_true rfl) hW dL_put_6) hS (fun q z w => Or.inl w) hn (fun E1 ce q9 H locs hb9 hz hk hS h1 h2 h3 => ?_) (fun r H locs hR hz hk hS => ?_)
  · have hW := hW.new hk
    have fu := fu.new hk
    rcases hb9 with ⟨rfl, hx9⟩ | ⟨rfl, hx9⟩
    · refine r_c1 (pc := 6) E hC htb (by decide) (by decide) kw_803 wc_0 h1 h2 h3 ?_
      refine lv_astore (pc := 16) (lv' := [(5, .ref q9), (0, .ref (ad 15)), (1, .int x1), (2, .int x2), (3, .int x3), (4, .ref uo)]) hx hb dL_put_16 hl (by decide) rfl (fun ls hl => ?_)
      refine lv_iconst (pc := 18) (v := 1) hx hb dL_put_18 (by decide) ?_
      refine r_iret (pc := 19) E hr hlk hS (by omega) (by omega) ?_ dL_put_19
      exact ⟨g, _, _, hW, fu, by rw [hx9]; rfl, fun z => absurd (hx9.symm.trans z) (by decide), fun _ => rfl⟩
    · refine r_c2 (pc := 6) E hC htb (by decide) (by decide) (by decide) kw_804 kw_803 hN.1 wc_1 h1 h2 h3 ?_
      refine lv_astore (pc := 20) (lv' := [(5, .ref q9), (0, .ref (ad 15)), (1, .int x1), (2, .int x2), (3, .int x3), (4, .ref uo)]) hx hb dL_put_20 hl (by decide) rfl (fun ls hl => ?_)
      refine lv_iconst (pc := 22) (v := 2) hx hb dL_put_22 (by decide) ?_
      refine r_iret (pc := 23) E hr hlk hS (by omega) (by omega) ?_ dL_put_23
      exact ⟨g, _, _, hW, fu, by rw [hx9]; rfl, fun z => absurd (hx9.symm.trans z) (by decide), fun _ => rfl⟩
  · obtain ⟨hx0, er, hW⟩ := hR
    have fu := fu.kept (hk _ fu.lt (cwN hne fu.lt))
    refine lv_i2l (pc := 9) (v := r.toInt64) hx hb dL_put_9 rfl ?_
    refine r_putO (pc := 10) "BestratiosLaw" E hC fu hS (Or.inr rfl) 0 tyX4 tyX4_ok nmX4 rfl (by decide) (Nat.le_of_ble_eq_true rfl) uX4 kn_793 (fun _ h => h) rfl rfl rfl dL_put_10 (fun H locs n_ ho hz hS => ?_)
    have hW := hW.kept (fun k hk9 => ho _ (hne k hk9))
    refine lv_goto (pc := 13) (tgt := 24) hx hb dL_put_13 (by decide) ?_
    refine lv_iconst (pc := 24) (v := 0) hx hb dL_put_24 (by decide) ?_
    refine r_iret (pc := 25) E hr hlk hS (by omega) (by omega) ?_ dL_put_25
    exact ⟨_, _, _, hW, n_, by rw [hx0]; rfl, fun _ => ⟨rfl, by rw [er]⟩, fun z => absurd hx0 z⟩
set_option maxHeartbeats 4000000 in
set_option maxRecDepth 100000 in
/-- BestratiosLaw.putDecimal(LBestratios;IIILBestratiosLaw$Out;)I -/
theorem c_L_putDecimal (l : Launch) (hlst : l.stackTraces = false) (D : va_G) (tk : Nat → ClassId) (N0 : Nat) (sa : Nat → Nat) {ad : Nat → Nat} (hAD : ADok N0 ad) {uo : Nat} (huo : N0 ≤ uo) (sz : Nat) (g : CS) (kn : Int32) (hI : CI g kn) (x1 : Int32) (x2 : Int32) (x3 : Int32) : Met l yL_putDecimal (wsw yL_putDecimal cL_putDecimal 6 (some .int) [(0, 13, 16, 19), (0, 13, 20, 21)]) lwR (cPW D tk N0 sa [.ref (ad 15), .int x1, .int x2, .int x3, .ref uo] sz (fun H => CW D tk ad g H ∧ OUo D uo H)) (kQi (fun rk H => ∃ (g1 : CS) (ox : Int64) (ov : Value), CW D tk ad g1 H ∧ c1 D uo (.inr (12, [.long ox, ov])) H ∧ WR (xo (bR x1) (2 * bW x3 0 9)) (f_setW (f_become g 6 x2.toInt64 (f_p10 x3)) (nn x1)) ((f_setR (f_become g 6 x2.toInt64 (f_p10 x3)) (nn x1)).toInt64) g rk g1 ox) (lwA ad uo sz)) 3000 8000 (lwA ad uo sz) := by
  refine mStartW RL rfl (by decide +kernel) (Nat.le_of_ble_eq_true rfl) ?_
  intro p e s m args below meth c E hr hlk htb hsz hC hN hF ls hl
  subst hsz
  obtain ⟨hx, hb, -⟩ := id E
  have hA := lwA.ge hAD huo hC.2.1
  have hn : ∀ q, s.heap.size ≤ q → (lwA ad uo s.heap.size) q := fun q h => Or.inl (Or.inr h)
  have hS : va_S (lwA ad uo s.heap.size) s.heap s.heap [] := va_S.rf
  have hl : lv_has ls 6 [(0, .ref (ad 15)), (1, .int x1), (2, .int x2), (3, .int x3), (4, .ref uo)] := hl
  obtain ⟨hW, x9, v9, fu⟩ := hF
  have hne := cwC hC hW (Or.inl fu.cl)
  refine lv_aload (pc := 0) hx hb dL_putDecimal_0 (lv_at hl 4 rfl) ?_
  refine lv_aload_n (pc := 2) hx hb dL_putDecimal_2 rfl (lv_at hl 0 rfl) ?_
  refine lv_iload_n (pc := 3) hx hb dL_putDecimal_3 rfl (lv_at hl 1 rfl) ?_
  refine lv_iload_n (pc := 4) hx hb dL_putDecimal_4 rfl (lv_at hl 2 rfl) ?_
  refine lv_iload_n (pc := 5) hx hb dL_putDecimal_5 rfl (lv_at hl 3 rfl) ?_
  refine kh_i (pc := 6) (kx_V E hC hS hA hl.1 (c1.recv hC hW.obj rfl) rfl (c_X3_putDecimal l hlst D tk N0 sa hAD s.heap.size g x1 x2 x3) kw_847 kw_848 kw_849 kw_1 kw_850 (n := 3) (by decide +kernel) rfl ⟨⟨rfl, rfl⟩, ⟨Nat.le_of_ble_eq_true rfl, Nat.le_of_ble_eq_true rfl⟩, (by dsimp only [lwR]; omega), (by dsimp only [lwR]; omega)⟩ rfl (Nat.le_of_ble_eq_true rfl) hW dL_putDecimal_6) hS (fun q z w => Or.inl w) hn (fun E1 ce q9 H locs hb9 hz hk hS h1 h2 h3 => ?_) (fun r H locs hR hz hk hS => ?_)
  · have hW := hW.new hk
    have fu := fu.new hk
    rcases hb9 with ⟨rfl, hx9⟩ | ⟨rfl, hx9⟩
    · refine r_c1 (pc := 6) E hC htb (by decide) (by decide) kw_803 wc_0 h1 h2 h3 ?_
      refine lv_astore (pc := 16) (lv' := [(5, .ref q9), (0, .ref (ad 15)), (1, .int x1), (2, .int x2), (3, .int x3), (4, .ref uo)]) hx hb dL_putDecimal_16 hl (by decide) rfl (fun ls hl => ?_)
      refine lv_iconst (pc := 18) (v := 1) hx hb dL_putDecimal_18 (by decide) ?_
      refine r_iret (pc := 19) E hr hlk hS (by omega) (by omega) ?_ dL_putDecimal_19
      exact ⟨g, _, _, hW, fu, by rw [hx9]; rfl, fun z => absurd (hx9.symm.trans z) (by decide), fun _ => rfl⟩
    · refine r_c2 (pc := 6) E hC htb (by decide) (by decide) (by decide) kw_804 kw_803 hN.1 wc_1 h1 h2 h3 ?_
      refine lv_astore (pc := 20) (lv' := [(5, .ref q9), (0, .ref (ad 15)), (1, .int x1), (2, .int x2), (3, .int x3), (4, .ref uo)]) hx hb dL_putDecimal_20 hl (by decide) rfl (fun ls hl => ?_)
      refine lv_iconst (pc := 22) (v := 2) hx hb dL_putDecimal_22 (by decide) ?_
      refine r_iret (pc := 23) E hr hlk hS (by omega) (by omega) ?_ dL_putDecimal_23
      exact ⟨g, _, _, hW, fu, by rw [hx9]; rfl, fun z => absurd (hx9.symm.trans z) (by decide), fun _ => rfl⟩
  · obtain ⟨hx0, er, hW⟩ := hR
    have fu := fu.kept (hk _ fu.lt (cwN hne fu.lt))
    refine lv_i2l (pc := 9) (v := r.toInt64) hx hb dL_putDecimal_9 rfl ?_
    refine r_putO (pc := 10) "BestratiosLaw" E hC fu hS (Or.inr rfl) 0 tyX4 tyX4_ok nmX4 rfl (by decide) (Nat.le_of_ble_eq_true rfl) uX4 kn_793 (fun _ h => h) rfl rfl rfl dL_putDecimal_10 (fun H locs n_ ho hz hS => ?_)
    have hW := hW.kept (fun k hk9 => ho _ (hne k hk9))
    refine lv_goto (pc := 13) (tgt := 24) hx hb dL_putDecimal_13 (by decide) ?_
    refine lv_iconst (pc := 24) (v := 0) hx hb dL_putDecimal_24 (by decide) ?_
    refine r_iret (pc := 25) E hr hlk hS (by omega) (by omega) ?_ dL_putDecimal_25
    exact ⟨_, _, _, hW, n_, by rw [hx0]; rfl, fun _ => ⟨rfl, by rw [er]⟩, fun z => absurd hx0 z⟩
set_option maxHeartbeats 4000000 in
set_option maxRecDepth 100000 in
/-- BestratiosLaw.copy(LBestratios;IILBestratiosLaw$Out;)I -/
theorem c_L_copy (l : Launch) (hlst : l.stackTraces = false) (D : va_G) (tk : Nat → ClassId) (N0 : Nat) (sa : Nat → Nat) {ad : Nat → Nat} (hAD : ADok N0 ad) {uo : Nat} (huo : N0 ≤ uo) (sz : Nat) (g : CS) (kn : Int32) (hI : CI g kn) (x1 : Int32) (x2 : Int32) : Met l yL_copy (wsw yL_copy cL_copy 5 (some .int) [(0, 11, 14, 19)]) lwR (cPW D tk N0 sa [.ref (ad 15), .int x1, .int x2, .ref uo] sz (fun H => CW D tk ad g H ∧ OUo D uo H)) (kQi (fun rk H => ∃ (g1 : CS) (ox : Int64) (ov : Value), CW D tk ad g1 H ∧ c1 D uo (.inr (12, [.long ox, ov])) H ∧ WR (xo (bR x1) (bR x2)) (f_setW (f_assign g 6 (nn x2)) (nn x1)) ((f_setR (f_assign g 6 (nn x2)) (nn x1)).toInt64) g rk g1 ox) (lwA ad uo sz)) 3000 8000 (lwA ad uo sz) := by
  refine mStartW RL rfl (by decide +kernel) (Nat.le_of_ble_eq_true rfl) ?_
  intro p e s m args below meth c E hr hlk htb hsz hC hN hF ls hl
  subst hsz
  obtain ⟨hx, hb, -⟩ := id E
  have hA := lwA.ge hAD huo hC.2.1
  have hn : ∀ q, s.heap.size ≤ q → (lwA ad uo s.heap.size) q := fun q h => Or.inl (Or.inr h)
  have hS : va_S (lwA ad uo s.heap.size) s.heap s.heap [] := va_S.rf
  have hl : lv_has ls 5 [(0, .ref (ad 15)), (1, .int x1), (2, .int x2), (3, .ref uo)] := hl
  obtain ⟨hW, x9, v9, fu⟩ := hF
  have hne := cwC hC hW (Or.inl fu.cl)
  refine lv_aload_n (pc := 0) hx hb dL_copy_0 rfl (lv_at hl 3 rfl) ?_
  refine lv_aload_n (pc := 1) hx hb dL_copy_1 rfl (lv_at hl 0 rfl) ?_
  refine lv_iload_n (pc := 2) hx hb dL_copy_2 rfl (lv_at hl 1 rfl) ?_
  refine lv_iload_n (pc := 3) hx hb dL_copy_3 rfl (lv_at hl 2 rfl) ?_
  refine kh_i (pc := 4) (kx_V E hC hS hA hl.1 (c1.recv hC hW.obj rfl) rfl (c_X3_copy l hlst D tk N0 sa hAD s.heap.size g x1 x2) kw_858 kw_859 kw_860 kw_1 kw_861 (n := 2) (by decide +kernel) rfl ⟨⟨rfl, rfl⟩, ⟨Nat.le_of_ble_eq_true rfl, Nat.le_of_ble_eq_true rfl⟩, (by dsimp only [lwR]; omega), (by dsimp only [lwR]; omega)⟩ rfl (Nat.le_of_ble_eq_true rfl) hW dL_copy_4) hS (fun q z w => Or.inl w) hn (fun E1 ce q9 H locs hb9 hz hk hS h1 h2 h3 => ?_) (fun r H locs hR hz hk hS => ?_)
  · have hW := hW.new hk
    have fu := fu.new hk
    obtain ⟨rfl, hx9⟩ := hb9
    refine r_c1 (pc := 4) E hC htb (by decide) (by decide) kw_803 wc_0 h1 h2 h3 ?_
    refine lv_astore (pc := 14) (lv' := [(4, .ref q9), (0, .ref (ad 15)), (1, .int x1), (2, .int x2), (3, .ref uo)]) hx hb dL_copy_14 hl (by decide) rfl (fun ls hl => ?_)
    refine lv_iconst (pc := 16) (v := 1) hx hb dL_copy_16 (by decide) ?_
    refine r_iret (pc := 17) E hr hlk hS (by omega) (by omega) ?_ dL_copy_17
    exact ⟨g, _, _, hW, fu, by rw [hx9]; rfl, fun z => absurd (hx9.symm.trans z) (by decide), fun _ => rfl⟩
  · obtain ⟨hx0, er, hW⟩ := hR
    have fu := fu.kept (hk _ fu.lt (cwN hne fu.lt))
    refine lv_i2l (pc := 7) (v := r.toInt64) hx hb dL_copy_7 rfl ?_
    refine r_putO (pc := 8) "BestratiosLaw" E hC fu hS (Or.inr rfl) 0 tyX4 tyX4_ok nmX4 rfl (by decide) (Nat.le_of_ble_eq_true rfl) uX4 kn_793 (fun _ h => h) rfl rfl rfl dL_copy_8 (fun H locs n_ ho hz hS => ?_)
    have hW := hW.kept (fun k hk9 => ho _ (hne k hk9))
    refine lv_goto (pc := 11) (tgt := 18) hx hb dL_copy_11 (by decide) ?_
    refine lv_iconst (pc := 18) (v := 0) hx hb dL_copy_18 (by decide) ?_
    refine r_iret (pc := 19) E hr hlk hS (by omega) (by omega) ?_ dL_copy_19
    exact ⟨_, _, _, hW, n_, by rw [hx0]; rfl, fun _ => ⟨rfl, by rw [er]⟩, fun z => absurd hx0 z⟩
set_option maxHeartbeats 4000000 in
set_option maxRecDepth 100000 in
/-- BestratiosLaw.swap(LBestratios;IILBestratiosLaw$Out;)I -/
theorem c_L_swap (l : Launch) (hlst : l.stackTraces = false) (D : va_G) (tk : Nat → ClassId) (N0 : Nat) (sa : Nat → Nat) {ad : Nat → Nat} (hAD : ADok N0 ad) {uo : Nat} (huo : N0 ≤ uo) (sz : Nat) (g : CS) (kn : Int32) (hI : CI g kn) (x1 : Int32) (x2 : Int32) : Met l yL_swap (wsw yL_swap cL_swap 5 (some .int) [(0, 11, 14, 19)]) lwR (cPW D tk N0 sa [.ref (ad 15), .int x1, .int x2, .ref uo] sz (fun H => CW D tk ad g H ∧ OUo D uo H)) (kQi (fun rk H => ∃ (g1 : CS) (ox : Int64) (ov : Value), CW D tk ad g1 H ∧ c1 D uo (.inr (12, [.long ox, ov])) H ∧ WR (xo (bR x1) (bR x2)) (f_setW (f_swap g (nn x1) (nn x2)) (nn x1)) ((f_setR (f_swap g (nn x1) (nn x2)) (nn x1)).toInt64) g rk g1 ox) (lwA ad uo sz)) 3000 8000 (lwA ad uo sz) := by
  refine mStartW RL rfl (by decide +kernel) (Nat.le_of_ble_eq_true rfl) ?_
  intro p e s m args below meth c E hr hlk htb hsz hC hN hF ls hl
  subst hsz
  obtain ⟨hx, hb, -⟩ := id E
  have hA := lwA.ge hAD huo hC.2.1
  have hn : ∀ q, s.heap.size ≤ q → (lwA ad uo s.heap.size) q := fun q h => Or.inl (Or.inr h)
  have hS : va_S (lwA ad uo s.heap.size) s.heap s.heap [] := va_S.rf
  have hl : lv_has ls 5 [(0, .ref (ad 15)), (1, .int x1), (2, .int x2), (3, .ref uo)] := hl
  obtain ⟨hW, x9, v9, fu⟩ := hF
  have hne := cwC hC hW (Or.inl fu.cl)
  refine lv_aload_n (pc := 0) hx hb dL_swap_0 rfl (lv_at hl 3 rfl) ?_
  refine lv_aload_n (pc := 1) hx hb dL_swap_1 rfl (lv_at hl 0 rfl) ?_
  refine lv_iload_n (pc := 2) hx hb dL_swap_2 rfl (lv_at hl 1 rfl) ?_
  refine lv_iload_n (pc := 3) hx hb dL_swap_3 rfl (lv_at hl 2 rfl) ?_
  refine kh_i (pc := 4) (kx_V E hC hS hA hl.1 (c1.recv hC hW.obj rfl) rfl (c_X3_swap l hlst D tk N0 sa hAD s.heap.size g x1 x2) kw_865 kw_866 kw_867 kw_1 kw_868 (n := 2) (by decide +kernel) rfl ⟨⟨rfl, rfl⟩, ⟨Nat.le_of_ble_eq_true rfl, Nat.le_of_ble_eq_true rfl⟩, (by dsimp only [lwR]; omega), (by dsimp only [lwR]; omega)⟩ rfl (Nat.le_of_ble_eq_true rfl) hW dL_swap_4) hS (fun q z w => Or.inl w) hn (fun E1 ce q9 H locs hb9 hz hk hS h1 h2 h3 => ?_) (fun r H locs hR hz hk hS => ?_)
  · have hW := hW.new hk
    have fu := fu.new hk
    obtain ⟨rfl, hx9⟩ := hb9
    refine r_c1 (pc := 4) E hC htb (by decide) (by decide) kw_803 wc_0 h1 h2 h3 ?_
    refine lv_astore (pc := 14) (lv' := [(4, .ref q9), (0, .ref (ad 15)), (1, .int x1), (2, .int x2), (3, .ref uo)]) hx hb dL_swap_14 hl (by decide) rfl (fun ls hl => ?_)
    refine lv_iconst (pc := 16) (v := 1) hx hb dL_swap_16 (by decide) ?_
    refine r_iret (pc := 17) E hr hlk hS (by omega) (by omega) ?_ dL_swap_17
    exact ⟨g, _, _, hW, fu, by rw [hx9]; rfl, fun z => absurd (hx9.symm.trans z) (by decide), fun _ => rfl⟩
  · obtain ⟨hx0, er, hW⟩ := hR
    have fu := fu.kept (hk _ fu.lt (cwN hne fu.lt))
    refine lv_i2l (pc := 7) (v := r.toInt64) hx hb dL_swap_7 rfl ?_
    refine r_putO (pc := 8) "BestratiosLaw" E hC fu hS (Or.inr rfl) 0 tyX4 tyX4_ok nmX4 rfl (by decide) (Nat.le_of_ble_eq_true rfl) uX4 kn_793 (fun _ h => h) rfl rfl rfl dL_swap_8 (fun H locs n_ ho hz hS => ?_)
    have hW := hW.kept (fun k hk9 => ho _ (hne k hk9))
    refine lv_goto (pc := 11) (tgt := 18) hx hb dL_swap_11 (by decide) ?_
    refine lv_iconst (pc := 18) (v := 0) hx hb dL_swap_18 (by decide) ?_
    refine r_iret (pc := 19) E hr hlk hS (by omega) (by omega) ?_ dL_swap_19
    exact ⟨_, _, _, hW, n_, by rw [hx0]; rfl, fun _ => ⟨rfl, by rw [er]⟩, fun z => absurd hx0 z⟩
set_option maxHeartbeats 4000000 in
set_option maxRecDepth 100000 in
/-- BestratiosLaw.plus(LBestratios;IIILBestratiosLaw$Out;)I -/
theorem c_L_plus (l : Launch) (hlst : l.stackTraces = false) (D : va_G) (tk : Nat → ClassId) (N0 : Nat) (sa : Nat → Nat) {ad : Nat → Nat} (hAD : ADok N0 ad) {uo : Nat} (huo : N0 ≤ uo) (sz : Nat) (g : CS) (kn : Int32) (hI : CI g kn) (x1 : Int32) (x2 : Int32) (x3 : Int32) : Met l yL_plus (wsw yL_plus cL_plus 6 (some .int) [(0, 13, 16, 19)]) lwR (cPW D tk N0 sa [.ref (ad 15), .int x1, .int x2, .int x3, .ref uo] sz (fun H => CW D tk ad g H ∧ OUo D uo H)) (kQi (fun rk H => ∃ (g1 : CS) (ox : Int64) (ov : Value), CW D tk ad g1 H ∧ c1 D uo (.inr (12, [.long ox, ov])) H ∧ WR (xo (bR x1) (xo (bR x2) (bR x3))) (f_setW (f_sum g 6 (nn x2) (nn x3)) (nn x1)) ((f_setR (f_sum g 6 (nn x2) (nn x3)) (nn x1)).toInt64) g rk g1 ox) (lwA ad uo sz)) 3000 8000 (lwA ad uo sz) := by
  refine mStartW RL rfl (by decide +kernel) (Nat.le_of_ble_eq_true rfl) ?_
  intro p e s m args below meth c E hr hlk htb hsz hC hN hF ls hl
  subst hsz
  obtain ⟨hx, hb, -⟩ := id E
  have hA := lwA.ge hAD huo hC.2.1
  have hn : ∀ q, s.heap.size ≤ q → (lwA ad uo s.heap.size) q := fun q h => Or.inl (Or.inr h)
  have hS : va_S (lwA ad uo s.heap.size) s.heap s.heap [] := va_S.rf
  have hl : lv_has ls 6 [(0, .ref (ad 15)), (1, .int x1), (2, .int x2), (3, .int x3), (4, .ref uo)] := hl
  obtain ⟨hW, x9, v9, fu⟩ := hF
  have hne := cwC hC hW (Or.inl fu.cl)
  refine lv_aload (pc := 0) hx hb dL_plus_0 (lv_at hl 4 rfl) ?_
  refine lv_aload_n (pc := 2) hx hb dL_plus_2 rfl (lv_at hl 0 rfl) ?_
  refine lv_iload_n (pc := 3) hx hb dL_plus_3 rfl (lv_at hl 1 rfl) ?_
  refine lv_iload_n (pc := 4) hx hb dL_plus_4 rfl (lv_at hl 2 rfl) ?_
  refine lv_iload_n (pc := 5) hx hb dL_plus_5 rfl (lv_at hl 3 rfl) ?_
  refine kh_i (pc := 6) (kx_V E hC hS hA hl.1 (c1.recv hC hW.obj rfl) rfl (c_X3_plus l hlst D tk N0 sa hAD s.heap.size g x1 x2 x3) kw_872 kw_873 kw_874 kw_1 kw_875 (n := 3) (by decide +kernel) rfl ⟨⟨rfl, rfl⟩, ⟨Nat.le_of_ble_eq_true rfl, Nat.le_of_ble_eq_true rfl⟩, (by dsimp only [lwR]; omega), (by dsimp only [lwR]; omega)⟩ rfl (Nat.le_of_ble_eq_true rfl) hW dL_plus_6) hS (fun q z w => Or.inl w) hn (fun E1 ce q9 H locs hb9 hz hk hS h1 h2 h3 => ?_) (fun r H locs hR hz hk hS => ?_)
  · have hW := hW.new hk
    have fu := fu.new hk
    obtain ⟨rfl, hx9⟩ := hb9
    refine r_c1 (pc := 6) E hC htb (by decide) (by decide) kw_803 wc_0 h1 h2 h3 ?_
    refine lv_astore (pc := 16) (lv' := [(5, .ref q9), (0, .ref (ad 15)), (1, .int x1), (2, .int x2), (3, .int x3), (4, .ref uo)]) hx hb dL_plus_16 hl (by decide) rfl (fun ls hl => ?_)
    refine lv_iconst (pc := 18) (v := 1) hx hb dL_plus_18 (by decide) ?_
    refine r_iret (pc := 19) E hr hlk hS (by omega) (by omega) ?_ dL_plus_19
    exact ⟨g, _, _, hW, fu, by rw [hx9]; rfl, fun z => absurd (hx9.symm.trans z) (by decide), fun _ => rfl⟩
  · obtain ⟨hx0, er, hW⟩ := hR
    have fu := fu.kept (hk _ fu.lt (cwN hne fu.lt))
    refine lv_i2l (pc := 9) (v := r.toInt64) hx hb dL_plus_9 rfl ?_
    refine r_putO (pc := 10) "BestratiosLaw" E hC fu hS (Or.inr rfl) 0 tyX4 tyX4_ok nmX4 rfl (by decide) (Nat.le_of_ble_eq_true rfl) uX4 kn_793 (fun _ h => h) rfl rfl rfl dL_plus_10 (fun H locs n_ ho hz hS => ?_)
    have hW := hW.kept (fun k hk9 => ho _ (hne k hk9))
    refine lv_goto (pc := 13) (tgt := 20) hx hb dL_plus_13 (by decide) ?_
    refine lv_iconst (pc := 20) (v := 0) hx hb dL_plus_20 (by decide) ?_
    refine r_iret (pc := 21) E hr hlk hS (by omega) (by omega) ?_ dL_plus_21
    exact ⟨_, _, _, hW, n_, by rw [hx0]; rfl, fun _ => ⟨rfl, by rw [er]⟩, fun z => absurd hx0 z⟩
set_option maxHeartbeats 4000000 in
set_option maxRecDepth 100000 in
/-- BestratiosLaw.minus(LBestratios;IIILBestratiosLaw$Out;)I -/
theorem c_L_minus (l : Launch) (hlst : l.stackTraces = false) (D : va_G) (tk : Nat → ClassId) (N0 : Nat) (sa : Nat → Nat) {ad : Nat → Nat} (hAD : ADok N0 ad) {uo : Nat} (huo : N0 ≤ uo) (sz : Nat) (g : CS) (kn : Int32) (hI : CI g kn) (x1 : Int32) (x2 : Int32) (x3 : Int32) : Met l yL_minus (wsw yL_minus cL_minus 6 (some .int) [(0, 13, 16, 19)]) lwR (cPW D tk N0 sa [.ref (ad 15), .int x1, .int x2, .int x3, .ref uo] sz (fun H => CW D tk ad g H ∧ OUo D uo H)) (kQi (fun rk H => ∃ (g1 : CS) (ox : Int64) (ov : Value), CW D tk ad g1 H ∧ c1 D uo (.inr (12, [.long ox, ov])) H ∧ WR (xo (bR x1) (xo (bR x2) (bR x3))) (f_setW (f_dif g 6 (nn x2) (nn x3)) (nn x1)) ((f_setR (f_dif g 6 (nn x2) (nn x3)) (nn x1)).toInt64) g rk g1 ox) (lwA ad uo sz)) 3000 8000 (lwA ad uo sz) := by
  refine mStartW RL rfl (by decide +kernel) (Nat.le_of_ble_eq_true rfl) ?_
  intro p e s m args below meth c E hr hlk htb hsz hC hN hF ls hl
  subst hsz
  obtain ⟨hx, hb, -⟩ := id E
  have hA := lwA.ge hAD huo hC.2.1
  have hn : ∀ q, s.heap.size ≤ q → (lwA ad uo s.heap.size) q := fun q h => Or.inl (Or.inr h)
  have hS : va_S (lwA ad uo s.heap.size) s.heap s.heap [] := va_S.rf
  have hl : lv_has ls 6 [(0, .ref (ad 15)), (1, .int x1), (2, .int x2), (3, .int x3), (4, .ref uo)] := hl
  obtain ⟨hW, x9, v9, fu⟩ := hF
  have hne := cwC hC hW (Or.inl fu.cl)
  refine lv_aload (pc := 0) hx hb dL_minus_0 (lv_at hl 4 rfl) ?_
  refine lv_aload_n (pc := 2) hx hb dL_minus_2 rfl (lv_at hl 0 rfl) ?_
  refine lv_iload_n (pc := 3) hx hb dL_minus_3 rfl (lv_at hl 1 rfl) ?_
  refine lv_iload_n (pc := 4) hx hb dL_minus_4 rfl (lv_at hl 2 rfl) ?_
  refine lv_iload_n (pc := 5) hx hb dL_minus_5 rfl (lv_at hl 3 rfl) ?_
  refine kh_i (pc := 6) (kx_V E hC hS hA hl.1 (c1.recv hC hW.obj rfl) rfl (c_X3_minus l hlst D tk N0 sa hAD s.heap.size g x1 x2 x3) kw_879 kw_880 kw_881 kw_1 kw_882 (n := 3) (by decide +kernel) rfl ⟨⟨rfl, rfl⟩, ⟨Nat.le_of_ble_eq_true rfl, Nat.le_of_ble_eq_true rfl⟩, (by dsimp only [lwR]; omega), (by dsimp only [lwR]; omega)⟩ rfl (Nat.le_of_ble_eq_true rfl) hW dL_minus_6) hS (fun q z w => Or.inl w) hn (fun E1 ce q9 H locs hb9 hz hk hS h1 h2 h3 => ?_) (fun r H locs hR hz hk hS => ?_)
  · have hW := hW.new hk
    have fu := fu.new hk
    obtain ⟨rfl, hx9⟩ := hb9
    refine r_c1 (pc := 6) E hC htb (by decide) (by decide) kw_803 wc_0 h1 h2 h3 ?_
    refine lv_astore (pc := 16) (lv' := [(5, .ref q9), (0, .ref (ad 15)), (1, .int x1), (2, .int x2), (3, .int x3), (4, .ref uo)]) hx hb dL_minus_16 hl (by decide) rfl (fun ls hl => ?_)
    refine lv_iconst (pc := 18) (v := 1) hx hb dL_minus_18 (by decide) ?_
    refine r_iret (pc := 19) E hr hlk hS (by omega) (by omega) ?_ dL_minus_19
    exact ⟨g, _, _, hW, fu, by rw [hx9]; rfl, fun z => absurd (hx9.symm.trans z) (by decide), fun _ => rfl⟩
  · obtain ⟨hx0, er, hW⟩ := hR
    have fu := fu.kept (hk _ fu.lt (cwN hne fu.lt))
    refine lv_i2l (pc := 9) (v := r.toInt64) hx hb dL_minus_9 rfl ?_
    refine r_putO (pc := 10) "BestratiosLaw" E hC fu hS (Or.inr rfl) 0 tyX4 tyX4_ok nmX4 rfl (by decide) (Nat.le_of_ble_eq_true rfl) uX4 kn_793 (fun _ h => h) rfl rfl rfl dL_minus_10 (fun H locs n_ ho hz hS => ?_)
    have hW := hW.kept (fun k hk9 => ho _ (hne k hk9))
    refine lv_goto (pc := 13) (tgt := 20) hx hb dL_minus_13 (by decide) ?_
    refine lv_iconst (pc := 20) (v := 0) hx hb dL_minus_20 (by decide) ?_
    refine r_iret (pc := 21) E hr hlk hS (by omega) (by omega) ?_ dL_minus_21
    exact ⟨_, _, _, hW, n_, by rw [hx0]; rfl, fun _ => ⟨rfl, by rw [er]⟩, fun z => absurd hx0 z⟩
set_option maxHeartbeats 4000000 in
set_option maxRecDepth 100000 in
/-- BestratiosLaw.times(LBestratios;IIILBestratiosLaw$Out;)I -/
theorem c_L_times (l : Launch) (hlst : l.stackTraces = false) (D : va_G) (tk : Nat → ClassId) (N0 : Nat) (sa : Nat → Nat) {ad : Nat → Nat} (hAD : ADok N0 ad) {uo : Nat} (huo : N0 ≤ uo) (sz : Nat) (g : CS) (kn : Int32) (hI : CI g kn) (x1 : Int32) (x2 : Int32) (x3 : Int32) : Met l yL_times (wsw yL_times cL_times 6 (some .int) [(0, 13, 16, 19)]) lwR (cPW D tk N0 sa [.ref (ad 15), .int x1, .int x2, .int x3, .ref uo] sz (fun H => CW D tk ad g H ∧ OUo D uo H)) (kQi (fun rk H => ∃ (g1 : CS) (ox : Int64) (ov : Value), CW D tk ad g1 H ∧ c1 D uo (.inr (12, [.long ox, ov])) H ∧ WR (xo (bR x1) (xo (bR x2) (bR x3))) (f_setW (f_mul g 6 (nn x2) (nn x3)) (nn x1)) ((f_setR (f_mul g 6 (nn x2) (nn x3)) (nn x1)).toInt64) g rk g1 ox) (lwA ad uo sz)) 3000 8000 (lwA ad uo sz) := by
  refine mStartW RL rfl (by decide +kernel) (Nat.le_of_ble_eq_true rfl) ?_
  intro p e s m args below meth c E hr hlk htb hsz hC hN hF ls hl
  subst hsz
  obtain ⟨hx, hb, -⟩ := id E
  have hA := lwA.ge hAD huo hC.2.1
  have hn : ∀ q, s.heap.size ≤ q → (lwA ad uo s.heap.size) q := fun q h => Or.inl (Or.inr h)
  have hS : va_S (lwA ad uo s.heap.size) s.heap s.heap [] := va_S.rf
  have hl : lv_has ls 6 [(0, .ref (ad 15)), (1, .int x1), (2, .int x2), (3, .int x3), (4, .ref uo)] := hl
  obtain ⟨hW, x9, v9, fu⟩ := hF
  have hne := cwC hC hW (Or.inl fu.cl)
  refine lv_aload (pc := 0) hx hb dL_times_0 (lv_at hl 4 rfl) ?_
  refine lv_aload_n (pc := 2) hx hb dL_times_2 rfl (lv_at hl 0 rfl) ?_
  refine lv_iload_n (pc := 3) hx hb dL_times_3 rfl (lv_at hl 1 rfl) ?_
  refine lv_iload_n (pc := 4) hx hb dL_times_4 rfl (lv_at hl 2 rfl) ?_
  refine lv_iload_n (pc := 5) hx hb dL_times_5 rfl (lv_at hl 3 rfl) ?_
  refine kh_i (pc := 6) (kx_V E hC hS hA hl.1 (c1.recv hC hW.obj rfl) rfl (c_X3_times l hlst D tk N0 sa hAD s.heap.size g x1 x2 x3) kw_886 kw_887 kw_888 kw_1 kw_889 (n := 3) (by decide +kernel) rfl ⟨⟨rfl, rfl⟩, ⟨Nat.le_of_ble_eq_true rfl, Nat.le_of_ble_eq_true rfl⟩, (by dsimp only [lwR]; omega), (by dsimp only [lwR]; omega)⟩ rfl (Nat.le_of_ble_eq_true rfl) hW dL_times_6) hS (fun q z w => Or.inl w) hn (fun E1 ce q9 H locs hb9 hz hk hS h1 h2 h3 => ?_) (fun r H locs hR hz hk hS => ?_)
  · have hW := hW.new hk
    have fu := fu.new hk
    obtain ⟨rfl, hx9⟩ := hb9
    refine r_c1 (pc := 6) E hC htb (by decide) (by decide) kw_803 wc_0 h1 h2 h3 ?_
    refine lv_astore (pc := 16) (lv' := [(5, .ref q9), (0, .ref (ad 15)), (1, .int x1), (2, .int x2), (3, .int x3), (4, .ref uo)]) hx hb dL_times_16 hl (by decide) rfl (fun ls hl => ?_)
    refine lv_iconst (pc := 18) (v := 1) hx hb dL_times_18 (by decide) ?_
    refine r_iret (pc := 19) E hr hlk hS (by omega) (by omega) ?_ dL_times_19
    exact ⟨g, _, _, hW, fu, by rw [hx9]; rfl, fun z => absurd (hx9.symm.trans z) (by decide), fun _ => rfl⟩
  · obtain ⟨hx0, er, hW⟩ := hR
    have fu := fu.kept (hk _ fu.lt (cwN hne fu.lt))
    refine lv_i2l (pc := 9) (v := r.toInt64) hx hb dL_times_9 rfl ?_
    refine r_putO (pc := 10) "BestratiosLaw" E hC fu hS (Or.inr rfl) 0 tyX4 tyX4_ok nmX4 rfl (by decide) (Nat.le_of_ble_eq_true rfl) uX4 kn_793 (fun _ h => h) rfl rfl rfl dL_times_10 (fun H locs n_ ho hz hS => ?_)
    have hW := hW.kept (fun k hk9 => ho _ (hne k hk9))
    refine lv_goto (pc := 13) (tgt := 20) hx hb dL_times_13 (by decide) ?_
    refine lv_iconst (pc := 20) (v := 0) hx hb dL_times_20 (by decide) ?_
    refine r_iret (pc := 21) E hr hlk hS (by omega) (by omega) ?_ dL_times_21
    exact ⟨_, _, _, hW, n_, by rw [hx0]; rfl, fun _ => ⟨rfl, by rw [er]⟩, fun z => absurd hx0 z⟩
set_option maxHeartbeats 4000000 in
set_option maxRecDepth 100000 in
/-- BestratiosLaw.mediant(LBestratios;IIILBestratiosLaw$Out;)I -/
theorem c_L_mediant (l : Launch) (hlst : l.stackTraces = false) (D : va_G) (tk : Nat → ClassId) (N0 : Nat) (sa : Nat → Nat) {ad : Nat → Nat} (hAD : ADok N0 ad) {uo : Nat} (huo : N0 ≤ uo) (sz : Nat) (g : CS) (kn : Int32) (hI : CI g kn) (x1 : Int32) (x2 : Int32) (x3 : Int32) : Met l yL_mediant (wsw yL_mediant cL_mediant 6 (some .int) [(0, 13, 16, 19)]) lwR (cPW D tk N0 sa [.ref (ad 15), .int x1, .int x2, .int x3, .ref uo] sz (fun H => CW D tk ad g H ∧ OUo D uo H)) (kQi (fun rk H => ∃ (g1 : CS) (ox : Int64) (ov : Value), CW D tk ad g1 H ∧ c1 D uo (.inr (12, [.long ox, ov])) H ∧ WR (xo (bR x1) (xo (bR x2) (bR x3))) (f_setW (f_med g 6 (nn x2) (nn x3)) (nn x1)) ((f_setR (f_med g 6 (nn x2) (nn x3)) (nn x1)).toInt64) g rk g1 ox) (lwA ad uo sz)) 3000 8000 (lwA ad uo sz) := by
  refine mStartW RL rfl (by decide +kernel) (Nat.le_of_ble_eq_true rfl) ?_
  intro p e s m args below meth c E hr hlk htb hsz hC hN hF ls hl
  subst hsz
  obtain ⟨hx, hb, -⟩ := id E
  have hA := lwA.ge hAD huo hC.2.1
  have hn : ∀ q, s.heap.size ≤ q → (lwA ad uo s.heap.size) q := fun q h => Or.inl (Or.inr h)
  have hS : va_S (lwA ad uo s.heap.size) s.heap s.heap [] := va_S.rf
  have hl : lv_has ls 6 [(0, .ref (ad 15)), (1, .int x1), (2, .int x2), (3, .int x3), (4, .ref uo)] := hl
  obtain ⟨hW, x9, v9, fu⟩ := hF
  have hne := cwC hC hW (Or.inl fu.cl)
  refine lv_aload (pc := 0) hx hb dL_mediant_0 (lv_at hl 4 rfl) ?_
  refine lv_aload_n (pc := 2) hx hb dL_mediant_2 rfl (lv_at hl 0 rfl) ?_
  refine lv_iload_n (pc := 3) hx hb dL_mediant_3 rfl (lv_at hl 1 rfl) ?_
  refine lv_iload_n (pc := 4) hx hb dL_mediant_4 rfl (lv_at hl 2 rfl) ?_
  refine lv_iload_n (pc := 5) hx hb dL_mediant_5 rfl (lv_at hl 3 rfl) ?_
  refine kh_i (pc := 6) (kx_V E hC hS hA hl.1 (c1.recv hC hW.obj rfl) rfl (c_X3_mediant l hlst D tk N0 sa hAD s.heap.size g x1 x2 x3) kw_937 kw_938 kw_939 kw_1 kw_940 (n := 3) (by decide +kernel) rfl ⟨⟨rfl, rfl⟩, ⟨Nat.le_of_ble_eq_true rfl, Nat.le_of_ble_eq_true rfl⟩, (by dsimp only [lwR]; omega), (by dsimp only [lwR]; omega)⟩ rfl (Nat.le_of_ble_eq_true rfl) hW dL_mediant_6) hS (fun q z w => Or.inl w) hn (fun E1 ce q9 H locs hb9 hz hk hS h1 h2 h3 => ?_) (fun r H locs hR hz hk hS => ?_)
  · have hW := hW.new hk
    have fu := fu.new hk
    obtain ⟨rfl, hx9⟩ := hb9
    refine r_c1 (pc := 6) E hC htb (by decide) (by decide) kw_803 wc_0 h1 h2 h3 ?_
    refine lv_astore (pc := 16) (lv' := [(5, .ref q9), (0, .ref (ad 15)), (1, .int x1), (2, .int x2), (3, .int x3), (4, .ref uo)]) hx hb dL_mediant_16 hl (by decide) rfl (fun ls hl => ?_)
    refine lv_iconst (pc := 18) (v := 1) hx hb dL_mediant_18 (by decide) ?_
    refine r_iret (pc := 19) E hr hlk hS (by omega) (by omega) ?_ dL_mediant_19
    exact ⟨g, _, _, hW, fu, by rw [hx9]; rfl, fun z => absurd (hx9.symm.trans z) (by decide), fun _ => rfl⟩
  · obtain ⟨hx0, er, hW⟩ := hR
    have fu := fu.kept (hk _ fu.lt (cwN hne fu.lt))
    refine lv_i2l (pc := 9) (v := r.toInt64) hx hb dL_mediant_9 rfl ?_
    refine r_putO (pc := 10) "BestratiosLaw" E hC fu hS (Or.inr rfl) 0 tyX4 tyX4_ok nmX4 rfl (by decide) (Nat.le_of_ble_eq_true rfl) uX4 kn_793 (fun _ h => h) rfl rfl rfl dL_mediant_10 (fun H locs n_ ho hz hS => ?_)
    have hW := hW.kept (fun k hk9 => ho _ (hne k hk9))
    refine lv_goto (pc := 13) (tgt := 20) hx hb dL_mediant_13 (by decide) ?_
    refine lv_iconst (pc := 20) (v := 0) hx hb dL_mediant_20 (by decide) ?_
    refine r_iret (pc := 21) E hr hlk hS (by omega) (by omega) ?_ dL_mediant_21
    exact ⟨_, _, _, hW, n_, by rw [hx0]; rfl, fun _ => ⟨rfl, by rw [er]⟩, fun z => absurd hx0 z⟩
set_option maxHeartbeats 4000000 in
set_option maxRecDepth 100000 in
/-- BestratiosLaw.over(LBestratios;IIILBestratiosLaw$Out;)I -/
theorem c_L_over (l : Launch) (hlst : l.stackTraces = false) (D : va_G) (tk : Nat → ClassId) (N0 : Nat) (sa : Nat → Nat) {ad : Nat → Nat} (hAD : ADok N0 ad) {uo : Nat} (huo : N0 ≤ uo) (sz : Nat) (g : CS) (kn : Int32) (hI : CI g kn) (x1 : Int32) (x2 : Int32) (x3 : Int32) : Met l yL_over (wsw yL_over cL_over 6 (some .int) [(0, 13, 16, 19)]) lwR (cPW D tk N0 sa [.ref (ad 15), .int x1, .int x2, .int x3, .ref uo] sz (fun H => CW D tk ad g H ∧ OUo D uo H)) (kQi (fun rk H => ∃ (g1 : CS) (ox : Int64) (ov : Value), CW D tk ad g1 H ∧ c1 D uo (.inr (12, [.long ox, ov])) H ∧ WR (xo (bR x1) (xo (bR x2) (bR x3))) (f_overW g (nn x1) (nn x2) (nn x3)) ((f_overR g (nn x1) (nn x2) (nn x3)).toInt64) g rk g1 ox) (lwA ad uo sz)) 3000 8000 (lwA ad uo sz) := by
  refine mStartW RL rfl (by decide +kernel) (Nat.le_of_ble_eq_true rfl) ?_
  intro p e s m args below meth c E hr hlk htb hsz hC hN hF ls hl
  subst hsz
  obtain ⟨hx, hb, -⟩ := id E
  have hA := lwA.ge hAD huo hC.2.1
  have hn : ∀ q, s.heap.size ≤ q → (lwA ad uo s.heap.size) q := fun q h => Or.inl (Or.inr h)
  have hS : va_S (lwA ad uo s.heap.size) s.heap s.heap [] := va_S.rf
  have hl : lv_has ls 6 [(0, .ref (ad 15)), (1, .int x1), (2, .int x2), (3, .int x3), (4, .ref uo)] := hl
  obtain ⟨hW, x9, v9, fu⟩ := hF
  have hne := cwC hC hW (Or.inl fu.cl)
  refine lv_aload (pc := 0) hx hb dL_over_0 (lv_at hl 4 rfl) ?_
  refine lv_aload_n (pc := 2) hx hb dL_over_2 rfl (lv_at hl 0 rfl) ?_
  refine lv_iload_n (pc := 3) hx hb dL_over_3 rfl (lv_at hl 1 rfl) ?_
  refine lv_iload_n (pc := 4) hx hb dL_over_4 rfl (lv_at hl 2 rfl) ?_
  refine lv_iload_n (pc := 5) hx hb dL_over_5 rfl (lv_at hl 3 rfl) ?_
  refine kh_i (pc := 6) (kx_V E hC hS hA hl.1 (c1.recv hC hW.obj rfl) rfl (c_X3_over l hlst D tk N0 sa hAD s.heap.size g x1 x2 x3) kw_897 kw_898 kw_899 kw_1 kw_900 (n := 3) (by decide +kernel) rfl ⟨⟨rfl, rfl⟩, ⟨Nat.le_of_ble_eq_true rfl, Nat.le_of_ble_eq_true rfl⟩, (by dsimp only [lwR]; omega), (by dsimp only [lwR]; omega)⟩ rfl (Nat.le_of_ble_eq_true rfl) hW dL_over_6) hS (fun q z w => Or.inl w) hn (fun E1 ce q9 H locs hb9 hz hk hS h1 h2 h3 => ?_) (fun r H locs hR hz hk hS => ?_)
  · have hW := hW.new hk
    have fu := fu.new hk
    obtain ⟨rfl, hx9⟩ := hb9
    refine r_c1 (pc := 6) E hC htb (by decide) (by decide) kw_803 wc_0 h1 h2 h3 ?_
    refine lv_astore (pc := 16) (lv' := [(5, .ref q9), (0, .ref (ad 15)), (1, .int x1), (2, .int x2), (3, .int x3), (4, .ref uo)]) hx hb dL_over_16 hl (by decide) rfl (fun ls hl => ?_)
    refine lv_iconst (pc := 18) (v := 1) hx hb dL_over_18 (by decide) ?_
    refine r_iret (pc := 19) E hr hlk hS (by omega) (by omega) ?_ dL_over_19
    exact ⟨g, _, _, hW, fu, by rw [hx9]; rfl, fun z => absurd (hx9.symm.trans z) (by decide), fun _ => rfl⟩
  · obtain ⟨hx0, er, hW⟩ := hR
    have fu := fu.kept (hk _ fu.lt (cwN hne fu.lt))
    refine lv_i2l (pc := 9) (v := r.toInt64) hx hb dL_over_9 rfl ?_
    refine r_putO (pc := 10) "BestratiosLaw" E hC fu hS (Or.inr rfl) 0 tyX4 tyX4_ok nmX4 rfl (by decide) (Nat.le_of_ble_eq_true rfl) uX4 kn_793 (fun _ h => h) rfl rfl rfl dL_over_10 (fun H locs n_ ho hz hS => ?_)
    have hW := hW.kept (fun k hk9 => ho _ (hne k hk9))
    refine lv_goto (pc := 13) (tgt := 20) hx hb dL_over_13 (by decide) ?_
    refine lv_iconst (pc := 20) (v := 0) hx hb dL_over_20 (by decide) ?_
    refine r_iret (pc := 21) E hr hlk hS (by omega) (by omega) ?_ dL_over_21
    exact ⟨_, _, _, hW, n_, by rw [hx0]; rfl, fun _ => ⟨rfl, by rw [er]⟩, fun z => absurd hx0 z⟩
set_option maxHeartbeats 4000000 in
set_option maxRecDepth 100000 in
/-- BestratiosLaw.negate(LBestratios;ILBestratiosLaw$Out;)I -/
theorem c_L_negate (l : Launch) (hlst : l.stackTraces = false) (D : va_G) (tk : Nat → ClassId) (N0 : Nat) (sa : Nat → Nat) {ad : Nat → Nat} (hAD : ADok N0 ad) {uo : Nat} (huo : N0 ≤ uo) (sz : Nat) (g : CS) (kn : Int32) (hI : CI g kn) (x1 : Int32) : Met l yL_negate (wsw yL_negate cL_negate 4 (some .int) [(0, 10, 13, 19)]) lwR (cPW D tk N0 sa [.ref (ad 15), .int x1, .ref uo] sz (fun H => CW D tk ad g H ∧ OUo D uo H)) (kQi (fun rk H => ∃ (g1 : CS) (ox : Int64) (ov : Value), CW D tk ad g1 H ∧ c1 D uo (.inr (12, [.long ox, ov])) H ∧ WR (bR x1) (f_setW (f_become g 6 (-tT g (nn x1)) (tB g (nn x1))) (nn x1)) ((f_setR (f_become g 6 (-tT g (nn x1)) (tB g (nn x1))) (nn x1)).toInt64) g rk g1 ox) (lwA ad uo sz)) 3000 8000 (lwA ad uo sz) := by
  refine mStartW RL rfl (by decide +kernel) (Nat.le_of_ble_eq_true rfl) ?_
  intro p e s m args below meth c E hr hlk htb hsz hC hN hF ls hl
  subst hsz
  obtain ⟨hx, hb, -⟩ := id E
  have hA := lwA.ge hAD huo hC.2.1
  have hn : ∀ q, s.heap.size ≤ q → (lwA ad uo s.heap.size) q := fun q h => Or.inl (Or.inr h)
  have hS : va_S (lwA ad uo s.heap.size) s.heap s.heap [] := va_S.rf
  have hl : lv_has ls 4 [(0, .ref (ad 15)), (1, .int x1), (2, .ref uo)] := hl
  obtain ⟨hW, x9, v9, fu⟩ := hF
  have hne := cwC hC hW (Or.inl fu.cl)
  refine lv_aload_n (pc := 0) hx hb dL_negate_0 rfl (lv_at hl 2 rfl) ?_
  refine lv_aload_n (pc := 1) hx hb dL_negate_1 rfl (lv_at hl 0 rfl) ?_
  refine lv_iload_n (pc := 2) hx hb dL_negate_2 rfl (lv_at hl 1 rfl) ?_
  refine kh_i (pc := 3) (kx_V E hC hS hA hl.1 (c1.recv hC hW.obj rfl) rfl (c_X3_negate l hlst D tk N0 sa hAD s.heap.size g x1) kw_908 kw_909 kw_910 kw_1 kw_911 (n := 1) (by decide +kernel) rfl ⟨⟨rfl, rfl⟩, ⟨Nat.le_of_ble_eq_true rfl, Nat.le_of_ble_eq_true rfl⟩, (by dsimp only [lwR]; omega), (by dsimp only [lwR]; omega)⟩ rfl (Nat.le_of_ble_eq_true rfl) hW dL_negate_3) hS (fun q z w => Or.inl w) hn (fun E1 ce q9 H locs hb9 hz hk hS h1 h2 h3 => ?_) (fun r H locs hR hz hk hS => ?_)
  · have hW := hW.new hk
    have fu := fu.new hk
    obtain ⟨rfl, hx9⟩ := hb9
    refine r_c1 (pc := 3) E hC htb (by decide) (by decide) kw_803 wc_0 h1 h2 h3 ?_
    refine lv_astore_n (pc := 13) (lv' := [(3, .ref q9), (0, .ref (ad 15)), (1, .int x1), (2, .ref uo)]) hx hb dL_negate_13 rfl hl (by decide) rfl (fun ls hl => ?_)
    refine lv_iconst (pc := 14) (v := 1) hx hb dL_negate_14 (by decide) ?_
    refine r_iret (pc := 15) E hr hlk hS (by omega) (by omega) ?_ dL_negate_15
    exact ⟨g, _, _, hW, fu, by rw [hx9]; rfl, fun z => absurd (hx9.symm.trans z) (by decide), fun _ => rfl⟩
  · obtain ⟨hx0, er, hW⟩ := hR
    have fu := fu.kept (hk _ fu.lt (cwN hne fu.lt))
    refine lv_i2l (pc := 6) (v := r.toInt64) hx hb dL_negate_6 rfl ?_
    refine r_putO (pc := 7) "BestratiosLaw" E hC fu hS (Or.inr rfl) 0 tyX4 tyX4_ok nmX4 rfl (by decide) (Nat.le_of_ble_eq_true rfl) uX4 kn_793 (fun _ h => h) rfl rfl rfl dL_negate_7 (fun H locs n_ ho hz hS => ?_)
    have hW := hW.kept (fun k hk9 => ho _ (hne k hk9))
    refine lv_goto (pc := 10) (tgt := 16) hx hb dL_negate_10 (by decide) ?_
    refine lv_iconst (pc := 16) (v := 0) hx hb dL_negate_16 (by decide) ?_
    refine r_iret (pc := 17) E hr hlk hS (by omega) (by omega) ?_ dL_negate_17
    exact ⟨_, _, _, hW, n_, by rw [hx0]; rfl, fun _ => ⟨rfl, by rw [er]⟩, fun z => absurd hx0 z⟩
