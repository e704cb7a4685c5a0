set_option maxHeartbeats 4000000 in
set_option maxRecDepth 100000 in
/-- Bestratios$Tally.<init>()V -/
theorem c_X1_init (l : Launch) (D : va_G) (tk : Nat → ClassId) (N0 : Nat) (sa : Nat → Nat)  (sz : Nat) (a : Nat) (ha9 : N0 ≤ a) : Met l yX1_init (wsy yX1_init cX1_init 1 none) ({ frames := 2, cells := 6, slots := 12, locals := 40 } : Room) (cP D tk N0 sa [.ref a] sz (fun H => c1 D a (.inr (9, [.null, .null, .null, .null, .null, .null, .int 0, .int 0])) H)) (kQv (fun H => ∃ q0 q1 q2 q3 q4 q5, sz ≤ q0 ∧ q0 < q1 ∧ q1 < q2 ∧ q2 < q3 ∧ q3 < q4 ∧ q4 < q5 ∧ c1 D a (.inr (9, [.ref q0, .ref q1, .ref q2, .ref q3, .ref q4, .ref q5, .int 0, .int 0])) H ∧ c1 D q0 (.inr (8, [.long 0, .long 1])) H ∧ c1 D q1 (.inr (8, [.long 0, .long 1])) H ∧ c1 D q2 (.inr (8, [.long 0, .long 1])) H ∧ c1 D q3 (.inr (8, [.long 0, .long 1])) H ∧ c1 D q4 (.inr (8, [.long 0, .long 1])) H ∧ c1 D q5 (.inr (8, [.long 0, .long 1])) H) (inA1 a sz)) (6) (12) (inA1 a sz) := by
  refine mStart RX1 rfl (by decide +kernel) (Nat.le_of_ble_eq_true rfl) ?_
  intro p e s m args below meth c E hr hlk hnm hsz hC hF ls hl
  subst hsz
  obtain ⟨hx, hb, -⟩ := id E
  have hA : ∀ q, (inA1 a s.heap.size) q → N0 ≤ q := fun q h => h.elim (fun z => z ▸ ha9) (fun z => Nat.le_trans hC.2.1 z)
  have hn : ∀ q, s.heap.size ≤ q → (inA1 a s.heap.size) q := fun q h => Or.inr h
  have hS : va_S (inA1 a s.heap.size) s.heap s.heap [] := va_S.rf
  have hl : lv_has ls 1 [(0, .ref a)] := hl
  have f0 : c1 D a (.inr (9, [.null, .null, .null, .null, .null, .null, .int 0, .int 0])) s.heap := hF
  have g_f0 : (inA1 a s.heap.size) a := Or.inl rfl
  refine lv_aload_n (pc := 0) hx hb dX1_init_0 rfl (lv_at hl 0 rfl) ?_
  refine r_oinit (pc := 1) E hl.1 kw_81 (Nat.le_of_ble_eq_true rfl) (by decide) (by decide) dX1_init_1 ?_
  refine lv_aload_n (pc := 4) hx hb dX1_init_4 rfl (lv_at hl 0 rfl) ?_
  have hS0_ := hS
  refine r_new (pc := 5) E hC hS tyX0_ok uX0 (List.mem_cons_of_mem _ kw_82) (List.mem_cons_of_mem _ kw_45) (List.mem_cons_of_mem _ kw_2) (ci := 8) rfl (fs := [.long 0, .long 0]) (by decide) (by decide) (by decide) dX1_init_5 (fun qf1 H zq_ n_ ho_ hS => ?_)
  have l_f0_f1 : a < qf1 := zq_ ▸ f0.lt
  have f0 := f0.kept (ho_ _ f0.lt)
  have f1 := n_
  have s_f1 : s.heap.size ≤ qf1 := zq_ ▸ hS0_.1
  have g_f1 := hn _ s_f1
  refine lv_dup (pc := 8) hx hb dX1_init_8 rfl ?_
  have hZ0_ := hS.1
  refine k_v (pc := 9) (k_I E hC hS hA hl.1 (c_X0_init l D tk N0 sa H.size qf1 (hA _ g_f1)) kw_83 kw_47 kw_2 kw_48 rfl (n := 0) (by decide +kernel) rfl ⟨⟨rfl, rfl⟩, ⟨by decide, by decide⟩, by decide, by decide⟩ rfl (Nat.le_of_ble_eq_true rfl) f1 dX1_init_9) hS (inA1.to g_f1) hn (fun H locs hR hz hk hS => ?_)
  have f0 := f0.kept (hk _ f0.lt (inA1.not (Nat.ne_of_lt l_f0_f1) f0.lt))
  have f1 := hR
  refine r_putF (pc := 12) E hC (hnm.trans rfl) f0 hS g_f0 0 tyX1 tyX1_ok nmX1 rfl (by decide) (Nat.le_of_ble_eq_true rfl) uX1 (List.mem_cons_of_mem _ kw_84) (fun _ h => h) rfl rfl rfl rfl dX1_init_12 (fun H locs n_ ho hz hS => ?_)
  have f0 : c1 D a (.inr (9, [.ref qf1, .null, .null, .null, .null, .null, .int 0, .int 0])) H := n_
  have f1 := f1.kept (ho _ (Nat.ne_of_gt l_f0_f1))
  refine lv_aload_n (pc := 15) hx hb dX1_init_15 rfl (lv_at hl 0 rfl) ?_
  have hS0_ := hS
  refine r_new (pc := 16) E hC hS tyX0_ok uX0 (List.mem_cons_of_mem _ kw_82) (List.mem_cons_of_mem _ kw_45) (List.mem_cons_of_mem _ kw_2) (ci := 8) rfl (fs := [.long 0, .long 0]) (by decide) (by decide) (by decide) dX1_init_16 (fun qf3 H zq_ n_ ho_ hS => ?_)
  have l_f0_f3 : a < qf3 := zq_ ▸ f0.lt
  have f0 := f0.kept (ho_ _ f0.lt)
  have l_f1_f3 : qf1 < qf3 := zq_ ▸ f1.lt
  have f1 := f1.kept (ho_ _ f1.lt)
  have f3 := n_
  have s_f3 : s.heap.size ≤ qf3 := zq_ ▸ hS0_.1
  have g_f3 := hn _ s_f3
  refine lv_dup (pc := 19) hx hb dX1_init_19 rfl ?_
  have hZ0_ := hS.1
  refine k_v (pc := 20) (k_I E hC hS hA hl.1 (c_X0_init l D tk N0 sa H.size qf3 (hA _ g_f3)) kw_83 kw_47 kw_2 kw_48 rfl (n := 0) (by decide +kernel) rfl ⟨⟨rfl, rfl⟩, ⟨by decide, by decide⟩, by decide, by decide⟩ rfl (Nat.le_of_ble_eq_true rfl) f3 dX1_init_20) hS (inA1.to g_f3) hn (fun H locs hR hz hk hS => ?_)
  have f0 := f0.kept (hk _ f0.lt (inA1.not (Nat.ne_of_lt l_f0_f3) f0.lt))
  have f1 := f1.kept (hk _ f1.lt (inA1.not (Nat.ne_of_lt l_f1_f3) f1.lt))
  have f3 := hR
  refine r_putF (pc := 23) E hC (hnm.trans rfl) f0 hS g_f0 1 tyX1 tyX1_ok nmX1 rfl (by decide) (Nat.le_of_ble_eq_true rfl) uX1 (List.mem_cons_of_mem _ kw_86) (fun _ h => h) rfl rfl rfl rfl dX1_init_23 (fun H locs n_ ho hz hS => ?_)
  have f0 : c1 D a (.inr (9, [.ref qf1, .ref qf3, .null, .null, .null, .null, .int 0, .int 0])) H := n_
  have f1 := f1.kept (ho _ (Nat.ne_of_gt l_f0_f1))
  have f3 := f3.kept (ho _ (Nat.ne_of_gt l_f0_f3))
  refine lv_aload_n (pc := 26) hx hb dX1_init_26 rfl (lv_at hl 0 rfl) ?_
  have hS0_ := hS
  refine r_new (pc := 27) E hC hS tyX0_ok uX0 (List.mem_cons_of_mem _ kw_82) (List.mem_cons_of_mem _ kw_45) (List.mem_cons_of_mem _ kw_2) (ci := 8) rfl (fs := [.long 0, .long 0]) (by decide) (by decide) (by decide) dX1_init_27 (fun qf5 H zq_ n_ ho_ hS => ?_)
  have l_f0_f5 : a < qf5 := zq_ ▸ f0.lt
  have f0 := f0.kept (ho_ _ f0.lt)
  have l_f1_f5 : qf1 < qf5 := zq_ ▸ f1.lt
  have f1 := f1.kept (ho_ _ f1.lt)
  have l_f3_f5 : qf3 < qf5 := zq_ ▸ f3.lt
  have f3 := f3.kept (ho_ _ f3.lt)
  have f5 := n_
  have s_f5 : s.heap.size ≤ qf5 := zq_ ▸ hS0_.1
  have g_f5 := hn _ s_f5
  refine lv_dup (pc := 30) hx hb dX1_init_30 rfl ?_
  have hZ0_ := hS.1
  refine k_v (pc := 31) (k_I E hC hS hA hl.1 (c_X0_init l D tk N0 sa H.size qf5 (hA _ g_f5)) kw_83 kw_47 kw_2 kw_48 rfl (n := 0) (by decide +kernel) rfl ⟨⟨rfl, rfl⟩, ⟨by decide, by decide⟩, by decide, by decide⟩ rfl (Nat.le_of_ble_eq_true rfl) f5 dX1_init_31) hS (inA1.to g_f5) hn (fun H locs hR hz hk hS => ?_)
  have f0 := f0.kept (hk _ f0.lt (inA1.not (Nat.ne_of_lt l_f0_f5) f0.lt))
  have f1 := f1.kept (hk _ f1.lt (inA1.not (Nat.ne_of_lt l_f1_f5) f1.lt))
  have f3 := f3.kept (hk _ f3.lt (inA1.not (Nat.ne_of_lt l_f3_f5) f3.lt))
  have f5 := hR
  refine r_putF (pc := 34) E hC (hnm.trans rfl) f0 hS g_f0 2 tyX1 tyX1_ok nmX1 rfl (by decide) (Nat.le_of_ble_eq_true rfl) uX1 (List.mem_cons_of_mem _ kw_88) (fun _ h => h) rfl rfl rfl rfl dX1_init_34 (fun H locs n_ ho hz hS => ?_)
  have f0 : c1 D a (.inr (9, [.ref qf1, .ref qf3, .ref qf5, .null, .null, .null, .int 0, .int 0])) H := n_
  have f1 := f1.kept (ho _ (Nat.ne_of_gt l_f0_f1))
  have f3 := f3.kept (ho _ (Nat.ne_of_gt l_f0_f3))
  have f5 := f5.kept (ho _ (Nat.ne_of_gt l_f0_f5))
  refine lv_aload_n (pc := 37) hx hb dX1_init_37 rfl (lv_at hl 0 rfl) ?_
  have hS0_ := hS
  refine r_new (pc := 38) E hC hS tyX0_ok uX0 (List.mem_cons_of_mem _ kw_82) (List.mem_cons_of_mem _ kw_45) (List.mem_cons_of_mem _ kw_2) (ci := 8) rfl (fs := [.long 0, .long 0]) (by decide) (by decide) (by decide) dX1_init_38 (fun qf7 H zq_ n_ ho_ hS => ?_)
  have l_f0_f7 : a < qf7 := zq_ ▸ f0.lt
  have f0 := f0.kept (ho_ _ f0.lt)
  have l_f1_f7 : qf1 < qf7 := zq_ ▸ f1.lt
  have f1 := f1.kept (ho_ _ f1.lt)
  have l_f3_f7 : qf3 < qf7 := zq_ ▸ f3.lt
  have f3 := f3.kept (ho_ _ f3.lt)
  have l_f5_f7 : qf5 < qf7 := zq_ ▸ f5.lt
  have f5 := f5.kept (ho_ _ f5.lt)
  have f7 := n_
  have s_f7 : s.heap.size ≤ qf7 := zq_ ▸ hS0_.1
  have g_f7 := hn _ s_f7
  refine lv_dup (pc := 41) hx hb dX1_init_41 rfl ?_
  have hZ0_ := hS.1
  refine k_v (pc := 42) (k_I E hC hS hA hl.1 (c_X0_init l D tk N0 sa H.size qf7 (hA _ g_f7)) kw_83 kw_47 kw_2 kw_48 rfl (n := 0) (by decide +kernel) rfl ⟨⟨rfl, rfl⟩, ⟨by decide, by decide⟩, by decide, by decide⟩ rfl (Nat.le_of_ble_eq_true rfl) f7 dX1_init_42) hS (inA1.to g_f7) hn (fun H locs hR hz hk hS => ?_)
  have f0 := f0.kept (hk _ f0.lt (inA1.not (Nat.ne_of_lt l_f0_f7) f0.lt))
  have f1 := f1.kept (hk _ f1.lt (inA1.not (Nat.ne_of_lt l_f1_f7) f1.lt))
  have f3 := f3.kept (hk _ f3.lt (inA1.not (Nat.ne_of_lt l_f3_f7) f3.lt))
  have f5 := f5.kept (hk _ f5.lt (inA1.not (Nat.ne_of_lt l_f5_f7) f5.lt))
  have f7 := hR
  refine r_putF (pc := 45) E hC (hnm.trans rfl) f0 hS g_f0 3 tyX1 tyX1_ok nmX1 rfl (by decide) (Nat.le_of_ble_eq_true rfl) uX1 (List.mem_cons_of_mem _ kw_90) (fun _ h => h) rfl rfl rfl rfl dX1_init_45 (fun H locs n_ ho hz hS => ?_)
  have f0 : c1 D a (.inr (9, [.ref qf1, .ref qf3, .ref qf5, .ref qf7, .null, .null, .int 0, .int 0])) H := n_
  have f1 := f1.kept (ho _ (Nat.ne_of_gt l_f0_f1))
  have f3 := f3.kept (ho _ (Nat.ne_of_gt l_f0_f3))
  have f5 := f5.kept (ho _ (Nat.ne_of_gt l_f0_f5))
  have f7 := f7.kept (ho _ (Nat.ne_of_gt l_f0_f7))
  refine lv_aload_n (pc := 48) hx hb dX1_init_48 rfl (lv_at hl 0 rfl) ?_
  have hS0_ := hS
  refine r_new (pc := 49) E hC hS tyX0_ok uX0 (List.mem_cons_of_mem _ kw_82) (List.mem_cons_of_mem _ kw_45) (List.mem_cons_of_mem _ kw_2) (ci := 8) rfl (fs := [.long 0, .long 0]) (by decide) (by decide) (by decide) dX1_init_49 (fun qf9 H zq_ n_ ho_ hS => ?_)
  have l_f0_f9 : a < qf9 := zq_ ▸ f0.lt
  have f0 := f0.kept (ho_ _ f0.lt)
  have l_f1_f9 : qf1 < qf9 := zq_ ▸ f1.lt
  have f1 := f1.kept (ho_ _ f1.lt)
  have l_f3_f9 : qf3 < qf9 := zq_ ▸ f3.lt
  have f3 := f3.kept (ho_ _ f3.lt)
  have l_f5_f9 : qf5 < qf9 := zq_ ▸ f5.lt
  have f5 := f5.kept (ho_ _ f5.lt)
  have l_f7_f9 : qf7 < qf9 := zq_ ▸ f7.lt
  have f7 := f7.kept (ho_ _ f7.lt)
  have f9 := n_
  have s_f9 : s.heap.size ≤ qf9 := zq_ ▸ hS0_.1
  have g_f9 := hn _ s_f9
  refine lv_dup (pc := 52) hx hb dX1_init_52 rfl ?_
  have hZ0_ := hS.1
  refine k_v (pc := 53) (k_I E hC hS hA hl.1 (c_X0_init l D tk N0 sa H.size qf9 (hA _ g_f9)) kw_83 kw_47 kw_2 kw_48 rfl (n := 0) (by decide +kernel) rfl ⟨⟨rfl, rfl⟩, ⟨by decide, by decide⟩, by decide, by decide⟩ rfl (Nat.le_of_ble_eq_true rfl) f9 dX1_init_53) hS (inA1.to g_f9) hn (fun H locs hR hz hk hS => ?_)
  have f0 := f0.kept (hk _ f0.lt (inA1.not (Nat.ne_of_lt l_f0_f9) f0.lt))
  have f1 := f1.kept (hk _ f1.lt (inA1.not (Nat.ne_of_lt l_f1_f9) f1.lt))
  have f3 := f3.kept (hk _ f3.lt (inA1.not (Nat.ne_of_lt l_f3_f9) f3.lt))
  have f5 := f5.kept (hk _ f5.lt (inA1.not (Nat.ne_of_lt l_f5_f9) f5.lt))
  have f7 := f7.kept (hk _ f7.lt (inA1.not (Nat.ne_of_lt l_f7_f9) f7.lt))
  have f9 := hR
  refine r_putF (pc := 56) E hC (hnm.trans rfl) f0 hS g_f0 4 tyX1 tyX1_ok nmX1 rfl (by decide) (Nat.le_of_ble_eq_true rfl) uX1 (List.mem_cons_of_mem _ kw_91) (fun _ h => h) rfl rfl rfl rfl dX1_init_56 (fun H locs n_ ho hz hS => ?_)
  have f0 : c1 D a (.inr (9, [.ref qf1, .ref qf3, .ref qf5, .ref qf7, .ref qf9, .null, .int 0, .int 0])) H := n_
  have f1 := f1.kept (ho _ (Nat.ne_of_gt l_f0_f1))
  have f3 := f3.kept (ho _ (Nat.ne_of_gt l_f0_f3))
  have f5 := f5.kept (ho _ (Nat.ne_of_gt l_f0_f5))
  have f7 := f7.kept (ho _ (Nat.ne_of_gt l_f0_f7))
  have f9 := f9.kept (ho _ (Nat.ne_of_gt l_f0_f9))
  refine lv_aload_n (pc := 59) hx hb dX1_init_59 rfl (lv_at hl 0 rfl) ?_
  have hS0_ := hS
  refine r_new (pc := 60) E hC hS tyX0_ok uX0 (List.mem_cons_of_mem _ kw_82) (List.mem_cons_of_mem _ kw_45) (List.mem_cons_of_mem _ kw_2) (ci := 8) rfl (fs := [.long 0, .long 0]) (by decide) (by decide) (by decide) dX1_init_60 (fun qf11 H zq_ n_ ho_ hS => ?_)
  have l_f0_f11 : a < qf11 := zq_ ▸ f0.lt
  have f0 := f0.kept (ho_ _ f0.lt)
  have l_f1_f11 : qf1 < qf11 := zq_ ▸ f1.lt
  have f1 := f1.kept (ho_ _ f1.lt)
  have l_f3_f11 : qf3 < qf11 := zq_ ▸ f3.lt
  have f3 := f3.kept (ho_ _ f3.lt)
  have l_f5_f11 : qf5 < qf11 := zq_ ▸ f5.lt
  have f5 := f5.kept (ho_ _ f5.lt)
  have l_f7_f11 : qf7 < qf11 := zq_ ▸ f7.lt
  have f7 := f7.kept (ho_ _ f7.lt)
  have l_f9_f11 : qf9 < qf11 := zq_ ▸ f9.lt
  have f9 := f9.kept (ho_ _ f9.lt)
  have f11 := n_
  have s_f11 : s.heap.size ≤ qf11 := zq_ ▸ hS0_.1
  have g_f11 := hn _ s_f11
  refine lv_dup (pc := 63) hx hb dX1_init_63 rfl ?_
  have hZ0_ := hS.1
  refine k_v (pc := 64) (k_I E hC hS hA hl.1 (c_X0_init l D tk N0 sa H.size qf11 (hA _ g_f11)) kw_83 kw_47 kw_2 kw_48 rfl (n := 0) (by decide +kernel) rfl ⟨⟨rfl, rfl⟩, ⟨by decide, by decide⟩, by decide, by decide⟩ rfl (Nat.le_of_ble_eq_true rfl) f11 dX1_init_64) hS (inA1.to g_f11) hn (fun H locs hR hz hk hS => ?_)
  have f0 := f0.kept (hk _ f0.lt (inA1.not (Nat.ne_of_lt l_f0_f11) f0.lt))
  have f1 := f1.kept (hk _ f1.lt (inA1.not (Nat.ne_of_lt l_f1_f11) f1.lt))
  have f3 := f3.kept (hk _ f3.lt (inA1.not (Nat.ne_of_lt l_f3_f11) f3.lt))
  have f5 := f5.kept (hk _ f5.lt (inA1.not (Nat.ne_of_lt l_f5_f11) f5.lt))
  have f7 := f7.kept (hk _ f7.lt (inA1.not (Nat.ne_of_lt l_f7_f11) f7.lt))
  have f9 := f9.kept (hk _ f9.lt (inA1.not (Nat.ne_of_lt l_f9_f11) f9.lt))
  have f11 := hR
  refine r_putF (pc := 67) E hC (hnm.trans rfl) f0 hS g_f0 5 tyX1 tyX1_ok nmX1 rfl (by decide) (Nat.le_of_ble_eq_true rfl) uX1 (List.mem_cons_of_mem _ kw_92) (fun _ h => h) rfl rfl rfl rfl dX1_init_67 (fun H locs n_ ho hz hS => ?_)
  have f0 : c1 D a (.inr (9, [.ref qf1, .ref qf3, .ref qf5, .ref qf7, .ref qf9, .ref qf11, .int 0, .int 0])) H := n_
  have f1 := f1.kept (ho _ (Nat.ne_of_gt l_f0_f1))
  have f3 := f3.kept (ho _ (Nat.ne_of_gt l_f0_f3))
  have f5 := f5.kept (ho _ (Nat.ne_of_gt l_f0_f5))
  have f7 := f7.kept (ho _ (Nat.ne_of_gt l_f0_f7))
  have f9 := f9.kept (ho _ (Nat.ne_of_gt l_f0_f9))
  have f11 := f11.kept (ho _ (Nat.ne_of_gt l_f0_f11))
  refine lv_aload_n (pc := 70) hx hb dX1_init_70 rfl (lv_at hl 0 rfl) ?_
  refine lv_iconst (pc := 71) (v := 0) hx hb dX1_init_71 (by decide) ?_
  refine r_put (pc := 72) E hC f0 hS g_f0 6 tyX1 tyX1_ok nmX1 rfl (by decide) (Nat.le_of_ble_eq_true rfl) uX1 (List.mem_cons_of_mem _ kw_93) (fun _ h => h) rfl rfl rfl dX1_init_72 (fun H locs n_ ho hz hS => ?_)
  have f0 : c1 D a (.inr (9, [.ref qf1, .ref qf3, .ref qf5, .ref qf7, .ref qf9, .ref qf11, .int 0, .int 0])) H := n_
  have f1 := f1.kept (ho _ (Nat.ne_of_gt l_f0_f1))
  have f3 := f3.kept (ho _ (Nat.ne_of_gt l_f0_f3))
  have f5 := f5.kept (ho _ (Nat.ne_of_gt l_f0_f5))
  have f7 := f7.kept (ho _ (Nat.ne_of_gt l_f0_f7))
  have f9 := f9.kept (ho _ (Nat.ne_of_gt l_f0_f9))
  have f11 := f11.kept (ho _ (Nat.ne_of_gt l_f0_f11))
  refine lv_aload_n (pc := 75) hx hb dX1_init_75 rfl (lv_at hl 0 rfl) ?_
  refine lv_iconst (pc := 76) (v := 0) hx hb dX1_init_76 (by decide) ?_
  refine r_put (pc := 77) E hC f0 hS g_f0 7 tyX1 tyX1_ok nmX1 rfl (by decide) (Nat.le_of_ble_eq_true rfl) uX1 (List.mem_cons_of_mem _ kw_95) (fun _ h => h) rfl rfl rfl dX1_init_77 (fun H locs n_ ho hz hS => ?_)
  have f0 : c1 D a (.inr (9, [.ref qf1, .ref qf3, .ref qf5, .ref qf7, .ref qf9, .ref qf11, .int 0, .int 0])) H := n_
  have f1 := f1.kept (ho _ (Nat.ne_of_gt l_f0_f1))
  have f3 := f3.kept (ho _ (Nat.ne_of_gt l_f0_f3))
  have f5 := f5.kept (ho _ (Nat.ne_of_gt l_f0_f5))
  have f7 := f7.kept (ho _ (Nat.ne_of_gt l_f0_f7))
  have f9 := f9.kept (ho _ (Nat.ne_of_gt l_f0_f9))
  have f11 := f11.kept (ho _ (Nat.ne_of_gt l_f0_f11))
  refine r_vret (pc := 80) E hr hlk hS (by decide) (by decide) ?_ dX1_init_80
  exact ⟨_, _, _, _, _, _, s_f1, l_f1_f3, l_f3_f5, l_f5_f7, l_f7_f9, l_f9_f11, f0, f1, f3, f5, f7, f9, f11⟩
