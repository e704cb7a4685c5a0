set_option maxHeartbeats 4000000 in
set_option maxRecDepth 100000 in
/-- Bestratios.<init>()V -/
theorem c_X3_init (l : Launch) (D : va_G) (tk : Nat → ClassId) (N0 : Nat) (sa : Nat → Nat)  (sz : Nat) (a : Nat) (ha9 : N0 ≤ a) : Met l yX3_init (wsy yX3_init cX3_init 2 none) ({ frames := 3, cells := 21, slots := 176, locals := 60 } : Room) (cP D tk N0 sa [.ref a] sz (fun H => c1 D a (.inr (11, [.null, .null, .null, .int 0, .int 0, .null, .null, .null, .null])) H)) (kQv (fun H => ∃ ad, ADok N0 ad ∧ ad 15 = a ∧ (∀ i, i < 22 → i ≠ 15 → sz ≤ ad i) ∧ CW D tk ad cs0 H) (inA1 a sz)) (21) (176) (inA1 a sz) := by
  refine mStart RX3 rfl (by decide +kernel) (Nat.le_of_ble_eq_true rfl) ?_
  intro p e s m args below meth c E hr hlk hnm hsz hC hF ls hl
  subst hsz
  obtain ⟨hx, hb, -⟩ := id E
  have hA : ∀ q, (inA1 a s.heap.size) q → N0 ≤ q := fun q h => h.elim (fun z => z ▸ ha9) (fun z => Nat.le_trans hC.2.1 z)
  have hn : ∀ q, s.heap.size ≤ q → (inA1 a s.heap.size) q := fun q h => Or.inr h
  have hS : va_S (inA1 a s.heap.size) s.heap s.heap [] := va_S.rf
  have hl : lv_has ls 2 [(0, .ref a)] := hl
  have f0 : c1 D a (.inr (11, [.null, .null, .null, .int 0, .int 0, .null, .null, .null, .null])) s.heap := hF
  have g_f0 : (inA1 a s.heap.size) a := Or.inl rfl
  have hao : va_AO "Bestratios$Fraction" s := va_AO.of (hC.2.2.2.2.2.1 _ w_ao)
  refine lv_aload_n (pc := 0) hx hb dX3_init_0 rfl (lv_at hl 0 rfl) ?_
  refine r_oinit (pc := 1) E hl.1 kw_40 (Nat.le_of_ble_eq_true rfl) (by decide) (by decide) dX3_init_1 ?_
  refine lv_aload_n (pc := 4) hx hb dX3_init_4 rfl (lv_at hl 0 rfl) ?_
  refine lv_bipush (pc := 5) (v := 6) hx hb dX3_init_5 (by decide) ?_
  have hS0_ := hS
  refine r_anewF (pc := 7) hao E hC hS kw_43 (N := 6) (by decide) (by decide) (by decide) (by decide) (by decide) dX3_init_7 (fun qf1 H zq_ n_ ho_ hS => ?_)
  have l_f0_f1 : a < qf1 := zq_ ▸ f0.lt
  have f0 := f0.kept (ho_ _ f0.lt)
  have f1 := n_
  have s_f1 : s.heap.size ≤ qf1 := zq_ ▸ hS0_.1
  have g_f1 := hn _ s_f1
  refine r_putF (pc := 10) E hC (hnm.trans rfl) f0 hS g_f0 0 tyX3 tyX3_ok nmX3 rfl (by decide) (Nat.le_of_ble_eq_true rfl) uX3 (List.mem_cons_of_mem _ kw_114) (fun _ h => h) rfl rfl rfl rfl dX3_init_10 (fun H locs n_ ho hz hS => ?_)
  have f0 : c1 D a (.inr (11, [.ref qf1, .null, .null, .int 0, .int 0, .null, .null, .null, .null])) H := n_
  have f1 := f1.kept (ho _ (Nat.ne_of_gt l_f0_f1))
  refine lv_iconst (pc := 13) (v := 0) hx hb dX3_init_13 (by decide) ?_
  refine lv_istore_n (pc := 14) (lv' := [(1, .int 0), (0, .ref a)]) hx hb dX3_init_14 rfl hl (by decide) rfl (fun ls hl => ?_)
  refine lv_iload_n (pc := 15) hx hb dX3_init_15 rfl (lv_at hl 0 rfl) ?_
  refine lv_aload_n (pc := 16) hx hb dX3_init_16 rfl (lv_at hl 1 rfl) ?_
  refine r_get (pc := 17) E hC f0 0 (v := .ref qf1) rfl rfl (by decide) uX3 (List.mem_cons_of_mem _ kw_114) (fun _ h => h) dX3_init_17 ?_
  refine r_alen (pc := 20) E hC f1 2 rfl (v := 6) rfl dX3_init_20 ?_
  refine lv_icmp_ge (pc := 21) (tgt := 43) hx hb dX3_init_21 (by decide) (fun c_2 => ?_) (fun c_2 => ?_)
  · exact absurd c_2 (by decide)
  refine lv_aload_n (pc := 24) hx hb dX3_init_24 rfl (lv_at hl 1 rfl) ?_
  refine r_get (pc := 25) E hC f0 0 (v := .ref qf1) rfl rfl (by decide) uX3 (List.mem_cons_of_mem _ kw_114) (fun _ h => h) dX3_init_25 ?_
  refine lv_iload_n (pc := 28) hx hb dX3_init_28 rfl (lv_at hl 0 rfl) ?_
  have hS0_ := hS
  refine r_new (pc := 29) E hC hS tyX0_ok uX0 (List.mem_cons_of_mem _ kw_43) (List.mem_cons_of_mem _ kw_45) (List.mem_cons_of_mem _ kw_2) (ci := 8) rfl (fs := [.long 0, .long 0]) (by decide) (by decide) (by decide) dX3_init_29 (fun qf3 H zq_ n_ ho_ hS => ?_)
  have l_f0_f3 : a < qf3 := zq_ ▸ f0.lt
  have f0 := f0.kept (ho_ _ f0.lt)
  have l_f1_f3 : qf1 < qf3 := zq_ ▸ f1.lt
  have f1 := f1.kept (ho_ _ f1.lt)
  have f3 := n_
  have s_f3 : s.heap.size ≤ qf3 := zq_ ▸ hS0_.1
  have g_f3 := hn _ s_f3
  refine lv_dup (pc := 32) hx hb dX3_init_32 rfl ?_
  have hZ0_ := hS.1
  refine k_v (pc := 33) (k_I E hC hS hA hl.1 (c_X0_init l D tk N0 sa H.size qf3 (hA _ g_f3)) kw_46 kw_47 kw_2 kw_48 rfl (n := 0) (by decide +kernel) rfl ⟨⟨rfl, rfl⟩, ⟨by decide, by decide⟩, by decide, by decide⟩ rfl (Nat.le_of_ble_eq_true rfl) f3 dX3_init_33) hS (inA1.to g_f3) hn (fun H locs hR hz hk hS => ?_)
  have f0 := f0.kept (hk _ f0.lt (inA1.not (Nat.ne_of_lt l_f0_f3) f0.lt))
  have f1 := f1.kept (hk _ f1.lt (inA1.not (Nat.ne_of_lt l_f1_f3) f1.lt))
  have f3 := hR
  refine r_aastF (pc := 36) E hC f1 f3 hS g_f1 0 (by decide) (by unfold vp_in; decide) dX3_init_36 (fun H locs n_ ho hz hS => ?_)
  have f1 := n_
  have f0 := f0.kept (ho _ (Nat.ne_of_lt l_f0_f1))
  have f3 := f3.kept (ho _ (Nat.ne_of_gt l_f1_f3))
  refine lv_iinc (pc := 37) (v := 1) (lv' := [(1, .int 1), (0, .ref a)]) hx hb dX3_init_37 hl (k := 0) rfl (by decide) (by decide) rfl (fun ls hl => ?_)
  refine lv_goto (pc := 40) (tgt := 15) hx hb dX3_init_40 (by decide) ?_
  refine lv_iload_n (pc := 15) hx hb dX3_init_15 rfl (lv_at hl 0 rfl) ?_
  refine lv_aload_n (pc := 16) hx hb dX3_init_16 rfl (lv_at hl 1 rfl) ?_
  refine r_get (pc := 17) E hC f0 0 (v := .ref qf1) rfl rfl (by decide) uX3 (List.mem_cons_of_mem _ kw_114) (fun _ h => h) dX3_init_17 ?_
  refine r_alen (pc := 20) E hC f1 2 rfl (v := 6) rfl dX3_init_20 ?_
  refine lv_icmp_ge (pc := 21) (tgt := 43) hx hb dX3_init_21 (by decide) (fun c_5 => ?_) (fun c_5 => ?_)
  · exact absurd c_5 (by decide)
  refine lv_aload_n (pc := 24) hx hb dX3_init_24 rfl (lv_at hl 1 rfl) ?_
  refine r_get (pc := 25) E hC f0 0 (v := .ref qf1) rfl rfl (by decide) uX3 (List.mem_cons_of_mem _ kw_114) (fun _ h => h) dX3_init_25 ?_
  refine lv_iload_n (pc := 28) hx hb dX3_init_28 rfl (lv_at hl 0 rfl) ?_
  have hS0_ := hS
  refine r_new (pc := 29) E hC hS tyX0_ok uX0 (List.mem_cons_of_mem _ kw_43) (List.mem_cons_of_mem _ kw_45) (List.mem_cons_of_mem _ kw_2) (ci := 8) rfl (fs := [.long 0, .long 0]) (by decide) (by decide) (by decide) dX3_init_29 (fun qf6 H zq_ n_ ho_ hS => ?_)
  have l_f0_f6 : a < qf6 := zq_ ▸ f0.lt
  have f0 := f0.kept (ho_ _ f0.lt)
  have l_f1_f6 : qf1 < qf6 := zq_ ▸ f1.lt
  have f1 := f1.kept (ho_ _ f1.lt)
  have l_f3_f6 : qf3 < qf6 := zq_ ▸ f3.lt
  have f3 := f3.kept (ho_ _ f3.lt)
  have f6 := n_
  have s_f6 : s.heap.size ≤ qf6 := zq_ ▸ hS0_.1
  have g_f6 := hn _ s_f6
  refine lv_dup (pc := 32) hx hb dX3_init_32 rfl ?_
  have hZ0_ := hS.1
  refine k_v (pc := 33) (k_I E hC hS hA hl.1 (c_X0_init l D tk N0 sa H.size qf6 (hA _ g_f6)) kw_46 kw_47 kw_2 kw_48 rfl (n := 0) (by decide +kernel) rfl ⟨⟨rfl, rfl⟩, ⟨by decide, by decide⟩, by decide, by decide⟩ rfl (Nat.le_of_ble_eq_true rfl) f6 dX3_init_33) hS (inA1.to g_f6) hn (fun H locs hR hz hk hS => ?_)
  have f0 := f0.kept (hk _ f0.lt (inA1.not (Nat.ne_of_lt l_f0_f6) f0.lt))
  have f1 := f1.kept (hk _ f1.lt (inA1.not (Nat.ne_of_lt l_f1_f6) f1.lt))
  have f3 := f3.kept (hk _ f3.lt (inA1.not (Nat.ne_of_lt l_f3_f6) f3.lt))
  have f6 := hR
  refine r_aastF (pc := 36) E hC f1 f6 hS g_f1 1 (by decide) (by unfold vp_in; decide) dX3_init_36 (fun H locs n_ ho hz hS => ?_)
  have f1 := n_
  have f0 := f0.kept (ho _ (Nat.ne_of_lt l_f0_f1))
  have f3 := f3.kept (ho _ (Nat.ne_of_gt l_f1_f3))
  have f6 := f6.kept (ho _ (Nat.ne_of_gt l_f1_f6))
  refine lv_iinc (pc := 37) (v := 2) (lv' := [(1, .int 2), (0, .ref a)]) hx hb dX3_init_37 hl (k := 0) rfl (by decide) (by decide) rfl (fun ls hl => ?_)
  refine lv_goto (pc := 40) (tgt := 15) hx hb dX3_init_40 (by decide) ?_
  refine lv_iload_n (pc := 15) hx hb dX3_init_15 rfl (lv_at hl 0 rfl) ?_
  refine lv_aload_n (pc := 16) hx hb dX3_init_16 rfl (lv_at hl 1 rfl) ?_
  refine r_get (pc := 17) E hC f0 0 (v := .ref qf1) rfl rfl (by decide) uX3 (List.mem_cons_of_mem _ kw_114) (fun _ h => h) dX3_init_17 ?_
  refine r_alen (pc := 20) E hC f1 2 rfl (v := 6) rfl dX3_init_20 ?_
  refine lv_icmp_ge (pc := 21) (tgt := 43) hx hb dX3_init_21 (by decide) (fun c_8 => ?_) (fun c_8 => ?_)
  · exact absurd c_8 (by decide)
  refine lv_aload_n (pc := 24) hx hb dX3_init_24 rfl (lv_at hl 1 rfl) ?_
  refine r_get (pc := 25) E hC f0 0 (v := .ref qf1) rfl rfl (by decide) uX3 (List.mem_cons_of_mem _ kw_114) (fun _ h => h) dX3_init_25 ?_
  refine lv_iload_n (pc := 28) hx hb dX3_init_28 rfl (lv_at hl 0 rfl) ?_
  have hS0_ := hS
  refine r_new (pc := 29) E hC hS tyX0_ok uX0 (List.mem_cons_of_mem _ kw_43) (List.mem_cons_of_mem _ kw_45) (List.mem_cons_of_mem _ kw_2) (ci := 8) rfl (fs := [.long 0, .long 0]) (by decide) (by decide) (by decide) dX3_init_29 (fun qf9 H zq_ n_ ho_ hS => ?_)
  have l_f0_f9 : a < qf9 := zq_ ▸ f0.lt
  have f0 := f0.kept (ho_ _ f0.lt)
  have l_f1_f9 : qf1 < qf9 := zq_ ▸ f1.lt
  have f1 := f1.kept (ho_ _ f1.lt)
  have l_f3_f9 : qf3 < qf9 := zq_ ▸ f3.lt
  have f3 := f3.kept (ho_ _ f3.lt)
  have l_f6_f9 : qf6 < qf9 := zq_ ▸ f6.lt
  have f6 := f6.kept (ho_ _ f6.lt)
  have f9 := n_
  have s_f9 : s.heap.size ≤ qf9 := zq_ ▸ hS0_.1
  have g_f9 := hn _ s_f9
  refine lv_dup (pc := 32) hx hb dX3_init_32 rfl ?_
  have hZ0_ := hS.1
  refine k_v (pc := 33) (k_I E hC hS hA hl.1 (c_X0_init l D tk N0 sa H.size qf9 (hA _ g_f9)) kw_46 kw_47 kw_2 kw_48 rfl (n := 0) (by decide +kernel) rfl ⟨⟨rfl, rfl⟩, ⟨by decide, by decide⟩, by decide, by decide⟩ rfl (Nat.le_of_ble_eq_true rfl) f9 dX3_init_33) hS (inA1.to g_f9) hn (fun H locs hR hz hk hS => ?_)
  have f0 := f0.kept (hk _ f0.lt (inA1.not (Nat.ne_of_lt l_f0_f9) f0.lt))
  have f1 := f1.kept (hk _ f1.lt (inA1.not (Nat.ne_of_lt l_f1_f9) f1.lt))
  have f3 := f3.kept (hk _ f3.lt (inA1.not (Nat.ne_of_lt l_f3_f9) f3.lt))
  have f6 := f6.kept (hk _ f6.lt (inA1.not (Nat.ne_of_lt l_f6_f9) f6.lt))
  have f9 := hR
  refine r_aastF (pc := 36) E hC f1 f9 hS g_f1 2 (by decide) (by unfold vp_in; decide) dX3_init_36 (fun H locs n_ ho hz hS => ?_)
  have f1 := n_
  have f0 := f0.kept (ho _ (Nat.ne_of_lt l_f0_f1))
  have f3 := f3.kept (ho _ (Nat.ne_of_gt l_f1_f3))
  have f6 := f6.kept (ho _ (Nat.ne_of_gt l_f1_f6))
  have f9 := f9.kept (ho _ (Nat.ne_of_gt l_f1_f9))
  refine lv_iinc (pc := 37) (v := 3) (lv' := [(1, .int 3), (0, .ref a)]) hx hb dX3_init_37 hl (k := 0) rfl (by decide) (by decide) rfl (fun ls hl => ?_)
  refine lv_goto (pc := 40) (tgt := 15) hx hb dX3_init_40 (by decide) ?_
  refine lv_iload_n (pc := 15) hx hb dX3_init_15 rfl (lv_at hl 0 rfl) ?_
  refine lv_aload_n (pc := 16) hx hb dX3_init_16 rfl (lv_at hl 1 rfl) ?_
  refine r_get (pc := 17) E hC f0 0 (v := .ref qf1) rfl rfl (by decide) uX3 (List.mem_cons_of_mem _ kw_114) (fun _ h => h) dX3_init_17 ?_
  refine r_alen (pc := 20) E hC f1 2 rfl (v := 6) rfl dX3_init_20 ?_
  refine lv_icmp_ge (pc := 21) (tgt := 43) hx hb dX3_init_21 (by decide) (fun c_11 => ?_) (fun c_11 => ?_)
  · exact absurd c_11 (by decide)
  refine lv_aload_n (pc := 24) hx hb dX3_init_24 rfl (lv_at hl 1 rfl) ?_
  refine r_get (pc := 25) E hC f0 0 (v := .ref qf1) rfl rfl (by decide) uX3 (List.mem_cons_of_mem _ kw_114) (fun _ h => h) dX3_init_25 ?_
  refine lv_iload_n (pc := 28) hx hb dX3_init_28 rfl (lv_at hl 0 rfl) ?_
  have hS0_ := hS
  refine r_new (pc := 29) E hC hS tyX0_ok uX0 (List.mem_cons_of_mem _ kw_43) (List.mem_cons_of_mem _ kw_45) (List.mem_cons_of_mem _ kw_2) (ci := 8) rfl (fs := [.long 0, .long 0]) (by decide) (by decide) (by decide) dX3_init_29 (fun qf12 H zq_ n_ ho_ hS => ?_)
  have l_f0_f12 : a < qf12 := zq_ ▸ f0.lt
  have f0 := f0.kept (ho_ _ f0.lt)
  have l_f1_f12 : qf1 < qf12 := zq_ ▸ f1.lt
  have f1 := f1.kept (ho_ _ f1.lt)
  have l_f3_f12 : qf3 < qf12 := zq_ ▸ f3.lt
  have f3 := f3.kept (ho_ _ f3.lt)
  have l_f6_f12 : qf6 < qf12 := zq_ ▸ f6.lt
  have f6 := f6.kept (ho_ _ f6.lt)
  have l_f9_f12 : qf9 < qf12 := zq_ ▸ f9.lt
  have f9 := f9.kept (ho_ _ f9.lt)
  have f12 := n_
  have s_f12 : s.heap.size ≤ qf12 := zq_ ▸ hS0_.1
  have g_f12 := hn _ s_f12
  refine lv_dup (pc := 32) hx hb dX3_init_32 rfl ?_
  have hZ0_ := hS.1
  refine k_v (pc := 33) (k_I E hC hS hA hl.1 (c_X0_init l D tk N0 sa H.size qf12 (hA _ g_f12)) kw_46 kw_47 kw_2 kw_48 rfl (n := 0) (by decide +kernel) rfl ⟨⟨rfl, rfl⟩, ⟨by decide, by decide⟩, by decide, by decide⟩ rfl (Nat.le_of_ble_eq_true rfl) f12 dX3_init_33) hS (inA1.to g_f12) hn (fun H locs hR hz hk hS => ?_)
  have f0 := f0.kept (hk _ f0.lt (inA1.not (Nat.ne_of_lt l_f0_f12) f0.lt))
  have f1 := f1.kept (hk _ f1.lt (inA1.not (Nat.ne_of_lt l_f1_f12) f1.lt))
  have f3 := f3.kept (hk _ f3.lt (inA1.not (Nat.ne_of_lt l_f3_f12) f3.lt))
  have f6 := f6.kept (hk _ f6.lt (inA1.not (Nat.ne_of_lt l_f6_f12) f6.lt))
  have f9 := f9.kept (hk _ f9.lt (inA1.not (Nat.ne_of_lt l_f9_f12) f9.lt))
  have f12 := hR
  refine r_aastF (pc := 36) E hC f1 f12 hS g_f1 3 (by decide) (by unfold vp_in; decide) dX3_init_36 (fun H locs n_ ho hz hS => ?_)
  have f1 := n_
  have f0 := f0.kept (ho _ (Nat.ne_of_lt l_f0_f1))
  have f3 := f3.kept (ho _ (Nat.ne_of_gt l_f1_f3))
  have f6 := f6.kept (ho _ (Nat.ne_of_gt l_f1_f6))
  have f9 := f9.kept (ho _ (Nat.ne_of_gt l_f1_f9))
  have f12 := f12.kept (ho _ (Nat.ne_of_gt l_f1_f12))
  refine lv_iinc (pc := 37) (v := 4) (lv' := [(1, .int 4), (0, .ref a)]) hx hb dX3_init_37 hl (k := 0) rfl (by decide) (by decide) rfl (fun ls hl => ?_)
  refine lv_goto (pc := 40) (tgt := 15) hx hb dX3_init_40 (by decide) ?_
  refine lv_iload_n (pc := 15) hx hb dX3_init_15 rfl (lv_at hl 0 rfl) ?_
  refine lv_aload_n (pc := 16) hx hb dX3_init_16 rfl (lv_at hl 1 rfl) ?_
  refine r_get (pc := 17) E hC f0 0 (v := .ref qf1) rfl rfl (by decide) uX3 (List.mem_cons_of_mem _ kw_114) (fun _ h => h) dX3_init_17 ?_
  refine r_alen (pc := 20) E hC f1 2 rfl (v := 6) rfl dX3_init_20 ?_
  refine lv_icmp_ge (pc := 21) (tgt := 43) hx hb dX3_init_21 (by decide) (fun c_14 => ?_) (fun c_14 => ?_)
  · exact absurd c_14 (by decide)
  refine lv_aload_n (pc := 24) hx hb dX3_init_24 rfl (lv_at hl 1 rfl) ?_
  refine r_get (pc := 25) E hC f0 0 (v := .ref qf1) rfl rfl (by decide) uX3 (List.mem_cons_of_mem _ kw_114) (fun _ h => h) dX3_init_25 ?_
  refine lv_iload_n (pc := 28) hx hb dX3_init_28 rfl (lv_at hl 0 rfl) ?_
  have hS0_ := hS
  refine r_new (pc := 29) E hC hS tyX0_ok uX0 (List.mem_cons_of_mem _ kw_43) (List.mem_cons_of_mem _ kw_45) (List.mem_cons_of_mem _ kw_2) (ci := 8) rfl (fs := [.long 0, .long 0]) (by decide) (by decide) (by decide) dX3_init_29 (fun qf15 H zq_ n_ ho_ hS => ?_)
  have l_f0_f15 : a < qf15 := zq_ ▸ f0.lt
  have f0 := f0.kept (ho_ _ f0.lt)
  have l_f1_f15 : qf1 < qf15 := zq_ ▸ f1.lt
  have f1 := f1.kept (ho_ _ f1.lt)
  have l_f3_f15 : qf3 < qf15 := zq_ ▸ f3.lt
  have f3 := f3.kept (ho_ _ f3.lt)
  have l_f6_f15 : qf6 < qf15 := zq_ ▸ f6.lt
  have f6 := f6.kept (ho_ _ f6.lt)
  have l_f9_f15 : qf9 < qf15 := zq_ ▸ f9.lt
  have f9 := f9.kept (ho_ _ f9.lt)
  have l_f12_f15 : qf12 < qf15 := zq_ ▸ f12.lt
  have f12 := f12.kept (ho_ _ f12.lt)
  have f15 := n_
  have s_f15 : s.heap.size ≤ qf15 := zq_ ▸ hS0_.1
  have g_f15 := hn _ s_f15
  refine lv_dup (pc := 32) hx hb dX3_init_32 rfl ?_
  have hZ0_ := hS.1
  refine k_v (pc := 33) (k_I E hC hS hA hl.1 (c_X0_init l D tk N0 sa H.size qf15 (hA _ g_f15)) kw_46 kw_47 kw_2 kw_48 rfl (n := 0) (by decide +kernel) rfl ⟨⟨rfl, rfl⟩, ⟨by decide, by decide⟩, by decide, by decide⟩ rfl (Nat.le_of_ble_eq_true rfl) f15 dX3_init_33) hS (inA1.to g_f15) hn (fun H locs hR hz hk hS => ?_)
  have f0 := f0.kept (hk _ f0.lt (inA1.not (Nat.ne_of_lt l_f0_f15) f0.lt))
  have f1 := f1.kept (hk _ f1.lt (inA1.not (Nat.ne_of_lt l_f1_f15) f1.lt))
  have f3 := f3.kept (hk _ f3.lt (inA1.not (Nat.ne_of_lt l_f3_f15) f3.lt))
  have f6 := f6.kept (hk _ f6.lt (inA1.not (Nat.ne_of_lt l_f6_f15) f6.lt))
  have f9 := f9.kept (hk _ f9.lt (inA1.not (Nat.ne_of_lt l_f9_f15) f9.lt))
  have f12 := f12.kept (hk _ f12.lt (inA1.not (Nat.ne_of_lt l_f12_f15) f12.lt))
  have f15 := hR
  refine r_aastF (pc := 36) E hC f1 f15 hS g_f1 4 (by decide) (by unfold vp_in; decide) dX3_init_36 (fun H locs n_ ho hz hS => ?_)
  have f1 := n_
  have f0 := f0.kept (ho _ (Nat.ne_of_lt l_f0_f1))
  have f3 := f3.kept (ho _ (Nat.ne_of_gt l_f1_f3))
  have f6 := f6.kept (ho _ (Nat.ne_of_gt l_f1_f6))
  have f9 := f9.kept (ho _ (Nat.ne_of_gt l_f1_f9))
  have f12 := f12.kept (ho _ (Nat.ne_of_gt l_f1_f12))
  have f15 := f15.kept (ho _ (Nat.ne_of_gt l_f1_f15))
  refine lv_iinc (pc := 37) (v := 5) (lv' := [(1, .int 5), (0, .ref a)]) hx hb dX3_init_37 hl (k := 0) rfl (by decide) (by decide) rfl (fun ls hl => ?_)
  refine lv_goto (pc := 40) (tgt := 15) hx hb dX3_init_40 (by decide) ?_
  refine lv_iload_n (pc := 15) hx hb dX3_init_15 rfl (lv_at hl 0 rfl) ?_
  refine lv_aload_n (pc := 16) hx hb dX3_init_16 rfl (lv_at hl 1 rfl) ?_
  refine r_get (pc := 17) E hC f0 0 (v := .ref qf1) rfl rfl (by decide) uX3 (List.mem_cons_of_mem _ kw_114) (fun _ h => h) dX3_init_17 ?_
  refine r_alen (pc := 20) E hC f1 2 rfl (v := 6) rfl dX3_init_20 ?_
  refine lv_icmp_ge (pc := 21) (tgt := 43) hx hb dX3_init_21 (by decide) (fun c_17 => ?_) (fun c_17 => ?_)
  · exact absurd c_17 (by decide)
  refine lv_aload_n (pc := 24) hx hb dX3_init_24 rfl (lv_at hl 1 rfl) ?_
  refine r_get (pc := 25) E hC f0 0 (v := .ref qf1) rfl rfl (by decide) uX3 (List.mem_cons_of_mem _ kw_114) (fun _ h => h) dX3_init_25 ?_
  refine lv_iload_n (pc := 28) hx hb dX3_init_28 rfl (lv_at hl 0 rfl) ?_
  have hS0_ := hS
  refine r_new (pc := 29) E hC hS tyX0_ok uX0 (List.mem_cons_of_mem _ kw_43) (List.mem_cons_of_mem _ kw_45) (List.mem_cons_of_mem _ kw_2) (ci := 8) rfl (fs := [.long 0, .long 0]) (by decide) (by decide) (by decide) dX3_init_29 (fun qf18 H zq_ n_ ho_ hS => ?_)
  have l_f0_f18 : a < qf18 := zq_ ▸ f0.lt
  have f0 := f0.kept (ho_ _ f0.lt)
  have l_f1_f18 : qf1 < qf18 := zq_ ▸ f1.lt
  have f1 := f1.kept (ho_ _ f1.lt)
  have l_f3_f18 : qf3 < qf18 := zq_ ▸ f3.lt
  have f3 := f3.kept (ho_ _ f3.lt)
  have l_f6_f18 : qf6 < qf18 := zq_ ▸ f6.lt
  have f6 := f6.kept (ho_ _ f6.lt)
  have l_f9_f18 : qf9 < qf18 := zq_ ▸ f9.lt
  have f9 := f9.kept (ho_ _ f9.lt)
  have l_f12_f18 : qf12 < qf18 := zq_ ▸ f12.lt
  have f12 := f12.kept (ho_ _ f12.lt)
  have l_f15_f18 : qf15 < qf18 := zq_ ▸ f15.lt
  have f15 := f15.kept (ho_ _ f15.lt)
  have f18 := n_
  have s_f18 : s.heap.size ≤ qf18 := zq_ ▸ hS0_.1
  have g_f18 := hn _ s_f18
  refine lv_dup (pc := 32) hx hb dX3_init_32 rfl ?_
  have hZ0_ := hS.1
  refine k_v (pc := 33) (k_I E hC hS hA hl.1 (c_X0_init l D tk N0 sa H.size qf18 (hA _ g_f18)) kw_46 kw_47 kw_2 kw_48 rfl (n := 0) (by decide +kernel) rfl ⟨⟨rfl, rfl⟩, ⟨by decide, by decide⟩, by decide, by decide⟩ rfl (Nat.le_of_ble_eq_true rfl) f18 dX3_init_33) hS (inA1.to g_f18) hn (fun H locs hR hz hk hS => ?_)
  have f0 := f0.kept (hk _ f0.lt (inA1.not (Nat.ne_of_lt l_f0_f18) f0.lt))
  have f1 := f1.kept (hk _ f1.lt (inA1.not (Nat.ne_of_lt l_f1_f18) f1.lt))
  have f3 := f3.kept (hk _ f3.lt (inA1.not (Nat.ne_of_lt l_f3_f18) f3.lt))
  have f6 := f6.kept (hk _ f6.lt (inA1.not (Nat.ne_of_lt l_f6_f18) f6.lt))
  have f9 := f9.kept (hk _ f9.lt (inA1.not (Nat.ne_of_lt l_f9_f18) f9.lt))
  have f12 := f12.kept (hk _ f12.lt (inA1.not (Nat.ne_of_lt l_f12_f18) f12.lt))
  have f15 := f15.kept (hk _ f15.lt (inA1.not (Nat.ne_of_lt l_f15_f18) f15.lt))
  have f18 := hR
  refine r_aastF (pc := 36) E hC f1 f18 hS g_f1 5 (by decide) (by unfold vp_in; decide) dX3_init_36 (fun H locs n_ ho hz hS => ?_)
  have f1 := n_
  have f0 := f0.kept (ho _ (Nat.ne_of_lt l_f0_f1))
  have f3 := f3.kept (ho _ (Nat.ne_of_gt l_f1_f3))
  have f6 := f6.kept (ho _ (Nat.ne_of_gt l_f1_f6))
  have f9 := f9.kept (ho _ (Nat.ne_of_gt l_f1_f9))
  have f12 := f12.kept (ho _ (Nat.ne_of_gt l_f1_f12))
  have f15 := f15.kept (ho _ (Nat.ne_of_gt l_f1_f15))
  have f18 := f18.kept (ho _ (Nat.ne_of_gt l_f1_f18))
  refine lv_iinc (pc := 37) (v := 6) (lv' := [(1, .int 6), (0, .ref a)]) hx hb dX3_init_37 hl (k := 0) rfl (by decide) (by decide) rfl (fun ls hl => ?_)
  refine lv_goto (pc := 40) (tgt := 15) hx hb dX3_init_40 (by decide) ?_
  refine lv_iload_n (pc := 15) hx hb dX3_init_15 rfl (lv_at hl 0 rfl) ?_
  refine lv_aload_n (pc := 16) hx hb dX3_init_16 rfl (lv_at hl 1 rfl) ?_
  refine r_get (pc := 17) E hC f0 0 (v := .ref qf1) rfl rfl (by decide) uX3 (List.mem_cons_of_mem _ kw_114) (fun _ h => h) dX3_init_17 ?_
  refine r_alen (pc := 20) E hC f1 2 rfl (v := 6) rfl dX3_init_20 ?_
  refine lv_icmp_ge (pc := 21) (tgt := 43) hx hb dX3_init_21 (by decide) (fun c_20 => ?_) (fun c_20 => ?_)
  rotate_left
  · exact absurd (by decide) c_20
  refine lv_aload_n (pc := 43) hx hb dX3_init_43 rfl (lv_at hl 1 rfl) ?_
  have hS0_ := hS
  refine r_new (pc := 44) E hC hS tyX2_ok uX2 (List.mem_cons_of_mem _ kw_61) (List.mem_cons_of_mem _ kw_62) (List.mem_cons_of_mem _ kw_3) (ci := 10) rfl (fs := [.null, .int 0]) (by decide) (by decide) (by decide) dX3_init_44 (fun qf21 H zq_ n_ ho_ hS => ?_)
  have l_f0_f21 : a < qf21 := zq_ ▸ f0.lt
  have f0 := f0.kept (ho_ _ f0.lt)
  have l_f1_f21 : qf1 < qf21 := zq_ ▸ f1.lt
  have f1 := f1.kept (ho_ _ f1.lt)
  have l_f3_f21 : qf3 < qf21 := zq_ ▸ f3.lt
  have f3 := f3.kept (ho_ _ f3.lt)
  have l_f6_f21 : qf6 < qf21 := zq_ ▸ f6.lt
  have f6 := f6.kept (ho_ _ f6.lt)
  have l_f9_f21 : qf9 < qf21 := zq_ ▸ f9.lt
  have f9 := f9.kept (ho_ _ f9.lt)
  have l_f12_f21 : qf12 < qf21 := zq_ ▸ f12.lt
  have f12 := f12.kept (ho_ _ f12.lt)
  have l_f15_f21 : qf15 < qf21 := zq_ ▸ f15.lt
  have f15 := f15.kept (ho_ _ f15.lt)
  have l_f18_f21 : qf18 < qf21 := zq_ ▸ f18.lt
  have f18 := f18.kept (ho_ _ f18.lt)
  have f21 := n_
  have s_f21 : s.heap.size ≤ qf21 := zq_ ▸ hS0_.1
  have g_f21 := hn _ s_f21
  refine lv_dup (pc := 47) hx hb dX3_init_47 rfl ?_
  have hZ0_ := hS.1
  refine k_v (pc := 48) (k_I E hC hS hA hl.1 (c_X2_init l D tk N0 sa H.size qf21 (hA _ g_f21)) kw_63 kw_64 kw_3 kw_65 rfl (n := 0) (by decide +kernel) rfl ⟨⟨rfl, rfl⟩, ⟨by decide, by decide⟩, by decide, by decide⟩ rfl (Nat.le_of_ble_eq_true rfl) f21 dX3_init_48) hS (inA1.to g_f21) hn (fun H locs hR hz hk hS => ?_)
  obtain ⟨qf23, z_, n_, f23⟩ := hR
  have l_f0_f23 := Nat.lt_of_lt_of_le f0.lt z_
  have l_f1_f23 := Nat.lt_of_lt_of_le f1.lt z_
  have l_f3_f23 := Nat.lt_of_lt_of_le f3.lt z_
  have l_f6_f23 := Nat.lt_of_lt_of_le f6.lt z_
  have l_f9_f23 := Nat.lt_of_lt_of_le f9.lt z_
  have l_f12_f23 := Nat.lt_of_lt_of_le f12.lt z_
  have l_f15_f23 := Nat.lt_of_lt_of_le f15.lt z_
  have l_f18_f23 := Nat.lt_of_lt_of_le f18.lt z_
  have l_f21_f23 := Nat.lt_of_lt_of_le f21.lt z_
  have s_f23 := Nat.le_trans hZ0_ z_
  have g_f23 := hn _ s_f23
  have f0 := f0.kept (hk _ f0.lt (inA1.not (Nat.ne_of_lt l_f0_f21) f0.lt))
  have f1 := f1.kept (hk _ f1.lt (inA1.not (Nat.ne_of_lt l_f1_f21) f1.lt))
  have f3 := f3.kept (hk _ f3.lt (inA1.not (Nat.ne_of_lt l_f3_f21) f3.lt))
  have f6 := f6.kept (hk _ f6.lt (inA1.not (Nat.ne_of_lt l_f6_f21) f6.lt))
  have f9 := f9.kept (hk _ f9.lt (inA1.not (Nat.ne_of_lt l_f9_f21) f9.lt))
  have f12 := f12.kept (hk _ f12.lt (inA1.not (Nat.ne_of_lt l_f12_f21) f12.lt))
  have f15 := f15.kept (hk _ f15.lt (inA1.not (Nat.ne_of_lt l_f15_f21) f15.lt))
  have f18 := f18.kept (hk _ f18.lt (inA1.not (Nat.ne_of_lt l_f18_f21) f18.lt))
  have f21 := n_
  refine r_putF (pc := 51) E hC (hnm.trans rfl) f0 hS g_f0 1 tyX3 tyX3_ok nmX3 rfl (by decide) (Nat.le_of_ble_eq_true rfl) uX3 (List.mem_cons_of_mem _ kw_115) (fun _ h => h) rfl rfl rfl rfl dX3_init_51 (fun H locs n_ ho hz hS => ?_)
  have f0 : c1 D a (.inr (11, [.ref qf1, .ref qf21, .null, .int 0, .int 0, .null, .null, .null, .null])) H := n_
  have f1 := f1.kept (ho _ (Nat.ne_of_gt l_f0_f1))
  have f3 := f3.kept (ho _ (Nat.ne_of_gt l_f0_f3))
  have f6 := f6.kept (ho _ (Nat.ne_of_gt l_f0_f6))
  have f9 := f9.kept (ho _ (Nat.ne_of_gt l_f0_f9))
  have f12 := f12.kept (ho _ (Nat.ne_of_gt l_f0_f12))
  have f15 := f15.kept (ho _ (Nat.ne_of_gt l_f0_f15))
  have f18 := f18.kept (ho _ (Nat.ne_of_gt l_f0_f18))
  have f21 := f21.kept (ho _ (Nat.ne_of_gt l_f0_f21))
  have f23 := f23.kept (ho _ (Nat.ne_of_gt l_f0_f23))
  refine lv_aload_n (pc := 54) hx hb dX3_init_54 rfl (lv_at hl 1 rfl) ?_
  have hS0_ := hS
  refine r_new (pc := 55) E hC hS tyX1_ok uX1 (List.mem_cons_of_mem _ kw_76) (List.mem_cons_of_mem _ kw_77) (List.mem_cons_of_mem _ kw_4) (ci := 9) rfl (fs := [.null, .null, .null, .null, .null, .null, .int 0, .int 0]) (by decide) (by decide) (by decide) dX3_init_55 (fun qf24 H zq_ n_ ho_ hS => ?_)
  have l_f0_f24 : a < qf24 := zq_ ▸ f0.lt
  have f0 := f0.kept (ho_ _ f0.lt)
  have l_f1_f24 : qf1 < qf24 := zq_ ▸ f1.lt
  have f1 := f1.kept (ho_ _ f1.lt)
  have l_f3_f24 : qf3 < qf24 := zq_ ▸ f3.lt
  have f3 := f3.kept (ho_ _ f3.lt)
  have l_f6_f24 : qf6 < qf24 := zq_ ▸ f6.lt
  have f6 := f6.kept (ho_ _ f6.lt)
  have l_f9_f24 : qf9 < qf24 := zq_ ▸ f9.lt
  have f9 := f9.kept (ho_ _ f9.lt)
  have l_f12_f24 : qf12 < qf24 := zq_ ▸ f12.lt
  have f12 := f12.kept (ho_ _ f12.lt)
  have l_f15_f24 : qf15 < qf24 := zq_ ▸ f15.lt
  have f15 := f15.kept (ho_ _ f15.lt)
  have l_f18_f24 : qf18 < qf24 := zq_ ▸ f18.lt
  have f18 := f18.kept (ho_ _ f18.lt)
  have l_f21_f24 : qf21 < qf24 := zq_ ▸ f21.lt
  have f21 := f21.kept (ho_ _ f21.lt)
  have l_f23_f24 : qf23 < qf24 := zq_ ▸ f23.lt
  have f23 := f23.kept (ho_ _ f23.lt)
  have f24 := n_
  have s_f24 : s.heap.size ≤ qf24 := zq_ ▸ hS0_.1
  have g_f24 := hn _ s_f24
  refine lv_dup (pc := 58) hx hb dX3_init_58 rfl ?_
  have hZ0_ := hS.1
  refine k_v (pc := 59) (k_I E hC hS hA hl.1 (c_X1_init l D tk N0 sa H.size qf24 (hA _ g_f24)) kw_78 kw_79 kw_4 kw_80 rfl (n := 0) (by decide +kernel) rfl ⟨⟨rfl, rfl⟩, ⟨by decide, by decide⟩, by decide, by decide⟩ rfl (Nat.le_of_ble_eq_true rfl) f24 dX3_init_59) hS (inA1.to g_f24) hn (fun H locs hR hz hk hS => ?_)
  obtain ⟨qf26, qf27, qf28, qf29, qf30, qf31, z_, l_f26_f27, l_f27_f28, l_f28_f29, l_f29_f30, l_f30_f31, n_, f26, f27, f28, f29, f30, f31⟩ := hR
  have l_f0_f26 := Nat.lt_of_lt_of_le f0.lt z_
  have l_f1_f26 := Nat.lt_of_lt_of_le f1.lt z_
  have l_f3_f26 := Nat.lt_of_lt_of_le f3.lt z_
  have l_f6_f26 := Nat.lt_of_lt_of_le f6.lt z_
  have l_f9_f26 := Nat.lt_of_lt_of_le f9.lt z_
  have l_f12_f26 := Nat.lt_of_lt_of_le f12.lt z_
  have l_f15_f26 := Nat.lt_of_lt_of_le f15.lt z_
  have l_f18_f26 := Nat.lt_of_lt_of_le f18.lt z_
  have l_f21_f26 := Nat.lt_of_lt_of_le f21.lt z_
  have l_f23_f26 := Nat.lt_of_lt_of_le f23.lt z_
  have l_f24_f26 := Nat.lt_of_lt_of_le f24.lt z_
  have s_f26 := Nat.le_trans hZ0_ z_
  have g_f26 := hn _ s_f26
  have l_f0_f27 := Nat.lt_trans l_f0_f26 l_f26_f27
  have l_f1_f27 := Nat.lt_trans l_f1_f26 l_f26_f27
  have l_f3_f27 := Nat.lt_trans l_f3_f26 l_f26_f27
  have l_f6_f27 := Nat.lt_trans l_f6_f26 l_f26_f27
  have l_f9_f27 := Nat.lt_trans l_f9_f26 l_f26_f27
  have l_f12_f27 := Nat.lt_trans l_f12_f26 l_f26_f27
  have l_f15_f27 := Nat.lt_trans l_f15_f26 l_f26_f27
  have l_f18_f27 := Nat.lt_trans l_f18_f26 l_f26_f27
  have l_f21_f27 := Nat.lt_trans l_f21_f26 l_f26_f27
  have l_f23_f27 := Nat.lt_trans l_f23_f26 l_f26_f27
  have l_f24_f27 := Nat.lt_trans l_f24_f26 l_f26_f27
  have s_f27 := Nat.le_of_lt (Nat.lt_of_le_of_lt s_f26 l_f26_f27)
  have g_f27 := hn _ s_f27
  have l_f0_f28 := Nat.lt_trans l_f0_f27 l_f27_f28
  have l_f1_f28 := Nat.lt_trans l_f1_f27 l_f27_f28
  have l_f3_f28 := Nat.lt_trans l_f3_f27 l_f27_f28
  have l_f6_f28 := Nat.lt_trans l_f6_f27 l_f27_f28
  have l_f9_f28 := Nat.lt_trans l_f9_f27 l_f27_f28
  have l_f12_f28 := Nat.lt_trans l_f12_f27 l_f27_f28
  have l_f15_f28 := Nat.lt_trans l_f15_f27 l_f27_f28
  have l_f18_f28 := Nat.lt_trans l_f18_f27 l_f27_f28
  have l_f21_f28 := Nat.lt_trans l_f21_f27 l_f27_f28
  have l_f23_f28 := Nat.lt_trans l_f23_f27 l_f27_f28
  have l_f24_f28 := Nat.lt_trans l_f24_f27 l_f27_f28
  have l_f26_f28 := Nat.lt_trans l_f26_f27 l_f27_f28
  have s_f28 := Nat.le_of_lt (Nat.lt_of_le_of_lt s_f27 l_f27_f28)
  have g_f28 := hn _ s_f28
  have l_f0_f29 := Nat.lt_trans l_f0_f28 l_f28_f29
  have l_f1_f29 := Nat.lt_trans l_f1_f28 l_f28_f29
  have l_f3_f29 := Nat.lt_trans l_f3_f28 l_f28_f29
  have l_f6_f29 := Nat.lt_trans l_f6_f28 l_f28_f29
  have l_f9_f29 := Nat.lt_trans l_f9_f28 l_f28_f29
  have l_f12_f29 := Nat.lt_trans l_f12_f28 l_f28_f29
  have l_f15_f29 := Nat.lt_trans l_f15_f28 l_f28_f29
  have l_f18_f29 := Nat.lt_trans l_f18_f28 l_f28_f29
  have l_f21_f29 := Nat.lt_trans l_f21_f28 l_f28_f29
  have l_f23_f29 := Nat.lt_trans l_f23_f28 l_f28_f29
  have l_f24_f29 := Nat.lt_trans l_f24_f28 l_f28_f29
  have l_f26_f29 := Nat.lt_trans l_f26_f28 l_f28_f29
  have l_f27_f29 := Nat.lt_trans l_f27_f28 l_f28_f29
  have s_f29 := Nat.le_of_lt (Nat.lt_of_le_of_lt s_f28 l_f28_f29)
  have g_f29 := hn _ s_f29
  have l_f0_f30 := Nat.lt_trans l_f0_f29 l_f29_f30
  have l_f1_f30 := Nat.lt_trans l_f1_f29 l_f29_f30
  have l_f3_f30 := Nat.lt_trans l_f3_f29 l_f29_f30
  have l_f6_f30 := Nat.lt_trans l_f6_f29 l_f29_f30
  have l_f9_f30 := Nat.lt_trans l_f9_f29 l_f29_f30
  have l_f12_f30 := Nat.lt_trans l_f12_f29 l_f29_f30
  have l_f15_f30 := Nat.lt_trans l_f15_f29 l_f29_f30
  have l_f18_f30 := Nat.lt_trans l_f18_f29 l_f29_f30
  have l_f21_f30 := Nat.lt_trans l_f21_f29 l_f29_f30
  have l_f23_f30 := Nat.lt_trans l_f23_f29 l_f29_f30
  have l_f24_f30 := Nat.lt_trans l_f24_f29 l_f29_f30
  have l_f26_f30 := Nat.lt_trans l_f26_f29 l_f29_f30
  have l_f27_f30 := Nat.lt_trans l_f27_f29 l_f29_f30
  have l_f28_f30 := Nat.lt_trans l_f28_f29 l_f29_f30
  have s_f30 := Nat.le_of_lt (Nat.lt_of_le_of_lt s_f29 l_f29_f30)
  have g_f30 := hn _ s_f30
  have l_f0_f31 := Nat.lt_trans l_f0_f30 l_f30_f31
  have l_f1_f31 := Nat.lt_trans l_f1_f30 l_f30_f31
  have l_f3_f31 := Nat.lt_trans l_f3_f30 l_f30_f31
  have l_f6_f31 := Nat.lt_trans l_f6_f30 l_f30_f31
  have l_f9_f31 := Nat.lt_trans l_f9_f30 l_f30_f31
  have l_f12_f31 := Nat.lt_trans l_f12_f30 l_f30_f31
  have l_f15_f31 := Nat.lt_trans l_f15_f30 l_f30_f31
  have l_f18_f31 := Nat.lt_trans l_f18_f30 l_f30_f31
  have l_f21_f31 := Nat.lt_trans l_f21_f30 l_f30_f31
  have l_f23_f31 := Nat.lt_trans l_f23_f30 l_f30_f31
  have l_f24_f31 := Nat.lt_trans l_f24_f30 l_f30_f31
  have l_f26_f31 := Nat.lt_trans l_f26_f30 l_f30_f31
  have l_f27_f31 := Nat.lt_trans l_f27_f30 l_f30_f31
  have l_f28_f31 := Nat.lt_trans l_f28_f30 l_f30_f31
  have l_f29_f31 := Nat.lt_trans l_f29_f30 l_f30_f31
  have s_f31 := Nat.le_of_lt (Nat.lt_of_le_of_lt s_f30 l_f30_f31)
  have g_f31 := hn _ s_f31
  have f0 := f0.kept (hk _ f0.lt (inA1.not (Nat.ne_of_lt l_f0_f24) f0.lt))
  have f1 := f1.kept (hk _ f1.lt (inA1.not (Nat.ne_of_lt l_f1_f24) f1.lt))
  have f3 := f3.kept (hk _ f3.lt (inA1.not (Nat.ne_of_lt l_f3_f24) f3.lt))
  have f6 := f6.kept (hk _ f6.lt (inA1.not (Nat.ne_of_lt l_f6_f24) f6.lt))
  have f9 := f9.kept (hk _ f9.lt (inA1.not (Nat.ne_of_lt l_f9_f24) f9.lt))
  have f12 := f12.kept (hk _ f12.lt (inA1.not (Nat.ne_of_lt l_f12_f24) f12.lt))
  have f15 := f15.kept (hk _ f15.lt (inA1.not (Nat.ne_of_lt l_f15_f24) f15.lt))
  have f18 := f18.kept (hk _ f18.lt (inA1.not (Nat.ne_of_lt l_f18_f24) f18.lt))
  have f21 := f21.kept (hk _ f21.lt (inA1.not (Nat.ne_of_lt l_f21_f24) f21.lt))
  have f23 := f23.kept (hk _ f23.lt (inA1.not (Nat.ne_of_lt l_f23_f24) f23.lt))
  have f24 := n_
  refine r_putF (pc := 62) E hC (hnm.trans rfl) f0 hS g_f0 2 tyX3 tyX3_ok nmX3 rfl (by decide) (Nat.le_of_ble_eq_true rfl) uX3 (List.mem_cons_of_mem _ kw_116) (fun _ h => h) rfl rfl rfl rfl dX3_init_62 (fun H locs n_ ho hz hS => ?_)
  have f0 : c1 D a (.inr (11, [.ref qf1, .ref qf21, .ref qf24, .int 0, .int 0, .null, .null, .null, .null])) H := n_
  have f1 := f1.kept (ho _ (Nat.ne_of_gt l_f0_f1))
  have f3 := f3.kept (ho _ (Nat.ne_of_gt l_f0_f3))
  have f6 := f6.kept (ho _ (Nat.ne_of_gt l_f0_f6))
  have f9 := f9.kept (ho _ (Nat.ne_of_gt l_f0_f9))
  have f12 := f12.kept (ho _ (Nat.ne_of_gt l_f0_f12))
  have f15 := f15.kept (ho _ (Nat.ne_of_gt l_f0_f15))
  have f18 := f18.kept (ho _ (Nat.ne_of_gt l_f0_f18))
  have f21 := f21.kept (ho _ (Nat.ne_of_gt l_f0_f21))
  have f23 := f23.kept (ho _ (Nat.ne_of_gt l_f0_f23))
  have f24 := f24.kept (ho _ (Nat.ne_of_gt l_f0_f24))
  have f26 := f26.kept (ho _ (Nat.ne_of_gt l_f0_f26))
  have f27 := f27.kept (ho _ (Nat.ne_of_gt l_f0_f27))
  have f28 := f28.kept (ho _ (Nat.ne_of_gt l_f0_f28))
  have f29 := f29.kept (ho _ (Nat.ne_of_gt l_f0_f29))
  have f30 := f30.kept (ho _ (Nat.ne_of_gt l_f0_f30))
  have f31 := f31.kept (ho _ (Nat.ne_of_gt l_f0_f31))
  refine lv_aload_n (pc := 65) hx hb dX3_init_65 rfl (lv_at hl 1 rfl) ?_
  refine lv_iconst (pc := 66) (v := 0) hx hb dX3_init_66 (by decide) ?_
  refine r_put (pc := 67) E hC f0 hS g_f0 3 tyX3 tyX3_ok nmX3 rfl (by decide) (Nat.le_of_ble_eq_true rfl) uX3 (List.mem_cons_of_mem _ kw_117) (fun _ h => h) rfl rfl rfl dX3_init_67 (fun H locs n_ ho hz hS => ?_)
  have f0 : c1 D a (.inr (11, [.ref qf1, .ref qf21, .ref qf24, .int 0, .int 0, .null, .null, .null, .null])) H := n_
  have f1 := f1.kept (ho _ (Nat.ne_of_gt l_f0_f1))
  have f3 := f3.kept (ho _ (Nat.ne_of_gt l_f0_f3))
  have f6 := f6.kept (ho _ (Nat.ne_of_gt l_f0_f6))
  have f9 := f9.kept (ho _ (Nat.ne_of_gt l_f0_f9))
  have f12 := f12.kept (ho _ (Nat.ne_of_gt l_f0_f12))
  have f15 := f15.kept (ho _ (Nat.ne_of_gt l_f0_f15))
  have f18 := f18.kept (ho _ (Nat.ne_of_gt l_f0_f18))
  have f21 := f21.kept (ho _ (Nat.ne_of_gt l_f0_f21))
  have f23 := f23.kept (ho _ (Nat.ne_of_gt l_f0_f23))
  have f24 := f24.kept (ho _ (Nat.ne_of_gt l_f0_f24))
  have f26 := f26.kept (ho _ (Nat.ne_of_gt l_f0_f26))
  have f27 := f27.kept (ho _ (Nat.ne_of_gt l_f0_f27))
  have f28 := f28.kept (ho _ (Nat.ne_of_gt l_f0_f28))
  have f29 := f29.kept (ho _ (Nat.ne_of_gt l_f0_f29))
  have f30 := f30.kept (ho _ (Nat.ne_of_gt l_f0_f30))
  have f31 := f31.kept (ho _ (Nat.ne_of_gt l_f0_f31))
  refine lv_aload_n (pc := 70) hx hb dX3_init_70 rfl (lv_at hl 1 rfl) ?_
  refine lv_iconst (pc := 71) (v := 0) hx hb dX3_init_71 (by decide) ?_
  refine r_put (pc := 72) E hC f0 hS g_f0 4 tyX3 tyX3_ok nmX3 rfl (by decide) (Nat.le_of_ble_eq_true rfl) uX3 (List.mem_cons_of_mem _ kw_118) (fun _ h => h) rfl rfl rfl dX3_init_72 (fun H locs n_ ho hz hS => ?_)
  have f0 : c1 D a (.inr (11, [.ref qf1, .ref qf21, .ref qf24, .int 0, .int 0, .null, .null, .null, .null])) H := n_
  have f1 := f1.kept (ho _ (Nat.ne_of_gt l_f0_f1))
  have f3 := f3.kept (ho _ (Nat.ne_of_gt l_f0_f3))
  have f6 := f6.kept (ho _ (Nat.ne_of_gt l_f0_f6))
  have f9 := f9.kept (ho _ (Nat.ne_of_gt l_f0_f9))
  have f12 := f12.kept (ho _ (Nat.ne_of_gt l_f0_f12))
  have f15 := f15.kept (ho _ (Nat.ne_of_gt l_f0_f15))
  have f18 := f18.kept (ho _ (Nat.ne_of_gt l_f0_f18))
  have f21 := f21.kept (ho _ (Nat.ne_of_gt l_f0_f21))
  have f23 := f23.kept (ho _ (Nat.ne_of_gt l_f0_f23))
  have f24 := f24.kept (ho _ (Nat.ne_of_gt l_f0_f24))
  have f26 := f26.kept (ho _ (Nat.ne_of_gt l_f0_f26))
  have f27 := f27.kept (ho _ (Nat.ne_of_gt l_f0_f27))
  have f28 := f28.kept (ho _ (Nat.ne_of_gt l_f0_f28))
  have f29 := f29.kept (ho _ (Nat.ne_of_gt l_f0_f29))
  have f30 := f30.kept (ho _ (Nat.ne_of_gt l_f0_f30))
  have f31 := f31.kept (ho _ (Nat.ne_of_gt l_f0_f31))
  refine lv_aload_n (pc := 75) hx hb dX3_init_75 rfl (lv_at hl 1 rfl) ?_
  have hS0_ := hS
  refine r_new (pc := 76) E hC hS tyX0_ok uX0 (List.mem_cons_of_mem _ kw_43) (List.mem_cons_of_mem _ kw_45) (List.mem_cons_of_mem _ kw_2) (ci := 8) rfl (fs := [.long 0, .long 0]) (by decide) (by decide) (by decide) dX3_init_76 (fun qf32 H zq_ n_ ho_ hS => ?_)
  have l_f0_f32 : a < qf32 := zq_ ▸ f0.lt
  have f0 := f0.kept (ho_ _ f0.lt)
  have l_f1_f32 : qf1 < qf32 := zq_ ▸ f1.lt
  have f1 := f1.kept (ho_ _ f1.lt)
  have l_f3_f32 : qf3 < qf32 := zq_ ▸ f3.lt
  have f3 := f3.kept (ho_ _ f3.lt)
  have l_f6_f32 : qf6 < qf32 := zq_ ▸ f6.lt
  have f6 := f6.kept (ho_ _ f6.lt)
  have l_f9_f32 : qf9 < qf32 := zq_ ▸ f9.lt
  have f9 := f9.kept (ho_ _ f9.lt)
  have l_f12_f32 : qf12 < qf32 := zq_ ▸ f12.lt
  have f12 := f12.kept (ho_ _ f12.lt)
  have l_f15_f32 : qf15 < qf32 := zq_ ▸ f15.lt
  have f15 := f15.kept (ho_ _ f15.lt)
  have l_f18_f32 : qf18 < qf32 := zq_ ▸ f18.lt
  have f18 := f18.kept (ho_ _ f18.lt)
  have l_f21_f32 : qf21 < qf32 := zq_ ▸ f21.lt
  have f21 := f21.kept (ho_ _ f21.lt)
  have l_f23_f32 : qf23 < qf32 := zq_ ▸ f23.lt
  have f23 := f23.kept (ho_ _ f23.lt)
  have l_f24_f32 : qf24 < qf32 := zq_ ▸ f24.lt
  have f24 := f24.kept (ho_ _ f24.lt)
  have l_f26_f32 : qf26 < qf32 := zq_ ▸ f26.lt
  have f26 := f26.kept (ho_ _ f26.lt)
  have l_f27_f32 : qf27 < qf32 := zq_ ▸ f27.lt
  have f27 := f27.kept (ho_ _ f27.lt)
  have l_f28_f32 : qf28 < qf32 := zq_ ▸ f28.lt
  have f28 := f28.kept (ho_ _ f28.lt)
  have l_f29_f32 : qf29 < qf32 := zq_ ▸ f29.lt
  have f29 := f29.kept (ho_ _ f29.lt)
  have l_f30_f32 : qf30 < qf32 := zq_ ▸ f30.lt
  have f30 := f30.kept (ho_ _ f30.lt)
  have l_f31_f32 : qf31 < qf32 := zq_ ▸ f31.lt
  have f31 := f31.kept (ho_ _ f31.lt)
  have f32 := n_
  have s_f32 : s.heap.size ≤ qf32 := zq_ ▸ hS0_.1
  have g_f32 := hn _ s_f32
  refine lv_dup (pc := 79) hx hb dX3_init_79 rfl ?_
  have hZ0_ := hS.1
  refine k_v (pc := 80) (k_I E hC hS hA hl.1 (c_X0_init l D tk N0 sa H.size qf32 (hA _ g_f32)) kw_46 kw_47 kw_2 kw_48 rfl (n := 0) (by decide +kernel) rfl ⟨⟨rfl, rfl⟩, ⟨by decide, by decide⟩, by decide, by decide⟩ rfl (Nat.le_of_ble_eq_true rfl) f32 dX3_init_80) hS (inA1.to g_f32) hn (fun H locs hR hz hk hS => ?_)
  have f0 := f0.kept (hk _ f0.lt (inA1.not (Nat.ne_of_lt l_f0_f32) f0.lt))
  have f1 := f1.kept (hk _ f1.lt (inA1.not (Nat.ne_of_lt l_f1_f32) f1.lt))
  have f3 := f3.kept (hk _ f3.lt (inA1.not (Nat.ne_of_lt l_f3_f32) f3.lt))
  have f6 := f6.kept (hk _ f6.lt (inA1.not (Nat.ne_of_lt l_f6_f32) f6.lt))
  have f9 := f9.kept (hk _ f9.lt (inA1.not (Nat.ne_of_lt l_f9_f32) f9.lt))
  have f12 := f12.kept (hk _ f12.lt (inA1.not (Nat.ne_of_lt l_f12_f32) f12.lt))
  have f15 := f15.kept (hk _ f15.lt (inA1.not (Nat.ne_of_lt l_f15_f32) f15.lt))
  have f18 := f18.kept (hk _ f18.lt (inA1.not (Nat.ne_of_lt l_f18_f32) f18.lt))
  have f21 := f21.kept (hk _ f21.lt (inA1.not (Nat.ne_of_lt l_f21_f32) f21.lt))
  have f23 := f23.kept (hk _ f23.lt (inA1.not (Nat.ne_of_lt l_f23_f32) f23.lt))
  have f24 := f24.kept (hk _ f24.lt (inA1.not (Nat.ne_of_lt l_f24_f32) f24.lt))
  have f26 := f26.kept (hk _ f26.lt (inA1.not (Nat.ne_of_lt l_f26_f32) f26.lt))
  have f27 := f27.kept (hk _ f27.lt (inA1.not (Nat.ne_of_lt l_f27_f32) f27.lt))
  have f28 := f28.kept (hk _ f28.lt (inA1.not (Nat.ne_of_lt l_f28_f32) f28.lt))
  have f29 := f29.kept (hk _ f29.lt (inA1.not (Nat.ne_of_lt l_f29_f32) f29.lt))
  have f30 := f30.kept (hk _ f30.lt (inA1.not (Nat.ne_of_lt l_f30_f32) f30.lt))
  have f31 := f31.kept (hk _ f31.lt (inA1.not (Nat.ne_of_lt l_f31_f32) f31.lt))
  have f32 := hR
  refine r_putF (pc := 83) E hC (hnm.trans rfl) f0 hS g_f0 5 tyX3 tyX3_ok nmX3 rfl (by decide) (Nat.le_of_ble_eq_true rfl) uX3 (List.mem_cons_of_mem _ kw_119) (fun _ h => h) rfl rfl rfl rfl dX3_init_83 (fun H locs n_ ho hz hS => ?_)
  have f0 : c1 D a (.inr (11, [.ref qf1, .ref qf21, .ref qf24, .int 0, .int 0, .ref qf32, .null, .null, .null])) H := n_
  have f1 := f1.kept (ho _ (Nat.ne_of_gt l_f0_f1))
  have f3 := f3.kept (ho _ (Nat.ne_of_gt l_f0_f3))
  have f6 := f6.kept (ho _ (Nat.ne_of_gt l_f0_f6))
  have f9 := f9.kept (ho _ (Nat.ne_of_gt l_f0_f9))
  have f12 := f12.kept (ho _ (Nat.ne_of_gt l_f0_f12))
  have f15 := f15.kept (ho _ (Nat.ne_of_gt l_f0_f15))
  have f18 := f18.kept (ho _ (Nat.ne_of_gt l_f0_f18))
  have f21 := f21.kept (ho _ (Nat.ne_of_gt l_f0_f21))
  have f23 := f23.kept (ho _ (Nat.ne_of_gt l_f0_f23))
  have f24 := f24.kept (ho _ (Nat.ne_of_gt l_f0_f24))
  have f26 := f26.kept (ho _ (Nat.ne_of_gt l_f0_f26))
  have f27 := f27.kept (ho _ (Nat.ne_of_gt l_f0_f27))
  have f28 := f28.kept (ho _ (Nat.ne_of_gt l_f0_f28))
  have f29 := f29.kept (ho _ (Nat.ne_of_gt l_f0_f29))
  have f30 := f30.kept (ho _ (Nat.ne_of_gt l_f0_f30))
  have f31 := f31.kept (ho _ (Nat.ne_of_gt l_f0_f31))
  have f32 := f32.kept (ho _ (Nat.ne_of_gt l_f0_f32))
  refine lv_aload_n (pc := 86) hx hb dX3_init_86 rfl (lv_at hl 1 rfl) ?_
  have hS0_ := hS
  refine r_new (pc := 87) E hC hS tyX0_ok uX0 (List.mem_cons_of_mem _ kw_43) (List.mem_cons_of_mem _ kw_45) (List.mem_cons_of_mem _ kw_2) (ci := 8) rfl (fs := [.long 0, .long 0]) (by decide) (by decide) (by decide) dX3_init_87 (fun qf34 H zq_ n_ ho_ hS => ?_)
  have l_f0_f34 : a < qf34 := zq_ ▸ f0.lt
  have f0 := f0.kept (ho_ _ f0.lt)
  have l_f1_f34 : qf1 < qf34 := zq_ ▸ f1.lt
  have f1 := f1.kept (ho_ _ f1.lt)
  have l_f3_f34 : qf3 < qf34 := zq_ ▸ f3.lt
  have f3 := f3.kept (ho_ _ f3.lt)
  have l_f6_f34 : qf6 < qf34 := zq_ ▸ f6.lt
  have f6 := f6.kept (ho_ _ f6.lt)
  have l_f9_f34 : qf9 < qf34 := zq_ ▸ f9.lt
  have f9 := f9.kept (ho_ _ f9.lt)
  have l_f12_f34 : qf12 < qf34 := zq_ ▸ f12.lt
  have f12 := f12.kept (ho_ _ f12.lt)
  have l_f15_f34 : qf15 < qf34 := zq_ ▸ f15.lt
  have f15 := f15.kept (ho_ _ f15.lt)
  have l_f18_f34 : qf18 < qf34 := zq_ ▸ f18.lt
  have f18 := f18.kept (ho_ _ f18.lt)
  have l_f21_f34 : qf21 < qf34 := zq_ ▸ f21.lt
  have f21 := f21.kept (ho_ _ f21.lt)
  have l_f23_f34 : qf23 < qf34 := zq_ ▸ f23.lt
  have f23 := f23.kept (ho_ _ f23.lt)
  have l_f24_f34 : qf24 < qf34 := zq_ ▸ f24.lt
  have f24 := f24.kept (ho_ _ f24.lt)
  have l_f26_f34 : qf26 < qf34 := zq_ ▸ f26.lt
  have f26 := f26.kept (ho_ _ f26.lt)
  have l_f27_f34 : qf27 < qf34 := zq_ ▸ f27.lt
  have f27 := f27.kept (ho_ _ f27.lt)
  have l_f28_f34 : qf28 < qf34 := zq_ ▸ f28.lt
  have f28 := f28.kept (ho_ _ f28.lt)
  have l_f29_f34 : qf29 < qf34 := zq_ ▸ f29.lt
  have f29 := f29.kept (ho_ _ f29.lt)
  have l_f30_f34 : qf30 < qf34 := zq_ ▸ f30.lt
  have f30 := f30.kept (ho_ _ f30.lt)
  have l_f31_f34 : qf31 < qf34 := zq_ ▸ f31.lt
  have f31 := f31.kept (ho_ _ f31.lt)
  have l_f32_f34 : qf32 < qf34 := zq_ ▸ f32.lt
  have f32 := f32.kept (ho_ _ f32.lt)
  have f34 := n_
  have s_f34 : s.heap.size ≤ qf34 := zq_ ▸ hS0_.1
  have g_f34 := hn _ s_f34
  refine lv_dup (pc := 90) hx hb dX3_init_90 rfl ?_
  have hZ0_ := hS.1
  refine k_v (pc := 91) (k_I E hC hS hA hl.1 (c_X0_init l D tk N0 sa H.size qf34 (hA _ g_f34)) kw_46 kw_47 kw_2 kw_48 rfl (n := 0) (by decide +kernel) rfl ⟨⟨rfl, rfl⟩, ⟨by decide, by decide⟩, by decide, by decide⟩ rfl (Nat.le_of_ble_eq_true rfl) f34 dX3_init_91) hS (inA1.to g_f34) hn (fun H locs hR hz hk hS => ?_)
  have f0 := f0.kept (hk _ f0.lt (inA1.not (Nat.ne_of_lt l_f0_f34) f0.lt))
  have f1 := f1.kept (hk _ f1.lt (inA1.not (Nat.ne_of_lt l_f1_f34) f1.lt))
  have f3 := f3.kept (hk _ f3.lt (inA1.not (Nat.ne_of_lt l_f3_f34) f3.lt))
  have f6 := f6.kept (hk _ f6.lt (inA1.not (Nat.ne_of_lt l_f6_f34) f6.lt))
  have f9 := f9.kept (hk _ f9.lt (inA1.not (Nat.ne_of_lt l_f9_f34) f9.lt))
  have f12 := f12.kept (hk _ f12.lt (inA1.not (Nat.ne_of_lt l_f12_f34) f12.lt))
  have f15 := f15.kept (hk _ f15.lt (inA1.not (Nat.ne_of_lt l_f15_f34) f15.lt))
  have f18 := f18.kept (hk _ f18.lt (inA1.not (Nat.ne_of_lt l_f18_f34) f18.lt))
  have f21 := f21.kept (hk _ f21.lt (inA1.not (Nat.ne_of_lt l_f21_f34) f21.lt))
  have f23 := f23.kept (hk _ f23.lt (inA1.not (Nat.ne_of_lt l_f23_f34) f23.lt))
  have f24 := f24.kept (hk _ f24.lt (inA1.not (Nat.ne_of_lt l_f24_f34) f24.lt))
  have f26 := f26.kept (hk _ f26.lt (inA1.not (Nat.ne_of_lt l_f26_f34) f26.lt))
  have f27 := f27.kept (hk _ f27.lt (inA1.not (Nat.ne_of_lt l_f27_f34) f27.lt))
  have f28 := f28.kept (hk _ f28.lt (inA1.not (Nat.ne_of_lt l_f28_f34) f28.lt))
  have f29 := f29.kept (hk _ f29.lt (inA1.not (Nat.ne_of_lt l_f29_f34) f29.lt))
  have f30 := f30.kept (hk _ f30.lt (inA1.not (Nat.ne_of_lt l_f30_f34) f30.lt))
  have f31 := f31.kept (hk _ f31.lt (inA1.not (Nat.ne_of_lt l_f31_f34) f31.lt))
  have f32 := f32.kept (hk _ f32.lt (inA1.not (Nat.ne_of_lt l_f32_f34) f32.lt))
  have f34 := hR
  refine r_putF (pc := 94) E hC (hnm.trans rfl) f0 hS g_f0 6 tyX3 tyX3_ok nmX3 rfl (by decide) (Nat.le_of_ble_eq_true rfl) uX3 (List.mem_cons_of_mem _ kw_120) (fun _ h => h) rfl rfl rfl rfl dX3_init_94 (fun H locs n_ ho hz hS => ?_)
  have f0 : c1 D a (.inr (11, [.ref qf1, .ref qf21, .ref qf24, .int 0, .int 0, .ref qf32, .ref qf34, .null, .null])) H := n_
  have f1 := f1.kept (ho _ (Nat.ne_of_gt l_f0_f1))
  have f3 := f3.kept (ho _ (Nat.ne_of_gt l_f0_f3))
  have f6 := f6.kept (ho _ (Nat.ne_of_gt l_f0_f6))
  have f9 := f9.kept (ho _ (Nat.ne_of_gt l_f0_f9))
  have f12 := f12.kept (ho _ (Nat.ne_of_gt l_f0_f12))
  have f15 := f15.kept (ho _ (Nat.ne_of_gt l_f0_f15))
  have f18 := f18.kept (ho _ (Nat.ne_of_gt l_f0_f18))
  have f21 := f21.kept (ho _ (Nat.ne_of_gt l_f0_f21))
  have f23 := f23.kept (ho _ (Nat.ne_of_gt l_f0_f23))
  have f24 := f24.kept (ho _ (Nat.ne_of_gt l_f0_f24))
  have f26 := f26.kept (ho _ (Nat.ne_of_gt l_f0_f26))
  have f27 := f27.kept (ho _ (Nat.ne_of_gt l_f0_f27))
  have f28 := f28.kept (ho _ (Nat.ne_of_gt l_f0_f28))
  have f29 := f29.kept (ho _ (Nat.ne_of_gt l_f0_f29))
  have f30 := f30.kept (ho _ (Nat.ne_of_gt l_f0_f30))
  have f31 := f31.kept (ho _ (Nat.ne_of_gt l_f0_f31))
  have f32 := f32.kept (ho _ (Nat.ne_of_gt l_f0_f32))
  have f34 := f34.kept (ho _ (Nat.ne_of_gt l_f0_f34))
  refine lv_aload_n (pc := 97) hx hb dX3_init_97 rfl (lv_at hl 1 rfl) ?_
  have hS0_ := hS
  refine r_new (pc := 98) E hC hS tyX0_ok uX0 (List.mem_cons_of_mem _ kw_43) (List.mem_cons_of_mem _ kw_45) (List.mem_cons_of_mem _ kw_2) (ci := 8) rfl (fs := [.long 0, .long 0]) (by decide) (by decide) (by decide) dX3_init_98 (fun qf36 H zq_ n_ ho_ hS => ?_)
  have l_f0_f36 : a < qf36 := zq_ ▸ f0.lt
  have f0 := f0.kept (ho_ _ f0.lt)
  have l_f1_f36 : qf1 < qf36 := zq_ ▸ f1.lt
  have f1 := f1.kept (ho_ _ f1.lt)
  have l_f3_f36 : qf3 < qf36 := zq_ ▸ f3.lt
  have f3 := f3.kept (ho_ _ f3.lt)
  have l_f6_f36 : qf6 < qf36 := zq_ ▸ f6.lt
  have f6 := f6.kept (ho_ _ f6.lt)
  have l_f9_f36 : qf9 < qf36 := zq_ ▸ f9.lt
  have f9 := f9.kept (ho_ _ f9.lt)
  have l_f12_f36 : qf12 < qf36 := zq_ ▸ f12.lt
  have f12 := f12.kept (ho_ _ f12.lt)
  have l_f15_f36 : qf15 < qf36 := zq_ ▸ f15.lt
  have f15 := f15.kept (ho_ _ f15.lt)
  have l_f18_f36 : qf18 < qf36 := zq_ ▸ f18.lt
  have f18 := f18.kept (ho_ _ f18.lt)
  have l_f21_f36 : qf21 < qf36 := zq_ ▸ f21.lt
  have f21 := f21.kept (ho_ _ f21.lt)
  have l_f23_f36 : qf23 < qf36 := zq_ ▸ f23.lt
  have f23 := f23.kept (ho_ _ f23.lt)
  have l_f24_f36 : qf24 < qf36 := zq_ ▸ f24.lt
  have f24 := f24.kept (ho_ _ f24.lt)
  have l_f26_f36 : qf26 < qf36 := zq_ ▸ f26.lt
  have f26 := f26.kept (ho_ _ f26.lt)
  have l_f27_f36 : qf27 < qf36 := zq_ ▸ f27.lt
  have f27 := f27.kept (ho_ _ f27.lt)
  have l_f28_f36 : qf28 < qf36 := zq_ ▸ f28.lt
  have f28 := f28.kept (ho_ _ f28.lt)
  have l_f29_f36 : qf29 < qf36 := zq_ ▸ f29.lt
  have f29 := f29.kept (ho_ _ f29.lt)
  have l_f30_f36 : qf30 < qf36 := zq_ ▸ f30.lt
  have f30 := f30.kept (ho_ _ f30.lt)
  have l_f31_f36 : qf31 < qf36 := zq_ ▸ f31.lt
  have f31 := f31.kept (ho_ _ f31.lt)
  have l_f32_f36 : qf32 < qf36 := zq_ ▸ f32.lt
  have f32 := f32.kept (ho_ _ f32.lt)
  have l_f34_f36 : qf34 < qf36 := zq_ ▸ f34.lt
  have f34 := f34.kept (ho_ _ f34.lt)
  have f36 := n_
  have s_f36 : s.heap.size ≤ qf36 := zq_ ▸ hS0_.1
  have g_f36 := hn _ s_f36
  refine lv_dup (pc := 101) hx hb dX3_init_101 rfl ?_
  have hZ0_ := hS.1
  refine k_v (pc := 102) (k_I E hC hS hA hl.1 (c_X0_init l D tk N0 sa H.size qf36 (hA _ g_f36)) kw_46 kw_47 kw_2 kw_48 rfl (n := 0) (by decide +kernel) rfl ⟨⟨rfl, rfl⟩, ⟨by decide, by decide⟩, by decide, by decide⟩ rfl (Nat.le_of_ble_eq_true rfl) f36 dX3_init_102) hS (inA1.to g_f36) hn (fun H locs hR hz hk hS => ?_)
  have f0 := f0.kept (hk _ f0.lt (inA1.not (Nat.ne_of_lt l_f0_f36) f0.lt))
  have f1 := f1.kept (hk _ f1.lt (inA1.not (Nat.ne_of_lt l_f1_f36) f1.lt))
  have f3 := f3.kept (hk _ f3.lt (inA1.not (Nat.ne_of_lt l_f3_f36) f3.lt))
  have f6 := f6.kept (hk _ f6.lt (inA1.not (Nat.ne_of_lt l_f6_f36) f6.lt))
  have f9 := f9.kept (hk _ f9.lt (inA1.not (Nat.ne_of_lt l_f9_f36) f9.lt))
  have f12 := f12.kept (hk _ f12.lt (inA1.not (Nat.ne_of_lt l_f12_f36) f12.lt))
  have f15 := f15.kept (hk _ f15.lt (inA1.not (Nat.ne_of_lt l_f15_f36) f15.lt))
  have f18 := f18.kept (hk _ f18.lt (inA1.not (Nat.ne_of_lt l_f18_f36) f18.lt))
  have f21 := f21.kept (hk _ f21.lt (inA1.not (Nat.ne_of_lt l_f21_f36) f21.lt))
  have f23 := f23.kept (hk _ f23.lt (inA1.not (Nat.ne_of_lt l_f23_f36) f23.lt))
  have f24 := f24.kept (hk _ f24.lt (inA1.not (Nat.ne_of_lt l_f24_f36) f24.lt))
  have f26 := f26.kept (hk _ f26.lt (inA1.not (Nat.ne_of_lt l_f26_f36) f26.lt))
  have f27 := f27.kept (hk _ f27.lt (inA1.not (Nat.ne_of_lt l_f27_f36) f27.lt))
  have f28 := f28.kept (hk _ f28.lt (inA1.not (Nat.ne_of_lt l_f28_f36) f28.lt))
  have f29 := f29.kept (hk _ f29.lt (inA1.not (Nat.ne_of_lt l_f29_f36) f29.lt))
  have f30 := f30.kept (hk _ f30.lt (inA1.not (Nat.ne_of_lt l_f30_f36) f30.lt))
  have f31 := f31.kept (hk _ f31.lt (inA1.not (Nat.ne_of_lt l_f31_f36) f31.lt))
  have f32 := f32.kept (hk _ f32.lt (inA1.not (Nat.ne_of_lt l_f32_f36) f32.lt))
  have f34 := f34.kept (hk _ f34.lt (inA1.not (Nat.ne_of_lt l_f34_f36) f34.lt))
  have f36 := hR
  refine r_putF (pc := 105) E hC (hnm.trans rfl) f0 hS g_f0 7 tyX3 tyX3_ok nmX3 rfl (by decide) (Nat.le_of_ble_eq_true rfl) uX3 (List.mem_cons_of_mem _ kw_121) (fun _ h => h) rfl rfl rfl rfl dX3_init_105 (fun H locs n_ ho hz hS => ?_)
  have f0 : c1 D a (.inr (11, [.ref qf1, .ref qf21, .ref qf24, .int 0, .int 0, .ref qf32, .ref qf34, .ref qf36, .null])) H := n_
  have f1 := f1.kept (ho _ (Nat.ne_of_gt l_f0_f1))
  have f3 := f3.kept (ho _ (Nat.ne_of_gt l_f0_f3))
  have f6 := f6.kept (ho _ (Nat.ne_of_gt l_f0_f6))
  have f9 := f9.kept (ho _ (Nat.ne_of_gt l_f0_f9))
  have f12 := f12.kept (ho _ (Nat.ne_of_gt l_f0_f12))
  have f15 := f15.kept (ho _ (Nat.ne_of_gt l_f0_f15))
  have f18 := f18.kept (ho _ (Nat.ne_of_gt l_f0_f18))
  have f21 := f21.kept (ho _ (Nat.ne_of_gt l_f0_f21))
  have f23 := f23.kept (ho _ (Nat.ne_of_gt l_f0_f23))
  have f24 := f24.kept (ho _ (Nat.ne_of_gt l_f0_f24))
  have f26 := f26.kept (ho _ (Nat.ne_of_gt l_f0_f26))
  have f27 := f27.kept (ho _ (Nat.ne_of_gt l_f0_f27))
  have f28 := f28.kept (ho _ (Nat.ne_of_gt l_f0_f28))
  have f29 := f29.kept (ho _ (Nat.ne_of_gt l_f0_f29))
  have f30 := f30.kept (ho _ (Nat.ne_of_gt l_f0_f30))
  have f31 := f31.kept (ho _ (Nat.ne_of_gt l_f0_f31))
  have f32 := f32.kept (ho _ (Nat.ne_of_gt l_f0_f32))
  have f34 := f34.kept (ho _ (Nat.ne_of_gt l_f0_f34))
  have f36 := f36.kept (ho _ (Nat.ne_of_gt l_f0_f36))
  refine lv_aload_n (pc := 108) hx hb dX3_init_108 rfl (lv_at hl 1 rfl) ?_
  have hS0_ := hS
  refine r_new (pc := 109) E hC hS tyX2_ok uX2 (List.mem_cons_of_mem _ kw_61) (List.mem_cons_of_mem _ kw_62) (List.mem_cons_of_mem _ kw_3) (ci := 10) rfl (fs := [.null, .int 0]) (by decide) (by decide) (by decide) dX3_init_109 (fun qf38 H zq_ n_ ho_ hS => ?_)
  have l_f0_f38 : a < qf38 := zq_ ▸ f0.lt
  have f0 := f0.kept (ho_ _ f0.lt)
  have l_f1_f38 : qf1 < qf38 := zq_ ▸ f1.lt
  have f1 := f1.kept (ho_ _ f1.lt)
  have l_f3_f38 : qf3 < qf38 := zq_ ▸ f3.lt
  have f3 := f3.kept (ho_ _ f3.lt)
  have l_f6_f38 : qf6 < qf38 := zq_ ▸ f6.lt
  have f6 := f6.kept (ho_ _ f6.lt)
  have l_f9_f38 : qf9 < qf38 := zq_ ▸ f9.lt
  have f9 := f9.kept (ho_ _ f9.lt)
  have l_f12_f38 : qf12 < qf38 := zq_ ▸ f12.lt
  have f12 := f12.kept (ho_ _ f12.lt)
  have l_f15_f38 : qf15 < qf38 := zq_ ▸ f15.lt
  have f15 := f15.kept (ho_ _ f15.lt)
  have l_f18_f38 : qf18 < qf38 := zq_ ▸ f18.lt
  have f18 := f18.kept (ho_ _ f18.lt)
  have l_f21_f38 : qf21 < qf38 := zq_ ▸ f21.lt
  have f21 := f21.kept (ho_ _ f21.lt)
  have l_f23_f38 : qf23 < qf38 := zq_ ▸ f23.lt
  have f23 := f23.kept (ho_ _ f23.lt)
  have l_f24_f38 : qf24 < qf38 := zq_ ▸ f24.lt
  have f24 := f24.kept (ho_ _ f24.lt)
  have l_f26_f38 : qf26 < qf38 := zq_ ▸ f26.lt
  have f26 := f26.kept (ho_ _ f26.lt)
  have l_f27_f38 : qf27 < qf38 := zq_ ▸ f27.lt
  have f27 := f27.kept (ho_ _ f27.lt)
  have l_f28_f38 : qf28 < qf38 := zq_ ▸ f28.lt
  have f28 := f28.kept (ho_ _ f28.lt)
  have l_f29_f38 : qf29 < qf38 := zq_ ▸ f29.lt
  have f29 := f29.kept (ho_ _ f29.lt)
  have l_f30_f38 : qf30 < qf38 := zq_ ▸ f30.lt
  have f30 := f30.kept (ho_ _ f30.lt)
  have l_f31_f38 : qf31 < qf38 := zq_ ▸ f31.lt
  have f31 := f31.kept (ho_ _ f31.lt)
  have l_f32_f38 : qf32 < qf38 := zq_ ▸ f32.lt
  have f32 := f32.kept (ho_ _ f32.lt)
  have l_f34_f38 : qf34 < qf38 := zq_ ▸ f34.lt
  have f34 := f34.kept (ho_ _ f34.lt)
  have l_f36_f38 : qf36 < qf38 := zq_ ▸ f36.lt
  have f36 := f36.kept (ho_ _ f36.lt)
  have f38 := n_
  have s_f38 : s.heap.size ≤ qf38 := zq_ ▸ hS0_.1
  have g_f38 := hn _ s_f38
  refine lv_dup (pc := 112) hx hb dX3_init_112 rfl ?_
  have hZ0_ := hS.1
  refine k_v (pc := 113) (k_I E hC hS hA hl.1 (c_X2_init l D tk N0 sa H.size qf38 (hA _ g_f38)) kw_63 kw_64 kw_3 kw_65 rfl (n := 0) (by decide +kernel) rfl ⟨⟨rfl, rfl⟩, ⟨by decide, by decide⟩, by decide, by decide⟩ rfl (Nat.le_of_ble_eq_true rfl) f38 dX3_init_113) hS (inA1.to g_f38) hn (fun H locs hR hz hk hS => ?_)
  obtain ⟨qf40, z_, n_, f40⟩ := hR
  have l_f0_f40 := Nat.lt_of_lt_of_le f0.lt z_
  have l_f1_f40 := Nat.lt_of_lt_of_le f1.lt z_
  have l_f3_f40 := Nat.lt_of_lt_of_le f3.lt z_
  have l_f6_f40 := Nat.lt_of_lt_of_le f6.lt z_
  have l_f9_f40 := Nat.lt_of_lt_of_le f9.lt z_
  have l_f12_f40 := Nat.lt_of_lt_of_le f12.lt z_
  have l_f15_f40 := Nat.lt_of_lt_of_le f15.lt z_
  have l_f18_f40 := Nat.lt_of_lt_of_le f18.lt z_
  have l_f21_f40 := Nat.lt_of_lt_of_le f21.lt z_
  have l_f23_f40 := Nat.lt_of_lt_of_le f23.lt z_
  have l_f24_f40 := Nat.lt_of_lt_of_le f24.lt z_
  have l_f26_f40 := Nat.lt_of_lt_of_le f26.lt z_
  have l_f27_f40 := Nat.lt_of_lt_of_le f27.lt z_
  have l_f28_f40 := Nat.lt_of_lt_of_le f28.lt z_
  have l_f29_f40 := Nat.lt_of_lt_of_le f29.lt z_
  have l_f30_f40 := Nat.lt_of_lt_of_le f30.lt z_
  have l_f31_f40 := Nat.lt_of_lt_of_le f31.lt z_
  have l_f32_f40 := Nat.lt_of_lt_of_le f32.lt z_
  have l_f34_f40 := Nat.lt_of_lt_of_le f34.lt z_
  have l_f36_f40 := Nat.lt_of_lt_of_le f36.lt z_
  have l_f38_f40 := Nat.lt_of_lt_of_le f38.lt z_
  have s_f40 := Nat.le_trans hZ0_ z_
  have g_f40 := hn _ s_f40
  have f0 := f0.kept (hk _ f0.lt (inA1.not (Nat.ne_of_lt l_f0_f38) f0.lt))
  have f1 := f1.kept (hk _ f1.lt (inA1.not (Nat.ne_of_lt l_f1_f38) f1.lt))
  have f3 := f3.kept (hk _ f3.lt (inA1.not (Nat.ne_of_lt l_f3_f38) f3.lt))
  have f6 := f6.kept (hk _ f6.lt (inA1.not (Nat.ne_of_lt l_f6_f38) f6.lt))
  have f9 := f9.kept (hk _ f9.lt (inA1.not (Nat.ne_of_lt l_f9_f38) f9.lt))
  have f12 := f12.kept (hk _ f12.lt (inA1.not (Nat.ne_of_lt l_f12_f38) f12.lt))
  have f15 := f15.kept (hk _ f15.lt (inA1.not (Nat.ne_of_lt l_f15_f38) f15.lt))
  have f18 := f18.kept (hk _ f18.lt (inA1.not (Nat.ne_of_lt l_f18_f38) f18.lt))
  have f21 := f21.kept (hk _ f21.lt (inA1.not (Nat.ne_of_lt l_f21_f38) f21.lt))
  have f23 := f23.kept (hk _ f23.lt (inA1.not (Nat.ne_of_lt l_f23_f38) f23.lt))
  have f24 := f24.kept (hk _ f24.lt (inA1.not (Nat.ne_of_lt l_f24_f38) f24.lt))
  have f26 := f26.kept (hk _ f26.lt (inA1.not (Nat.ne_of_lt l_f26_f38) f26.lt))
  have f27 := f27.kept (hk _ f27.lt (inA1.not (Nat.ne_of_lt l_f27_f38) f27.lt))
  have f28 := f28.kept (hk _ f28.lt (inA1.not (Nat.ne_of_lt l_f28_f38) f28.lt))
  have f29 := f29.kept (hk _ f29.lt (inA1.not (Nat.ne_of_lt l_f29_f38) f29.lt))
  have f30 := f30.kept (hk _ f30.lt (inA1.not (Nat.ne_of_lt l_f30_f38) f30.lt))
  have f31 := f31.kept (hk _ f31.lt (inA1.not (Nat.ne_of_lt l_f31_f38) f31.lt))
  have f32 := f32.kept (hk _ f32.lt (inA1.not (Nat.ne_of_lt l_f32_f38) f32.lt))
  have f34 := f34.kept (hk _ f34.lt (inA1.not (Nat.ne_of_lt l_f34_f38) f34.lt))
  have f36 := f36.kept (hk _ f36.lt (inA1.not (Nat.ne_of_lt l_f36_f38) f36.lt))
  have f38 := n_
  refine r_putF (pc := 116) E hC (hnm.trans rfl) f0 hS g_f0 8 tyX3 tyX3_ok nmX3 rfl (by decide) (Nat.le_of_ble_eq_true rfl) uX3 (List.mem_cons_of_mem _ kw_122) (fun _ h => h) rfl rfl rfl rfl dX3_init_116 (fun H locs n_ ho hz hS => ?_)
  have f0 : c1 D a (.inr (11, [.ref qf1, .ref qf21, .ref qf24, .int 0, .int 0, .ref qf32, .ref qf34, .ref qf36, .ref qf38])) H := n_
  have f1 := f1.kept (ho _ (Nat.ne_of_gt l_f0_f1))
  have f3 := f3.kept (ho _ (Nat.ne_of_gt l_f0_f3))
  have f6 := f6.kept (ho _ (Nat.ne_of_gt l_f0_f6))
  have f9 := f9.kept (ho _ (Nat.ne_of_gt l_f0_f9))
  have f12 := f12.kept (ho _ (Nat.ne_of_gt l_f0_f12))
  have f15 := f15.kept (ho _ (Nat.ne_of_gt l_f0_f15))
  have f18 := f18.kept (ho _ (Nat.ne_of_gt l_f0_f18))
  have f21 := f21.kept (ho _ (Nat.ne_of_gt l_f0_f21))
  have f23 := f23.kept (ho _ (Nat.ne_of_gt l_f0_f23))
  have f24 := f24.kept (ho _ (Nat.ne_of_gt l_f0_f24))
  have f26 := f26.kept (ho _ (Nat.ne_of_gt l_f0_f26))
  have f27 := f27.kept (ho _ (Nat.ne_of_gt l_f0_f27))
  have f28 := f28.kept (ho _ (Nat.ne_of_gt l_f0_f28))
  have f29 := f29.kept (ho _ (Nat.ne_of_gt l_f0_f29))
  have f30 := f30.kept (ho _ (Nat.ne_of_gt l_f0_f30))
  have f31 := f31.kept (ho _ (Nat.ne_of_gt l_f0_f31))
  have f32 := f32.kept (ho _ (Nat.ne_of_gt l_f0_f32))
  have f34 := f34.kept (ho _ (Nat.ne_of_gt l_f0_f34))
  have f36 := f36.kept (ho _ (Nat.ne_of_gt l_f0_f36))
  have f38 := f38.kept (ho _ (Nat.ne_of_gt l_f0_f38))
  have f40 := f40.kept (ho _ (Nat.ne_of_gt l_f0_f40))
  refine r_vret (pc := 119) E hr hlk hS (by decide) (by decide) ?_ dX3_init_119
  have hL : ∀ i, i < 21 → ([a, qf1, qf3, qf6, qf9, qf12, qf15, qf18, qf21, qf23, qf24, qf26, qf27, qf28, qf29, qf30, qf31, qf32, qf34, qf36, qf38, qf40] : List Nat).getD i 0 < ([a, qf1, qf3, qf6, qf9, qf12, qf15, qf18, qf21, qf23, qf24, qf26, qf27, qf28, qf29, qf30, qf31, qf32, qf34, qf36, qf38, qf40] : List Nat).getD (i + 1) 0 := by
    intro i hi
    match i, hi with
    | 0, _ => exact l_f0_f1
    | 1, _ => exact l_f1_f3
    | 2, _ => exact l_f3_f6
    | 3, _ => exact l_f6_f9
    | 4, _ => exact l_f9_f12
    | 5, _ => exact l_f12_f15
    | 6, _ => exact l_f15_f18
    | 7, _ => exact l_f18_f21
    | 8, _ => exact l_f21_f23
    | 9, _ => exact l_f23_f24
    | 10, _ => exact l_f24_f26
    | 11, _ => exact l_f26_f27
    | 12, _ => exact l_f27_f28
    | 13, _ => exact l_f28_f29
    | 14, _ => exact l_f29_f30
    | 15, _ => exact l_f30_f31
    | 16, _ => exact l_f31_f32
    | 17, _ => exact l_f32_f34
    | 18, _ => exact l_f34_f36
    | 19, _ => exact l_f36_f38
    | 20, _ => exact l_f38_f40
    | i + 21, hi => exact absurd hi (by omega)
  have hrow := c1.ext (g := fun k => some (adOf [a, qf1, qf3, qf6, qf9, qf12, qf15, qf18, qf21, qf23, qf24, qf26, qf27, qf28, qf29, qf30, qf31, qf32, qf34, qf36, qf38, qf40] k)) f1 (by
    intro k hk
    match k, hk with
    | 0, _ => rfl
    | 1, _ => rfl
    | 2, _ => rfl
    | 3, _ => rfl
    | 4, _ => rfl
    | 5, _ => rfl
    | k + 6, hk => exact absurd hk (by omega))
  exact ⟨adOf [a, qf1, qf3, qf6, qf9, qf12, qf15, qf18, qf21, qf23, qf24, qf26, qf27, qf28, qf29, qf30, qf31, qf32, qf34, qf36, qf38, qf40], ADok.of hL ha9, rfl, ADok.new hL s_f1, CW.mk22 f3 f6 f9 f12 f15 f18 f32 f34 f36 f26 f27 f28 f29 f30 f31 f0 hrow f21 f23 f38 f40 f24⟩
