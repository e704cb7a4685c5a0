set_option maxHeartbeats 4000000 in
set_option maxRecDepth 100000 in
/-- java/lang/Integer.valueOf(I)Ljava/lang/Integer; -/
theorem c_J6_valueOf_2dffe (l : Launch) (D : va_G) (tk : Nat → ClassId) (N0 : Nat) (sa : Nat → Nat)  (sz : Nat) (x : Int32) : Met l yJ6_valueOf_2dffe (wsy yJ6_valueOf_2dffe cJ6_valueOf_2dffe 1 (some (.object "java/lang/Integer"))) ({ frames := 3, cells := 1, slots := 1, locals := 61 } : Room) (cP D tk N0 sa [.int x] sz (fun H => True)) (kQr (fun r H => xf D 2 r 0 (.int x) H) (nwA sz)) (1) (1) (nwA sz) := by
  refine mStart RJ6 rfl (by decide +kernel) (Nat.le_of_ble_eq_true rfl) ?_
  intro p e s m args below meth c E hr hlk hnm hsz hC hF ls hl
  subst hsz
  obtain ⟨hx, hb, -⟩ := id E
  have hA : ∀ q, (nwA s.heap.size) q → N0 ≤ q := fun q h => Nat.le_trans hC.2.1 h
  have hn : ∀ q, s.heap.size ≤ q → (nwA s.heap.size) q := fun q h => h
  have hS : va_S (nwA s.heap.size) s.heap s.heap [] := va_S.rf
  have hl : lv_has ls 1 [(0, .int x)] := hl
  refine lv_iload_n (pc := 0) hx hb dJ6_valueOf_2dffe_0 rfl (lv_at hl 0 rfl) ?_
  refine lv_bipush (pc := 1) (v := (-128)) hx hb dJ6_valueOf_2dffe_1 (by decide) ?_
  refine lv_icmp_lt (pc := 3) (tgt := 23) hx hb dJ6_valueOf_2dffe_3 (by decide) (fun c_1 => ?_) (fun c_1 => ?_)
  · have hS0_ := hS
    refine r_new (pc := 23) E hC hS tyJ6_ok uJ6 (List.mem_cons_of_mem _ kw_1583) (List.mem_cons_of_mem _ kw_1584) (List.mem_cons_of_mem _ kw_22) (ci := 2) rfl (fs := [.int 0]) (by decide) (by decide) (by decide) dJ6_valueOf_2dffe_23 (fun qf2 H zq_ n_ ho_ hS => ?_)
    have f2 := n_
    have s_f2 : s.heap.size ≤ qf2 := zq_ ▸ hS0_.1
    have g_f2 := hn _ s_f2
    refine lv_dup (pc := 26) hx hb dJ6_valueOf_2dffe_26 rfl ?_
    refine lv_iload_n (pc := 27) hx hb dJ6_valueOf_2dffe_27 rfl (lv_at hl 0 rfl) ?_
    refine k_v (pc := 28) (k_I E hC hS hA hl.1 (c_J6_init_d00df l D tk N0 sa H.size qf2 x (hA _ g_f2)) kw_1585 kw_1586 kw_22 kw_1587 rfl (n := 1) (by decide +kernel) rfl ⟨⟨rfl, rfl⟩, ⟨by decide, by decide⟩, by decide, by decide⟩ rfl (Nat.le_of_ble_eq_true rfl) f2 dJ6_valueOf_2dffe_28) hS (inA1.to g_f2) hn (fun H locs hR hz hk hS => ?_)
    have f2 := hR
    refine r_aret (pc := 31) E hr (Or.inl ⟨_, rfl⟩) hlk hS (by decide) (by decide) ?_ dJ6_valueOf_2dffe_31
    exact c1.xf f2 rfl 0 (by decide) rfl
  · refine lv_iload_n (pc := 6) hx hb dJ6_valueOf_2dffe_6 rfl (lv_at hl 0 rfl) ?_
    refine va_gets (pc := 7) hx hb (hC.ihi.narrow hA) hS E.2.2.2.1 (E.2.2.2.2 _ (List.mem_cons_of_mem _ kw_1579)) (fun _ h => h) dJ6_valueOf_2dffe_7 ?_
    refine lv_icmp_gt (pc := 10) (tgt := 23) hx hb dJ6_valueOf_2dffe_10 (by decide) (fun c_4 => ?_) (fun c_4 => ?_)
    · have hS0_ := hS
      refine r_new (pc := 23) E hC hS tyJ6_ok uJ6 (List.mem_cons_of_mem _ kw_1583) (List.mem_cons_of_mem _ kw_1584) (List.mem_cons_of_mem _ kw_22) (ci := 2) rfl (fs := [.int 0]) (by decide) (by decide) (by decide) dJ6_valueOf_2dffe_23 (fun qf5 H zq_ n_ ho_ hS => ?_)
      have f5 := n_
      have s_f5 : s.heap.size ≤ qf5 := zq_ ▸ hS0_.1
      have g_f5 := hn _ s_f5
      refine lv_dup (pc := 26) hx hb dJ6_valueOf_2dffe_26 rfl ?_
      refine lv_iload_n (pc := 27) hx hb dJ6_valueOf_2dffe_27 rfl (lv_at hl 0 rfl) ?_
      refine k_v (pc := 28) (k_I E hC hS hA hl.1 (c_J6_init_d00df l D tk N0 sa H.size qf5 x (hA _ g_f5)) kw_1585 kw_1586 kw_22 kw_1587 rfl (n := 1) (by decide +kernel) rfl ⟨⟨rfl, rfl⟩, ⟨by decide, by decide⟩, by decide, by decide⟩ rfl (Nat.le_of_ble_eq_true rfl) f5 dJ6_valueOf_2dffe_28) hS (inA1.to g_f5) hn (fun H locs hR hz hk hS => ?_)
      have f5 := hR
      refine r_aret (pc := 31) E hr (Or.inl ⟨_, rfl⟩) hlk hS (by decide) (by decide) ?_ dJ6_valueOf_2dffe_31
      exact c1.xf f5 rfl 0 (by decide) rfl
    · obtain ⟨j9, hj1, hj2, hj3⟩ := bx_small c_1 c_4
      refine va_gets (pc := 13) hx hb (hC.ica.1.narrow hA) hS E.2.2.2.1 (E.2.2.2.2 _ (List.mem_cons_of_mem _ kw_1581)) (fun _ h => h) dJ6_valueOf_2dffe_13 ?_
      refine lv_iload_n (pc := 16) hx hb dJ6_valueOf_2dffe_16 rfl (lv_at hl 0 rfl) ?_
      refine lv_sipush (pc := 17) (v := 128) hx hb dJ6_valueOf_2dffe_17 (by decide) ?_
      refine lv_iadd (pc := 20) hx hb dJ6_valueOf_2dffe_20 ?_
      refine vb_tq (pc := 21) hx hb (hC.ica.2.narrow hA) hS (by rw [hj2]; exact vp_in_nI hj1 (by decide)) (v := .ref (sa (2000 + j9))) (by show Value.ref (sa (2000 + _)) = _; rw [hj2, nI_clamp (by omega)]) dJ6_valueOf_2dffe_21 ?_
      refine r_aret (pc := 22) E hr (Or.inl ⟨_, rfl⟩) hlk hS (by decide) (by decide) ?_ dJ6_valueOf_2dffe_22
      exact (by rw [hj3]; exact hC.boxI hS hA hj1)
