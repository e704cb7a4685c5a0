set_option maxHeartbeats 4000000 in
set_option maxRecDepth 100000 in
/-- java/lang/Long.valueOf(J)Ljava/lang/Long; -/
theorem c_J13_valueOf_928b6 (l : Launch) (D : va_G) (tk : Nat → ClassId) (N0 : Nat) (sa : Nat → Nat)  (sz : Nat) (x : Int64) : Met l yJ13_valueOf_928b6 (wsy yJ13_valueOf_928b6 cJ13_valueOf_928b6 3 (some (.object "java/lang/Long"))) ({ frames := 3, cells := 1, slots := 1, locals := 62 } : Room) (cP D tk N0 sa [.long x] sz (fun H => True)) (kQr (fun r H => xf D 3 r 0 (.long x) H) (nwA sz)) (1) (1) (nwA sz) := by
  refine mStart RJ13 rfl (by decide +kernel) (Nat.le_of_ble_eq_true rfl) ?_
  intro p e s m args below meth c E hr hlk hnm hsz hC hF ls hl
  subst hsz
  obtain ⟨hx, hb, -⟩ := id E
  have hA : ∀ q, (nwA s.heap.size) q → N0 ≤ q := fun q h => Nat.le_trans hC.2.1 h
  have hn : ∀ q, s.heap.size ≤ q → (nwA s.heap.size) q := fun q h => h
  have hS : va_S (nwA s.heap.size) s.heap s.heap [] := va_S.rf
  have hl : lv_has ls 3 [(0, .long x)] := hl
  refine lv_sipush (pc := 0) (v := 128) hx hb dJ13_valueOf_928b6_0 (by decide) ?_
  refine lv_istore_n (pc := 3) (lv' := [(2, .int 128), (0, .long x)]) hx hb dJ13_valueOf_928b6_3 rfl hl (by decide) rfl (fun ls hl => ?_)
  refine lv_lload_n (pc := 4) hx hb dJ13_valueOf_928b6_4 rfl (lv_at hl 1 rfl) ?_
  refine lv_ldc2 (pc := 5) (v := (-128)) hx hb E.2.2.2.1 (E.2.2.2.2 _ (List.mem_cons_of_mem _ kw_1417)) dJ13_valueOf_928b6_5 ?_
  refine r_lclt (pc := 8) (tgt := 31) E dJ13_valueOf_928b6_8 dJ13_valueOf_928b6_9 (by decide) (fun c_1 => ?_) (fun c_1 => ?_)
  · have hS0_ := hS
    refine r_new (pc := 31) E hC hS tyJ13_ok uJ13 (List.mem_cons_of_mem _ kw_1421) (List.mem_cons_of_mem _ kw_1422) (List.mem_cons_of_mem _ kw_17) (ci := 3) rfl (fs := [.long 0]) (by decide) (by decide) (by decide) dJ13_valueOf_928b6_31 (fun qf2 H zq_ n_ ho_ hS => ?_)
    have f2 := n_
    have s_f2 : s.heap.size ≤ qf2 := zq_ ▸ hS0_.1
    have g_f2 := hn _ s_f2
    refine lv_dup (pc := 34) hx hb dJ13_valueOf_928b6_34 rfl ?_
    refine lv_lload_n (pc := 35) hx hb dJ13_valueOf_928b6_35 rfl (lv_at hl 1 rfl) ?_
    refine k_v (pc := 36) (k_I E hC hS hA hl.1 (c_J13_init_e45a9 l D tk N0 sa H.size qf2 x (hA _ g_f2)) kw_1423 kw_1424 kw_17 kw_1425 rfl (n := 1) (by decide +kernel) rfl ⟨⟨rfl, rfl⟩, ⟨by decide, by decide⟩, by decide, by decide⟩ rfl (Nat.le_of_ble_eq_true rfl) f2 dJ13_valueOf_928b6_36) hS (inA1.to g_f2) hn (fun H locs hR hz hk hS => ?_)
    have f2 := hR
    refine r_aret (pc := 39) E hr (Or.inl ⟨_, rfl⟩) hlk hS (by decide) (by decide) ?_ dJ13_valueOf_928b6_39
    exact c1.xf f2 rfl 0 (by decide) rfl
  · refine lv_lload_n (pc := 12) hx hb dJ13_valueOf_928b6_12 rfl (lv_at hl 1 rfl) ?_
    refine lv_ldc2 (pc := 13) (v := 127) hx hb E.2.2.2.1 (E.2.2.2.2 _ (List.mem_cons_of_mem _ kw_1418)) dJ13_valueOf_928b6_13 ?_
    refine r_lcgt (pc := 16) (tgt := 31) E dJ13_valueOf_928b6_16 dJ13_valueOf_928b6_17 (by decide) (fun c_4 => ?_) (fun c_4 => ?_)
    · have hS0_ := hS
      refine r_new (pc := 31) E hC hS tyJ13_ok uJ13 (List.mem_cons_of_mem _ kw_1421) (List.mem_cons_of_mem _ kw_1422) (List.mem_cons_of_mem _ kw_17) (ci := 3) rfl (fs := [.long 0]) (by decide) (by decide) (by decide) dJ13_valueOf_928b6_31 (fun qf5 H zq_ n_ ho_ hS => ?_)
      have f5 := n_
      have s_f5 : s.heap.size ≤ qf5 := zq_ ▸ hS0_.1
      have g_f5 := hn _ s_f5
      refine lv_dup (pc := 34) hx hb dJ13_valueOf_928b6_34 rfl ?_
      refine lv_lload_n (pc := 35) hx hb dJ13_valueOf_928b6_35 rfl (lv_at hl 1 rfl) ?_
      refine k_v (pc := 36) (k_I E hC hS hA hl.1 (c_J13_init_e45a9 l D tk N0 sa H.size qf5 x (hA _ g_f5)) kw_1423 kw_1424 kw_17 kw_1425 rfl (n := 1) (by decide +kernel) rfl ⟨⟨rfl, rfl⟩, ⟨by decide, by decide⟩, by decide, by decide⟩ rfl (Nat.le_of_ble_eq_true rfl) f5 dJ13_valueOf_928b6_36) hS (inA1.to g_f5) hn (fun H locs hR hz hk hS => ?_)
      have f5 := hR
      refine r_aret (pc := 39) E hr (Or.inl ⟨_, rfl⟩) hlk hS (by decide) (by decide) ?_ dJ13_valueOf_928b6_39
      exact c1.xf f5 rfl 0 (by decide) rfl
    · obtain ⟨j9, hj1, hj2, hj3⟩ := bxj c_1 c_4
      refine va_gets (pc := 20) hx hb (hC.lca.1.narrow hA) hS E.2.2.2.1 (E.2.2.2.2 _ (List.mem_cons_of_mem _ kw_1419)) (fun _ h => h) dJ13_valueOf_928b6_20 ?_
      refine lv_lload_n (pc := 23) hx hb dJ13_valueOf_928b6_23 rfl (lv_at hl 1 rfl) ?_
      refine lv_l2i (pc := 24) (v := x.toInt32) hx hb dJ13_valueOf_928b6_24 rfl ?_
      refine lv_sipush (pc := 25) (v := 128) hx hb dJ13_valueOf_928b6_25 (by decide) ?_
      refine lv_iadd (pc := 28) hx hb dJ13_valueOf_928b6_28 ?_
      refine vb_tq (pc := 29) hx hb (hC.lca.2.narrow hA) hS (by rw [hj2]; exact vp_in_nI hj1 (by decide)) (v := .ref (sa (1000 + j9))) (by show Value.ref (sa (1000 + _)) = _; rw [hj2, nI_clamp (by omega)]) dJ13_valueOf_928b6_29 ?_
      refine r_aret (pc := 30) E hr (Or.inl ⟨_, rfl⟩) hlk hS (by decide) (by decide) ?_ dJ13_valueOf_928b6_30
      exact (by rw [hj3]; exact hC.boxJ hS hA hj1)
