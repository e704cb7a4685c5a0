set_option maxHeartbeats 4000000 in
set_option maxRecDepth 100000 in
/-- java/util/ArrayList.iterator()Ljava/util/Iterator; -/
theorem c_Jx4a65c_iterator_32c93 (l : Launch) (D : va_G) (tk : Nat → ClassId) (N0 : Nat) (sa : Nat → Nat)  (sz : Nat) (a b n : Nat) (md : Int32) : Met l yJx4a65c_iterator_32c93 (wsy yJx4a65c_iterator_32c93 cJx4a65c_iterator_32c93 1 (some (.object "java/util/Iterator"))) ({ frames := 2, cells := 1, slots := 4, locals := 41 } : Room) (cP D tk N0 sa [.ref a] sz (fun H => c1 D a (.inr (7, [.int md, .ref b, .int (nI n)])) H)) (kQr (fun r H => sz ≤ r ∧ c1 D r (.inr (6, [.int 0, .int (-1), .int md, .ref a])) H) (nwA sz)) (1) (4) (nwA sz) := by
  refine mStart RJx4a65c rfl (by decide +kernel) (Nat.le_of_ble_eq_true rfl) ?_
  intro p e s m args below meth c E hr hlk hnm hsz hC hF ls hl
  subst hsz
  obtain ⟨hx, hb, -⟩ := id E
  have hA : ∀ q, (nwA s.heap.size) q → N0 ≤ q := fun q h => Nat.le_trans hC.2.1 h
  have hn : ∀ q, s.heap.size ≤ q → (nwA s.heap.size) q := fun q h => h
  have hS : va_S (nwA s.heap.size) s.heap s.heap [] := va_S.rf
  have hl : lv_has ls 1 [(0, .ref a)] := hl
  have f0 : c1 D a (.inr (7, [.int md, .ref b, .int (nI n)])) s.heap := hF
  have hS0_ := hS
  refine r_new (pc := 0) E hC hS tyJx35411_ok uJx35411 (List.mem_cons_of_mem _ kw_1490) (List.mem_cons_of_mem _ kw_1491) (List.mem_cons_of_mem _ kw_29) (ci := 6) rfl (fs := [.int 0, .int 0, .int 0, .null]) (by decide) (by decide) (by decide) dJx4a65c_iterator_32c93_0 (fun qf1 H zq_ n_ ho_ hS => ?_)
  have l_f0_f1 : a < qf1 := zq_ ▸ f0.lt
  have f0 := f0.kept (ho_ _ f0.lt)
  have f1 := n_
  have s_f1 : s.heap.size ≤ qf1 := zq_ ▸ hS0_.1
  have g_f1 := hn _ s_f1
  refine lv_dup (pc := 3) hx hb dJx4a65c_iterator_32c93_3 rfl ?_
  refine lv_aload_n (pc := 4) hx hb dJx4a65c_iterator_32c93_4 rfl (lv_at hl 0 rfl) ?_
  refine k_v (pc := 5) (k_I E hC hS hA hl.1 (c_Jx35411_init_45d68 l D tk N0 sa H.size qf1 a b n md (hA _ g_f1)) kw_1492 kw_1493 kw_29 kw_1494 rfl (n := 1) (by decide +kernel) rfl ⟨⟨rfl, rfl⟩, ⟨by decide, by decide⟩, by decide, by decide⟩ rfl (Nat.le_of_ble_eq_true rfl) ⟨f1, f0⟩ dJx4a65c_iterator_32c93_5) hS (inA1.to g_f1) hn (fun H locs hR hz hk hS => ?_)
  have f0 := f0.kept (hk _ f0.lt (inA1.not (clA.ne f0.cl f1.cl (hC.oo 7 6 rfl rfl (by decide))) f0.lt))
  have f1 := hR
  refine r_aret (pc := 8) E hr (Or.inl ⟨_, rfl⟩) hlk hS (by decide) (by decide) ?_ dJx4a65c_iterator_32c93_8
  exact ⟨s_f1, f1⟩
