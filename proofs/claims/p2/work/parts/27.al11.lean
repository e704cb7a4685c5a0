set_option maxHeartbeats 4000000 in
set_option maxRecDepth 100000 in
/-- java/util/ArrayList.grow(I)[Ljava/lang/Object; -/
theorem c_Jx4a65c_grow_92f84_E (l : Launch) (D : va_G) (tk : Nat → ClassId) (N0 : Nat) (sa : Nat → Nat)  (sz : Nat) (a : Nat) (md ml : Int32) (ha9 : N0 ≤ a) (hml : ml = 1) : Met l yJx4a65c_grow_92f84 (wsy yJx4a65c_grow_92f84 cJx4a65c_grow_92f84 4 (some (.array (.object "java/lang/Object")))) ({ frames := 1, cells := 1, slots := 10, locals := 21 } : Room) (cP D tk N0 sa [.ref a, .int ml] sz (fun H => c1 D a (.inr (7, [.int md, .ref (sa 1), .int 0])) H)) (kQr (fun r H => ∃ q, r = q ∧ sz ≤ q ∧ c1 D a (.inr (7, [.int md, .ref q, .int 0])) H ∧ c1 D q (.inl (tk 4, 10, .inr (.inr (.inr (.inr (fun _ => none)))))) H) (inA1 a sz)) (1) (10) (inA1 a sz) := by
  refine mStart RJx4a65c rfl (by decide +kernel) (Nat.le_of_ble_eq_true rfl) ?_
  intro p e s m args below meth c E hr hlk hnm hsz hC hF ls hl
  subst hsz
  obtain ⟨hx, hb, -⟩ := id E
  have hA : ∀ q, (inA1 a s.heap.size) q → N0 ≤ q := fun q h => h.elim (fun z => z ▸ ha9) (fun z => Nat.le_trans hC.2.1 z)
  have hn : ∀ q, s.heap.size ≤ q → (inA1 a s.heap.size) q := fun q h => Or.inr h
  have hS : va_S (inA1 a s.heap.size) s.heap s.heap [] := va_S.rf
  have hl : lv_has ls 4 [(0, .ref a), (1, .int ml)] := hl
  have f0 : c1 D a (.inr (7, [.int md, .ref (sa 1), .int 0])) s.heap := hF
  have g_f0 : (inA1 a s.heap.size) a := Or.inl rfl
  refine lv_aload_n (pc := 0) hx hb dJx4a65c_grow_92f84_0 rfl (lv_at hl 0 rfl) ?_
  refine r_get (pc := 1) E hC f0 1 (v := .ref (sa 1)) rfl rfl (by decide) uJx4a65c (List.mem_cons_of_mem _ kw_1184) (fun _ h => h) dJx4a65c_grow_92f84_1 ?_
  refine va_tlen (pc := 4) hx hb (hC.al.2.narrow hA) hS (v := 0) rfl dJx4a65c_grow_92f84_4 ?_
  refine lv_istore_n (pc := 5) (lv' := [(2, .int 0), (0, .ref a), (1, .int ml)]) hx hb dJx4a65c_grow_92f84_5 rfl hl (by decide) rfl (fun ls hl => ?_)
  refine lv_iload_n (pc := 6) hx hb dJx4a65c_grow_92f84_6 rfl (lv_at hl 0 rfl) ?_
  refine lv_if_gt (pc := 7) (tgt := 20) hx hb dJx4a65c_grow_92f84_7 (by decide) (fun c_1 => ?_) (fun c_1 => ?_)
  · exact absurd c_1 (by decide)
  refine lv_aload_n (pc := 10) hx hb dJx4a65c_grow_92f84_10 rfl (lv_at hl 1 rfl) ?_
  refine r_get (pc := 11) E hC f0 1 (v := .ref (sa 1)) rfl rfl (by decide) uJx4a65c (List.mem_cons_of_mem _ kw_1184) (fun _ h => h) dJx4a65c_grow_92f84_11 ?_
  refine va_gets (pc := 14) hx hb (hC.al.1.narrow hA) hS E.2.2.2.1 (E.2.2.2.2 _ (List.mem_cons_of_mem _ kw_1182)) (fun _ h => h) dJx4a65c_grow_92f84_14 ?_
  refine lv_acmp_eq (pc := 17) (rx := (some (sa 1))) (ry := (some (sa 1))) (tgt := 45) hx hb dJx4a65c_grow_92f84_17 (by decide) (fun _ => ?_) (fun c9 => absurd rfl c9)
  refine lv_aload_n (pc := 45) hx hb dJx4a65c_grow_92f84_45 rfl (lv_at hl 1 rfl) ?_
  refine lv_bipush (pc := 46) (v := 10) hx hb dJx4a65c_grow_92f84_46 (by decide) ?_
  refine lv_iload_n (pc := 48) hx hb dJx4a65c_grow_92f84_48 rfl (lv_at hl 2 rfl) ?_
  refine k_i (pc := 49) (k_S E hC hS hA hl.1 (c_J9_max_7cf53 l D tk N0 sa s.heap.size 10 ml ) kw_1481 kw_201 kw_9 kw_202 (n := 2) (by decide +kernel) rfl ⟨⟨rfl, rfl⟩, ⟨by decide, by decide⟩, by decide, by decide⟩ rfl (Nat.le_of_ble_eq_true rfl) trivial dJx4a65c_grow_92f84_49) hS (fun q z w => absurd w (Nat.not_le.mpr z)) hn (fun r_2 H locs hR hz hk hS => ?_)
  have er_2 := hR
  have f0 := f0.kept (hk _ f0.lt (Nat.not_le.mpr f0.lt))
  have hm9 : r_2 = 10 := by rw [er_2, hml]; decide
  have hS0_ := hS
  refine r_anewO (pc := 52) E hC hS kw_1482 (N := 10) (by rw [hm9]; decide) (by rw [hm9]; decide) (by decide) (by decide) (by decide) dJx4a65c_grow_92f84_52 (fun qf4 H zq_ n_ ho_ hS => ?_)
  have l_f0_f4 : a < qf4 := zq_ ▸ f0.lt
  have f0 := f0.kept (ho_ _ f0.lt)
  have f4 := n_
  have s_f4 : s.heap.size ≤ qf4 := zq_ ▸ hS0_.1
  have g_f4 := hn _ s_f4
  refine lv_dup_x1 (pc := 55) hx hb dJx4a65c_grow_92f84_55 rfl rfl ?_
  refine r_put (pc := 56) E hC f0 hS g_f0 1 tyJx4a65c tyJx4a65c_ok nmJx4a65c rfl (by decide) (Nat.le_of_ble_eq_true rfl) uJx4a65c (List.mem_cons_of_mem _ kw_1184) (fun _ h => h) rfl rfl rfl dJx4a65c_grow_92f84_56 (fun H locs n_ ho hz hS => ?_)
  have f4 := f4.kept (ho _ (clA.ne f4.cla f0.cl (hC.ao 7 4 rfl rfl)))
  have f0 : c1 D a (.inr (7, [.int md, .ref qf4, .int 0])) H := n_
  refine r_aret (pc := 59) E hr (Or.inr ⟨_, rfl⟩) hlk hS (by decide) (by decide) ?_ dJx4a65c_grow_92f84_59
  exact ⟨_, rfl, s_f4, f0, f4⟩
