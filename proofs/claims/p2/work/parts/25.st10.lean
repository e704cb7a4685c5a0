set_option maxHeartbeats 4000000 in
set_option maxRecDepth 100000 in
/-- java/lang/Long.<init>(J)V -/
theorem c_J13_init_e45a9 (l : Launch) (D : va_G) (tk : Nat → ClassId) (N0 : Nat) (sa : Nat → Nat)  (sz : Nat) (a : Nat) (x : Int64) (ha9 : N0 ≤ a) : Met l yJ13_init_e45a9 (wsy yJ13_init_e45a9 cJ13_init_e45a9 3 none) ({ frames := 2, cells := 0, slots := 0, locals := 40 } : Room) (cP D tk N0 sa [.ref a, .long x] sz (fun H => c1 D a (.inr (3, [.long 0])) H)) (kQv (fun H => c1 D a (.inr (3, [.long x])) H) (inA1 a sz)) (0) (0) (inA1 a sz) := by
  refine mStart RJ13 rfl (by decide +kernel) (Nat.le_of_ble_eq_true rfl) ?_
  intro p e s m args below meth c E hr hlk hnm hsz hC hF ls hl
  subst hsz
  obtain ⟨hx, hb, -⟩ := id E
  have hA : ∀ q, (inA1 a s.heap.size) q → N0 ≤ q := fun q h => h.elim (fun z => z ▸ ha9) (fun z => Nat.le_trans hC.2.1 z)
  have hn : ∀ q, s.heap.size ≤ q → (inA1 a s.heap.size) q := fun q h => Or.inr h
  have hS : va_S (inA1 a s.heap.size) s.heap s.heap [] := va_S.rf
  have hl : lv_has ls 3 [(0, .ref a), (1, .long x)] := hl
  have f0 : c1 D a (.inr (3, [.long 0])) s.heap := hF
  have g_f0 : (inA1 a s.heap.size) a := Or.inl rfl
  refine lv_aload_n (pc := 0) hx hb dJ13_init_e45a9_0 rfl (lv_at hl 0 rfl) ?_
  refine k_v (pc := 1) (k_I E hC hS hA hl.1 (c_Jxd2413_init_da8c8 l D tk N0 sa s.heap.size a) kw_1426 kw_1427 kw_16 kw_1428 rfl (n := 0) (by decide +kernel) rfl ⟨⟨rfl, rfl⟩, ⟨by decide, by decide⟩, by decide, by decide⟩ rfl (Nat.le_of_ble_eq_true rfl) trivial dJ13_init_e45a9_1) hS (fun q z w => absurd w (Nat.not_le.mpr z)) hn (fun H locs hR hz hk hS => ?_)
  have f0 := f0.kept (hk _ f0.lt (Nat.not_le.mpr f0.lt))
  refine lv_aload_n (pc := 4) hx hb dJ13_init_e45a9_4 rfl (lv_at hl 0 rfl) ?_
  refine lv_lload_n (pc := 5) hx hb dJ13_init_e45a9_5 rfl (lv_at hl 1 rfl) ?_
  refine r_putF (pc := 6) E hC (hnm.trans rfl) f0 hS g_f0 0 tyJ13 tyJ13_ok nmJ13 rfl (by decide) (Nat.le_of_ble_eq_true rfl) uJ13 (List.mem_cons_of_mem _ kw_1430) (fun _ h => h) rfl rfl rfl rfl dJ13_init_e45a9_6 (fun H locs n_ ho hz hS => ?_)
  have f0 : c1 D a (.inr (3, [.long x])) H := n_
  refine r_vret (pc := 9) E hr hlk hS (by decide) (by decide) ?_ dJ13_init_e45a9_9
  exact f0
