set_option maxHeartbeats 4000000 in
set_option maxRecDepth 100000 in
/-- java/lang/Integer.<init>(I)V -/
theorem c_J6_init_d00df (l : Launch) (D : va_G) (tk : Nat → ClassId) (N0 : Nat) (sa : Nat → Nat)  (sz : Nat) (a : Nat) (x : Int32) (ha9 : N0 ≤ a) : Met l yJ6_init_d00df (wsy yJ6_init_d00df cJ6_init_d00df 2 none) ({ frames := 2, cells := 0, slots := 0, locals := 40 } : Room) (cP D tk N0 sa [.ref a, .int x] sz (fun H => c1 D a (.inr (2, [.int 0])) H)) (kQv (fun H => c1 D a (.inr (2, [.int x])) H) (inA1 a sz)) (0) (0) (inA1 a sz) := by
  refine mStart RJ6 rfl (by decide +kernel) (Nat.le_of_ble_eq_true rfl) ?_
  intro p e s m args below meth c E hr hlk hnm hsz hC hF ls hl
  subst hsz
  obtain ⟨hx, hb, -⟩ := id E
  have hA : ∀ q, (inA1 a s.heap.size) q → N0 ≤ q := fun q h => h.elim (fun z => z ▸ ha9) (fun z => Nat.le_trans hC.2.1 z)
  have hn : ∀ q, s.heap.size ≤ q → (inA1 a s.heap.size) q := fun q h => Or.inr h
  have hS : va_S (inA1 a s.heap.size) s.heap s.heap [] := va_S.rf
  have hl : lv_has ls 2 [(0, .ref a), (1, .int x)] := hl
  have f0 : c1 D a (.inr (2, [.int 0])) s.heap := hF
  have g_f0 : (inA1 a s.heap.size) a := Or.inl rfl
  refine lv_aload_n (pc := 0) hx hb dJ6_init_d00df_0 rfl (lv_at hl 0 rfl) ?_
  refine k_v (pc := 1) (k_I E hC hS hA hl.1 (c_Jxd2413_init_da8c8 l D tk N0 sa s.heap.size a) kw_1588 kw_1427 kw_16 kw_1428 rfl (n := 0) (by decide +kernel) rfl ⟨⟨rfl, rfl⟩, ⟨by decide, by decide⟩, by decide, by decide⟩ rfl (Nat.le_of_ble_eq_true rfl) trivial dJ6_init_d00df_1) hS (fun q z w => absurd w (Nat.not_le.mpr z)) hn (fun H locs hR hz hk hS => ?_)
  have f0 := f0.kept (hk _ f0.lt (Nat.not_le.mpr f0.lt))
  refine lv_aload_n (pc := 4) hx hb dJ6_init_d00df_4 rfl (lv_at hl 0 rfl) ?_
  refine lv_iload_n (pc := 5) hx hb dJ6_init_d00df_5 rfl (lv_at hl 1 rfl) ?_
  refine r_putF (pc := 6) E hC (hnm.trans rfl) f0 hS g_f0 0 tyJ6 tyJ6_ok nmJ6 rfl (by decide) (Nat.le_of_ble_eq_true rfl) uJ6 (List.mem_cons_of_mem _ kw_1589) (fun _ h => h) rfl rfl rfl rfl dJ6_init_d00df_6 (fun H locs n_ ho hz hS => ?_)
  have f0 : c1 D a (.inr (2, [.int x])) H := n_
  refine r_vret (pc := 9) E hr hlk hS (by decide) (by decide) ?_ dJ6_init_d00df_9
  exact f0
