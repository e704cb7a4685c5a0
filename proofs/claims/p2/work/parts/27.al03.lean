set_option maxHeartbeats 4000000 in
set_option maxRecDepth 100000 in
/-- java/util/AbstractList.<init>()V -/
theorem c_Jxc12de_init_da8c8 (l : Launch) (D : va_G) (tk : Nat → ClassId) (N0 : Nat) (sa : Nat → Nat)  (sz : Nat) (a : Nat) (ha9 : N0 ≤ a) : Met l yJxc12de_init_da8c8 (wsy yJxc12de_init_da8c8 cJxc12de_init_da8c8 1 none) ({ frames := 2, cells := 0, slots := 0, locals := 40 } : Room) (cP D tk N0 sa [.ref a] sz (fun H => c1 D a (.inr (7, [.int 0, .null, .int 0])) H)) (kQv (fun H => c1 D a (.inr (7, [.int 0, .null, .int 0])) H) (inA1 a sz)) (0) (0) (inA1 a sz) := by
  refine mStart RJxc12de rfl (by decide +kernel) (Nat.le_of_ble_eq_true rfl) ?_
  intro p e s m args below meth c E hr hlk hnm hsz hC hF ls hl
  subst hsz
  obtain ⟨hx, hb, -⟩ := id E
  have hA : ∀ q, (inA1 a s.heap.size) q → N0 ≤ q := fun q h => h.elim (fun z => z ▸ ha9) (fun z => Nat.le_trans hC.2.1 z)
  have hn : ∀ q, s.heap.size ≤ q → (inA1 a s.heap.size) q := fun q h => Or.inr h
  have hS : va_S (inA1 a s.heap.size) s.heap s.heap [] := va_S.rf
  have hl : lv_has ls 1 [(0, .ref a)] := hl
  have f0 : c1 D a (.inr (7, [.int 0, .null, .int 0])) s.heap := hF
  have g_f0 : (inA1 a s.heap.size) a := Or.inl rfl
  refine lv_aload_n (pc := 0) hx hb dJxc12de_init_da8c8_0 rfl (lv_at hl 0 rfl) ?_
  refine k_v (pc := 1) (k_I E hC hS hA hl.1 (c_Jxa1e45_init_da8c8 l D tk N0 sa s.heap.size a) kw_1178 kw_1179 kw_6 kw_1180 rfl (n := 0) (by decide +kernel) rfl ⟨⟨rfl, rfl⟩, ⟨by decide, by decide⟩, by decide, by decide⟩ rfl (Nat.le_of_ble_eq_true rfl) trivial dJxc12de_init_da8c8_1) hS (fun q z w => absurd w (Nat.not_le.mpr z)) hn (fun H locs hR hz hk hS => ?_)
  have f0 := f0.kept (hk _ f0.lt (Nat.not_le.mpr f0.lt))
  refine lv_aload_n (pc := 4) hx hb dJxc12de_init_da8c8_4 rfl (lv_at hl 0 rfl) ?_
  refine lv_iconst (pc := 5) (v := 0) hx hb dJxc12de_init_da8c8_5 (by decide) ?_
  refine r_put (pc := 6) E hC f0 hS g_f0 0 tyJx4a65c tyJx4a65c_ok nmJx4a65c rfl (by decide) (Nat.le_of_ble_eq_true rfl) uJx4a65c (List.mem_cons_of_mem _ kw_1188) (fun _ h => h) rfl rfl rfl dJxc12de_init_da8c8_6 (fun H locs n_ ho hz hS => ?_)
  have f0 : c1 D a (.inr (7, [.int 0, .null, .int 0])) H := n_
  refine r_vret (pc := 9) E hr hlk hS (by decide) (by decide) ?_ dJxc12de_init_da8c8_9
  exact f0
