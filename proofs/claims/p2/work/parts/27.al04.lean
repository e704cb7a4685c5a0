set_option maxHeartbeats 4000000 in
set_option maxRecDepth 100000 in
/-- java/util/ArrayList.<init>()V -/
theorem c_Jx4a65c_init_da8c8 (l : Launch) (D : va_G) (tk : Nat → ClassId) (N0 : Nat) (sa : Nat → Nat)  (sz : Nat) (a : Nat) (ha9 : N0 ≤ a) : Met l yJx4a65c_init_da8c8 (wsy yJx4a65c_init_da8c8 cJx4a65c_init_da8c8 1 none) ({ frames := 3, cells := 0, slots := 0, locals := 60 } : Room) (cP D tk N0 sa [.ref a] sz (fun H => c1 D a (.inr (7, [.int 0, .null, .int 0])) H)) (kQv (fun H => c1 D a (.inr (7, [.int 0, .ref (sa 1), .int 0])) H) (inA1 a sz)) (0) (0) (inA1 a sz) := by
  refine mStart RJx4a65c rfl (by decide +kernel) (Nat.le_of_ble_eq_true rfl) ?_
  intro p e s m args below meth c E hr hlk hnm hsz hC hF ls hl
  subst hsz
  obtain ⟨hx, hb, -⟩ := id E
  have hA : ∀ q, (inA1 a s.heap.size) q → N0 ≤ q := fun q h => h.elim (fun z => z ▸ ha9) (fun z => Nat.le_trans hC.2.1 z)
  have hn : ∀ q, s.heap.size ≤ q → (inA1 a s.heap.size) q := fun q h => Or.inr h
  have hS : va_S (inA1 a s.heap.size) s.heap s.heap [] := va_S.rf
  have hl : lv_has ls 1 [(0, .ref a)] := hl
  have f0 : c1 D a (.inr (7, [.int 0, .null, .int 0])) s.heap := hF
  have g_f0 : (inA1 a s.heap.size) a := Or.inl rfl
  refine lv_aload_n (pc := 0) hx hb dJx4a65c_init_da8c8_0 rfl (lv_at hl 0 rfl) ?_
  refine k_v (pc := 1) (k_I E hC hS hA hl.1 (c_Jxc12de_init_da8c8 l D tk N0 sa s.heap.size a (hA _ g_f0)) kw_1175 kw_1176 kw_7 kw_1177 rfl (n := 0) (by decide +kernel) rfl ⟨⟨rfl, rfl⟩, ⟨by decide, by decide⟩, by decide, by decide⟩ rfl (Nat.le_of_ble_eq_true rfl) f0 dJx4a65c_init_da8c8_1) hS (inA1.to g_f0) hn (fun H locs hR hz hk hS => ?_)
  have f0 := hR
  refine lv_aload_n (pc := 4) hx hb dJx4a65c_init_da8c8_4 rfl (lv_at hl 0 rfl) ?_
  refine va_gets (pc := 5) hx hb (hC.al.1.narrow hA) hS E.2.2.2.1 (E.2.2.2.2 _ (List.mem_cons_of_mem _ kw_1182)) (fun _ h => h) dJx4a65c_init_da8c8_5 ?_
  refine r_put (pc := 8) E hC f0 hS g_f0 1 tyJx4a65c tyJx4a65c_ok nmJx4a65c rfl (by decide) (Nat.le_of_ble_eq_true rfl) uJx4a65c (List.mem_cons_of_mem _ kw_1184) (fun _ h => h) rfl rfl rfl dJx4a65c_init_da8c8_8 (fun H locs n_ ho hz hS => ?_)
  have f0 : c1 D a (.inr (7, [.int 0, .ref (sa 1), .int 0])) H := n_
  refine r_vret (pc := 11) E hr hlk hS (by decide) (by decide) ?_ dJx4a65c_init_da8c8_11
  exact f0
