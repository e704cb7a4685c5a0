set_option maxHeartbeats 4000000 in
set_option maxRecDepth 100000 in
/-- java/lang/StringBuilder.<init>()V -/
theorem c_J4_init_da8c8 (l : Launch) (D : va_G) (tk : Nat → ClassId) (N0 : Nat) (sa : Nat → Nat)  (sz : Nat) (a : Nat) (ha9 : N0 ≤ a) : Met l yJ4_init_da8c8 (wsy yJ4_init_da8c8 cJ4_init_da8c8 1 none) ({ frames := 2, cells := 1, slots := 16, locals := 41 } : Room) (cP D tk N0 sa [.ref a] sz (fun H => c1 D a (.inr (1, [.null, .int 0, .int 0, .int 0])) H)) (kQv (fun H => ∃ v, sz ≤ v ∧ SBo D a v 0 0 H ∧ BA D tk v 16 H) (inA1 a sz)) (1) (16) (inA1 a sz) := by
  refine mStart RJ4 rfl (by decide +kernel) (Nat.le_of_ble_eq_true rfl) ?_
  intro p e s m args below meth c E hr hlk hnm hsz hC hF ls hl
  subst hsz
  obtain ⟨hx, hb, -⟩ := id E
  have hA : ∀ q, (inA1 a s.heap.size) q → N0 ≤ q := fun q h => h.elim (fun z => z ▸ ha9) (fun z => Nat.le_trans hC.2.1 z)
  have hn : ∀ q, s.heap.size ≤ q → (inA1 a s.heap.size) q := fun q h => Or.inr h
  have hS : va_S (inA1 a s.heap.size) s.heap s.heap [] := va_S.rf
  have hl : lv_has ls 1 [(0, .ref a)] := hl
  have f0 : c1 D a (.inr (1, [.null, .int 0, .int 0, .int 0])) s.heap := hF
  have g_f0 : (inA1 a s.heap.size) a := Or.inl rfl
  refine lv_aload_n (pc := 0) hx hb dJ4_init_da8c8_0 rfl (lv_at hl 0 rfl) ?_
  refine lv_bipush (pc := 1) (v := 16) hx hb dJ4_init_da8c8_1 (by decide) ?_
  refine k_v (pc := 3) (k_I E hC hS hA hl.1 (c_J5_init_d00df l D tk N0 sa s.heap.size a (hA _ g_f0)) kw_154 kw_155 kw_18 kw_156 rfl (n := 1) (by decide +kernel) rfl ⟨⟨rfl, rfl⟩, ⟨by decide, by decide⟩, by decide, by decide⟩ rfl (Nat.le_of_ble_eq_true rfl) f0 dJ4_init_da8c8_3) hS (inA1.to g_f0) hn (fun H locs hR hz hk hS => ?_)
  obtain ⟨qhB, z_, f0, hB⟩ := hR
  refine r_vret (pc := 6) E hr hlk hS (by decide) (by decide) ?_ dJ4_init_da8c8_6
  exact ⟨_, z_, f0, hB⟩
