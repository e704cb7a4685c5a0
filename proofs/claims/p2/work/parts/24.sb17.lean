set_option maxHeartbeats 4000000 in
set_option maxRecDepth 100000 in
/-- java/lang/StringBuilder.length()I -/
theorem c_J4_length_8abf5 (l : Launch) (D : va_G) (tk : Nat → ClassId) (N0 : Nat) (sa : Nat → Nat)  (sz : Nat) (a v cap : Nat) (ml cn : Int32) : Met l yJ4_length_8abf5 (wsy yJ4_length_8abf5 cJ4_length_8abf5 1 (some .int)) ({ frames := 1, cells := 0, slots := 0, locals := 20 } : Room) (cP D tk N0 sa [.ref a] sz (fun H => SBo D a v ml cn H ∧ BA D tk v cap H)) (kQi (fun r H => r = cn) (nwA sz)) (0) (0) (nwA sz) := by
  refine mStart RJ4 rfl (by decide +kernel) (Nat.le_of_ble_eq_true rfl) ?_
  intro p e s m args below meth c E hr hlk hnm hsz hC hF ls hl
  subst hsz
  obtain ⟨hx, hb, -⟩ := id E
  have hA : ∀ q, (nwA s.heap.size) q → N0 ≤ q := fun q h => Nat.le_trans hC.2.1 h
  have hn : ∀ q, s.heap.size ≤ q → (nwA s.heap.size) q := fun q h => h
  have hS : va_S (nwA s.heap.size) s.heap s.heap [] := va_S.rf
  have hl : lv_has ls 1 [(0, .ref a)] := hl
  obtain ⟨f0, hB⟩ : SBo D a v ml cn s.heap ∧ BA D tk v cap s.heap := hF
  refine lv_aload_n (pc := 0) hx hb dJ4_length_8abf5_0 rfl (lv_at hl 0 rfl) ?_
  refine k_i (pc := 1) (k_SU (ci := 1) rfl E hC hS hA hl.1 (c1.recv hC f0 rfl) (c_J5_length_8abf5 l D tk N0 sa s.heap.size a v cap ml cn) kw_339 kw_335 kw_180 kw_334 kw_18 kw_340 (by decide) (n := 0) (by decide +kernel) rfl ⟨⟨rfl, rfl⟩, ⟨by decide, by decide⟩, by decide, by decide⟩ rfl (Nat.le_of_ble_eq_true rfl) ⟨f0, hB⟩ dJ4_length_8abf5_1) hS (fun q z w => absurd w (Nat.not_le.mpr z)) hn (fun r_1 H locs hR hz hk hS => ?_)
  have f0 := f0.kept (hk _ f0.lt (Nat.not_le.mpr f0.lt))
  have hB := hB.kept (hk _ hB.lt (Nat.not_le.mpr hB.lt))
  rw [show r_1 = cn from hR]
  refine r_iret (pc := 4) E hr hlk hS (by decide) (by decide) ?_ dJ4_length_8abf5_4
  rfl
