set_option maxHeartbeats 4000000 in
set_option maxRecDepth 100000 in
/-- java/util/Arrays.copyOf([Ljava/lang/Object;I)[Ljava/lang/Object; -/
theorem c_J7_copyOf_1904c (l : Launch) (D : va_G) (tk : Nat → ClassId) (N0 : Nat) (sa : Nat → Nat)  (sz : Nat) (b n k ce : Nat) (nl : Int32) (f : Nat → Option Nat) (vs : Nat → Value) (hce : ce = 3 ∨ ce = 2) (hnl : nl = nI k) (hlt : n < k) (hk9 : k ≤ 100000) : Met l yJ7_copyOf_1904c (wsy yJ7_copyOf_1904c cJ7_copyOf_1904c 2 (some (.array (.object "java/lang/Object")))) ({ frames := 2, cells := 1, slots := k, locals := 49 } : Room) (cP D tk N0 sa [.ref b, .int nl] sz (fun H => c1 D b (.inl (tk 4, n, .inr (.inr (.inr (.inr f))))) H ∧ EL D ce n f vs H)) (kQr (fun r H => ∃ f1, sz ≤ r ∧ c1 D r (.inl (tk 4, k, .inr (.inr (.inr (.inr f1))))) H ∧ EL D ce n f1 vs H) (nwA sz)) (1) (k) (nwA sz) := by
  refine mStart RJ7 rfl (by decide +kernel) (Nat.le_of_ble_eq_true rfl) ?_
  intro p e s m args below meth c E hr hlk hnm hsz hC hF ls hl
  subst hsz
  obtain ⟨hx, hb, -⟩ := id E
  have hA : ∀ q, (nwA s.heap.size) q → N0 ≤ q := fun q h => Nat.le_trans hC.2.1 h
  have hn : ∀ q, s.heap.size ≤ q → (nwA s.heap.size) q := fun q h => h
  have hS : va_S (nwA s.heap.size) s.heap s.heap [] := va_S.rf
  have hl : lv_has ls 2 [(0, .ref b), (1, .int nl)] := hl
  obtain ⟨fR, el⟩ : c1 D b (.inl (tk 4, n, .inr (.inr (.inr (.inr f))))) s.heap ∧ EL D ce n f vs s.heap := hF
  refine lv_aload_n (pc := 0) hx hb dJ7_copyOf_1904c_0 rfl (lv_at hl 0 rfl) ?_
  refine lv_iload_n (pc := 1) hx hb dJ7_copyOf_1904c_1 rfl (lv_at hl 1 rfl) ?_
  refine lv_aload_n (pc := 2) hx hb dJ7_copyOf_1904c_2 rfl (lv_at hl 0 rfl) ?_
  refine r_getCls (pc := 3) E hC hl.1 fR kw_1454 (by exact Nat.le_of_ble_eq_true rfl) (by exact Nat.le_of_ble_eq_true rfl) (by exact Nat.le_of_ble_eq_true rfl) dJ7_copyOf_1904c_3 ?_
  have hZ0_ := hS.1
  have t_fR := fR.lt
  refine k_r (pc := 6) (k_S E hC hS hA hl.1 (c_J7_copyOf_6403c l D tk N0 sa s.heap.size b n k ce nl f vs hce hnl hlt hk9) kw_1475 kw_1476 kw_24 kw_1477 (n := 3) (by decide +kernel) rfl ⟨⟨rfl, rfl⟩, ⟨Nat.le_of_ble_eq_true rfl, Nat.le_of_ble_eq_true rfl⟩, (by dsimp only; omega), (by dsimp only; omega)⟩ rfl (Nat.le_of_ble_eq_true rfl) ⟨fR, el⟩ dJ7_copyOf_1904c_6) hS (fun q z w => absurd w (Nat.not_le.mpr z)) hn (fun r_1 H locs hR hz hk hS => ?_)
  have fR := fR.kept (hk _ fR.lt (Nat.not_le.mpr fR.lt))
  obtain ⟨f_2, z9_, f2, el⟩ := hR
  have s_f2 : s.heap.size ≤ r_1 := Nat.le_trans hZ0_ z9_
  have g_f2 := hn _ s_f2
  have l_fR_f2 : b < r_1 := Nat.lt_of_lt_of_le t_fR z9_
  refine r_aret (pc := 9) E hr (Or.inr ⟨_, rfl⟩) hlk hS (by omega) (by omega) ?_ dJ7_copyOf_1904c_9
  exact ⟨_, s_f2, f2, el⟩
