set_option maxHeartbeats 4000000 in
set_option maxRecDepth 100000 in
/-- java/util/ArrayList.get(I)Ljava/lang/Object; -/
theorem c_Jx4a65c_get_915e3 (l : Launch) (D : va_G) (tk : Nat → ClassId) (N0 : Nat) (sa : Nat → Nat)  (sz : Nat) (a b n cap i q : Nat) (md ix : Int32) (f : Nat → Option Nat) (hix : ix = nI i) (hin : i < n) (hnc : n ≤ cap) (hcap : cap ≤ 100000000) (hq : f i = some q) : Met l yJx4a65c_get_915e3 (wsy yJx4a65c_get_915e3 cJx4a65c_get_915e3 2 (some (.object "java/lang/Object"))) ({ frames := 2, cells := 0, slots := 0, locals := 43 } : Room) (cP D tk N0 sa [.ref a, .int ix] sz (fun H => c1 D a (.inr (7, [.int md, .ref b, .int (nI n)])) H ∧ c1 D b (.inl (tk 4, cap, .inr (.inr (.inr (.inr f))))) H)) (kQr (fun r H => r = q) (nwA sz)) (0) (0) (nwA sz) := by
  refine mStart RJx4a65c rfl (by decide +kernel) (Nat.le_of_ble_eq_true rfl) ?_
  intro p e s m args below meth c E hr hlk hnm hsz hC hF ls hl
  subst hsz
  obtain ⟨hx, hb, -⟩ := id E
  have hA : ∀ q, (nwA s.heap.size) q → N0 ≤ q := fun q h => Nat.le_trans hC.2.1 h
  have hn : ∀ q, s.heap.size ≤ q → (nwA s.heap.size) q := fun q h => h
  have hS : va_S (nwA s.heap.size) s.heap s.heap [] := va_S.rf
  have hl : lv_has ls 2 [(0, .ref a), (1, .int ix)] := hl
  obtain ⟨f0, fR⟩ : c1 D a (.inr (7, [.int md, .ref b, .int (nI n)])) s.heap ∧ c1 D b (.inl (tk 4, cap, .inr (.inr (.inr (.inr f))))) s.heap := hF
  refine lv_iload_n (pc := 0) hx hb dJx4a65c_get_915e3_0 rfl (lv_at hl 1 rfl) ?_
  refine lv_aload_n (pc := 1) hx hb dJx4a65c_get_915e3_1 rfl (lv_at hl 0 rfl) ?_
  refine r_get (pc := 2) E hC f0 2 (v := .int (nI n)) rfl rfl (by decide) uJx4a65c (List.mem_cons_of_mem _ kw_1187) (fun _ h => h) dJx4a65c_get_915e3_2 ?_
  refine k_i (pc := 5) (k_S E hC hS hA hl.1 (c_J15_checkIndex_7cf53 l D tk N0 sa s.heap.size ix (nI n) i n hix rfl hin (by omega)) kw_1554 kw_1555 kw_30 kw_1556 (n := 2) (by decide +kernel) rfl ⟨⟨rfl, rfl⟩, ⟨by decide, by decide⟩, by decide, by decide⟩ rfl (Nat.le_of_ble_eq_true rfl) trivial dJx4a65c_get_915e3_5) hS (fun q z w => absurd w (Nat.not_le.mpr z)) hn (fun r_1 H locs hR hz hk hS => ?_)
  have f0 := f0.kept (hk _ f0.lt (Nat.not_le.mpr f0.lt))
  have fR := fR.kept (hk _ fR.lt (Nat.not_le.mpr fR.lt))
  rw [show r_1 = ix from hR]
  refine lv_pop (pc := 8) hx hb dJx4a65c_get_915e3_8 rfl ?_
  refine lv_aload_n (pc := 9) hx hb dJx4a65c_get_915e3_9 rfl (lv_at hl 0 rfl) ?_
  refine lv_iload_n (pc := 10) hx hb dJx4a65c_get_915e3_10 rfl (lv_at hl 1 rfl) ?_
  refine k_r (pc := 11) (k_V E hC hS hA hl.1 (c1.recv hC f0 rfl) rfl (c_Jx4a65c_elementData_915e3 l D tk N0 sa H.size a b n cap i q md ix f hix hin hnc hcap hq) kw_1558 kw_1559 kw_1560 kw_8 kw_1561 (n := 1) (by decide +kernel) rfl ⟨⟨rfl, rfl⟩, ⟨by decide, by decide⟩, by decide, by decide⟩ rfl (Nat.le_of_ble_eq_true rfl) ⟨f0, fR⟩ dJx4a65c_get_915e3_11) hS (fun q z w => absurd w (Nat.not_le.mpr z)) hn (fun r_2 H locs hR hz hk hS => ?_)
  have f0 := f0.kept (hk _ f0.lt (Nat.not_le.mpr f0.lt))
  have fR := fR.kept (hk _ fR.lt (Nat.not_le.mpr fR.lt))
  rw [show r_2 = q from hR]
  refine r_aret (pc := 14) E hr (Or.inl ⟨_, rfl⟩) hlk hS (by decide) (by decide) ?_ dJx4a65c_get_915e3_14
  rfl
