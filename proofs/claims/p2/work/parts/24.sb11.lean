set_option maxHeartbeats 4000000 in
set_option maxRecDepth 100000 in
/-- java/lang/AbstractStringBuilder.putStringAt(ILjava/lang/String;)V -/
theorem c_J5_putStringAt_47b60 (l : Launch) (D : va_G) (tk : Nat → ClassId) (N0 : Nat) (sa : Nat → Nat)  (sz : Nat) (a v cap n t k : Nat) (ml : Int32) (ix : Int32) (ha9 : N0 ≤ v) (hix : ix = nI n) (hik : n + k ≤ cap) (hcap : cap ≤ 100000000) : Met l yJ5_putStringAt_47b60 (wsy yJ5_putStringAt_47b60 cJ5_putStringAt_47b60 3 none) ({ frames := 2, cells := 0, slots := 0, locals := 49 } : Room) (cP D tk N0 sa [.ref a, .int ix, .ref t] sz (fun H => SBo D a v ml (nI n) H ∧ BA D tk v cap H ∧ SX D tk t k H)) (kQv (fun H => BA D tk v cap H) (inA1 v sz)) (0) (0) (inA1 v sz) := by
  refine mStart RJ5 rfl (by decide +kernel) (Nat.le_of_ble_eq_true rfl) ?_
  intro p e s m args below meth c E hr hlk hnm hsz hC hF ls hl
  subst hsz
  obtain ⟨hx, hb, -⟩ := id E
  have hA : ∀ q, (inA1 v s.heap.size) q → N0 ≤ q := fun q h => h.elim (fun z => z ▸ ha9) (fun z => Nat.le_trans hC.2.1 z)
  have hn : ∀ q, s.heap.size ≤ q → (inA1 v s.heap.size) q := fun q h => Or.inr h
  have hS : va_S (inA1 v s.heap.size) s.heap s.heap [] := va_S.rf
  have hl : lv_has ls 3 [(0, .ref a), (1, .int ix), (2, .ref t)] := hl
  obtain ⟨f0, hB, st⟩ : SBo D a v ml (nI n) s.heap ∧ BA D tk v cap s.heap ∧ SX D tk t k s.heap := hF
  have g_hB : (inA1 v s.heap.size) v := Or.inl rfl
  refine lv_aload_n (pc := 0) hx hb dJ5_putStringAt_47b60_0 rfl (lv_at hl 0 rfl) ?_
  refine lv_aload_n (pc := 1) hx hb dJ5_putStringAt_47b60_1 rfl (lv_at hl 2 rfl) ?_
  refine k_v (pc := 2) (k_U E hC hS hA hl.1 (c1.recv hC f0 rfl) (c_J5_inflateIfNeededFor_a7421 l D tk N0 sa s.heap.size a v cap n t k ml) kw_425 kw_1818 kw_427 (selUp (n := 4) (E.2.2.2.2 _ (List.mem_cons_of_mem _ kw_150)) (va_Nw.use rfl (hC.2.2.2.1 _ kn_426 rfl)) (E.2.2.2.2 _ (List.mem_cons_of_mem _ kw_427)) (E.2.2.2.2 _ (List.mem_cons_of_mem _ kw_1818))) kw_18 kw_428 (n := 1) (by decide +kernel) rfl ⟨⟨rfl, rfl⟩, ⟨by decide, by decide⟩, by decide, by decide⟩ rfl (Nat.le_of_ble_eq_true rfl) ⟨f0, hB, st⟩ dJ5_putStringAt_47b60_2) hS (fun q z w => absurd w (Nat.not_le.mpr z)) hn (fun H locs hR hz hk hS => ?_)
  have f0 := f0.kept (hk _ f0.lt (Nat.not_le.mpr f0.lt))
  have hB := hB.kept (hk _ hB.lt (Nat.not_le.mpr hB.lt))
  have st := st.new hk
  refine lv_aload_n (pc := 5) hx hb dJ5_putStringAt_47b60_5 rfl (lv_at hl 2 rfl) ?_
  refine lv_aload_n (pc := 6) hx hb dJ5_putStringAt_47b60_6 rfl (lv_at hl 0 rfl) ?_
  refine r_get (pc := 7) E hC f0 0 (v := .ref v) rfl rfl (by decide) uJ4 (List.mem_cons_of_mem _ kw_167) (fun _ h => h) dJ5_putStringAt_47b60_7 ?_
  refine lv_iload_n (pc := 10) hx hb dJ5_putStringAt_47b60_10 rfl (lv_at hl 1 rfl) ?_
  refine lv_aload_n (pc := 11) hx hb dJ5_putStringAt_47b60_11 rfl (lv_at hl 0 rfl) ?_
  refine r_get (pc := 12) E hC f0 1 (v := .int 0) rfl rfl (by decide) uJ4 (List.mem_cons_of_mem _ kw_168) (fun _ h => h) dJ5_putStringAt_47b60_12 ?_
  refine k_v (pc := 15) (k_V E hC hS hA hl.1 (st.recv hC) rfl (c_J0_getBytes_840e7 l D tk N0 sa H.size t k v cap n ix (hA _ g_hB) hix hik hcap) kw_430 kw_431 kw_432 kw_20 kw_433 (n := 3) (by decide +kernel) rfl ⟨⟨rfl, rfl⟩, ⟨by decide, by decide⟩, by decide, by decide⟩ rfl (Nat.le_of_ble_eq_true rfl) ⟨st, hB⟩ dJ5_putStringAt_47b60_15) hS (inA1.to g_hB) hn (fun H locs hR hz hk hS => ?_)
  have f0 := f0.kept (hk _ f0.lt (inA1.not (clA.ne f0.cl hB.cl (hC.oa 1 1 rfl rfl)) f0.lt))
  have hB := hR
  refine r_vret (pc := 18) E hr hlk hS (by decide) (by decide) ?_ dJ5_putStringAt_47b60_18
  exact hB
