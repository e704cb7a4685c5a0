-- ===== YOUR PART BEGINS =====
set_option maxHeartbeats 4000000 in
set_option maxRecDepth 100000 in
/-- from the entry, for every script of at most 320 ints, the law comes to its end with true -/
theorem whole_start {p : Program} {e : Env} {s : State} {m : MethodId} {below : List Frame} {meth : Method} {c : Code} (l : Launch) (hflags : l.flags = flags0) {b L : Nat} {xs : Nat → Int32} (hL : L ≤ 320) (C0 : lw_At p s m meth c b L xs) : W p l e room_1 s m #[Value.ref b] below meth c s.heap [] 0 0 (lw_Z below #[Value.ref b] s) (entryFrame m ([Value.ref b] : List Value).toArray 7) := by
  obtain ⟨hx, hb, hr, hml, hown, hts, hX, hbl, hlk, hgv⟩ := id C0
  obtain ⟨D, tk, sa, hC, hN⟩ := ctx_start hts hgv
  have hlst : l.stackTraces = false := by
    show (!l.flags.contains noTraceFlag) = false
    rw [hflags]
    decide
  have hg : ∀ w ∈ Cond.initialized RL :: GW, w.before #[Value.ref b] s = true := fun w hw => hts w (by
    rcases List.mem_cons.mp hw with rfl | hw
    · exact (List.mem_filter.mp kw_0).1
    · exact (List.mem_filter.mp hw).1)
  have E : CallFix p m c cL_law 7 s #[Value.ref b] (Cond.initialized RL :: GW) "BestratiosLaw" := ⟨hx, hb, hml, hown, hg⟩
  have hA : ∀ q, NA s.heap.size q → s.heap.size ≤ q := fun q h => h
  have hn : ∀ q, s.heap.size ≤ q → NA s.heap.size q := fun q h => h
  have hS : va_S (NA s.heap.size) s.heap s.heap [] := va_S.rf
  have hl := lv_entry ([.ref b]) (n := 7) (Nat.le_of_ble_eq_true rfl)
  rw [lg_entry_eq]
  generalize (lg_sl ([.ref b]) ++ List.replicate (7 - (lg_sl ([.ref b])).length) Slot.unset).toArray = ls at hl ⊢
  have hl : lv_has ls 7 [(0, .ref b)] := hl
  refine r_new (pc := 0) E hC hS tyX3_ok uX3 (List.mem_cons_of_mem _ kw_35) (List.mem_cons_of_mem _ kw_36) (List.mem_cons_of_mem _ kw_1) (ci := 11) rfl (fs := [.null, .null, .null, .int 0, .int 0, .null, .null, .null, .null]) (by decide) (Nat.le_of_ble_eq_true rfl) (Nat.le_of_ble_eq_true rfl) dL_law_0 (fun qx H zq n1 ho hS => ?_)
  have hqx : s.heap.size ≤ qx := by omega
  refine lv_dup (pc := 3) hx hb dL_law_3 rfl ?_
  refine k_v (pc := 4) (k_I E hC hS hA hl.1 (c_X3_init l D tk s.heap.size sa H.size qx hqx) kw_37 kw_38 kw_1 kw_39 rfl (n := 0) (by decide +kernel) rfl ⟨⟨rfl, rfl⟩, ⟨Nat.le_of_ble_eq_true rfl, Nat.le_of_ble_eq_true rfl⟩, Nat.le_of_ble_eq_true rfl, Nat.le_of_ble_eq_true rfl⟩ rfl (Nat.le_of_ble_eq_true rfl) n1 dL_law_4) hS (inA1.to hqx) hn (fun H locs hR hz1 hk hS => ?_)
  obtain ⟨ad, hAD, e15, -, hW⟩ := hR
  subst e15
  refine lv_astore_n (pc := 7) (lv' := [(1, .ref (ad 15)), (0, .ref b)]) hx hb dL_law_7 rfl hl (by decide) rfl (fun ls hl => ?_)
  obtain ⟨M0, eM0⟩ : ∃ M0 : Nat, M0 = H.size := ⟨_, rfl⟩
  have had : ∀ k, k < 22 → ad k < M0 := fun k hk9 => eM0 ▸ (hW k hk9).lt
  have hM0 : s.heap.size ≤ M0 := eM0 ▸ hS.1
  refine r_new (pc := 8) E hC hS tyX5_ok uX5 (List.mem_cons_of_mem _ kw_1162) (List.mem_cons_of_mem _ kw_1163) (List.mem_cons_of_mem _ kw_5) (ci := 13) rfl (fs := [.null, .null, .null, .null, .int 0, .int 0, .int 0, .int 0, .int 0]) (by decide) (Nat.le_of_ble_eq_true rfl) (Nat.le_of_ble_eq_true rfl) dL_law_8 (fun mo H zm n2 ho2 hS => ?_)
  have hmo : M0 ≤ mo := by omega
  have hW := hW.kept (fun k hk9 => ho2 _ (hW k hk9).lt)
  have hzm : mo < H.size := n2.lt
  refine lv_dup (pc := 11) hx hb dL_law_11 rfl ?_
  refine k_v (pc := 12) (k_I E hC hS hA hl.1 (c_X5_init l D tk s.heap.size sa H.size (fun q => M0 ≤ q) mo hmo (fun q h => Nat.le_trans hmo (Nat.le_trans (Nat.le_of_lt hzm) h)) (Nat.le_trans hM0 hmo)) kw_1164 kw_1165 kw_5 kw_1166 rfl (n := 0) (by decide +kernel) rfl ⟨⟨rfl, rfl⟩, ⟨Nat.le_of_ble_eq_true rfl, Nat.le_of_ble_eq_true rfl⟩, Nat.le_of_ble_eq_true rfl, Nat.le_of_ble_eq_true rfl⟩ rfl (Nat.le_of_ble_eq_true rfl) n2 dL_law_12) hS (inA1.to (Nat.le_trans hM0 hmo)) hn (fun H locs hM hz2 hk2 hS => ?_)
  have hW := hW.kept (fun k hk9 => hk2 _ (hW k hk9).lt (inA1.not (Nat.ne_of_lt (Nat.lt_of_lt_of_le (had k hk9) hmo)) (hW k hk9).lt))
  refine lv_astore_n (pc := 15) (lv' := [(2, .ref mo), (1, .ref (ad 15)), (0, .ref b)]) hx hb dL_law_15 rfl hl (by decide) rfl (fun ls hl => ?_)
  have hS2 := hS
  refine r_new (pc := 16) E hC hS tyX4_ok uX4 (List.mem_cons_of_mem _ kw_787) (List.mem_cons_of_mem _ kw_788) (List.mem_cons_of_mem _ kw_10) (ci := 12) rfl (fs := [.long 0, .null]) (by decide) (Nat.le_of_ble_eq_true rfl) (Nat.le_of_ble_eq_true rfl) dL_law_16 (fun uo H zu n3 ho3 hS => ?_)
  have huo : s.heap.size ≤ uo := by
    have := hS2.1
    omega
  have hM := hM.mono (P1 := PL M0 uo) (fun q hq h => ⟨h, by omega⟩)
  have hM := hM.kept (S := fun _ => False) (fun q hq _ => ho3 q hq) (fun _ _ _ => id) (fun _ _ _ => id)
  have hW := hW.kept (fun k hk9 => ho3 _ (hW k hk9).lt)
  refine lv_dup (pc := 19) hx hb dL_law_19 rfl ?_
  refine k_v (pc := 20) (k_IN "BestratiosLaw" E hC hS hA hl.1 (c_X4_init l D tk s.heap.size sa H.size uo) kn_789 kw_790 kw_10 kw_791 rfl (n := 0) (by decide +kernel) rfl ⟨⟨rfl, rfl⟩, ⟨Nat.le_of_ble_eq_true rfl, Nat.le_of_ble_eq_true rfl⟩, Nat.le_of_ble_eq_true rfl, Nat.le_of_ble_eq_true rfl⟩ rfl (Nat.le_of_ble_eq_true rfl) n3 dL_law_20) hS (fun q z w => absurd w (Nat.not_le.mpr z)) hn (fun H locs fu hz3 hk3 hS => ?_)
  have hW := hW.new hk3
  have hM := hM.new hk3
  refine lv_astore_n (pc := 23) (lv' := [(3, .ref uo), (2, .ref mo), (1, .ref (ad 15)), (0, .ref b)]) hx hb dL_law_23 rfl hl (by decide) rfl (fun ls hl => ?_)
  refine lv_iconst (pc := 24) (v := 0) hx hb dL_law_24 (by decide) ?_
  refine lv_istore (pc := 25) (lv' := [(4, .int 0), (3, .ref uo), (2, .ref mo), (1, .ref (ad 15)), (0, .ref b)]) hx hb dL_law_25 hl (by decide) rfl (fun ls hl => ?_)
  refine W.widen (k := 40 + 1400 * 0) (n := 300 + 20200 * 0) (Nat.le_of_ble_eq_true rfl) (Nat.le_of_ble_eq_true rfl) ?_
  exact law_loop hlst E hr hlk hC hN hX hbl hAD huo hM0 had hL 321 0 (by decide) (by decide) _ _ _ (by have := n3.lt; omega) hS ⟨_, _, _, _, _, _, _, _, _, _, _, _, _, _, _, _, RV_0, hW, fu, hM⟩ (lv_sub hl [4, 3, 2, 1, 0] rfl)
