set_option maxHeartbeats 4000000 in
set_option maxRecDepth 100000 in
/-- java/lang/String.getBytes([BIB)V -/
theorem c_J0_getBytes_840e7 (l : Launch) (D : va_G) (tk : Nat → ClassId) (N0 : Nat) (sa : Nat → Nat)  (sz : Nat) (t k v cap i : Nat) (ix : Int32) (ha9 : N0 ≤ v) (hix : ix = nI i) (hik : i + k ≤ cap) (hcap : cap ≤ 100000000) : Met l yJ0_getBytes_840e7 (wsy yJ0_getBytes_840e7 cJ0_getBytes_840e7 4 none) ({ frames := 1, cells := 0, slots := 0, locals := 26 } : Room) (cP D tk N0 sa [.ref t, .ref v, .int ix, .int 0] sz (fun H => SX D tk t k H ∧ BA D tk v cap H)) (kQv (fun H => BA D tk v cap H) (inA1 v sz)) (0) (0) (inA1 v sz) := by
  refine mStart RJ0 rfl (by decide +kernel) (Nat.le_of_ble_eq_true rfl) ?_
  intro p e s m args below meth c E hr hlk hnm hsz hC hF ls hl
  subst hsz
  obtain ⟨hx, hb, -⟩ := id E
  have hA : ∀ q, (inA1 v s.heap.size) q → N0 ≤ q := fun q h => h.elim (fun z => z ▸ ha9) (fun z => Nat.le_trans hC.2.1 z)
  have hn : ∀ q, s.heap.size ≤ q → (inA1 v s.heap.size) q := fun q h => Or.inr h
  have hS : va_S (inA1 v s.heap.size) s.heap s.heap [] := va_S.rf
  have hl : lv_has ls 4 [(0, .ref t), (1, .ref v), (2, .int ix), (3, .int 0)] := hl
  obtain ⟨⟨b0, h0, h1, h2⟩, hB⟩ : SX D tk t k s.heap ∧ BA D tk v cap s.heap := hF
  have g_hB : (inA1 v s.heap.size) v := Or.inl rfl
  refine lv_aload_n (pc := 0) hx hb dJ0_getBytes_840e7_0 rfl (lv_at hl 0 rfl) ?_
  refine k_i (pc := 1) (k_V E hC hS hA hl.1 (xf.recv hC h0 rfl) rfl (c_J0_coder_7d493 l D tk N0 sa s.heap.size t k) kw_416 kw_417 kw_418 kw_20 kw_419 (n := 0) (by decide +kernel) rfl ⟨⟨rfl, rfl⟩, ⟨by decide, by decide⟩, by decide, by decide⟩ rfl (Nat.le_of_ble_eq_true rfl) ⟨_, h0, h1, h2⟩ dJ0_getBytes_840e7_1) hS (fun q z w => absurd w (Nat.not_le.mpr z)) hn (fun r_1 H locs hR hz hk hS => ?_)
  have h0 := h0.kept (hk _ h0.lt (Nat.not_le.mpr h0.lt))
  have h1 := h1.kept (hk _ h1.lt (Nat.not_le.mpr h1.lt))
  have h2 := h2.kept (hk _ h2.lt (Nat.not_le.mpr h2.lt))
  have hB := hB.kept (hk _ hB.lt (Nat.not_le.mpr hB.lt))
  rw [show r_1 = 0 from hR]
  refine lv_iload_n (pc := 4) hx hb dJ0_getBytes_840e7_4 rfl (lv_at hl 3 rfl) ?_
  refine lv_icmp_ne (pc := 5) (tgt := 28) hx hb dJ0_getBytes_840e7_5 (by decide) (fun c_2 => ?_) (fun c_2 => ?_)
  · exact absurd (by decide) c_2
  refine lv_aload_n (pc := 8) hx hb dJ0_getBytes_840e7_8 rfl (lv_at hl 0 rfl) ?_
  refine r_getX (pc := 9) E hC h0 rfl (by decide) uJ0 (List.mem_cons_of_mem _ kw_475) (fun _ h => h) dJ0_getBytes_840e7_9 ?_
  refine lv_iconst (pc := 12) (v := 0) hx hb dJ0_getBytes_840e7_12 (by decide) ?_
  refine lv_aload_n (pc := 13) hx hb dJ0_getBytes_840e7_13 rfl (lv_at hl 1 rfl) ?_
  refine lv_iload_n (pc := 14) hx hb dJ0_getBytes_840e7_14 rfl (lv_at hl 2 rfl) ?_
  refine lv_iload_n (pc := 15) hx hb dJ0_getBytes_840e7_15 rfl (lv_at hl 3 rfl) ?_
  refine lv_ishl (pc := 16) hx hb dJ0_getBytes_840e7_16 ?_
  refine lv_aload_n (pc := 17) hx hb dJ0_getBytes_840e7_17 rfl (lv_at hl 0 rfl) ?_
  refine r_getX (pc := 18) E hC h0 rfl (by decide) uJ0 (List.mem_cons_of_mem _ kw_475) (fun _ h => h) dJ0_getBytes_840e7_18 ?_
  obtain ⟨x_3, ex_3⟩ : ∃ z9 : Int32, z9 = nI k := ⟨_, rfl⟩
  refine r_alenX (pc := 21) E hC h2 (v := x_3) ex_3.symm dJ0_getBytes_840e7_21 ?_
  refine r_acpyB (pc := 22) E hC hl.1 h2 hB hS g_hB (by decide) (by rw [sb_shl0, hix]; exact nI_pos (by omega)) (by rw [ex_3]; exact nI_pos (by omega)) (by rw [ex_3, nI_clamp (by omega), sb_cl0]; omega) (by rw [sb_shl0, hix, ex_3, nI_clamp (by omega), nI_clamp (by omega)]; omega) kw_434 (by exact Nat.le_of_ble_eq_true rfl) (by decide) (by exact Nat.le_of_ble_eq_true rfl) dJ0_getBytes_840e7_22 (fun H locs n_ ho hz hS => ?_)
  have h0 := h0.kept (ho _ (clA.ne h0.cl hB.cl (hC.oa 0 1 rfl rfl)))
  have h1 := h1.kept (ho _ (clA.ne h1.cl hB.cl (hC.oa 0 1 rfl rfl)))
  have hB := n_
  refine lv_goto (pc := 25) (tgt := 43) hx hb dJ0_getBytes_840e7_25 (by decide) ?_
  refine r_vret (pc := 43) E hr hlk hS (by decide) (by decide) ?_ dJ0_getBytes_840e7_43
  exact hB
