set_option maxHeartbeats 4000000 in
set_option maxRecDepth 100000 in
/-- java/util/Arrays.copyOf([BI)[B -/
theorem c_J7_copyOf_9075b (l : Launch) (D : va_G) (tk : Nat → ClassId) (N0 : Nat) (sa : Nat → Nat)  (sz : Nat) (b n k : Nat) (nl : Int32) (hnl : nl = nI k) (hlt : n < k) (hk9 : k ≤ 100000000) : Met l yJ7_copyOf_9075b (wsy yJ7_copyOf_9075b cJ7_copyOf_9075b 3 (some (.array .byte))) ({ frames := 1, cells := 1, slots := k, locals := 26 } : Room) (cP D tk N0 sa [.ref b, .int nl] sz (fun H => BA D tk b n H)) (kQr (fun r H => sz ≤ r ∧ BA D tk r k H) (nwA sz)) (1) (k) (nwA sz) := by
  refine mStart RJ7 rfl (by decide +kernel) (Nat.le_of_ble_eq_true rfl) ?_
  intro p e s m args below meth c E hr hlk hnm hsz hC hF ls hl
  subst hsz
  obtain ⟨hx, hb, -⟩ := id E
  have hA : ∀ q, (nwA s.heap.size) q → N0 ≤ q := fun q h => Nat.le_trans hC.2.1 h
  have hn : ∀ q, s.heap.size ≤ q → (nwA s.heap.size) q := fun q h => h
  have hS : va_S (nwA s.heap.size) s.heap s.heap [] := va_S.rf
  have hl : lv_has ls 3 [(0, .ref b), (1, .int nl)] := hl
  have hB : BA D tk b n s.heap := hF
  refine lv_iload_n (pc := 0) hx hb dJ7_copyOf_9075b_0 rfl (lv_at hl 1 rfl) ?_
  refine lv_aload_n (pc := 1) hx hb dJ7_copyOf_9075b_1 rfl (lv_at hl 0 rfl) ?_
  obtain ⟨x_1, ex_1⟩ : ∃ z9 : Int32, z9 = nI n := ⟨_, rfl⟩
  refine r_alenB (pc := 2) E hC hB (v := x_1) ex_1.symm dJ7_copyOf_9075b_2 ?_
  refine lv_icmp_ne (pc := 3) (tgt := 14) hx hb dJ7_copyOf_9075b_3 (by decide) (fun c_2 => ?_) (fun c_2 => ?_)
  rotate_left
  · exact absurd c_2 (by rw [hnl, ex_1]; exact nI_ne9 (by omega) (by omega) (by omega))
  refine lv_iload_n (pc := 14) hx hb dJ7_copyOf_9075b_14 rfl (lv_at hl 1 rfl) ?_
  have hS0_ := hS
  refine r_newb (pc := 15) E hC hS (N := k) (by rw [hnl]; exact nI_pos (by omega)) (by rw [hnl]; exact nI_clamp (by omega)) (by omega) (by dsimp only; omega) (by dsimp only; omega) dJ7_copyOf_9075b_15 (fun qf3 H zq_ n_ ho_ hS => ?_)
  have l_hB_f3 : b < qf3 := zq_ ▸ hB.lt
  have hB := hB.kept (ho_ _ hB.lt)
  have f3 := n_
  have s_f3 : s.heap.size ≤ qf3 := zq_ ▸ hS0_.1
  have g_f3 := hn _ s_f3
  refine lv_astore_n (pc := 17) (lv' := [(2, .ref qf3), (0, .ref b), (1, .int nl)]) hx hb dJ7_copyOf_9075b_17 rfl hl (by decide) rfl (fun ls hl => ?_)
  refine lv_aload_n (pc := 18) hx hb dJ7_copyOf_9075b_18 rfl (lv_at hl 1 rfl) ?_
  refine lv_iconst (pc := 19) (v := 0) hx hb dJ7_copyOf_9075b_19 (by decide) ?_
  refine lv_aload_n (pc := 20) hx hb dJ7_copyOf_9075b_20 rfl (lv_at hl 0 rfl) ?_
  refine lv_iconst (pc := 21) (v := 0) hx hb dJ7_copyOf_9075b_21 (by decide) ?_
  refine lv_aload_n (pc := 22) hx hb dJ7_copyOf_9075b_22 rfl (lv_at hl 1 rfl) ?_
  obtain ⟨x_4, ex_4⟩ : ∃ z9 : Int32, z9 = nI n := ⟨_, rfl⟩
  refine r_alenB (pc := 23) E hC hB (v := x_4) ex_4.symm dJ7_copyOf_9075b_23 ?_
  refine lv_iload_n (pc := 24) hx hb dJ7_copyOf_9075b_24 rfl (lv_at hl 2 rfl) ?_
  refine k_i (pc := 25) (k_S E hC hS hA hl.1 (c_J9_min_7cf53 l D tk N0 sa H.size x_4 nl ) kw_218 kw_219 kw_9 kw_220 (n := 2) (by decide +kernel) rfl ⟨⟨rfl, rfl⟩, ⟨Nat.le_of_ble_eq_true rfl, Nat.le_of_ble_eq_true rfl⟩, (by dsimp only; omega), (by dsimp only; omega)⟩ rfl (Nat.le_of_ble_eq_true rfl) trivial dJ7_copyOf_9075b_25) hS (fun q z w => absurd w (Nat.not_le.mpr z)) hn (fun r_5 H locs hR hz hk hS => ?_)
  have er_5 := hR
  have hB := hB.kept (hk _ hB.lt (Nat.not_le.mpr hB.lt))
  have f3 := f3.kept (hk _ f3.lt (Nat.not_le.mpr f3.lt))
  have hm9 : r_5 = nI n := by rw [er_5, hnl, ex_4]; exact f_min9 (by omega) (by omega)
  refine r_acpyB (pc := 28) E hC hl.1 hB.bx f3 hS g_f3 (by decide) (by decide) (by rw [hm9]; exact nI_pos (by omega)) (by rw [hm9, nI_clamp (by omega), sb_cl0]; omega) (by rw [hm9, nI_clamp (by omega), sb_cl0]; omega) kw_221 (by exact Nat.le_of_ble_eq_true rfl) (by decide) (by exact Nat.le_of_ble_eq_true rfl) dJ7_copyOf_9075b_28 (fun H locs n_ ho hz hS => ?_)
  have hB := hB.kept (ho _ (Nat.ne_of_lt l_hB_f3))
  have f3 := n_
  refine lv_aload_n (pc := 31) hx hb dJ7_copyOf_9075b_31 rfl (lv_at hl 0 rfl) ?_
  refine r_aret (pc := 32) E hr (Or.inr ⟨_, rfl⟩) hlk hS (by omega) (by omega) ?_ dJ7_copyOf_9075b_32
  exact ⟨s_f3, f3⟩
