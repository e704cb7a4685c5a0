set_option maxHeartbeats 4000000 in
set_option maxRecDepth 100000 in
/-- java/util/Arrays.copyOfRangeByte([BII)[B -/
theorem c_J7_copyOfRangeByte_39247 (l : Launch) (D : va_G) (tk : Nat → ClassId) (N0 : Nat) (sa : Nat → Nat)  (sz : Nat) (b n i j : Nat) (fr to : Int32) (hfr : fr = nI i) (hto : to = nI j) (hij : i ≤ j) (hj9 : j ≤ 100000000) (hjn : j ≤ n) (hn9 : n ≤ 100000000) : Met l yJ7_copyOfRangeByte_39247 (wsy yJ7_copyOfRangeByte_39247 cJ7_copyOfRangeByte_39247 5 (some (.array .byte))) ({ frames := 1, cells := 1, slots := j - i, locals := 26 } : Room) (cP D tk N0 sa [.ref b, .int fr, .int to] sz (fun H => BX tk b n H)) (kQr (fun r H => sz ≤ r ∧ BA D tk r (j - i) H) (nwA sz)) (1) (j - i) (nwA sz) := by
  refine mStart RJ7 rfl (by decide +kernel) (Nat.le_of_ble_eq_true rfl) ?_
  intro p e s m args below meth c E hr hlk hnm hsz hC hF ls hl
  subst hsz
  obtain ⟨hx, hb, -⟩ := id E
  have hA : ∀ q, (nwA s.heap.size) q → N0 ≤ q := fun q h => Nat.le_trans hC.2.1 h
  have hn : ∀ q, s.heap.size ≤ q → (nwA s.heap.size) q := fun q h => h
  have hS : va_S (nwA s.heap.size) s.heap s.heap [] := va_S.rf
  have hl : lv_has ls 5 [(0, .ref b), (1, .int fr), (2, .int to)] := hl
  have hB : BX tk b n s.heap := hF
  refine lv_iload_n (pc := 0) hx hb dJ7_copyOfRangeByte_39247_0 rfl (lv_at hl 1 rfl) ?_
  refine lv_iload_n (pc := 1) hx hb dJ7_copyOfRangeByte_39247_1 rfl (lv_at hl 2 rfl) ?_
  refine k_v (pc := 2) (k_S E hC hS hA hl.1 (c_J7_checkLength_df160 l D tk N0 sa s.heap.size fr to i j hfr hto hij hj9) kw_348 kw_349 kw_24 kw_350 (n := 2) (by decide +kernel) rfl ⟨⟨rfl, rfl⟩, ⟨Nat.le_of_ble_eq_true rfl, Nat.le_of_ble_eq_true rfl⟩, (by dsimp only; omega), (by dsimp only; omega)⟩ rfl (Nat.le_of_ble_eq_true rfl) trivial dJ7_copyOfRangeByte_39247_2) hS (fun q z w => absurd w (Nat.not_le.mpr z)) hn (fun H locs hR hz hk hS => ?_)
  have hB := hB.kept (hk _ hB.lt (Nat.not_le.mpr hB.lt))
  refine lv_iload_n (pc := 5) hx hb dJ7_copyOfRangeByte_39247_5 rfl (lv_at hl 2 rfl) ?_
  refine lv_iload_n (pc := 6) hx hb dJ7_copyOfRangeByte_39247_6 rfl (lv_at hl 1 rfl) ?_
  refine lv_isub (pc := 7) hx hb dJ7_copyOfRangeByte_39247_7 ?_
  obtain ⟨x_2, ex_2⟩ : ∃ z9 : Int32, z9 = to - fr := ⟨_, rfl⟩
  rw [← ex_2]
  refine lv_istore_n (pc := 8) (lv' := [(3, .int x_2), (0, .ref b), (1, .int fr), (2, .int to)]) hx hb dJ7_copyOfRangeByte_39247_8 rfl hl (by decide) rfl (fun ls hl => ?_)
  refine lv_iload_n (pc := 9) hx hb dJ7_copyOfRangeByte_39247_9 rfl (lv_at hl 0 rfl) ?_
  have hx9 : x_2 = nI (j - i) := by rw [ex_2, hfr, hto]; exact pk_sub hij
  have hS0_ := hS
  refine r_newb (pc := 10) E hC hS (N := (j - i)) (by rw [hx9]; exact nI_pos (by omega)) (by rw [hx9]; exact nI_clamp (by omega)) (by omega) (by dsimp only; omega) (by dsimp only; omega) dJ7_copyOfRangeByte_39247_10 (fun qf3 H zq_ n_ ho_ hS => ?_)
  have l_hB_f3 : b < qf3 := zq_ ▸ hB.lt
  have hB := hB.kept (ho_ _ hB.lt)
  have f3 := n_
  have s_f3 : s.heap.size ≤ qf3 := zq_ ▸ hS0_.1
  have g_f3 := hn _ s_f3
  refine lv_astore (pc := 12) (lv' := [(4, .ref qf3), (3, .int x_2), (0, .ref b), (1, .int fr), (2, .int to)]) hx hb dJ7_copyOfRangeByte_39247_12 hl (by decide) rfl (fun ls hl => ?_)
  refine lv_aload_n (pc := 14) hx hb dJ7_copyOfRangeByte_39247_14 rfl (lv_at hl 2 rfl) ?_
  refine lv_iload_n (pc := 15) hx hb dJ7_copyOfRangeByte_39247_15 rfl (lv_at hl 3 rfl) ?_
  refine lv_aload (pc := 16) hx hb dJ7_copyOfRangeByte_39247_16 (lv_at hl 0 rfl) ?_
  refine lv_iconst (pc := 18) (v := 0) hx hb dJ7_copyOfRangeByte_39247_18 (by decide) ?_
  refine lv_aload_n (pc := 19) hx hb dJ7_copyOfRangeByte_39247_19 rfl (lv_at hl 2 rfl) ?_
  obtain ⟨x_4, ex_4⟩ : ∃ z9 : Int32, z9 = nI n := ⟨_, rfl⟩
  refine r_alenX (pc := 20) E hC hB (v := x_4) ex_4.symm dJ7_copyOfRangeByte_39247_20 ?_
  refine lv_iload_n (pc := 21) hx hb dJ7_copyOfRangeByte_39247_21 rfl (lv_at hl 3 rfl) ?_
  refine lv_isub (pc := 22) hx hb dJ7_copyOfRangeByte_39247_22 ?_
  refine lv_iload_n (pc := 23) hx hb dJ7_copyOfRangeByte_39247_23 rfl (lv_at hl 1 rfl) ?_
  refine k_i (pc := 24) (k_S E hC hS hA hl.1 (c_J9_min_7cf53 l D tk N0 sa H.size (x_4 - fr) x_2 ) kw_218 kw_219 kw_9 kw_220 (n := 2) (by decide +kernel) rfl ⟨⟨rfl, rfl⟩, ⟨Nat.le_of_ble_eq_true rfl, Nat.le_of_ble_eq_true rfl⟩, (by dsimp only; omega), (by dsimp only; omega)⟩ rfl (Nat.le_of_ble_eq_true rfl) trivial dJ7_copyOfRangeByte_39247_24) hS (fun q z w => absurd w (Nat.not_le.mpr z)) hn (fun r_5 H locs hR hz hk hS => ?_)
  have er_5 := hR
  have hB := hB.kept (hk _ hB.lt (Nat.not_le.mpr hB.lt))
  have f3 := f3.kept (hk _ f3.lt (Nat.not_le.mpr f3.lt))
  have hm9 : r_5 = nI (j - i) := by rw [er_5, hx9, ex_4, hfr, pk_sub (by omega)]; exact f_minr (by omega) (by omega)
  refine r_acpyB (pc := 27) E hC hl.1 hB f3 hS g_f3 (by rw [hfr]; exact nI_pos (by omega)) (by decide) (by rw [hm9]; exact nI_pos (by omega)) (by rw [hfr, hm9, nI_clamp (n := i) (by omega), nI_clamp (n := j - i) (by omega)]; omega) (by rw [hm9, sb_cl0, nI_clamp (n := j - i) (by omega)]; omega) kw_221 (by exact Nat.le_of_ble_eq_true rfl) (by decide) (by exact Nat.le_of_ble_eq_true rfl) dJ7_copyOfRangeByte_39247_27 (fun H locs n_ ho hz hS => ?_)
  have hB := hB.kept (ho _ (Nat.ne_of_lt l_hB_f3))
  have f3 := n_
  refine lv_aload (pc := 30) hx hb dJ7_copyOfRangeByte_39247_30 (lv_at hl 0 rfl) ?_
  refine r_aret (pc := 32) E hr (Or.inr ⟨_, rfl⟩) hlk hS (by omega) (by omega) ?_ dJ7_copyOfRangeByte_39247_32
  exact ⟨s_f3, f3⟩
