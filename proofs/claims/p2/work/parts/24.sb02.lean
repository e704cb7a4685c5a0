set_option maxHeartbeats 4000000 in
set_option maxRecDepth 100000 in
/-- java/lang/AbstractStringBuilder.append(C)Ljava/lang/AbstractStringBuilder; -/
theorem c_J5_append_3fe6f (l : Launch) (D : va_G) (tk : Nat → ClassId) (N0 : Nat) (sa : Nat → Nat)  (sz : Nat) (a v cap n : Nat) (ml ch : Int32) (k9 : Nat) (ha9 : N0 ≤ a) (hv9 : N0 ≤ v) (hn9 : n ≤ cap) (hcap : cap ≤ 500000) (hch : ch = nI k9) (hk9 : k9 < 256) : Met l yJ5_append_3fe6f (wsy yJ5_append_3fe6f cJ5_append_3fe6f 2 (some (.object "java/lang/AbstractStringBuilder"))) ({ frames := 4, cells := sbK cap (n + 1), slots := sbS cap (n + 1), locals := 91 } : Room) (cP D tk N0 sa [.ref a, .int ch] sz (fun H => SBo D a v ml (nI n) H ∧ BA D tk v cap H)) (kQr (fun r H => r = a ∧ ∃ v1, (v1 = v ∨ sz ≤ v1) ∧ SBo D a v1 ml (nI (n + 1)) H ∧ BA D tk v1 (sbC cap (n + 1)) H) (inA2 a v sz)) (sbK cap (n + 1)) (sbS cap (n + 1)) (inA2 a v sz) := by
  refine mStart RJ5 rfl (by decide +kernel) (Nat.le_of_ble_eq_true rfl) ?_
  intro p e s m args below meth c E hr hlk hnm hsz hC hF ls hl
  subst hsz
  obtain ⟨hx, hb, -⟩ := id E
  have hA : ∀ q, (inA2 a v s.heap.size) q → N0 ≤ q := fun q h => h.elim (fun z => z ▸ ha9) (fun z => z.elim (fun w => w ▸ hv9) (fun w => Nat.le_trans hC.2.1 w))
  have hn : ∀ q, s.heap.size ≤ q → (inA2 a v s.heap.size) q := fun q h => Or.inr (Or.inr h)
  have hS : va_S (inA2 a v s.heap.size) s.heap s.heap [] := va_S.rf
  have hl : lv_has ls 2 [(0, .ref a), (1, .int ch)] := hl
  obtain ⟨f0, hB⟩ : SBo D a v ml (nI n) s.heap ∧ BA D tk v cap s.heap := hF
  have g_f0 : (inA2 a v s.heap.size) a := Or.inl rfl
  have g_hB : (inA2 a v s.heap.size) v := Or.inr (Or.inl rfl)
  refine lv_aload_n (pc := 0) hx hb dJ5_append_3fe6f_0 rfl (lv_at hl 0 rfl) ?_
  refine lv_aload_n (pc := 1) hx hb dJ5_append_3fe6f_1 rfl (lv_at hl 0 rfl) ?_
  refine r_get (pc := 2) E hC f0 3 (v := .int (nI n)) rfl rfl (by decide) uJ4 (List.mem_cons_of_mem _ kw_171) (fun _ h => h) dJ5_append_3fe6f_2 ?_
  refine lv_iconst (pc := 5) (v := 1) hx hb dJ5_append_3fe6f_5 (by decide) ?_
  refine lv_iadd (pc := 6) hx hb dJ5_append_3fe6f_6 ?_
  have hZ0_ := hS.1
  have t_f0 := f0.lt
  have t_hB := hB.lt
  refine k_v (pc := 7) (k_U E hC hS hA hl.1 (c1.recv hC f0 rfl) (c_J5_ensureCapacityInternal_d00df l D tk N0 sa s.heap.size a v cap ml (nI n) ((nI n) + 1) (n + 1) (hA _ g_f0) (nI_1 n) (by omega) (by omega)) kw_189 kw_1810 kw_191 (selUp (n := 4) (E.2.2.2.2 _ (List.mem_cons_of_mem _ kw_150)) (va_Nw.use rfl (hC.2.2.2.1 _ kn_190 rfl)) (E.2.2.2.2 _ (List.mem_cons_of_mem _ kw_191)) (E.2.2.2.2 _ (List.mem_cons_of_mem _ kw_1810))) kw_18 kw_192 (n := 1) (by decide +kernel) rfl ⟨⟨rfl, rfl⟩, ⟨Nat.le_of_ble_eq_true rfl, Nat.le_of_ble_eq_true rfl⟩, (by dsimp only; omega), (by dsimp only; omega)⟩ rfl (Nat.le_of_ble_eq_true rfl) ⟨f0, hB⟩ dJ5_append_3fe6f_7) hS (inA1.to g_f0) hn (fun H locs hR hz hk hS => ?_)
  obtain ⟨v_2, hv_2, f0, hB⟩ := hR
  have g_hB := hv_2.elim (fun e9 => e9 ▸ g_hB) (fun z9 => hn _ (Nat.le_trans hZ0_ z9))
  have hv_2 := hv_2.imp_right (fun z9 => Nat.le_trans hZ0_ z9)
  refine lv_aload_n (pc := 10) hx hb dJ5_append_3fe6f_10 rfl (lv_at hl 0 rfl) ?_
  refine k_i (pc := 11) (k_U E hC hS hA hl.1 (c1.recv hC f0 rfl) (c_J5_isLatin1_aae02 l D tk N0 sa H.size a v_2 (sbC cap (n + 1)) ml (nI n)) kw_224 kw_226 kw_225 (E.2.2.2.2 _ (List.mem_cons_of_mem _ kw_227)) kw_18 kw_228 (n := 0) (by decide +kernel) rfl ⟨⟨rfl, rfl⟩, ⟨Nat.le_of_ble_eq_true rfl, Nat.le_of_ble_eq_true rfl⟩, (by dsimp only; omega), (by dsimp only; omega)⟩ rfl (Nat.le_of_ble_eq_true rfl) ⟨f0, hB⟩ dJ5_append_3fe6f_11) hS (fun q z w => absurd w (Nat.not_le.mpr z)) hn (fun r_3 H locs hR hz hk hS => ?_)
  have f0 := f0.kept (hk _ f0.lt (Nat.not_le.mpr f0.lt))
  have hB := hB.kept (hk _ hB.lt (Nat.not_le.mpr hB.lt))
  rw [show r_3 = 1 from hR]
  refine lv_if_eq (pc := 14) (tgt := 45) hx hb dJ5_append_3fe6f_14 (by decide) (fun c_4 => ?_) (fun c_4 => ?_)
  · exact absurd c_4 (by decide)
  refine lv_iload_n (pc := 17) hx hb dJ5_append_3fe6f_17 rfl (lv_at hl 1 rfl) ?_
  refine k_i (pc := 18) (k_S E hC hS hA hl.1 (c_J1_canEncode_fc78d l D tk N0 sa H.size ch ) kw_229 kw_230 kw_27 kw_231 (n := 1) (by decide +kernel) rfl ⟨⟨rfl, rfl⟩, ⟨Nat.le_of_ble_eq_true rfl, Nat.le_of_ble_eq_true rfl⟩, (by dsimp only; omega), (by dsimp only; omega)⟩ rfl (Nat.le_of_ble_eq_true rfl) trivial dJ5_append_3fe6f_18) hS (fun q z w => absurd w (Nat.not_le.mpr z)) hn (fun r_5 H locs hR hz hk hS => ?_)
  have er_5 := hR
  have f0 := f0.kept (hk _ f0.lt (Nat.not_le.mpr f0.lt))
  have hB := hB.kept (hk _ hB.lt (Nat.not_le.mpr hB.lt))
  refine lv_if_eq (pc := 21) (tgt := 45) hx hb dJ5_append_3fe6f_21 (by decide) (fun c_7 => ?_) (fun c_7 => ?_)
  · exact absurd c_7 (by rw [er_5, hch]; exact can9 hk9)
  refine lv_aload_n (pc := 24) hx hb dJ5_append_3fe6f_24 rfl (lv_at hl 0 rfl) ?_
  refine r_get (pc := 25) E hC f0 0 (v := .ref v_2) rfl rfl (by decide) uJ4 (List.mem_cons_of_mem _ kw_167) (fun _ h => h) dJ5_append_3fe6f_25 ?_
  refine lv_aload_n (pc := 28) hx hb dJ5_append_3fe6f_28 rfl (lv_at hl 0 rfl) ?_
  refine lv_dup (pc := 29) hx hb dJ5_append_3fe6f_29 rfl ?_
  refine r_get (pc := 30) E hC f0 3 (v := .int (nI n)) rfl rfl (by decide) uJ4 (List.mem_cons_of_mem _ kw_171) (fun _ h => h) dJ5_append_3fe6f_30 ?_
  refine lv_dup_x1 (pc := 33) hx hb dJ5_append_3fe6f_33 rfl rfl ?_
  refine lv_iconst (pc := 34) (v := 1) hx hb dJ5_append_3fe6f_34 (by decide) ?_
  refine lv_iadd (pc := 35) hx hb dJ5_append_3fe6f_35 ?_
  refine r_put (pc := 36) E hC f0 hS g_f0 3 tyJ4 tyJ4_ok nmJ4 rfl (by decide) (Nat.le_of_ble_eq_true rfl) uJ4 (List.mem_cons_of_mem _ kw_171) (fun _ h => h) rfl rfl rfl dJ5_append_3fe6f_36 (fun H locs n_ ho hz hS => ?_)
  have hB := hB.kept (ho _ (clA.ne hB.cl f0.cl (hC.ao 1 1 rfl rfl)))
  have f0 : c1 D a (.inr (1, [.ref v_2, .int 0, .int ml, .int ((nI n) + 1)])) H := n_
  refine lv_iload_n (pc := 39) hx hb dJ5_append_3fe6f_39 rfl (lv_at hl 1 rfl) ?_
  refine lv_i2b (pc := 40) (v := ch.toInt8.toInt32) hx hb dJ5_append_3fe6f_40 rfl ?_
  refine r_bastB (pc := 41) E hC hB hS g_hB (vp_in_nI (by have := sbC_ge cap (n + 1); omega) (by have := sbC_lt cap (n + 1); omega)) dJ5_append_3fe6f_41 (fun H locs n_ ho hz hS => ?_)
  have f0 := f0.kept (ho _ (clA.ne f0.cl hB.cl (hC.oa 1 1 rfl rfl)))
  have hB := n_
  refine lv_goto (pc := 42) (tgt := 75) hx hb dJ5_append_3fe6f_42 (by decide) ?_
  refine lv_aload_n (pc := 75) hx hb dJ5_append_3fe6f_75 rfl (lv_at hl 0 rfl) ?_
  refine r_aret (pc := 76) E hr (Or.inl ⟨_, rfl⟩) hlk hS (by omega) (by omega) ?_ dJ5_append_3fe6f_76
  exact ⟨rfl, _, hv_2, (by have h9 := f0; rw [nI_1] at h9; exact h9), hB⟩
