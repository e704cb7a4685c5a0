set_option maxHeartbeats 4000000 in
set_option maxRecDepth 100000 in
/-- java/lang/AbstractStringBuilder.append(Ljava/lang/String;)Ljava/lang/AbstractStringBuilder; -/
theorem c_J5_append_cf1ce (l : Launch) (D : va_G) (tk : Nat → ClassId) (N0 : Nat) (sa : Nat → Nat)  (sz : Nat) (a v cap n t k : Nat) (ml : Int32) (ha9 : N0 ≤ a) (hv9 : N0 ≤ v) (hn9 : n ≤ cap) (hcap : cap ≤ 500000) (hk9 : k ≤ 400000) : Met l yJ5_append_cf1ce (wsy yJ5_append_cf1ce cJ5_append_cf1ce 3 (some (.object "java/lang/AbstractStringBuilder"))) ({ frames := 4, cells := sbK cap (n + k), slots := sbS cap (n + k), locals := 91 } : Room) (cP D tk N0 sa [.ref a, .ref t] sz (fun H => SBo D a v ml (nI n) H ∧ BA D tk v cap H ∧ SX D tk t k H)) (kQr (fun r H => r = a ∧ ∃ v1, (v1 = v ∨ sz ≤ v1) ∧ SBo D a v1 ml (nI (n + k)) H ∧ BA D tk v1 (sbC cap (n + k)) H) (inA2 a v sz)) (sbK cap (n + k)) (sbS cap (n + k)) (inA2 a v sz) := by
  refine mStart RJ5 rfl (by decide +kernel) (Nat.le_of_ble_eq_true rfl) ?_
  intro p e s m args below meth c E hr hlk hnm hsz hC hF ls hl
  subst hsz
  obtain ⟨hx, hb, -⟩ := id E
  have hA : ∀ q, (inA2 a v s.heap.size) q → N0 ≤ q := fun q h => h.elim (fun z => z ▸ ha9) (fun z => z.elim (fun w => w ▸ hv9) (fun w => Nat.le_trans hC.2.1 w))
  have hn : ∀ q, s.heap.size ≤ q → (inA2 a v s.heap.size) q := fun q h => Or.inr (Or.inr h)
  have hS : va_S (inA2 a v s.heap.size) s.heap s.heap [] := va_S.rf
  have hl : lv_has ls 3 [(0, .ref a), (1, .ref t)] := hl
  obtain ⟨f0, hB, st⟩ : SBo D a v ml (nI n) s.heap ∧ BA D tk v cap s.heap ∧ SX D tk t k s.heap := hF
  have g_f0 : (inA2 a v s.heap.size) a := Or.inl rfl
  have g_hB : (inA2 a v s.heap.size) v := Or.inr (Or.inl rfl)
  refine lv_aload_n (pc := 0) hx hb dJ5_append_cf1ce_0 rfl (lv_at hl 1 rfl) ?_
  refine lv_ifnonnull (pc := 1) (tgt := 9) hx hb dJ5_append_cf1ce_1 (by decide) ?_
  refine lv_aload_n (pc := 9) hx hb dJ5_append_cf1ce_9 rfl (lv_at hl 1 rfl) ?_
  refine k_i (pc := 10) (k_V E hC hS hA hl.1 (st.recv hC) rfl (c_J0_length_8abf5 l D tk N0 sa s.heap.size t k) kw_412 kw_413 kw_414 kw_20 kw_415 (n := 0) (by decide +kernel) rfl ⟨⟨rfl, rfl⟩, ⟨Nat.le_of_ble_eq_true rfl, Nat.le_of_ble_eq_true rfl⟩, (by dsimp only; omega), (by dsimp only; omega)⟩ rfl (Nat.le_of_ble_eq_true rfl) st dJ5_append_cf1ce_10) hS (fun q z w => absurd w (Nat.not_le.mpr z)) hn (fun r_1 H locs hR hz hk hS => ?_)
  have f0 := f0.kept (hk _ f0.lt (Nat.not_le.mpr f0.lt))
  have hB := hB.kept (hk _ hB.lt (Nat.not_le.mpr hB.lt))
  have st := st.new hk
  rw [show r_1 = nI k from hR]
  obtain ⟨x_2, ex_2⟩ : ∃ z9 : Int32, z9 = nI k := ⟨_, rfl⟩
  rw [← ex_2]
  refine lv_istore_n (pc := 13) (lv' := [(2, .int x_2), (0, .ref a), (1, .ref t)]) hx hb dJ5_append_cf1ce_13 rfl hl (by decide) rfl (fun ls hl => ?_)
  refine lv_aload_n (pc := 14) hx hb dJ5_append_cf1ce_14 rfl (lv_at hl 1 rfl) ?_
  refine lv_aload_n (pc := 15) hx hb dJ5_append_cf1ce_15 rfl (lv_at hl 1 rfl) ?_
  refine r_get (pc := 16) E hC f0 3 (v := .int (nI n)) rfl rfl (by decide) uJ4 (List.mem_cons_of_mem _ kw_171) (fun _ h => h) dJ5_append_cf1ce_16 ?_
  refine lv_iload_n (pc := 19) hx hb dJ5_append_cf1ce_19 rfl (lv_at hl 0 rfl) ?_
  refine lv_iadd (pc := 20) hx hb dJ5_append_cf1ce_20 ?_
  have hZ0_ := hS.1
  have t_f0 := f0.lt
  have t_hB := hB.lt
  have t_st := st.lt
  refine k_v (pc := 21) (k_U E hC hS hA hl.1 (c1.recv hC f0 rfl) (c_J5_ensureCapacityInternal_d00df l D tk N0 sa H.size a v cap ml (nI n) ((nI n) + x_2) (n + k) (hA _ g_f0) (by rw [ex_2]; exact nI_add n k) (by omega) (by omega)) kw_189 kw_1810 kw_191 (selUp (n := 4) (E.2.2.2.2 _ (List.mem_cons_of_mem _ kw_150)) (va_Nw.use rfl (hC.2.2.2.1 _ kn_190 rfl)) (E.2.2.2.2 _ (List.mem_cons_of_mem _ kw_191)) (E.2.2.2.2 _ (List.mem_cons_of_mem _ kw_1810))) kw_18 kw_192 (n := 1) (by decide +kernel) rfl ⟨⟨rfl, rfl⟩, ⟨Nat.le_of_ble_eq_true rfl, Nat.le_of_ble_eq_true rfl⟩, (by dsimp only; omega), (by dsimp only; omega)⟩ rfl (Nat.le_of_ble_eq_true rfl) ⟨f0, hB⟩ dJ5_append_cf1ce_21) hS (inA1.to g_f0) hn (fun H locs hR hz hk hS => ?_)
  have st := st.keep1 hk (clA.ne st.cl f0.cl (hC.oo 0 1 rfl rfl (by decide))) (fun b9 n9 h9 => h9.neo hC f0.cl (ci := 1) rfl)
  obtain ⟨v_4, hv_4, f0, hB⟩ := hR
  have g_hB := hv_4.elim (fun e9 => e9 ▸ g_hB) (fun z9 => hn _ (Nat.le_trans hZ0_ z9))
  have hv_4 := hv_4.imp_right (fun z9 => Nat.le_trans hZ0_ z9)
  refine lv_aload_n (pc := 24) hx hb dJ5_append_cf1ce_24 rfl (lv_at hl 1 rfl) ?_
  refine lv_aload_n (pc := 25) hx hb dJ5_append_cf1ce_25 rfl (lv_at hl 1 rfl) ?_
  refine r_get (pc := 26) E hC f0 3 (v := .int (nI n)) rfl rfl (by decide) uJ4 (List.mem_cons_of_mem _ kw_171) (fun _ h => h) dJ5_append_cf1ce_26 ?_
  refine lv_aload_n (pc := 29) hx hb dJ5_append_cf1ce_29 rfl (lv_at hl 2 rfl) ?_
  refine k_v (pc := 30) (k_U E hC hS hA hl.1 (c1.recv hC f0 rfl) (c_J5_putStringAt_47b60 l D tk N0 sa H.size a v_4 (sbC cap (n + k)) n t k ml (nI n) (hA _ g_hB) rfl (by have := sbC_ge cap (n + k); omega) (by have := sbC_lt cap (n + k); omega)) kw_421 kw_1817 kw_423 (selUp (n := 4) (E.2.2.2.2 _ (List.mem_cons_of_mem _ kw_150)) (va_Nw.use rfl (hC.2.2.2.1 _ kn_422 rfl)) (E.2.2.2.2 _ (List.mem_cons_of_mem _ kw_423)) (E.2.2.2.2 _ (List.mem_cons_of_mem _ kw_1817))) kw_18 kw_424 (n := 2) (by decide +kernel) rfl ⟨⟨rfl, rfl⟩, ⟨Nat.le_of_ble_eq_true rfl, Nat.le_of_ble_eq_true rfl⟩, (by dsimp only; omega), (by dsimp only; omega)⟩ rfl (Nat.le_of_ble_eq_true rfl) ⟨f0, hB, st⟩ dJ5_append_cf1ce_30) hS (inA1.to g_hB) hn (fun H locs hR hz hk hS => ?_)
  have f0 := f0.kept (hk _ f0.lt (inA1.not (clA.ne f0.cl hB.cl (hC.oa 1 1 rfl rfl)) f0.lt))
  have hB := hR
  refine lv_aload_n (pc := 33) hx hb dJ5_append_cf1ce_33 rfl (lv_at hl 1 rfl) ?_
  refine lv_dup (pc := 34) hx hb dJ5_append_cf1ce_34 rfl ?_
  refine r_get (pc := 35) E hC f0 3 (v := .int (nI n)) rfl rfl (by decide) uJ4 (List.mem_cons_of_mem _ kw_171) (fun _ h => h) dJ5_append_cf1ce_35 ?_
  refine lv_iload_n (pc := 38) hx hb dJ5_append_cf1ce_38 rfl (lv_at hl 0 rfl) ?_
  refine lv_iadd (pc := 39) hx hb dJ5_append_cf1ce_39 ?_
  refine r_put (pc := 40) E hC f0 hS g_f0 3 tyJ4 tyJ4_ok nmJ4 rfl (by decide) (Nat.le_of_ble_eq_true rfl) uJ4 (List.mem_cons_of_mem _ kw_171) (fun _ h => h) rfl rfl rfl dJ5_append_cf1ce_40 (fun H locs n_ ho hz hS => ?_)
  have hB := hB.kept (ho _ (clA.ne hB.cl f0.cl (hC.ao 1 1 rfl rfl)))
  have f0 : c1 D a (.inr (1, [.ref v_4, .int 0, .int ml, .int ((nI n) + x_2)])) H := n_
  refine lv_aload_n (pc := 43) hx hb dJ5_append_cf1ce_43 rfl (lv_at hl 1 rfl) ?_
  refine r_aret (pc := 44) E hr (Or.inl ⟨_, rfl⟩) hlk hS (by omega) (by omega) ?_ dJ5_append_cf1ce_44
  exact ⟨rfl, _, hv_4, (by have h9 := f0; rw [ex_2, nI_add] at h9; exact h9), hB⟩
