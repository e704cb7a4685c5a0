set_option maxHeartbeats 4000000 in
set_option maxRecDepth 100000 in
/-- java/lang/AbstractStringBuilder.append(J)Ljava/lang/AbstractStringBuilder; -/
theorem c_J5_append_66267 (l : Launch) (D : va_G) (tk : Nat → ClassId) (N0 : Nat) (sa : Nat → Nat)  (sz : Nat) (a v cap n : Nat) (ml : Int32) (x : Int64) (ha9 : N0 ≤ a) (hv9 : N0 ≤ v) (hn9 : n ≤ cap) (hcap : cap ≤ 500000) : Met l yJ5_append_66267 (wsy yJ5_append_66267 cJ5_append_66267 5 (some (.object "java/lang/AbstractStringBuilder"))) ({ frames := 4, cells := sbK cap (n + dgJ x), slots := sbS cap (n + dgJ x), locals := 91 } : Room) (cP D tk N0 sa [.ref a, .long x] sz (fun H => SBo D a v ml (nI n) H ∧ BA D tk v cap H)) (kQr (fun r H => r = a ∧ ∃ v1, (v1 = v ∨ sz ≤ v1) ∧ SBo D a v1 ml (nI (n + dgJ x)) H ∧ BA D tk v1 (sbC cap (n + dgJ x)) H) (inA2 a v sz)) (sbK cap (n + dgJ x)) (sbS cap (n + dgJ x)) (inA2 a v sz) := by
  refine mStart RJ5 rfl (by decide +kernel) (Nat.le_of_ble_eq_true rfl) ?_
  intro p e s m args below meth c E hr hlk hnm hsz hC hF ls hl
  subst hsz
  obtain ⟨hx, hb, -⟩ := id E
  have hA : ∀ q, (inA2 a v s.heap.size) q → N0 ≤ q := fun q h => h.elim (fun z => z ▸ ha9) (fun z => z.elim (fun w => w ▸ hv9) (fun w => Nat.le_trans hC.2.1 w))
  have hn : ∀ q, s.heap.size ≤ q → (inA2 a v s.heap.size) q := fun q h => Or.inr (Or.inr h)
  have hS : va_S (inA2 a v s.heap.size) s.heap s.heap [] := va_S.rf
  have hl : lv_has ls 5 [(0, .ref a), (1, .long x)] := hl
  obtain ⟨f0, hB⟩ : SBo D a v ml (nI n) s.heap ∧ BA D tk v cap s.heap := hF
  have g_f0 : (inA2 a v s.heap.size) a := Or.inl rfl
  have g_hB : (inA2 a v s.heap.size) v := Or.inr (Or.inl rfl)
  refine lv_aload_n (pc := 0) hx hb dJ5_append_66267_0 rfl (lv_at hl 0 rfl) ?_
  refine r_get (pc := 1) E hC f0 3 (v := .int (nI n)) rfl rfl (by decide) uJ4 (List.mem_cons_of_mem _ kw_171) (fun _ h => h) dJ5_append_66267_1 ?_
  obtain ⟨x_1, ex_1⟩ : ∃ z9 : Int32, z9 = nI n := ⟨_, rfl⟩
  rw [← ex_1]
  refine lv_istore_n (pc := 4) (lv' := [(3, .int x_1), (0, .ref a), (1, .long x)]) hx hb dJ5_append_66267_4 rfl hl (by decide) rfl (fun ls hl => ?_)
  refine lv_iload_n (pc := 5) hx hb dJ5_append_66267_5 rfl (lv_at hl 0 rfl) ?_
  refine lv_lload_n (pc := 6) hx hb dJ5_append_66267_6 rfl (lv_at hl 2 rfl) ?_
  refine k_i (pc := 7) (k_S E hC hS hA hl.1 (c_J13_stringSize_95d88 l D tk N0 sa s.heap.size x) kw_1361 kw_1362 kw_17 kw_1363 (n := 1) (by decide +kernel) rfl ⟨⟨rfl, rfl⟩, ⟨Nat.le_of_ble_eq_true rfl, Nat.le_of_ble_eq_true rfl⟩, (by dsimp only; omega), (by dsimp only; omega)⟩ rfl (Nat.le_of_ble_eq_true rfl) trivial dJ5_append_66267_7) hS (fun q z w => absurd w (Nat.not_le.mpr z)) hn (fun r_2 H locs hR hz hk hS => ?_)
  have f0 := f0.kept (hk _ f0.lt (Nat.not_le.mpr f0.lt))
  have hB := hB.kept (hk _ hB.lt (Nat.not_le.mpr hB.lt))
  have hss := hR
  refine lv_iadd (pc := 10) hx hb dJ5_append_66267_10 ?_
  obtain ⟨x_3, ex_3⟩ : ∃ z9 : Int32, z9 = x_1 + r_2 := ⟨_, rfl⟩
  rw [← ex_3]
  refine lv_istore (pc := 11) (lv' := [(4, .int x_3), (3, .int x_1), (0, .ref a), (1, .long x)]) hx hb dJ5_append_66267_11 hl (by decide) rfl (fun ls hl => ?_)
  refine lv_aload_n (pc := 13) hx hb dJ5_append_66267_13 rfl (lv_at hl 2 rfl) ?_
  refine lv_iload (pc := 14) hx hb dJ5_append_66267_14 (lv_at hl 0 rfl) ?_
  obtain ⟨kd, hd1, hd2, hd3, hd4, hd5⟩ := id hss
  have hd6 := SSJ.eq hss
  have hd7 := dgJ_le x
  have hxx : x_3 = nI (n + dgJ x) := by rw [ex_3, ex_1, hd6]; exact nI_add n _
  have hZ0_ := hS.1
  have t_f0 := f0.lt
  have t_hB := hB.lt
  refine k_v (pc := 16) (k_U E hC hS hA hl.1 (c1.recv hC f0 rfl) (c_J5_ensureCapacityInternal_d00df l D tk N0 sa H.size a v cap ml (nI n) x_3 (n + dgJ x) (hA _ g_f0) hxx (by omega) (by omega)) kw_189 kw_1810 kw_191 (selUp (n := 4) (E.2.2.2.2 _ (List.mem_cons_of_mem _ kw_150)) (va_Nw.use rfl (hC.2.2.2.1 _ kn_190 rfl)) (E.2.2.2.2 _ (List.mem_cons_of_mem _ kw_191)) (E.2.2.2.2 _ (List.mem_cons_of_mem _ kw_1810))) kw_18 kw_192 (n := 1) (by decide +kernel) rfl ⟨⟨rfl, rfl⟩, ⟨Nat.le_of_ble_eq_true rfl, Nat.le_of_ble_eq_true rfl⟩, (by dsimp only; omega), (by dsimp only; omega)⟩ rfl (Nat.le_of_ble_eq_true rfl) ⟨f0, hB⟩ dJ5_append_66267_16) hS (inA1.to g_f0) hn (fun H locs hR hz hk hS => ?_)
  obtain ⟨v_5, hv_5, f0, hB⟩ := hR
  have g_hB := hv_5.elim (fun e9 => e9 ▸ g_hB) (fun z9 => hn _ (Nat.le_trans hZ0_ z9))
  have hv_5 := hv_5.imp_right (fun z9 => Nat.le_trans hZ0_ z9)
  refine lv_aload_n (pc := 19) hx hb dJ5_append_66267_19 rfl (lv_at hl 2 rfl) ?_
  refine k_i (pc := 20) (k_U E hC hS hA hl.1 (c1.recv hC f0 rfl) (c_J5_isLatin1_aae02 l D tk N0 sa H.size a v_5 (sbC cap (n + dgJ x)) ml (nI n)) kw_224 kw_226 kw_225 (E.2.2.2.2 _ (List.mem_cons_of_mem _ kw_227)) kw_18 kw_228 (n := 0) (by decide +kernel) rfl ⟨⟨rfl, rfl⟩, ⟨Nat.le_of_ble_eq_true rfl, Nat.le_of_ble_eq_true rfl⟩, (by dsimp only; omega), (by dsimp only; omega)⟩ rfl (Nat.le_of_ble_eq_true rfl) ⟨f0, hB⟩ dJ5_append_66267_20) hS (fun q z w => absurd w (Nat.not_le.mpr z)) hn (fun r_6 H locs hR hz hk hS => ?_)
  have f0 := f0.kept (hk _ f0.lt (Nat.not_le.mpr f0.lt))
  have hB := hB.kept (hk _ hB.lt (Nat.not_le.mpr hB.lt))
  rw [show r_6 = 1 from hR]
  refine lv_if_eq (pc := 23) (tgt := 40) hx hb dJ5_append_66267_23 (by decide) (fun c_7 => ?_) (fun c_7 => ?_)
  · exact absurd c_7 (by decide)
  refine lv_lload_n (pc := 26) hx hb dJ5_append_66267_26 rfl (lv_at hl 3 rfl) ?_
  refine lv_iload (pc := 27) hx hb dJ5_append_66267_27 (lv_at hl 0 rfl) ?_
  refine lv_aload_n (pc := 29) hx hb dJ5_append_66267_29 rfl (lv_at hl 2 rfl) ?_
  refine r_get (pc := 30) E hC f0 0 (v := .ref v_5) rfl rfl (by decide) uJ4 (List.mem_cons_of_mem _ kw_167) (fun _ h => h) dJ5_append_66267_30 ?_
  refine k_i (pc := 33) (k_S E hC hS hA hl.1 (c_J13_getChars_11360 l D tk N0 sa H.size x x_3 v_5 (sbC cap (n + dgJ x)) (n + dgJ x) kd (hA _ g_hB) hd3 hd1 (by have h8 := dgJ_k hd1 hd2 hd3 hd4; omega) (by have := sbC_ge cap (n + dgJ x); omega) (by have := sbC_lt cap (n + dgJ x); omega) hxx) kw_1366 kw_1367 kw_17 kw_1368 (n := 3) (by decide +kernel) rfl ⟨⟨rfl, rfl⟩, ⟨Nat.le_of_ble_eq_true rfl, Nat.le_of_ble_eq_true rfl⟩, (by dsimp only; omega), (by dsimp only; omega)⟩ rfl (Nat.le_of_ble_eq_true rfl) hB dJ5_append_66267_33) hS (inA1.to g_hB) hn (fun r_8 H locs hR hz hk hS => ?_)
  have f0 := f0.kept (hk _ f0.lt (inA1.not (clA.ne f0.cl hB.cl (hC.oa 1 1 rfl rfl)) f0.lt))
  have hB := hR
  refine lv_pop (pc := 36) hx hb dJ5_append_66267_36 rfl ?_
  refine lv_goto (pc := 37) (tgt := 52) hx hb dJ5_append_66267_37 (by decide) ?_
  refine lv_aload_n (pc := 52) hx hb dJ5_append_66267_52 rfl (lv_at hl 2 rfl) ?_
  refine lv_iload (pc := 53) hx hb dJ5_append_66267_53 (lv_at hl 0 rfl) ?_
  refine r_put (pc := 55) E hC f0 hS g_f0 3 tyJ4 tyJ4_ok nmJ4 rfl (by decide) (Nat.le_of_ble_eq_true rfl) uJ4 (List.mem_cons_of_mem _ kw_171) (fun _ h => h) rfl rfl rfl dJ5_append_66267_55 (fun H locs n_ ho hz hS => ?_)
  have hB := hB.kept (ho _ (clA.ne hB.cl f0.cl (hC.ao 1 1 rfl rfl)))
  have f0 : c1 D a (.inr (1, [.ref v_5, .int 0, .int ml, .int x_3])) H := n_
  refine lv_aload_n (pc := 58) hx hb dJ5_append_66267_58 rfl (lv_at hl 2 rfl) ?_
  refine r_aret (pc := 59) E hr (Or.inl ⟨_, rfl⟩) hlk hS (by omega) (by omega) ?_ dJ5_append_66267_59
  exact ⟨rfl, _, hv_5, (by have h9 := f0; rw [hxx] at h9; exact h9), hB⟩
