set_option maxHeartbeats 4000000 in
set_option maxRecDepth 100000 in
/-- java/util/Arrays.copyOf([BI)[B -/
theorem c_J7_copyOf_9075b (l : Launch) (D : va_G) (tk : Nat → ClassId) (N0 : Nat) (sa : Nat → Nat)  (sz : Nat) (b n k : Nat) (nl : Int32) (hnl : nl = nI k) (hlt : n < k) (hk9 : k ≤ 100000000) : Met l yJ7_copyOf_9075b (wsy yJ7_copyOf_9075b cJ7_copyOf_9075b 3 (some (.array .byte))) ({ frames := 1, cells := 1, slots := k, locals := 26 } : Room) (cP D tk N0 sa [.ref b, .int nl] sz (fun H => BA D tk b n H)) (kQr (fun r H => sz ≤ r ∧ BA D tk r k H) (nwA sz)) (1) (k) (nwA sz) := by
  refine mStart RJ7 rfl (by decide +kernel) (Nat.le_of_ble_eq_true rfl) ?_
  intro p e s m args below meth c E hr hlk hnm hsz hC hF ls hl
  subst hsz
  obtain ⟨hx, hb, -⟩ := id E
  have hA : ∀ q, (nwA s.heap.size) q → N0 ≤ q := fun q h => Nat.le_trans hC.2.1 h
  have hn : ∀ q, s.heap.size ≤ q → (nwA s.heap.size) q := fun q h => h
  have hS : va_S (nwA s.heap.size) s.heap s.heap [] := va_S.rf
  have hl : lv_has ls 3 [(0, .ref b), (1, .int nl)] := hl
  have hB : BA D tk b n s.heap := hF
  refine lv_iload_n (pc := 0) hx hb dJ7_copyOf_9075b_0 rfl (lv_at hl 1 rfl) ?_
  refine lv_aload_n (pc := 1) hx hb dJ7_copyOf_9075b_1 rfl (lv_at hl 0 rfl) ?_
  obtain ⟨x_1, ex_1⟩ : ∃ z9 : Int32, z9 = nI n := ⟨_, rfl⟩
  refine r_alenB (pc := 2) E hC hB (v := x_1) ex_1.symm dJ7_copyOf_9075b_2 ?_
  refine lv_icmp_ne (pc := 3) (tgt := 14) hx hb dJ7_copyOf_9075b_3 (by decide) (fun c_2 => ?_) (fun c_2 => ?_)
  rotate_left
  · exact absurd c_2 (by rw [hnl, ex_1]; exact nI_ne9 (by omega) (by omega) (by omega))
  refine lv_iload_n (pc := 14) hx hb dJ7_copyOf_9075b_14 rfl (lv_at hl 1 rfl) ?_
  have hS0_ := hS
  refine r_newb (pc := 15) E hC hS (N := k) (by rw [hnl]; exact nI_pos (by omega)) (by rw [hnl]; exact nI_clamp (by omega)) (by omega) (by dsimp only; omega) (by dsimp only; omega) dJ7_copyOf_9075b_15 (fun qf3 H zq_ n_ ho_ hS => ?_)
  have l_hB_f3 : b < qf3 := zq_ ▸ hB.lt
  have hB := hB.kept (ho_ _ hB.lt)
  have f3 := n_
  have s_f3 : s.heap.size ≤ qf3 := zq_ ▸ hS0_.1
  have g_f3 := hn _ s_f3
  refine lv_astore_n (pc := 17) (lv' := [(2, .ref qf3), (0, .ref b), (1, .int nl)]) hx hb dJ7_copyOf_9075b_17 rfl hl (by decide) rfl (fun ls hl => ?_)
  refine lv_aload_n (pc := 18) hx hb dJ7_copyOf_9075b_18 rfl (lv_at hl 1 rfl) ?_
  refine lv_iconst (pc := 19) (v := 0) hx hb dJ7_copyOf_9075b_19 (by decide) ?_
  refine lv_aload_n (pc := 20) hx hb dJ7_copyOf_9075b_20 rfl (lv_at hl 0 rfl) ?_
  refine lv_iconst (pc := 21) (v := 0) hx hb dJ7_copyOf_9075b_21 (by decide) ?_
  refine lv_aload_n (pc := 22) hx hb dJ7_copyOf_9075b_22 rfl (lv_at hl 1 rfl) ?_
  obtain ⟨x_4, ex_4⟩ : ∃ z9 : Int32, z9 = nI n := ⟨_, rfl⟩
  refine r_alenB (pc := 23) E hC hB (v := x_4) ex_4.symm dJ7_copyOf_9075b_23 ?_
  refine lv_iload_n (pc := 24) hx hb dJ7_copyOf_9075b_24 rfl (lv_at hl 2 rfl) ?_
  refine k_i (pc := 25) (k_S E hC hS hA hl.1 (c_J9_min_7cf53 l D tk N0 sa H.size x_4 nl ) kw_218 kw_219 kw_9 kw_220 (n := 2) (by decide +kernel) rfl ⟨⟨rfl, rfl⟩, ⟨Nat.le_of_ble_eq_true rfl, Nat.le_of_ble_eq_true rfl⟩, (by dsimp only; omega), (by dsimp only; omega)⟩ rfl (Nat.le_of_ble_eq_true rfl) trivial dJ7_copyOf_9075b_25) hS (fun q z w => absurd w (Nat.not_le.mpr z)) hn (fun r_5 H locs hR hz hk hS => ?_)
  have er_5 := hR
  have hB := hB.kept (hk _ hB.lt (Nat.not_le.mpr hB.lt))
  have f3 := f3.kept (hk _ f3.lt (Nat.not_le.mpr f3.lt))
  have hm9 : r_5 = nI n := by rw [er_5, hnl, ex_4]; exact f_min9 (by omega) (by omega)
  refine r_acpyB (pc := 28) E hC hl.1 hB.bx f3 hS g_f3 (by decide) (by decide) (by rw [hm9]; exact nI_pos (by omega)) (by rw [hm9, nI_clamp (by omega), sb_cl0]; omega) (by rw [hm9, nI_clamp (by omega), sb_cl0]; omega) kw_221 (by exact Nat.le_of_ble_eq_true rfl) (by decide) (by exact Nat.le_of_ble_eq_true rfl) dJ7_copyOf_9075b_28 (fun H locs n_ ho hz hS => ?_)
  have hB := hB.kept (ho _ (Nat.ne_of_lt l_hB_f3))
  have f3 := n_
  refine lv_aload_n (pc := 31) hx hb dJ7_copyOf_9075b_31 rfl (lv_at hl 0 rfl) ?_
  refine r_aret (pc := 32) E hr (Or.inr ⟨_, rfl⟩) hlk hS (by omega) (by omega) ?_ dJ7_copyOf_9075b_32
  exact ⟨s_f3, f3⟩
set_option maxHeartbeats 4000000 in
set_option maxRecDepth 100000 in
/-- java/lang/AbstractStringBuilder.ensureCapacityInternal(I)V -/
theorem c_J5_ensureCapacityInternal_d00df (l : Launch) (D : va_G) (tk : Nat → ClassId) (N0 : Nat) (sa : Nat → Nat)  (sz : Nat) (a v cap : Nat) (ml cn mn : Int32) (mk : Nat) (ha9 : N0 ≤ a) (hmk : mn = nI mk) (hcap : cap ≤ 1000000) (hmk9 : mk ≤ 1000000) : Met l yJ5_ensureCapacityInternal_d00df (wsy yJ5_ensureCapacityInternal_d00df cJ5_ensureCapacityInternal_d00df 3 none) ({ frames := 3, cells := sbK cap mk, slots := sbS cap mk, locals := 69 } : Room) (cP D tk N0 sa [.ref a, .int mn] sz (fun H => SBo D a v ml cn H ∧ BA D tk v cap H)) (kQv (fun H => ∃ v1, (v1 = v ∨ sz ≤ v1) ∧ SBo D a v1 ml cn H ∧ BA D tk v1 (sbC cap mk) H) (inA1 a sz)) (sbK cap mk) (sbS cap mk) (inA1 a sz) := by
  refine mStart RJ5 rfl (by decide +kernel) (Nat.le_of_ble_eq_true rfl) ?_
  intro p e s m args below meth c E hr hlk hnm hsz hC hF ls hl
  subst hsz
  obtain ⟨hx, hb, -⟩ := id E
  have hA : ∀ q, (inA1 a s.heap.size) q → N0 ≤ q := fun q h => h.elim (fun z => z ▸ ha9) (fun z => Nat.le_trans hC.2.1 z)
  have hn : ∀ q, s.heap.size ≤ q → (inA1 a s.heap.size) q := fun q h => Or.inr h
  have hS : va_S (inA1 a s.heap.size) s.heap s.heap [] := va_S.rf
  have hl : lv_has ls 3 [(0, .ref a), (1, .int mn)] := hl
  obtain ⟨f0, hB⟩ : SBo D a v ml cn s.heap ∧ BA D tk v cap s.heap := hF
  have g_f0 : (inA1 a s.heap.size) a := Or.inl rfl
  refine lv_aload_n (pc := 0) hx hb dJ5_ensureCapacityInternal_d00df_0 rfl (lv_at hl 0 rfl) ?_
  refine r_get (pc := 1) E hC f0 0 (v := .ref v) rfl rfl (by decide) uJ4 (List.mem_cons_of_mem _ kw_167) (fun _ h => h) dJ5_ensureCapacityInternal_d00df_1 ?_
  obtain ⟨x_1, ex_1⟩ : ∃ z9 : Int32, z9 = nI cap := ⟨_, rfl⟩
  refine r_alenB (pc := 4) E hC hB (v := x_1) ex_1.symm dJ5_ensureCapacityInternal_d00df_4 ?_
  refine lv_aload_n (pc := 5) hx hb dJ5_ensureCapacityInternal_d00df_5 rfl (lv_at hl 0 rfl) ?_
  refine r_get (pc := 6) E hC f0 1 (v := .int 0) rfl rfl (by decide) uJ4 (List.mem_cons_of_mem _ kw_168) (fun _ h => h) dJ5_ensureCapacityInternal_d00df_6 ?_
  refine lv_ishr (pc := 9) hx hb dJ5_ensureCapacityInternal_d00df_9 ?_
  obtain ⟨x_2, ex_2⟩ : ∃ z9 : Int32, z9 = x_1 >>> (0 &&& 31) := ⟨_, rfl⟩
  rw [← ex_2]
  refine lv_istore_n (pc := 10) (lv' := [(2, .int x_2), (0, .ref a), (1, .int mn)]) hx hb dJ5_ensureCapacityInternal_d00df_10 rfl hl (by decide) rfl (fun ls hl => ?_)
  have hle9 := ens_le ex_1 ex_2 hmk hcap hmk9
  refine lv_iload_n (pc := 11) hx hb dJ5_ensureCapacityInternal_d00df_11 rfl (lv_at hl 2 rfl) ?_
  refine lv_iload_n (pc := 12) hx hb dJ5_ensureCapacityInternal_d00df_12 rfl (lv_at hl 0 rfl) ?_
  refine lv_isub (pc := 13) hx hb dJ5_ensureCapacityInternal_d00df_13 ?_
  refine lv_if_le (pc := 14) (tgt := 38) hx hb dJ5_ensureCapacityInternal_d00df_14 (by decide) (fun c_3 => ?_) (fun c_3 => ?_)
  · refine r_vret (pc := 38) E hr hlk hS (by omega) (by omega) ?_ dJ5_ensureCapacityInternal_d00df_38
    exact ⟨v, Or.inl rfl, f0, by rw [sbC, if_pos (hle9.mp c_3)]; exact hB⟩
  · have hlt9 : cap < mk := Nat.not_le.mp (fun z9 => c_3 (hle9.mpr z9))
    have hK9 : sbK cap mk = 1 := if_neg (by omega)
    have hS9 : sbS cap mk = max mk (2 * cap + 2) := if_neg (by omega)
    refine lv_aload_n (pc := 17) hx hb dJ5_ensureCapacityInternal_d00df_17 rfl (lv_at hl 1 rfl) ?_
    refine lv_aload_n (pc := 18) hx hb dJ5_ensureCapacityInternal_d00df_18 rfl (lv_at hl 1 rfl) ?_
    refine r_get (pc := 19) E hC f0 0 (v := .ref v) rfl rfl (by decide) uJ4 (List.mem_cons_of_mem _ kw_167) (fun _ h => h) dJ5_ensureCapacityInternal_d00df_19 ?_
    refine lv_aload_n (pc := 22) hx hb dJ5_ensureCapacityInternal_d00df_22 rfl (lv_at hl 1 rfl) ?_
    refine lv_iload_n (pc := 23) hx hb dJ5_ensureCapacityInternal_d00df_23 rfl (lv_at hl 2 rfl) ?_
    refine k_i (pc := 24) (k_U E hC hS hA hl.1 (c1.recv hC f0 rfl) (c_J5_newCapacity_0f7a4 l D tk N0 sa s.heap.size a v cap ml cn mn mk hmk hcap hmk9 hlt9) kw_193 kw_1811 kw_195 (selUp (n := 4) (E.2.2.2.2 _ (List.mem_cons_of_mem _ kw_150)) (va_Nw.use rfl (hC.2.2.2.1 _ kn_194 rfl)) (E.2.2.2.2 _ (List.mem_cons_of_mem _ kw_195)) (E.2.2.2.2 _ (List.mem_cons_of_mem _ kw_1811))) kw_18 kw_196 (n := 1) (by decide +kernel) rfl ⟨⟨rfl, rfl⟩, ⟨Nat.le_of_ble_eq_true rfl, Nat.le_of_ble_eq_true rfl⟩, (by dsimp only; omega), (by dsimp only; omega)⟩ rfl (Nat.le_of_ble_eq_true rfl) ⟨f0, hB⟩ dJ5_ensureCapacityInternal_d00df_24) hS (fun q z w => absurd w (Nat.not_le.mpr z)) hn (fun r_4 H locs hR hz hk hS => ?_)
    have f0 := f0.kept (hk _ f0.lt (Nat.not_le.mpr f0.lt))
    have hB := hB.kept (hk _ hB.lt (Nat.not_le.mpr hB.lt))
    have hr9 : r_4 = nI (max mk (2 * cap + 2)) := hR
    refine lv_aload_n (pc := 27) hx hb dJ5_ensureCapacityInternal_d00df_27 rfl (lv_at hl 1 rfl) ?_
    refine r_get (pc := 28) E hC f0 1 (v := .int 0) rfl rfl (by decide) uJ4 (List.mem_cons_of_mem _ kw_168) (fun _ h => h) dJ5_ensureCapacityInternal_d00df_28 ?_
    refine lv_ishl (pc := 31) hx hb dJ5_ensureCapacityInternal_d00df_31 ?_
    have hZ0_ := hS.1
    have t_f0 := f0.lt
    have t_hB := hB.lt
    refine k_r (pc := 32) (k_S E hC hS hA hl.1 (c_J7_copyOf_9075b l D tk N0 sa H.size v cap (max mk (2 * cap + 2)) (r_4 <<< (0 &&& 31)) (by rw [hr9]; exact sb_shl0 _) (by omega) (by omega)) kw_208 kw_209 kw_24 kw_210 (n := 2) (by decide +kernel) rfl ⟨⟨rfl, rfl⟩, ⟨Nat.le_of_ble_eq_true rfl, Nat.le_of_ble_eq_true rfl⟩, (by dsimp only; omega), (by dsimp only; omega)⟩ rfl (Nat.le_of_ble_eq_true rfl) hB dJ5_ensureCapacityInternal_d00df_32) hS (fun q z w => absurd w (Nat.not_le.mpr z)) hn (fun r_5 H locs hR hz hk hS => ?_)
    have f0 := f0.kept (hk _ f0.lt (Nat.not_le.mpr f0.lt))
    have hB := hB.kept (hk _ hB.lt (Nat.not_le.mpr hB.lt))
    obtain ⟨z9_, f6⟩ := hR
    have s_f6 : s.heap.size ≤ r_5 := Nat.le_trans hZ0_ z9_
    have g_f6 := hn _ s_f6
    have l_f0_f6 : a < r_5 := Nat.lt_of_lt_of_le t_f0 z9_
    have l_hB_f6 : v < r_5 := Nat.lt_of_lt_of_le t_hB z9_
    refine r_put (pc := 35) E hC f0 hS g_f0 0 tyJ4 tyJ4_ok nmJ4 rfl (by decide) (Nat.le_of_ble_eq_true rfl) uJ4 (List.mem_cons_of_mem _ kw_167) (fun _ h => h) rfl rfl rfl dJ5_ensureCapacityInternal_d00df_35 (fun H locs n_ ho hz hS => ?_)
    have hB := hB.kept (ho _ (clA.ne hB.cl f0.cl (hC.ao 1 1 rfl rfl)))
    have f6 := f6.kept (ho _ (clA.ne f6.cl f0.cl (hC.ao 1 1 rfl rfl)))
    have f0 : c1 D a (.inr (1, [.ref r_5, .int 0, .int ml, .int cn])) H := n_
    refine r_vret (pc := 38) E hr hlk hS (by omega) (by omega) ?_ dJ5_ensureCapacityInternal_d00df_38
    exact ⟨_, Or.inr s_f6, f0, by rw [sbC, if_neg (by omega)]; exact f6⟩
set_option maxHeartbeats 4000000 in
set_option maxRecDepth 100000 in
/-- java/lang/AbstractStringBuilder.append(C)Ljava/lang/AbstractStringBuilder; -/
theorem c_J5_append_3fe6f (l : Launch) (D : va_G) (tk : Nat → ClassId) (N0 : Nat) (sa : Nat → Nat)  (sz : Nat) (a v cap n : Nat) (ml ch : Int32) (k9 : Nat) (ha9 : N0 ≤ a) (hv9 : N0 ≤ v) (hn9 : n ≤ cap) (hcap : cap ≤ 500000) (hch : ch = nI k9) (hk9 : k9 < 256) : Met l yJ5_append_3fe6f (wsy yJ5_append_3fe6f cJ5_append_3fe6f 2 (some (.object "java/lang/AbstractStringBuilder"))) ({ frames := 4, cells := sbK cap (n + 1), slots := sbS cap (n + 1), locals := 91 } : Room) (cP D tk N0 sa [.ref a, .int ch] sz (fun H => SBo D a v ml (nI n) H ∧ BA D tk v cap H)) (kQr (fun r H => r = a ∧ ∃ v1, (v1 = v ∨ sz ≤ v1) ∧ SBo D a v1 ml (nI (n + 1)) H ∧ BA D tk v1 (sbC cap (n + 1)) H) (inA2 a v sz)) (sbK cap (n + 1)) (sbS cap (n + 1)) (inA2 a v sz) := by
  refine mStart RJ5 rfl (by decide +kernel) (Nat.le_of_ble_eq_true rfl) ?_
  intro p e s m args below meth c E hr hlk hnm hsz hC hF ls hl
  subst hsz
  obtain ⟨hx, hb, -⟩ := id E
  have hA : ∀ q, (inA2 a v s.heap.size) q → N0 ≤ q := fun q h => h.elim (fun z => z ▸ ha9) (fun z => z.elim (fun w => w ▸ hv9) (fun w => Nat.le_trans hC.2.1 w))
  have hn : ∀ q, s.heap.size ≤ q → (inA2 a v s.heap.size) q := fun q h => Or.inr (Or.inr h)
  have hS : va_S (inA2 a v s.heap.size) s.heap s.heap [] := va_S.rf
  have hl : lv_has ls 2 [(0, .ref a), (1, .int ch)] := hl
  obtain ⟨f0, hB⟩ : SBo D a v ml (nI n) s.heap ∧ BA D tk v cap s.heap := hF
  have g_f0 : (inA2 a v s.heap.size) a := Or.inl rfl
  have g_hB : (inA2 a v s.heap.size) v := Or.inr (Or.inl rfl)
  refine lv_aload_n (pc := 0) hx hb dJ5_append_3fe6f_0 rfl (lv_at hl 0 rfl) ?_
  refine lv_aload_n (pc := 1) hx hb dJ5_append_3fe6f_1 rfl (lv_at hl 0 rfl) ?_
  refine r_get (pc := 2) E hC f0 3 (v := .int (nI n)) rfl rfl (by decide) uJ4 (List.mem_cons_of_mem _ kw_171) (fun _ h => h) dJ5_append_3fe6f_2 ?_
  refine lv_iconst (pc := 5) (v := 1) hx hb dJ5_append_3fe6f_5 (by decide) ?_
  refine lv_iadd (pc := 6) hx hb dJ5_append_3fe6f_6 ?_
  have hZ0_ := hS.1
  have t_f0 := f0.lt
  have t_hB := hB.lt
  refine k_v (pc := 7) (k_U E hC hS hA hl.1 (c1.recv hC f0 rfl) (c_J5_ensureCapacityInternal_d00df l D tk N0 sa s.heap.size a v cap ml (nI n) ((nI n) + 1) (n + 1) (hA _ g_f0) (nI_1 n) (by omega) (by omega)) kw_189 kw_1810 kw_191 (selUp (n := 4) (E.2.2.2.2 _ (List.mem_cons_of_mem _ kw_150)) (va_Nw.use rfl (hC.2.2.2.1 _ kn_190 rfl)) (E.2.2.2.2 _ (List.mem_cons_of_mem _ kw_191)) (E.2.2.2.2 _ (List.mem_cons_of_mem _ kw_1810))) kw_18 kw_192 (n := 1) (by decide +kernel) rfl ⟨⟨rfl, rfl⟩, ⟨Nat.le_of_ble_eq_true rfl, Nat.le_of_ble_eq_true rfl⟩, (by dsimp only; omega), (by dsimp only; omega)⟩ rfl (Nat.le_of_ble_eq_true rfl) ⟨f0, hB⟩ dJ5_append_3fe6f_7) hS (inA1.to g_f0) hn (fun H locs hR hz hk hS => ?_)
  obtain ⟨v_2, hv_2, f0, hB⟩ := hR
  have g_hB := hv_2.elim (fun e9 => e9 ▸ g_hB) (fun z9 => hn _ (Nat.le_trans hZ0_ z9))
  have hv_2 := hv_2.imp_right (fun z9 => Nat.le_trans hZ0_ z9)
  refine lv_aload_n (pc := 10) hx hb dJ5_append_3fe6f_10 rfl (lv_at hl 0 rfl) ?_
  refine k_i (pc := 11) (k_U E hC hS hA hl.1 (c1.recv hC f0 rfl) (c_J5_isLatin1_aae02 l D tk N0 sa H.size a v_2 (sbC cap (n + 1)) ml (nI n)) kw_224 kw_226 kw_225 (E.2.2.2.2 _ (List.mem_cons_of_mem _ kw_227)) kw_18 kw_228 (n := 0) (by decide +kernel) rfl ⟨⟨rfl, rfl⟩, ⟨Nat.le_of_ble_eq_true rfl, Nat.le_of_ble_eq_true rfl⟩, (by dsimp only; omega), (by dsimp only; omega)⟩ rfl (Nat.le_of_ble_eq_true rfl) ⟨f0, hB⟩ dJ5_append_3fe6f_11) hS (fun q z w => absurd w (Nat.not_le.mpr z)) hn (fun r_3 H locs hR hz hk hS => ?_)
  have f0 := f0.kept (hk _ f0.lt (Nat.not_le.mpr f0.lt))
  have hB := hB.kept (hk _ hB.lt (Nat.not_le.mpr hB.lt))
  rw [show r_3 = 1 from hR]
  refine lv_if_eq (pc := 14) (tgt := 45) hx hb dJ5_append_3fe6f_14 (by decide) (fun c_4 => ?_) (fun c_4 => ?_)
  · exact absurd c_4 (by decide)
  refine lv_iload_n (pc := 17) hx hb dJ5_append_3fe6f_17 rfl (lv_at hl 1 rfl) ?_
  refine k_i (pc := 18) (k_S E hC hS hA hl.1 (c_J1_canEncode_fc78d l D tk N0 sa H.size ch ) kw_229 kw_230 kw_27 kw_231 (n := 1) (by decide +kernel) rfl ⟨⟨rfl, rfl⟩, ⟨Nat.le_of_ble_eq_true rfl, Nat.le_of_ble_eq_true rfl⟩, (by dsimp only; omega), (by dsimp only; omega)⟩ rfl (Nat.le_of_ble_eq_true rfl) trivial dJ5_append_3fe6f_18) hS (fun q z w => absurd w (Nat.not_le.mpr z)) hn (fun r_5 H locs hR hz hk hS => ?_)
  have er_5 := hR
  have f0 := f0.kept (hk _ f0.lt (Nat.not_le.mpr f0.lt))
  have hB := hB.kept (hk _ hB.lt (Nat.not_le.mpr hB.lt))
  refine lv_if_eq (pc := 21) (tgt := 45) hx hb dJ5_append_3fe6f_21 (by decide) (fun c_7 => ?_) (fun c_7 => ?_)
  · exact absurd c_7 (by rw [er_5, hch]; exact can9 hk9)
  refine lv_aload_n (pc := 24) hx hb dJ5_append_3fe6f_24 rfl (lv_at hl 0 rfl) ?_
  refine r_get (pc := 25) E hC f0 0 (v := .ref v_2) rfl rfl (by decide) uJ4 (List.mem_cons_of_mem _ kw_167) (fun _ h => h) dJ5_append_3fe6f_25 ?_
  refine lv_aload_n (pc := 28) hx hb dJ5_append_3fe6f_28 rfl (lv_at hl 0 rfl) ?_
  refine lv_dup (pc := 29) hx hb dJ5_append_3fe6f_29 rfl ?_
  refine r_get (pc := 30) E hC f0 3 (v := .int (nI n)) rfl rfl (by decide) uJ4 (List.mem_cons_of_mem _ kw_171) (fun _ h => h) dJ5_append_3fe6f_30 ?_
  refine lv_dup_x1 (pc := 33) hx hb dJ5_append_3fe6f_33 rfl rfl ?_
  refine lv_iconst (pc := 34) (v := 1) hx hb dJ5_append_3fe6f_34 (by decide) ?_
  refine lv_iadd (pc := 35) hx hb dJ5_append_3fe6f_35 ?_
  refine r_put (pc := 36) E hC f0 hS g_f0 3 tyJ4 tyJ4_ok nmJ4 rfl (by decide) (Nat.le_of_ble_eq_true rfl) uJ4 (List.mem_cons_of_mem _ kw_171) (fun _ h => h) rfl rfl rfl dJ5_append_3fe6f_36 (fun H locs n_ ho hz hS => ?_)
  have hB := hB.kept (ho _ (clA.ne hB.cl f0.cl (hC.ao 1 1 rfl rfl)))
  have f0 : c1 D a (.inr (1, [.ref v_2, .int 0, .int ml, .int ((nI n) + 1)])) H := n_
  refine lv_iload_n (pc := 39) hx hb dJ5_append_3fe6f_39 rfl (lv_at hl 1 rfl) ?_
  refine lv_i2b (pc := 40) (v := ch.toInt8.toInt32) hx hb dJ5_append_3fe6f_40 rfl ?_
  refine r_bastB (pc := 41) E hC hB hS g_hB (vp_in_nI (by have := sbC_ge cap (n + 1); omega) (by have := sbC_lt cap (n + 1); omega)) dJ5_append_3fe6f_41 (fun H locs n_ ho hz hS => ?_)
  have f0 := f0.kept (ho _ (clA.ne f0.cl hB.cl (hC.oa 1 1 rfl rfl)))
  have hB := n_
  refine lv_goto (pc := 42) (tgt := 75) hx hb dJ5_append_3fe6f_42 (by decide) ?_
  refine lv_aload_n (pc := 75) hx hb dJ5_append_3fe6f_75 rfl (lv_at hl 0 rfl) ?_
  refine r_aret (pc := 76) E hr (Or.inl ⟨_, rfl⟩) hlk hS (by omega) (by omega) ?_ dJ5_append_3fe6f_76
  exact ⟨rfl, _, hv_2, (by have h9 := f0; rw [nI_1] at h9; exact h9), hB⟩
set_option maxHeartbeats 4000000 in
set_option maxRecDepth 100000 in
/-- java/lang/AbstractStringBuilder.append(I)Ljava/lang/AbstractStringBuilder; -/
theorem c_J5_append_c97b9 (l : Launch) (D : va_G) (tk : Nat → ClassId) (N0 : Nat) (sa : Nat → Nat)  (sz : Nat) (a v cap n : Nat) (ml : Int32) (x : Int32) (ha9 : N0 ≤ a) (hv9 : N0 ≤ v) (hn9 : n ≤ cap) (hcap : cap ≤ 500000) : Met l yJ5_append_c97b9 (wsy yJ5_append_c97b9 cJ5_append_c97b9 4 (some (.object "java/lang/AbstractStringBuilder"))) ({ frames := 4, cells := sbK cap (n + dgI x), slots := sbS cap (n + dgI x), locals := 91 } : Room) (cP D tk N0 sa [.ref a, .int x] sz (fun H => SBo D a v ml (nI n) H ∧ BA D tk v cap H)) (kQr (fun r H => r = a ∧ ∃ v1, (v1 = v ∨ sz ≤ v1) ∧ SBo D a v1 ml (nI (n + dgI x)) H ∧ BA D tk v1 (sbC cap (n + dgI x)) H) (inA2 a v sz)) (sbK cap (n + dgI x)) (sbS cap (n + dgI x)) (inA2 a v sz) := by
  refine mStart RJ5 rfl (by decide +kernel) (Nat.le_of_ble_eq_true rfl) ?_
  intro p e s m args below meth c E hr hlk hnm hsz hC hF ls hl
  subst hsz
  obtain ⟨hx, hb, -⟩ := id E
  have hA : ∀ q, (inA2 a v s.heap.size) q → N0 ≤ q := fun q h => h.elim (fun z => z ▸ ha9) (fun z => z.elim (fun w => w ▸ hv9) (fun w => Nat.le_trans hC.2.1 w))
  have hn : ∀ q, s.heap.size ≤ q → (inA2 a v s.heap.size) q := fun q h => Or.inr (Or.inr h)
  have hS : va_S (inA2 a v s.heap.size) s.heap s.heap [] := va_S.rf
  have hl : lv_has ls 4 [(0, .ref a), (1, .int x)] := hl
  obtain ⟨f0, hB⟩ : SBo D a v ml (nI n) s.heap ∧ BA D tk v cap s.heap := hF
  have g_f0 : (inA2 a v s.heap.size) a := Or.inl rfl
  have g_hB : (inA2 a v s.heap.size) v := Or.inr (Or.inl rfl)
  refine lv_aload_n (pc := 0) hx hb dJ5_append_c97b9_0 rfl (lv_at hl 0 rfl) ?_
  refine r_get (pc := 1) E hC f0 3 (v := .int (nI n)) rfl rfl (by decide) uJ4 (List.mem_cons_of_mem _ kw_171) (fun _ h => h) dJ5_append_c97b9_1 ?_
  obtain ⟨x_1, ex_1⟩ : ∃ z9 : Int32, z9 = nI n := ⟨_, rfl⟩
  rw [← ex_1]
  refine lv_istore_n (pc := 4) (lv' := [(2, .int x_1), (0, .ref a), (1, .int x)]) hx hb dJ5_append_c97b9_4 rfl hl (by decide) rfl (fun ls hl => ?_)
  refine lv_iload_n (pc := 5) hx hb dJ5_append_c97b9_5 rfl (lv_at hl 0 rfl) ?_
  refine lv_iload_n (pc := 6) hx hb dJ5_append_c97b9_6 rfl (lv_at hl 2 rfl) ?_
  refine k_i (pc := 7) (k_S E hC hS hA hl.1 (c_J6_stringSize_0f7a4 l D tk N0 sa s.heap.size x) kw_288 kw_289 kw_22 kw_290 (n := 1) (by decide +kernel) rfl ⟨⟨rfl, rfl⟩, ⟨Nat.le_of_ble_eq_true rfl, Nat.le_of_ble_eq_true rfl⟩, (by dsimp only; omega), (by dsimp only; omega)⟩ rfl (Nat.le_of_ble_eq_true rfl) trivial dJ5_append_c97b9_7) hS (fun q z w => absurd w (Nat.not_le.mpr z)) hn (fun r_2 H locs hR hz hk hS => ?_)
  have f0 := f0.kept (hk _ f0.lt (Nat.not_le.mpr f0.lt))
  have hB := hB.kept (hk _ hB.lt (Nat.not_le.mpr hB.lt))
  have hss := hR
  refine lv_iadd (pc := 10) hx hb dJ5_append_c97b9_10 ?_
  obtain ⟨x_3, ex_3⟩ : ∃ z9 : Int32, z9 = x_1 + r_2 := ⟨_, rfl⟩
  rw [← ex_3]
  refine lv_istore_n (pc := 11) (lv' := [(3, .int x_3), (2, .int x_1), (0, .ref a), (1, .int x)]) hx hb dJ5_append_c97b9_11 rfl hl (by decide) rfl (fun ls hl => ?_)
  refine lv_aload_n (pc := 12) hx hb dJ5_append_c97b9_12 rfl (lv_at hl 2 rfl) ?_
  refine lv_iload_n (pc := 13) hx hb dJ5_append_c97b9_13 rfl (lv_at hl 0 rfl) ?_
  obtain ⟨kd, hd1, hd2, hd3, hd4, hd5⟩ := id hss
  have hd6 := SSI.eq hss
  have hd7 := dgI_le x
  have hxx : x_3 = nI (n + dgI x) := by rw [ex_3, ex_1, hd6]; exact nI_add n _
  have hZ0_ := hS.1
  have t_f0 := f0.lt
  have t_hB := hB.lt
  refine k_v (pc := 14) (k_U E hC hS hA hl.1 (c1.recv hC f0 rfl) (c_J5_ensureCapacityInternal_d00df l D tk N0 sa H.size a v cap ml (nI n) x_3 (n + dgI x) (hA _ g_f0) hxx (by omega) (by omega)) kw_189 kw_1810 kw_191 (selUp (n := 4) (E.2.2.2.2 _ (List.mem_cons_of_mem _ kw_150)) (va_Nw.use rfl (hC.2.2.2.1 _ kn_190 rfl)) (E.2.2.2.2 _ (List.mem_cons_of_mem _ kw_191)) (E.2.2.2.2 _ (List.mem_cons_of_mem _ kw_1810))) kw_18 kw_192 (n := 1) (by decide +kernel) rfl ⟨⟨rfl, rfl⟩, ⟨Nat.le_of_ble_eq_true rfl, Nat.le_of_ble_eq_true rfl⟩, (by dsimp only; omega), (by dsimp only; omega)⟩ rfl (Nat.le_of_ble_eq_true rfl) ⟨f0, hB⟩ dJ5_append_c97b9_14) hS (inA1.to g_f0) hn (fun H locs hR hz hk hS => ?_)
  obtain ⟨v_5, hv_5, f0, hB⟩ := hR
  have g_hB := hv_5.elim (fun e9 => e9 ▸ g_hB) (fun z9 => hn _ (Nat.le_trans hZ0_ z9))
  have hv_5 := hv_5.imp_right (fun z9 => Nat.le_trans hZ0_ z9)
  refine lv_aload_n (pc := 17) hx hb dJ5_append_c97b9_17 rfl (lv_at hl 2 rfl) ?_
  refine k_i (pc := 18) (k_U E hC hS hA hl.1 (c1.recv hC f0 rfl) (c_J5_isLatin1_aae02 l D tk N0 sa H.size a v_5 (sbC cap (n + dgI x)) ml (nI n)) kw_224 kw_226 kw_225 (E.2.2.2.2 _ (List.mem_cons_of_mem _ kw_227)) kw_18 kw_228 (n := 0) (by decide +kernel) rfl ⟨⟨rfl, rfl⟩, ⟨Nat.le_of_ble_eq_true rfl, Nat.le_of_ble_eq_true rfl⟩, (by dsimp only; omega), (by dsimp only; omega)⟩ rfl (Nat.le_of_ble_eq_true rfl) ⟨f0, hB⟩ dJ5_append_c97b9_18) hS (fun q z w => absurd w (Nat.not_le.mpr z)) hn (fun r_6 H locs hR hz hk hS => ?_)
  have f0 := f0.kept (hk _ f0.lt (Nat.not_le.mpr f0.lt))
  have hB := hB.kept (hk _ hB.lt (Nat.not_le.mpr hB.lt))
  rw [show r_6 = 1 from hR]
  refine lv_if_eq (pc := 21) (tgt := 37) hx hb dJ5_append_c97b9_21 (by decide) (fun c_7 => ?_) (fun c_7 => ?_)
  · exact absurd c_7 (by decide)
  refine lv_iload_n (pc := 24) hx hb dJ5_append_c97b9_24 rfl (lv_at hl 3 rfl) ?_
  refine lv_iload_n (pc := 25) hx hb dJ5_append_c97b9_25 rfl (lv_at hl 0 rfl) ?_
  refine lv_aload_n (pc := 26) hx hb dJ5_append_c97b9_26 rfl (lv_at hl 2 rfl) ?_
  refine r_get (pc := 27) E hC f0 0 (v := .ref v_5) rfl rfl (by decide) uJ4 (List.mem_cons_of_mem _ kw_167) (fun _ h => h) dJ5_append_c97b9_27 ?_
  refine k_i (pc := 30) (k_S E hC hS hA hl.1 (c_J6_getChars_ba4f3 l D tk N0 sa H.size x x_3 v_5 (sbC cap (n + dgI x)) (n + dgI x) kd (hA _ g_hB) hd3 hd1 (by have h8 := dgI_k hd1 hd2 hd3 hd4; omega) (by have := sbC_ge cap (n + dgI x); omega) (by have := sbC_lt cap (n + dgI x); omega) hxx) kw_291 kw_292 kw_22 kw_293 (n := 3) (by decide +kernel) rfl ⟨⟨rfl, rfl⟩, ⟨Nat.le_of_ble_eq_true rfl, Nat.le_of_ble_eq_true rfl⟩, (by dsimp only; omega), (by dsimp only; omega)⟩ rfl (Nat.le_of_ble_eq_true rfl) hB dJ5_append_c97b9_30) hS (inA1.to g_hB) hn (fun r_8 H locs hR hz hk hS => ?_)
  have f0 := f0.kept (hk _ f0.lt (inA1.not (clA.ne f0.cl hB.cl (hC.oa 1 1 rfl rfl)) f0.lt))
  have hB := hR
  refine lv_pop (pc := 33) hx hb dJ5_append_c97b9_33 rfl ?_
  refine lv_goto (pc := 34) (tgt := 48) hx hb dJ5_append_c97b9_34 (by decide) ?_
  refine lv_aload_n (pc := 48) hx hb dJ5_append_c97b9_48 rfl (lv_at hl 2 rfl) ?_
  refine lv_iload_n (pc := 49) hx hb dJ5_append_c97b9_49 rfl (lv_at hl 0 rfl) ?_
  refine r_put (pc := 50) E hC f0 hS g_f0 3 tyJ4 tyJ4_ok nmJ4 rfl (by decide) (Nat.le_of_ble_eq_true rfl) uJ4 (List.mem_cons_of_mem _ kw_171) (fun _ h => h) rfl rfl rfl dJ5_append_c97b9_50 (fun H locs n_ ho hz hS => ?_)
  have hB := hB.kept (ho _ (clA.ne hB.cl f0.cl (hC.ao 1 1 rfl rfl)))
  have f0 : c1 D a (.inr (1, [.ref v_5, .int 0, .int ml, .int x_3])) H := n_
  refine lv_aload_n (pc := 53) hx hb dJ5_append_c97b9_53 rfl (lv_at hl 2 rfl) ?_
  refine r_aret (pc := 54) E hr (Or.inl ⟨_, rfl⟩) hlk hS (by omega) (by omega) ?_ dJ5_append_c97b9_54
  exact ⟨rfl, _, hv_5, (by have h9 := f0; rw [hxx] at h9; exact h9), hB⟩
set_option maxHeartbeats 4000000 in
set_option maxRecDepth 100000 in
/-- java/lang/AbstractStringBuilder.append(J)Ljava/lang/AbstractStringBuilder; -/
theorem c_J5_append_66267 (l : Launch) (D : va_G) (tk : Nat → ClassId) (N0 : Nat) (sa : Nat → Nat)  (sz : Nat) (a v cap n : Nat) (ml : Int32) (x : Int64) (ha9 : N0 ≤ a) (hv9 : N0 ≤ v) (hn9 : n ≤ cap) (hcap : cap ≤ 500000) : Met l yJ5_append_66267 (wsy yJ5_append_66267 cJ5_append_66267 5 (some (.object "java/lang/AbstractStringBuilder"))) ({ frames := 4, cells := sbK cap (n + dgJ x), slots := sbS cap (n + dgJ x), locals := 91 } : Room) (cP D tk N0 sa [.ref a, .long x] sz (fun H => SBo D a v ml (nI n) H ∧ BA D tk v cap H)) (kQr (fun r H => r = a ∧ ∃ v1, (v1 = v ∨ sz ≤ v1) ∧ SBo D a v1 ml (nI (n + dgJ x)) H ∧ BA D tk v1 (sbC cap (n + dgJ x)) H) (inA2 a v sz)) (sbK cap (n + dgJ x)) (sbS cap (n + dgJ x)) (inA2 a v sz) := by
  refine mStart RJ5 rfl (by decide +kernel) (Nat.le_of_ble_eq_true rfl) ?_
  intro p e s m args below meth c E hr hlk hnm hsz hC hF ls hl
  subst hsz
  obtain ⟨hx, hb, -⟩ := id E
  have hA : ∀ q, (inA2 a v s.heap.size) q → N0 ≤ q := fun q h => h.elim (fun z => z ▸ ha9) (fun z => z.elim (fun w => w ▸ hv9) (fun w => Nat.le_trans hC.2.1 w))
  have hn : ∀ q, s.heap.size ≤ q → (inA2 a v s.heap.size) q := fun q h => Or.inr (Or.inr h)
  have hS : va_S (inA2 a v s.heap.size) s.heap s.heap [] := va_S.rf
  have hl : lv_has ls 5 [(0, .ref a), (1, .long x)] := hl
  obtain ⟨f0, hB⟩ : SBo D a v ml (nI n) s.heap ∧ BA D tk v cap s.heap := hF
  have g_f0 : (inA2 a v s.heap.size) a := Or.inl rfl
  have g_hB : (inA2 a v s.heap.size) v := Or.inr (Or.inl rfl)
  refine lv_aload_n (pc := 0) hx hb dJ5_append_66267_0 rfl (lv_at hl 0 rfl) ?_
  refine r_get (pc := 1) E hC f0 3 (v := .int (nI n)) rfl rfl (by decide) uJ4 (List.mem_cons_of_mem _ kw_171) (fun _ h => h) dJ5_append_66267_1 ?_
  obtain ⟨x_1, ex_1⟩ : ∃ z9 : Int32, z9 = nI n := ⟨_, rfl⟩
  rw [← ex_1]
  refine lv_istore_n (pc := 4) (lv' := [(3, .int x_1), (0, .ref a), (1, .long x)]) hx hb dJ5_append_66267_4 rfl hl (by decide) rfl (fun ls hl => ?_)
  refine lv_iload_n (pc := 5) hx hb dJ5_append_66267_5 rfl (lv_at hl 0 rfl) ?_
  refine lv_lload_n (pc := 6) hx hb dJ5_append_66267_6 rfl (lv_at hl 2 rfl) ?_
  refine k_i (pc := 7) (k_S E hC hS hA hl.1 (c_J13_stringSize_95d88 l D tk N0 sa s.heap.size x) kw_1361 kw_1362 kw_17 kw_1363 (n := 1) (by decide +kernel) rfl ⟨⟨rfl, rfl⟩, ⟨Nat.le_of_ble_eq_true rfl, Nat.le_of_ble_eq_true rfl⟩, (by dsimp only; omega), (by dsimp only; omega)⟩ rfl (Nat.le_of_ble_eq_true rfl) trivial dJ5_append_66267_7) hS (fun q z w => absurd w (Nat.not_le.mpr z)) hn (fun r_2 H locs hR hz hk hS => ?_)
  have f0 := f0.kept (hk _ f0.lt (Nat.not_le.mpr f0.lt))
  have hB := hB.kept (hk _ hB.lt (Nat.not_le.mpr hB.lt))
  have hss := hR
  refine lv_iadd (pc := 10) hx hb dJ5_append_66267_10 ?_
  obtain ⟨x_3, ex_3⟩ : ∃ z9 : Int32, z9 = x_1 + r_2 := ⟨_, rfl⟩
  rw [← ex_3]
  refine lv_istore (pc := 11) (lv' := [(4, .int x_3), (3, .int x_1), (0, .ref a), (1, .long x)]) hx hb dJ5_append_66267_11 hl (by decide) rfl (fun ls hl => ?_)
  refine lv_aload_n (pc := 13) hx hb dJ5_append_66267_13 rfl (lv_at hl 2 rfl) ?_
  refine lv_iload (pc := 14) hx hb dJ5_append_66267_14 (lv_at hl 0 rfl) ?_
  obtain ⟨kd, hd1, hd2, hd3, hd4, hd5⟩ := id hss
  have hd6 := SSJ.eq hss
  have hd7 := dgJ_le x
  have hxx : x_3 = nI (n + dgJ x) := by rw [ex_3, ex_1, hd6]; exact nI_add n _
  have hZ0_ := hS.1
  have t_f0 := f0.lt
  have t_hB := hB.lt
  refine k_v (pc := 16) (k_U E hC hS hA hl.1 (c1.recv hC f0 rfl) (c_J5_ensureCapacityInternal_d00df l D tk N0 sa H.size a v cap ml (nI n) x_3 (n + dgJ x) (hA _ g_f0) hxx (by omega) (by omega)) kw_189 kw_1810 kw_191 (selUp (n := 4) (E.2.2.2.2 _ (List.mem_cons_of_mem _ kw_150)) (va_Nw.use rfl (hC.2.2.2.1 _ kn_190 rfl)) (E.2.2.2.2 _ (List.mem_cons_of_mem _ kw_191)) (E.2.2.2.2 _ (List.mem_cons_of_mem _ kw_1810))) kw_18 kw_192 (n := 1) (by decide +kernel) rfl ⟨⟨rfl, rfl⟩, ⟨Nat.le_of_ble_eq_true rfl, Nat.le_of_ble_eq_true rfl⟩, (by dsimp only; omega), (by dsimp only; omega)⟩ rfl (Nat.le_of_ble_eq_true rfl) ⟨f0, hB⟩ dJ5_append_66267_16) hS (inA1.to g_f0) hn (fun H locs hR hz hk hS => ?_)
  obtain ⟨v_5, hv_5, f0, hB⟩ := hR
  have g_hB := hv_5.elim (fun e9 => e9 ▸ g_hB) (fun z9 => hn _ (Nat.le_trans hZ0_ z9))
  have hv_5 := hv_5.imp_right (fun z9 => Nat.le_trans hZ0_ z9)
  refine lv_aload_n (pc := 19) hx hb dJ5_append_66267_19 rfl (lv_at hl 2 rfl) ?_
  refine k_i (pc := 20) (k_U E hC hS hA hl.1 (c1.recv hC f0 rfl) (c_J5_isLatin1_aae02 l D tk N0 sa H.size a v_5 (sbC cap (n + dgJ x)) ml (nI n)) kw_224 kw_226 kw_225 (E.2.2.2.2 _ (List.mem_cons_of_mem _ kw_227)) kw_18 kw_228 (n := 0) (by decide +kernel) rfl ⟨⟨rfl, rfl⟩, ⟨Nat.le_of_ble_eq_true rfl, Nat.le_of_ble_eq_true rfl⟩, (by dsimp only; omega), (by dsimp only; omega)⟩ rfl (Nat.le_of_ble_eq_true rfl) ⟨f0, hB⟩ dJ5_append_66267_20) hS (fun q z w => absurd w (Nat.not_le.mpr z)) hn (fun r_6 H locs hR hz hk hS => ?_)
  have f0 := f0.kept (hk _ f0.lt (Nat.not_le.mpr f0.lt))
  have hB := hB.kept (hk _ hB.lt (Nat.not_le.mpr hB.lt))
  rw [show r_6 = 1 from hR]
  refine lv_if_eq (pc := 23) (tgt := 40) hx hb dJ5_append_66267_23 (by decide) (fun c_7 => ?_) (fun c_7 => ?_)
  · exact absurd c_7 (by decide)
  refine lv_lload_n (pc := 26) hx hb dJ5_append_66267_26 rfl (lv_at hl 3 rfl) ?_
  refine lv_iload (pc := 27) hx hb dJ5_append_66267_27 (lv_at hl 0 rfl) ?_
  refine lv_aload_n (pc := 29) hx hb dJ5_append_66267_29 rfl (lv_at hl 2 rfl) ?_
  refine r_get (pc := 30) E hC f0 0 (v := .ref v_5) rfl rfl (by decide) uJ4 (List.mem_cons_of_mem _ kw_167) (fun _ h => h) dJ5_append_66267_30 ?_
  refine k_i (pc := 33) (k_S E hC hS hA hl.1 (c_J13_getChars_11360 l D tk N0 sa H.size x x_3 v_5 (sbC cap (n + dgJ x)) (n + dgJ x) kd (hA _ g_hB) hd3 hd1 (by have h8 := dgJ_k hd1 hd2 hd3 hd4; omega) (by have := sbC_ge cap (n + dgJ x); omega) (by have := sbC_lt cap (n + dgJ x); omega) hxx) kw_1366 kw_1367 kw_17 kw_1368 (n := 3) (by decide +kernel) rfl ⟨⟨rfl, rfl⟩, ⟨Nat.le_of_ble_eq_true rfl, Nat.le_of_ble_eq_true rfl⟩, (by dsimp only; omega), (by dsimp only; omega)⟩ rfl (Nat.le_of_ble_eq_true rfl) hB dJ5_append_66267_33) hS (inA1.to g_hB) hn (fun r_8 H locs hR hz hk hS => ?_)
  have f0 := f0.kept (hk _ f0.lt (inA1.not (clA.ne f0.cl hB.cl (hC.oa 1 1 rfl rfl)) f0.lt))
  have hB := hR
  refine lv_pop (pc := 36) hx hb dJ5_append_66267_36 rfl ?_
  refine lv_goto (pc := 37) (tgt := 52) hx hb dJ5_append_66267_37 (by decide) ?_
  refine lv_aload_n (pc := 52) hx hb dJ5_append_66267_52 rfl (lv_at hl 2 rfl) ?_
  refine lv_iload (pc := 53) hx hb dJ5_append_66267_53 (lv_at hl 0 rfl) ?_
  refine r_put (pc := 55) E hC f0 hS g_f0 3 tyJ4 tyJ4_ok nmJ4 rfl (by decide) (Nat.le_of_ble_eq_true rfl) uJ4 (List.mem_cons_of_mem _ kw_171) (fun _ h => h) rfl rfl rfl dJ5_append_66267_55 (fun H locs n_ ho hz hS => ?_)
  have hB := hB.kept (ho _ (clA.ne hB.cl f0.cl (hC.ao 1 1 rfl rfl)))
  have f0 : c1 D a (.inr (1, [.ref v_5, .int 0, .int ml, .int x_3])) H := n_
  refine lv_aload_n (pc := 58) hx hb dJ5_append_66267_58 rfl (lv_at hl 2 rfl) ?_
  refine r_aret (pc := 59) E hr (Or.inl ⟨_, rfl⟩) hlk hS (by omega) (by omega) ?_ dJ5_append_66267_59
  exact ⟨rfl, _, hv_5, (by have h9 := f0; rw [hxx] at h9; exact h9), hB⟩
set_option maxHeartbeats 4000000 in
set_option maxRecDepth 100000 in
/-- java/lang/String.coder()B -/
theorem c_J0_coder_7d493 (l : Launch) (D : va_G) (tk : Nat → ClassId) (N0 : Nat) (sa : Nat → Nat)  (sz : Nat) (t k : Nat) : Met l yJ0_coder_7d493 (wsy yJ0_coder_7d493 cJ0_coder_7d493 1 (some .byte)) ({ frames := 0, cells := 0, slots := 0, locals := 0 } : Room) (cP D tk N0 sa [.ref t] sz (fun H => SX D tk t k H)) (kQi (fun r H => r = 0) (nwA sz)) (0) (0) (nwA sz) := by
  refine mStart RJ0 rfl (by decide +kernel) (Nat.le_of_ble_eq_true rfl) ?_
  intro p e s m args below meth c E hr hlk hnm hsz hC hF ls hl
  subst hsz
  obtain ⟨hx, hb, -⟩ := id E
  have hA : ∀ q, (nwA s.heap.size) q → N0 ≤ q := fun q h => Nat.le_trans hC.2.1 h
  have hn : ∀ q, s.heap.size ≤ q → (nwA s.heap.size) q := fun q h => h
  have hS : va_S (nwA s.heap.size) s.heap s.heap [] := va_S.rf
  have hl : lv_has ls 1 [(0, .ref t)] := hl
  obtain ⟨b0, h0, h1, h2⟩ : SX D tk t k s.heap := hF
  refine va_gets (pc := 0) hx hb (hC.cs.narrow hA) hS E.2.2.2.1 (E.2.2.2.2 _ (List.mem_cons_of_mem _ kw_420)) (fun _ h => h) dJ0_coder_7d493_0 ?_
  refine lv_if_eq (pc := 3) (tgt := 13) hx hb dJ0_coder_7d493_3 (by decide) (fun c_1 => ?_) (fun c_1 => ?_)
  · exact absurd c_1 (by decide)
  refine lv_aload_n (pc := 6) hx hb dJ0_coder_7d493_6 rfl (lv_at hl 0 rfl) ?_
  refine r_getX (pc := 7) E hC h1 rfl (by decide) uJ0 (List.mem_cons_of_mem _ kw_476) (fun _ h => h) dJ0_coder_7d493_7 ?_
  refine lv_goto (pc := 10) (tgt := 14) hx hb dJ0_coder_7d493_10 (by decide) ?_
  refine r_bret (pc := 14) E hr hlk hS (by decide) (by decide) rfl ?_ dJ0_coder_7d493_14
  rfl
set_option maxHeartbeats 4000000 in
set_option maxRecDepth 100000 in
/-- java/lang/String.isLatin1()Z -/
theorem c_J0_isLatin1_aae02 (l : Launch) (D : va_G) (tk : Nat → ClassId) (N0 : Nat) (sa : Nat → Nat)  (sz : Nat) (t k : Nat) : Met l yJ0_isLatin1_aae02 (wsy yJ0_isLatin1_aae02 cJ0_isLatin1_aae02 1 (some .boolean)) ({ frames := 0, cells := 0, slots := 0, locals := 0 } : Room) (cP D tk N0 sa [.ref t] sz (fun H => SX D tk t k H)) (kQi (fun r H => r = 1) (nwA sz)) (0) (0) (nwA sz) := by
  refine mStart RJ0 rfl (by decide +kernel) (Nat.le_of_ble_eq_true rfl) ?_
  intro p e s m args below meth c E hr hlk hnm hsz hC hF ls hl
  subst hsz
  obtain ⟨hx, hb, -⟩ := id E
  have hA : ∀ q, (nwA s.heap.size) q → N0 ≤ q := fun q h => Nat.le_trans hC.2.1 h
  have hn : ∀ q, s.heap.size ≤ q → (nwA s.heap.size) q := fun q h => h
  have hS : va_S (nwA s.heap.size) s.heap s.heap [] := va_S.rf
  have hl : lv_has ls 1 [(0, .ref t)] := hl
  obtain ⟨b0, h0, h1, h2⟩ : SX D tk t k s.heap := hF
  refine va_gets (pc := 0) hx hb (hC.cs.narrow hA) hS E.2.2.2.1 (E.2.2.2.2 _ (List.mem_cons_of_mem _ kw_420)) (fun _ h => h) dJ0_isLatin1_aae02_0 ?_
  refine lv_if_eq (pc := 3) (tgt := 17) hx hb dJ0_isLatin1_aae02_3 (by decide) (fun c_1 => ?_) (fun c_1 => ?_)
  · exact absurd c_1 (by decide)
  refine lv_aload_n (pc := 6) hx hb dJ0_isLatin1_aae02_6 rfl (lv_at hl 0 rfl) ?_
  refine r_getX (pc := 7) E hC h1 rfl (by decide) uJ0 (List.mem_cons_of_mem _ kw_476) (fun _ h => h) dJ0_isLatin1_aae02_7 ?_
  refine lv_if_ne (pc := 10) (tgt := 17) hx hb dJ0_isLatin1_aae02_10 (by decide) (fun c_2 => ?_) (fun c_2 => ?_)
  · exact absurd (by decide) c_2
  refine lv_iconst (pc := 13) (v := 1) hx hb dJ0_isLatin1_aae02_13 (by decide) ?_
  refine lv_goto (pc := 14) (tgt := 18) hx hb dJ0_isLatin1_aae02_14 (by decide) ?_
  refine r_zret (pc := 18) E hr hlk hS (by decide) (by decide) rfl ?_ dJ0_isLatin1_aae02_18
  rfl
set_option maxHeartbeats 4000000 in
set_option maxRecDepth 100000 in
/-- java/lang/String.length()I -/
theorem c_J0_length_8abf5 (l : Launch) (D : va_G) (tk : Nat → ClassId) (N0 : Nat) (sa : Nat → Nat)  (sz : Nat) (t k : Nat) : Met l yJ0_length_8abf5 (wsy yJ0_length_8abf5 cJ0_length_8abf5 1 (some .int)) ({ frames := 1, cells := 0, slots := 0, locals := 20 } : Room) (cP D tk N0 sa [.ref t] sz (fun H => SX D tk t k H)) (kQi (fun r H => r = nI k) (nwA sz)) (0) (0) (nwA sz) := by
  refine mStart RJ0 rfl (by decide +kernel) (Nat.le_of_ble_eq_true rfl) ?_
  intro p e s m args below meth c E hr hlk hnm hsz hC hF ls hl
  subst hsz
  obtain ⟨hx, hb, -⟩ := id E
  have hA : ∀ q, (nwA s.heap.size) q → N0 ≤ q := fun q h => Nat.le_trans hC.2.1 h
  have hn : ∀ q, s.heap.size ≤ q → (nwA s.heap.size) q := fun q h => h
  have hS : va_S (nwA s.heap.size) s.heap s.heap [] := va_S.rf
  have hl : lv_has ls 1 [(0, .ref t)] := hl
  obtain ⟨b0, h0, h1, h2⟩ : SX D tk t k s.heap := hF
  refine lv_aload_n (pc := 0) hx hb dJ0_length_8abf5_0 rfl (lv_at hl 0 rfl) ?_
  refine r_getX (pc := 1) E hC h0 rfl (by decide) uJ0 (List.mem_cons_of_mem _ kw_475) (fun _ h => h) dJ0_length_8abf5_1 ?_
  obtain ⟨x_1, ex_1⟩ : ∃ z9 : Int32, z9 = nI k := ⟨_, rfl⟩
  refine r_alenX (pc := 4) E hC h2 (v := x_1) ex_1.symm dJ0_length_8abf5_4 ?_
  refine lv_aload_n (pc := 5) hx hb dJ0_length_8abf5_5 rfl (lv_at hl 0 rfl) ?_
  refine k_i (pc := 6) (k_V E hC hS hA hl.1 (xf.recv hC h0 rfl) rfl (c_J0_coder_7d493 l D tk N0 sa s.heap.size t k) kw_416 kw_417 kw_418 kw_20 kw_419 (n := 0) (by decide +kernel) rfl ⟨⟨rfl, rfl⟩, ⟨by decide, by decide⟩, by decide, by decide⟩ rfl (Nat.le_of_ble_eq_true rfl) ⟨_, h0, h1, h2⟩ dJ0_length_8abf5_6) hS (fun q z w => absurd w (Nat.not_le.mpr z)) hn (fun r_2 H locs hR hz hk hS => ?_)
  have h0 := h0.kept (hk _ h0.lt (Nat.not_le.mpr h0.lt))
  have h1 := h1.kept (hk _ h1.lt (Nat.not_le.mpr h1.lt))
  have h2 := h2.kept (hk _ h2.lt (Nat.not_le.mpr h2.lt))
  rw [show r_2 = 0 from hR]
  refine lv_ishr (pc := 9) hx hb dJ0_length_8abf5_9 ?_
  refine r_iret (pc := 10) E hr hlk hS (by decide) (by decide) ?_ dJ0_length_8abf5_10
  rw [sb_shr0]
  exact ex_1
set_option maxHeartbeats 4000000 in
set_option maxRecDepth 100000 in
/-- java/lang/String.isEmpty()Z -/
theorem c_J0_isEmpty_aae02 (l : Launch) (D : va_G) (tk : Nat → ClassId) (N0 : Nat) (sa : Nat → Nat)  (sz : Nat) (t k : Nat) (hk9 : k ≤ 100000000) : Met l yJ0_isEmpty_aae02 (wsy yJ0_isEmpty_aae02 cJ0_isEmpty_aae02 1 (some .boolean)) ({ frames := 0, cells := 0, slots := 0, locals := 0 } : Room) (cP D tk N0 sa [.ref t] sz (fun H => SX D tk t k H)) (kQi (fun r H => (r = 1 ∧ k = 0) ∨ (r = 0 ∧ 0 < k)) (nwA sz)) (0) (0) (nwA sz) := by
  refine mStart RJ0 rfl (by decide +kernel) (Nat.le_of_ble_eq_true rfl) ?_
  intro p e s m args below meth c E hr hlk hnm hsz hC hF ls hl
  subst hsz
  obtain ⟨hx, hb, -⟩ := id E
  have hA : ∀ q, (nwA s.heap.size) q → N0 ≤ q := fun q h => Nat.le_trans hC.2.1 h
  have hn : ∀ q, s.heap.size ≤ q → (nwA s.heap.size) q := fun q h => h
  have hS : va_S (nwA s.heap.size) s.heap s.heap [] := va_S.rf
  have hl : lv_has ls 1 [(0, .ref t)] := hl
  obtain ⟨b0, h0, h1, h2⟩ : SX D tk t k s.heap := hF
  refine lv_aload_n (pc := 0) hx hb dJ0_isEmpty_aae02_0 rfl (lv_at hl 0 rfl) ?_
  refine r_getX (pc := 1) E hC h0 rfl (by decide) uJ0 (List.mem_cons_of_mem _ kw_475) (fun _ h => h) dJ0_isEmpty_aae02_1 ?_
  obtain ⟨x_1, ex_1⟩ : ∃ z9 : Int32, z9 = nI k := ⟨_, rfl⟩
  refine r_alenX (pc := 4) E hC h2 (v := x_1) ex_1.symm dJ0_isEmpty_aae02_4 ?_
  refine lv_if_ne (pc := 5) (tgt := 12) hx hb dJ0_isEmpty_aae02_5 (by decide) (fun c_2 => ?_) (fun c_2 => ?_)
  · refine lv_iconst (pc := 12) (v := 0) hx hb dJ0_isEmpty_aae02_12 (by decide) ?_
    refine r_zret (pc := 13) E hr hlk hS (by decide) (by decide) rfl ?_ dJ0_isEmpty_aae02_13
    exact Or.inr ⟨rfl, Nat.pos_of_ne_zero (fun z9 => c_2 (by rw [ex_1, z9]; rfl))⟩
  · refine lv_iconst (pc := 8) (v := 1) hx hb dJ0_isEmpty_aae02_8 (by decide) ?_
    refine lv_goto (pc := 9) (tgt := 13) hx hb dJ0_isEmpty_aae02_9 (by decide) ?_
    refine r_zret (pc := 13) E hr hlk hS (by decide) (by decide) rfl ?_ dJ0_isEmpty_aae02_13
    exact Or.inl ⟨rfl, (nI_eq (b := 0) (by omega) (by decide)).mp (ex_1.symm.trans c_2)⟩
set_option maxHeartbeats 4000000 in
set_option maxRecDepth 100000 in
/-- java/lang/String.getBytes([BIB)V -/
theorem c_J0_getBytes_840e7 (l : Launch) (D : va_G) (tk : Nat → ClassId) (N0 : Nat) (sa : Nat → Nat)  (sz : Nat) (t k v cap i : Nat) (ix : Int32) (ha9 : N0 ≤ v) (hix : ix = nI i) (hik : i + k ≤ cap) (hcap : cap ≤ 100000000) : Met l yJ0_getBytes_840e7 (wsy yJ0_getBytes_840e7 cJ0_getBytes_840e7 4 none) ({ frames := 1, cells := 0, slots := 0, locals := 26 } : Room) (cP D tk N0 sa [.ref t, .ref v, .int ix, .int 0] sz (fun H => SX D tk t k H ∧ BA D tk v cap H)) (kQv (fun H => BA D tk v cap H) (inA1 v sz)) (0) (0) (inA1 v sz) := by
  refine mStart RJ0 rfl (by decide +kernel) (Nat.le_of_ble_eq_true rfl) ?_
  intro p e s m args below meth c E hr hlk hnm hsz hC hF ls hl
  subst hsz
  obtain ⟨hx, hb, -⟩ := id E
  have hA : ∀ q, (inA1 v s.heap.size) q → N0 ≤ q := fun q h => h.elim (fun z => z ▸ ha9) (fun z => Nat.le_trans hC.2.1 z)
  have hn : ∀ q, s.heap.size ≤ q → (inA1 v s.heap.size) q := fun q h => Or.inr h
  have hS : va_S (inA1 v s.heap.size) s.heap s.heap [] := va_S.rf
  have hl : lv_has ls 4 [(0, .ref t), (1, .ref v), (2, .int ix), (3, .int 0)] := hl
  obtain ⟨⟨b0, h0, h1, h2⟩, hB⟩ : SX D tk t k s.heap ∧ BA D tk v cap s.heap := hF
  have g_hB : (inA1 v s.heap.size) v := Or.inl rfl
  refine lv_aload_n (pc := 0) hx hb dJ0_getBytes_840e7_0 rfl (lv_at hl 0 rfl) ?_
  refine k_i (pc := 1) (k_V E hC hS hA hl.1 (xf.recv hC h0 rfl) rfl (c_J0_coder_7d493 l D tk N0 sa s.heap.size t k) kw_416 kw_417 kw_418 kw_20 kw_419 (n := 0) (by decide +kernel) rfl ⟨⟨rfl, rfl⟩, ⟨by decide, by decide⟩, by decide, by decide⟩ rfl (Nat.le_of_ble_eq_true rfl) ⟨_, h0, h1, h2⟩ dJ0_getBytes_840e7_1) hS (fun q z w => absurd w (Nat.not_le.mpr z)) hn (fun r_1 H locs hR hz hk hS => ?_)
  have h0 := h0.kept (hk _ h0.lt (Nat.not_le.mpr h0.lt))
  have h1 := h1.kept (hk _ h1.lt (Nat.not_le.mpr h1.lt))
  have h2 := h2.kept (hk _ h2.lt (Nat.not_le.mpr h2.lt))
  have hB := hB.kept (hk _ hB.lt (Nat.not_le.mpr hB.lt))
  rw [show r_1 = 0 from hR]
  refine lv_iload_n (pc := 4) hx hb dJ0_getBytes_840e7_4 rfl (lv_at hl 3 rfl) ?_
  refine lv_icmp_ne (pc := 5) (tgt := 28) hx hb dJ0_getBytes_840e7_5 (by decide) (fun c_2 => ?_) (fun c_2 => ?_)
  · exact absurd (by decide) c_2
  refine lv_aload_n (pc := 8) hx hb dJ0_getBytes_840e7_8 rfl (lv_at hl 0 rfl) ?_
  refine r_getX (pc := 9) E hC h0 rfl (by decide) uJ0 (List.mem_cons_of_mem _ kw_475) (fun _ h => h) dJ0_getBytes_840e7_9 ?_
  refine lv_iconst (pc := 12) (v := 0) hx hb dJ0_getBytes_840e7_12 (by decide) ?_
  refine lv_aload_n (pc := 13) hx hb dJ0_getBytes_840e7_13 rfl (lv_at hl 1 rfl) ?_
  refine lv_iload_n (pc := 14) hx hb dJ0_getBytes_840e7_14 rfl (lv_at hl 2 rfl) ?_
  refine lv_iload_n (pc := 15) hx hb dJ0_getBytes_840e7_15 rfl (lv_at hl 3 rfl) ?_
  refine lv_ishl (pc := 16) hx hb dJ0_getBytes_840e7_16 ?_
  refine lv_aload_n (pc := 17) hx hb dJ0_getBytes_840e7_17 rfl (lv_at hl 0 rfl) ?_
  refine r_getX (pc := 18) E hC h0 rfl (by decide) uJ0 (List.mem_cons_of_mem _ kw_475) (fun _ h => h) dJ0_getBytes_840e7_18 ?_
  obtain ⟨x_3, ex_3⟩ : ∃ z9 : Int32, z9 = nI k := ⟨_, rfl⟩
  refine r_alenX (pc := 21) E hC h2 (v := x_3) ex_3.symm dJ0_getBytes_840e7_21 ?_
  refine r_acpyB (pc := 22) E hC hl.1 h2 hB hS g_hB (by decide) (by rw [sb_shl0, hix]; exact nI_pos (by omega)) (by rw [ex_3]; exact nI_pos (by omega)) (by rw [ex_3, nI_clamp (by omega), sb_cl0]; omega) (by rw [sb_shl0, hix, ex_3, nI_clamp (by omega), nI_clamp (by omega)]; omega) kw_434 (by exact Nat.le_of_ble_eq_true rfl) (by decide) (by exact Nat.le_of_ble_eq_true rfl) dJ0_getBytes_840e7_22 (fun H locs n_ ho hz hS => ?_)
  have h0 := h0.kept (ho _ (clA.ne h0.cl hB.cl (hC.oa 0 1 rfl rfl)))
  have h1 := h1.kept (ho _ (clA.ne h1.cl hB.cl (hC.oa 0 1 rfl rfl)))
  have hB := n_
  refine lv_goto (pc := 25) (tgt := 43) hx hb dJ0_getBytes_840e7_25 (by decide) ?_
  refine r_vret (pc := 43) E hr hlk hS (by decide) (by decide) ?_ dJ0_getBytes_840e7_43
  exact hB
set_option maxHeartbeats 4000000 in
set_option maxRecDepth 100000 in
/-- java/lang/AbstractStringBuilder.inflateIfNeededFor(Ljava/lang/String;)V -/
theorem c_J5_inflateIfNeededFor_a7421 (l : Launch) (D : va_G) (tk : Nat → ClassId) (N0 : Nat) (sa : Nat → Nat)  (sz : Nat) (a v cap n t k : Nat) (ml : Int32) : Met l yJ5_inflateIfNeededFor_a7421 (wsy yJ5_inflateIfNeededFor_a7421 cJ5_inflateIfNeededFor_a7421 2 none) ({ frames := 1, cells := 0, slots := 0, locals := 20 } : Room) (cP D tk N0 sa [.ref a, .ref t] sz (fun H => SBo D a v ml (nI n) H ∧ BA D tk v cap H ∧ SX D tk t k H)) (kQv (fun H => True) (nwA sz)) (0) (0) (nwA sz) := by
  refine mStart RJ5 rfl (by decide +kernel) (Nat.le_of_ble_eq_true rfl) ?_
  intro p e s m args below meth c E hr hlk hnm hsz hC hF ls hl
  subst hsz
  obtain ⟨hx, hb, -⟩ := id E
  have hA : ∀ q, (nwA s.heap.size) q → N0 ≤ q := fun q h => Nat.le_trans hC.2.1 h
  have hn : ∀ q, s.heap.size ≤ q → (nwA s.heap.size) q := fun q h => h
  have hS : va_S (nwA s.heap.size) s.heap s.heap [] := va_S.rf
  have hl : lv_has ls 2 [(0, .ref a), (1, .ref t)] := hl
  obtain ⟨f0, hB, st⟩ : SBo D a v ml (nI n) s.heap ∧ BA D tk v cap s.heap ∧ SX D tk t k s.heap := hF
  refine va_gets (pc := 0) hx hb (hC.cs.narrow hA) hS E.2.2.2.1 (E.2.2.2.2 _ (List.mem_cons_of_mem _ kw_158)) (fun _ h => h) dJ5_inflateIfNeededFor_a7421_0 ?_
  refine lv_if_eq (pc := 3) (tgt := 21) hx hb dJ5_inflateIfNeededFor_a7421_3 (by decide) (fun c_1 => ?_) (fun c_1 => ?_)
  · exact absurd c_1 (by decide)
  refine lv_aload_n (pc := 6) hx hb dJ5_inflateIfNeededFor_a7421_6 rfl (lv_at hl 0 rfl) ?_
  refine r_get (pc := 7) E hC f0 1 (v := .int 0) rfl rfl (by decide) uJ4 (List.mem_cons_of_mem _ kw_168) (fun _ h => h) dJ5_inflateIfNeededFor_a7421_7 ?_
  refine lv_aload_n (pc := 10) hx hb dJ5_inflateIfNeededFor_a7421_10 rfl (lv_at hl 1 rfl) ?_
  refine k_i (pc := 11) (k_V E hC hS hA hl.1 (st.recv hC) rfl (c_J0_coder_7d493 l D tk N0 sa s.heap.size t k) kw_429 kw_417 kw_418 kw_20 kw_419 (n := 0) (by decide +kernel) rfl ⟨⟨rfl, rfl⟩, ⟨by decide, by decide⟩, by decide, by decide⟩ rfl (Nat.le_of_ble_eq_true rfl) st dJ5_inflateIfNeededFor_a7421_11) hS (fun q z w => absurd w (Nat.not_le.mpr z)) hn (fun r_2 H locs hR hz hk hS => ?_)
  have f0 := f0.kept (hk _ f0.lt (Nat.not_le.mpr f0.lt))
  have hB := hB.kept (hk _ hB.lt (Nat.not_le.mpr hB.lt))
  have st := st.new hk
  rw [show r_2 = 0 from hR]
  refine lv_icmp_eq (pc := 14) (tgt := 21) hx hb dJ5_inflateIfNeededFor_a7421_14 (by decide) (fun c_3 => ?_) (fun c_3 => ?_)
  rotate_left
  · exact absurd (by decide) c_3
  refine r_vret (pc := 21) E hr hlk hS (by decide) (by decide) ?_ dJ5_inflateIfNeededFor_a7421_21
  exact trivial
set_option maxHeartbeats 4000000 in
set_option maxRecDepth 100000 in
/-- java/lang/AbstractStringBuilder.putStringAt(ILjava/lang/String;)V -/
theorem c_J5_putStringAt_47b60 (l : Launch) (D : va_G) (tk : Nat → ClassId) (N0 : Nat) (sa : Nat → Nat)  (sz : Nat) (a v cap n t k : Nat) (ml : Int32) (ix : Int32) (ha9 : N0 ≤ v) (hix : ix = nI n) (hik : n + k ≤ cap) (hcap : cap ≤ 100000000) : Met l yJ5_putStringAt_47b60 (wsy yJ5_putStringAt_47b60 cJ5_putStringAt_47b60 3 none) ({ frames := 2, cells := 0, slots := 0, locals := 49 } : Room) (cP D tk N0 sa [.ref a, .int ix, .ref t] sz (fun H => SBo D a v ml (nI n) H ∧ BA D tk v cap H ∧ SX D tk t k H)) (kQv (fun H => BA D tk v cap H) (inA1 v sz)) (0) (0) (inA1 v sz) := by
  refine mStart RJ5 rfl (by decide +kernel) (Nat.le_of_ble_eq_true rfl) ?_
  intro p e s m args below meth c E hr hlk hnm hsz hC hF ls hl
  subst hsz
  obtain ⟨hx, hb, -⟩ := id E
  have hA : ∀ q, (inA1 v s.heap.size) q → N0 ≤ q := fun q h => h.elim (fun z => z ▸ ha9) (fun z => Nat.le_trans hC.2.1 z)
  have hn : ∀ q, s.heap.size ≤ q → (inA1 v s.heap.size) q := fun q h => Or.inr h
  have hS : va_S (inA1 v s.heap.size) s.heap s.heap [] := va_S.rf
  have hl : lv_has ls 3 [(0, .ref a), (1, .int ix), (2, .ref t)] := hl
  obtain ⟨f0, hB, st⟩ : SBo D a v ml (nI n) s.heap ∧ BA D tk v cap s.heap ∧ SX D tk t k s.heap := hF
  have g_hB : (inA1 v s.heap.size) v := Or.inl rfl
  refine lv_aload_n (pc := 0) hx hb dJ5_putStringAt_47b60_0 rfl (lv_at hl 0 rfl) ?_
  refine lv_aload_n (pc := 1) hx hb dJ5_putStringAt_47b60_1 rfl (lv_at hl 2 rfl) ?_
  refine k_v (pc := 2) (k_U E hC hS hA hl.1 (c1.recv hC f0 rfl) (c_J5_inflateIfNeededFor_a7421 l D tk N0 sa s.heap.size a v cap n t k ml) kw_425 kw_1818 kw_427 (selUp (n := 4) (E.2.2.2.2 _ (List.mem_cons_of_mem _ kw_150)) (va_Nw.use rfl (hC.2.2.2.1 _ kn_426 rfl)) (E.2.2.2.2 _ (List.mem_cons_of_mem _ kw_427)) (E.2.2.2.2 _ (List.mem_cons_of_mem _ kw_1818))) kw_18 kw_428 (n := 1) (by decide +kernel) rfl ⟨⟨rfl, rfl⟩, ⟨by decide, by decide⟩, by decide, by decide⟩ rfl (Nat.le_of_ble_eq_true rfl) ⟨f0, hB, st⟩ dJ5_putStringAt_47b60_2) hS (fun q z w => absurd w (Nat.not_le.mpr z)) hn (fun H locs hR hz hk hS => ?_)
  have f0 := f0.kept (hk _ f0.lt (Nat.not_le.mpr f0.lt))
  have hB := hB.kept (hk _ hB.lt (Nat.not_le.mpr hB.lt))
  have st := st.new hk
  refine lv_aload_n (pc := 5) hx hb dJ5_putStringAt_47b60_5 rfl (lv_at hl 2 rfl) ?_
  refine lv_aload_n (pc := 6) hx hb dJ5_putStringAt_47b60_6 rfl (lv_at hl 0 rfl) ?_
  refine r_get (pc := 7) E hC f0 0 (v := .ref v) rfl rfl (by decide) uJ4 (List.mem_cons_of_mem _ kw_167) (fun _ h => h) dJ5_putStringAt_47b60_7 ?_
  refine lv_iload_n (pc := 10) hx hb dJ5_putStringAt_47b60_10 rfl (lv_at hl 1 rfl) ?_
  refine lv_aload_n (pc := 11) hx hb dJ5_putStringAt_47b60_11 rfl (lv_at hl 0 rfl) ?_
  refine r_get (pc := 12) E hC f0 1 (v := .int 0) rfl rfl (by decide) uJ4 (List.mem_cons_of_mem _ kw_168) (fun _ h => h) dJ5_putStringAt_47b60_12 ?_
  refine k_v (pc := 15) (k_V E hC hS hA hl.1 (st.recv hC) rfl (c_J0_getBytes_840e7 l D tk N0 sa H.size t k v cap n ix (hA _ g_hB) hix hik hcap) kw_430 kw_431 kw_432 kw_20 kw_433 (n := 3) (by decide +kernel) rfl ⟨⟨rfl, rfl⟩, ⟨by decide, by decide⟩, by decide, by decide⟩ rfl (Nat.le_of_ble_eq_true rfl) ⟨st, hB⟩ dJ5_putStringAt_47b60_15) hS (inA1.to g_hB) hn (fun H locs hR hz hk hS => ?_)
  have f0 := f0.kept (hk _ f0.lt (inA1.not (clA.ne f0.cl hB.cl (hC.oa 1 1 rfl rfl)) f0.lt))
  have hB := hR
  refine r_vret (pc := 18) E hr hlk hS (by decide) (by decide) ?_ dJ5_putStringAt_47b60_18
  exact hB
set_option maxHeartbeats 4000000 in
set_option maxRecDepth 100000 in
/-- java/lang/AbstractStringBuilder.append(Ljava/lang/String;)Ljava/lang/AbstractStringBuilder; -/
theorem c_J5_append_cf1ce (l : Launch) (D : va_G) (tk : Nat → ClassId) (N0 : Nat) (sa : Nat → Nat)  (sz : Nat) (a v cap n t k : Nat) (ml : Int32) (ha9 : N0 ≤ a) (hv9 : N0 ≤ v) (hn9 : n ≤ cap) (hcap : cap ≤ 500000) (hk9 : k ≤ 400000) : Met l yJ5_append_cf1ce (wsy yJ5_append_cf1ce cJ5_append_cf1ce 3 (some (.object "java/lang/AbstractStringBuilder"))) ({ frames := 4, cells := sbK cap (n + k), slots := sbS cap (n + k), locals := 91 } : Room) (cP D tk N0 sa [.ref a, .ref t] sz (fun H => SBo D a v ml (nI n) H ∧ BA D tk v cap H ∧ SX D tk t k H)) (kQr (fun r H => r = a ∧ ∃ v1, (v1 = v ∨ sz ≤ v1) ∧ SBo D a v1 ml (nI (n + k)) H ∧ BA D tk v1 (sbC cap (n + k)) H) (inA2 a v sz)) (sbK cap (n + k)) (sbS cap (n + k)) (inA2 a v sz) := by
  refine mStart RJ5 rfl (by decide +kernel) (Nat.le_of_ble_eq_true rfl) ?_
  intro p e s m args below meth c E hr hlk hnm hsz hC hF ls hl
  subst hsz
  obtain ⟨hx, hb, -⟩ := id E
  have hA : ∀ q, (inA2 a v s.heap.size) q → N0 ≤ q := fun q h => h.elim (fun z => z ▸ ha9) (fun z => z.elim (fun w => w ▸ hv9) (fun w => Nat.le_trans hC.2.1 w))
  have hn : ∀ q, s.heap.size ≤ q → (inA2 a v s.heap.size) q := fun q h => Or.inr (Or.inr h)
  have hS : va_S (inA2 a v s.heap.size) s.heap s.heap [] := va_S.rf
  have hl : lv_has ls 3 [(0, .ref a), (1, .ref t)] := hl
  obtain ⟨f0, hB, st⟩ : SBo D a v ml (nI n) s.heap ∧ BA D tk v cap s.heap ∧ SX D tk t k s.heap := hF
  have g_f0 : (inA2 a v s.heap.size) a := Or.inl rfl
  have g_hB : (inA2 a v s.heap.size) v := Or.inr (Or.inl rfl)
  refine lv_aload_n (pc := 0) hx hb dJ5_append_cf1ce_0 rfl (lv_at hl 1 rfl) ?_
  refine lv_ifnonnull (pc := 1) (tgt := 9) hx hb dJ5_append_cf1ce_1 (by decide) ?_
  refine lv_aload_n (pc := 9) hx hb dJ5_append_cf1ce_9 rfl (lv_at hl 1 rfl) ?_
  refine k_i (pc := 10) (k_V E hC hS hA hl.1 (st.recv hC) rfl (c_J0_length_8abf5 l D tk N0 sa s.heap.size t k) kw_412 kw_413 kw_414 kw_20 kw_415 (n := 0) (by decide +kernel) rfl ⟨⟨rfl, rfl⟩, ⟨Nat.le_of_ble_eq_true rfl, Nat.le_of_ble_eq_true rfl⟩, (by dsimp only; omega), (by dsimp only; omega)⟩ rfl (Nat.le_of_ble_eq_true rfl) st dJ5_append_cf1ce_10) hS (fun q z w => absurd w (Nat.not_le.mpr z)) hn (fun r_1 H locs hR hz hk hS => ?_)
  have f0 := f0.kept (hk _ f0.lt (Nat.not_le.mpr f0.lt))
  have hB := hB.kept (hk _ hB.lt (Nat.not_le.mpr hB.lt))
  have st := st.new hk
  rw [show r_1 = nI k from hR]
  obtain ⟨x_2, ex_2⟩ : ∃ z9 : Int32, z9 = nI k := ⟨_, rfl⟩
  rw [← ex_2]
  refine lv_istore_n (pc := 13) (lv' := [(2, .int x_2), (0, .ref a), (1, .ref t)]) hx hb dJ5_append_cf1ce_13 rfl hl (by decide) rfl (fun ls hl => ?_)
  refine lv_aload_n (pc := 14) hx hb dJ5_append_cf1ce_14 rfl (lv_at hl 1 rfl) ?_
  refine lv_aload_n (pc := 15) hx hb dJ5_append_cf1ce_15 rfl (lv_at hl 1 rfl) ?_
  refine r_get (pc := 16) E hC f0 3 (v := .int (nI n)) rfl rfl (by decide) uJ4 (List.mem_cons_of_mem _ kw_171) (fun _ h => h) dJ5_append_cf1ce_16 ?_
  refine lv_iload_n (pc := 19) hx hb dJ5_append_cf1ce_19 rfl (lv_at hl 0 rfl) ?_
  refine lv_iadd (pc := 20) hx hb dJ5_append_cf1ce_20 ?_
  have hZ0_ := hS.1
  have t_f0 := f0.lt
  have t_hB := hB.lt
  have t_st := st.lt
  refine k_v (pc := 21) (k_U E hC hS hA hl.1 (c1.recv hC f0 rfl) (c_J5_ensureCapacityInternal_d00df l D tk N0 sa H.size a v cap ml (nI n) ((nI n) + x_2) (n + k) (hA _ g_f0) (by rw [ex_2]; exact nI_add n k) (by omega) (by omega)) kw_189 kw_1810 kw_191 (selUp (n := 4) (E.2.2.2.2 _ (List.mem_cons_of_mem _ kw_150)) (va_Nw.use rfl (hC.2.2.2.1 _ kn_190 rfl)) (E.2.2.2.2 _ (List.mem_cons_of_mem _ kw_191)) (E.2.2.2.2 _ (List.mem_cons_of_mem _ kw_1810))) kw_18 kw_192 (n := 1) (by decide +kernel) rfl ⟨⟨rfl, rfl⟩, ⟨Nat.le_of_ble_eq_true rfl, Nat.le_of_ble_eq_true rfl⟩, (by dsimp only; omega), (by dsimp only; omega)⟩ rfl (Nat.le_of_ble_eq_true rfl) ⟨f0, hB⟩ dJ5_append_cf1ce_21) hS (inA1.to g_f0) hn (fun H locs hR hz hk hS => ?_)
  have st := st.keep1 hk (clA.ne st.cl f0.cl (hC.oo 0 1 rfl rfl (by decide))) (fun b9 n9 h9 => h9.neo hC f0.cl (ci := 1) rfl)
  obtain ⟨v_4, hv_4, f0, hB⟩ := hR
  have g_hB := hv_4.elim (fun e9 => e9 ▸ g_hB) (fun z9 => hn _ (Nat.le_trans hZ0_ z9))
  have hv_4 := hv_4.imp_right (fun z9 => Nat.le_trans hZ0_ z9)
  refine lv_aload_n (pc := 24) hx hb dJ5_append_cf1ce_24 rfl (lv_at hl 1 rfl) ?_
  refine lv_aload_n (pc := 25) hx hb dJ5_append_cf1ce_25 rfl (lv_at hl 1 rfl) ?_
  refine r_get (pc := 26) E hC f0 3 (v := .int (nI n)) rfl rfl (by decide) uJ4 (List.mem_cons_of_mem _ kw_171) (fun _ h => h) dJ5_append_cf1ce_26 ?_
  refine lv_aload_n (pc := 29) hx hb dJ5_append_cf1ce_29 rfl (lv_at hl 2 rfl) ?_
  refine k_v (pc := 30) (k_U E hC hS hA hl.1 (c1.recv hC f0 rfl) (c_J5_putStringAt_47b60 l D tk N0 sa H.size a v_4 (sbC cap (n + k)) n t k ml (nI n) (hA _ g_hB) rfl (by have := sbC_ge cap (n + k); omega) (by have := sbC_lt cap (n + k); omega)) kw_421 kw_1817 kw_423 (selUp (n := 4) (E.2.2.2.2 _ (List.mem_cons_of_mem _ kw_150)) (va_Nw.use rfl (hC.2.2.2.1 _ kn_422 rfl)) (E.2.2.2.2 _ (List.mem_cons_of_mem _ kw_423)) (E.2.2.2.2 _ (List.mem_cons_of_mem _ kw_1817))) kw_18 kw_424 (n := 2) (by decide +kernel) rfl ⟨⟨rfl, rfl⟩, ⟨Nat.le_of_ble_eq_true rfl, Nat.le_of_ble_eq_true rfl⟩, (by dsimp only; omega), (by dsimp only; omega)⟩ rfl (Nat.le_of_ble_eq_true rfl) ⟨f0, hB, st⟩ dJ5_append_cf1ce_30) hS (inA1.to g_hB) hn (fun H locs hR hz hk hS => ?_)
  have f0 := f0.kept (hk _ f0.lt (inA1.not (clA.ne f0.cl hB.cl (hC.oa 1 1 rfl rfl)) f0.lt))
  have hB := hR
  refine lv_aload_n (pc := 33) hx hb dJ5_append_cf1ce_33 rfl (lv_at hl 1 rfl) ?_
  refine lv_dup (pc := 34) hx hb dJ5_append_cf1ce_34 rfl ?_
  refine r_get (pc := 35) E hC f0 3 (v := .int (nI n)) rfl rfl (by decide) uJ4 (List.mem_cons_of_mem _ kw_171) (fun _ h => h) dJ5_append_cf1ce_35 ?_
  refine lv_iload_n (pc := 38) hx hb dJ5_append_cf1ce_38 rfl (lv_at hl 0 rfl) ?_
  refine lv_iadd (pc := 39) hx hb dJ5_append_cf1ce_39 ?_
  refine r_put (pc := 40) E hC f0 hS g_f0 3 tyJ4 tyJ4_ok nmJ4 rfl (by decide) (Nat.le_of_ble_eq_true rfl) uJ4 (List.mem_cons_of_mem _ kw_171) (fun _ h => h) rfl rfl rfl dJ5_append_cf1ce_40 (fun H locs n_ ho hz hS => ?_)
  have hB := hB.kept (ho _ (clA.ne hB.cl f0.cl (hC.ao 1 1 rfl rfl)))
  have f0 : c1 D a (.inr (1, [.ref v_4, .int 0, .int ml, .int ((nI n) + x_2)])) H := n_
  refine lv_aload_n (pc := 43) hx hb dJ5_append_cf1ce_43 rfl (lv_at hl 1 rfl) ?_
  refine r_aret (pc := 44) E hr (Or.inl ⟨_, rfl⟩) hlk hS (by omega) (by omega) ?_ dJ5_append_cf1ce_44
  exact ⟨rfl, _, hv_4, (by have h9 := f0; rw [ex_2, nI_add] at h9; exact h9), hB⟩
set_option maxHeartbeats 4000000 in
set_option maxRecDepth 100000 in
/-- java/lang/StringBuilder.append(C)Ljava/lang/StringBuilder; -/
theorem c_J4_append_cf468 (l : Launch) (D : va_G) (tk : Nat → ClassId) (N0 : Nat) (sa : Nat → Nat)  (sz : Nat) (a v cap n : Nat) (ml ch : Int32) (k9 : Nat) (ha9 : N0 ≤ a) (hv9 : N0 ≤ v) (hn9 : n ≤ cap) (hcap : cap ≤ 500000) (hch : ch = nI k9) (hk9 : k9 < 256) : Met l yJ4_append_cf468 (wsy yJ4_append_cf468 cJ4_append_cf468 2 (some (.object "java/lang/StringBuilder"))) ({ frames := 5, cells := sbK cap (n + 1), slots := sbS cap (n + 1), locals := 112 } : Room) (cP D tk N0 sa [.ref a, .int ch] sz (fun H => SBo D a v ml (nI n) H ∧ BA D tk v cap H)) (kQr (fun r H => r = a ∧ ∃ v1, (v1 = v ∨ sz ≤ v1) ∧ SBo D a v1 ml (nI (n + 1)) H ∧ BA D tk v1 (sbC cap (n + 1)) H) (inA2 a v sz)) (sbK cap (n + 1)) (sbS cap (n + 1)) (inA2 a v sz) := by
  refine mStart RJ4 rfl (by decide +kernel) (Nat.le_of_ble_eq_true rfl) ?_
  intro p e s m args below meth c E hr hlk hnm hsz hC hF ls hl
  subst hsz
  obtain ⟨hx, hb, -⟩ := id E
  have hA : ∀ q, (inA2 a v s.heap.size) q → N0 ≤ q := fun q h => h.elim (fun z => z ▸ ha9) (fun z => z.elim (fun w => w ▸ hv9) (fun w => Nat.le_trans hC.2.1 w))
  have hn : ∀ q, s.heap.size ≤ q → (inA2 a v s.heap.size) q := fun q h => Or.inr (Or.inr h)
  have hS : va_S (inA2 a v s.heap.size) s.heap s.heap [] := va_S.rf
  have hl : lv_has ls 2 [(0, .ref a), (1, .int ch)] := hl
  obtain ⟨f0, hB⟩ : SBo D a v ml (nI n) s.heap ∧ BA D tk v cap s.heap := hF
  have g_f0 : (inA2 a v s.heap.size) a := Or.inl rfl
  have g_hB : (inA2 a v s.heap.size) v := Or.inr (Or.inl rfl)
  refine lv_aload_n (pc := 0) hx hb dJ4_append_cf468_0 rfl (lv_at hl 0 rfl) ?_
  refine lv_iload_n (pc := 1) hx hb dJ4_append_cf468_1 rfl (lv_at hl 1 rfl) ?_
  have hZ0_ := hS.1
  have t_f0 := f0.lt
  have t_hB := hB.lt
  refine k_r (pc := 2) (k_SU (ci := 1) rfl E hC hS hA hl.1 (c1.recv hC f0 rfl) (c_J5_append_3fe6f l D tk N0 sa s.heap.size a v cap n ml ch k9 (hA _ g_f0) (hA _ g_hB) hn9 hcap hch hk9) kw_186 kw_1809 kw_180 kw_187 kw_18 kw_188 (by decide) (n := 1) (by decide +kernel) rfl ⟨⟨rfl, rfl⟩, ⟨Nat.le_of_ble_eq_true rfl, Nat.le_of_ble_eq_true rfl⟩, (by dsimp only; omega), (by dsimp only; omega)⟩ rfl (Nat.le_of_ble_eq_true rfl) ⟨f0, hB⟩ dJ4_append_cf468_2) hS (inA2.to g_f0 g_hB) hn (fun r_1 H locs hR hz hk hS => ?_)
  obtain ⟨er9, hR⟩ := hR
  rw [er9]
  obtain ⟨v_2, hv_2, f0, hB⟩ := hR
  have g_hB := hv_2.elim (fun e9 => e9 ▸ g_hB) (fun z9 => hn _ (Nat.le_trans hZ0_ z9))
  have hv_2 := hv_2.imp_right (fun z9 => Nat.le_trans hZ0_ z9)
  refine lv_pop (pc := 5) hx hb dJ4_append_cf468_5 rfl ?_
  refine lv_aload_n (pc := 6) hx hb dJ4_append_cf468_6 rfl (lv_at hl 0 rfl) ?_
  refine r_aret (pc := 7) E hr (Or.inl ⟨_, rfl⟩) hlk hS (by omega) (by omega) ?_ dJ4_append_cf468_7
  exact ⟨rfl, _, hv_2, f0, hB⟩
set_option maxHeartbeats 4000000 in
set_option maxRecDepth 100000 in
/-- java/lang/StringBuilder.append(I)Ljava/lang/StringBuilder; -/
theorem c_J4_append_bf812 (l : Launch) (D : va_G) (tk : Nat → ClassId) (N0 : Nat) (sa : Nat → Nat)  (sz : Nat) (a v cap n : Nat) (ml : Int32) (x : Int32) (ha9 : N0 ≤ a) (hv9 : N0 ≤ v) (hn9 : n ≤ cap) (hcap : cap ≤ 500000) : Met l yJ4_append_bf812 (wsy yJ4_append_bf812 cJ4_append_bf812 2 (some (.object "java/lang/StringBuilder"))) ({ frames := 5, cells := sbK cap (n + dgI x), slots := sbS cap (n + dgI x), locals := 114 } : Room) (cP D tk N0 sa [.ref a, .int x] sz (fun H => SBo D a v ml (nI n) H ∧ BA D tk v cap H)) (kQr (fun r H => r = a ∧ ∃ v1, (v1 = v ∨ sz ≤ v1) ∧ SBo D a v1 ml (nI (n + dgI x)) H ∧ BA D tk v1 (sbC cap (n + dgI x)) H) (inA2 a v sz)) (sbK cap (n + dgI x)) (sbS cap (n + dgI x)) (inA2 a v sz) := by
  refine mStart RJ4 rfl (by decide +kernel) (Nat.le_of_ble_eq_true rfl) ?_
  intro p e s m args below meth c E hr hlk hnm hsz hC hF ls hl
  subst hsz
  obtain ⟨hx, hb, -⟩ := id E
  have hA : ∀ q, (inA2 a v s.heap.size) q → N0 ≤ q := fun q h => h.elim (fun z => z ▸ ha9) (fun z => z.elim (fun w => w ▸ hv9) (fun w => Nat.le_trans hC.2.1 w))
  have hn : ∀ q, s.heap.size ≤ q → (inA2 a v s.heap.size) q := fun q h => Or.inr (Or.inr h)
  have hS : va_S (inA2 a v s.heap.size) s.heap s.heap [] := va_S.rf
  have hl : lv_has ls 2 [(0, .ref a), (1, .int x)] := hl
  obtain ⟨f0, hB⟩ : SBo D a v ml (nI n) s.heap ∧ BA D tk v cap s.heap := hF
  have g_f0 : (inA2 a v s.heap.size) a := Or.inl rfl
  have g_hB : (inA2 a v s.heap.size) v := Or.inr (Or.inl rfl)
  refine lv_aload_n (pc := 0) hx hb dJ4_append_bf812_0 rfl (lv_at hl 0 rfl) ?_
  refine lv_iload_n (pc := 1) hx hb dJ4_append_bf812_1 rfl (lv_at hl 1 rfl) ?_
  have hZ0_ := hS.1
  have t_f0 := f0.lt
  have t_hB := hB.lt
  refine k_r (pc := 2) (k_SU (ci := 1) rfl E hC hS hA hl.1 (c1.recv hC f0 rfl) (c_J5_append_c97b9 l D tk N0 sa s.heap.size a v cap n ml x (hA _ g_f0) (hA _ g_hB) hn9 hcap) kw_285 kw_1813 kw_180 kw_286 kw_18 kw_287 (by decide) (n := 1) (by decide +kernel) rfl ⟨⟨rfl, rfl⟩, ⟨Nat.le_of_ble_eq_true rfl, Nat.le_of_ble_eq_true rfl⟩, (by dsimp only; omega), (by dsimp only; omega)⟩ rfl (Nat.le_of_ble_eq_true rfl) ⟨f0, hB⟩ dJ4_append_bf812_2) hS (inA2.to g_f0 g_hB) hn (fun r_1 H locs hR hz hk hS => ?_)
  obtain ⟨er9, hR⟩ := hR
  rw [er9]
  obtain ⟨v_2, hv_2, f0, hB⟩ := hR
  have g_hB := hv_2.elim (fun e9 => e9 ▸ g_hB) (fun z9 => hn _ (Nat.le_trans hZ0_ z9))
  have hv_2 := hv_2.imp_right (fun z9 => Nat.le_trans hZ0_ z9)
  refine lv_pop (pc := 5) hx hb dJ4_append_bf812_5 rfl ?_
  refine lv_aload_n (pc := 6) hx hb dJ4_append_bf812_6 rfl (lv_at hl 0 rfl) ?_
  refine r_aret (pc := 7) E hr (Or.inl ⟨_, rfl⟩) hlk hS (by omega) (by omega) ?_ dJ4_append_bf812_7
  exact ⟨rfl, _, hv_2, f0, hB⟩
set_option maxHeartbeats 4000000 in
set_option maxRecDepth 100000 in
/-- java/lang/StringBuilder.append(J)Ljava/lang/StringBuilder; -/
theorem c_J4_append_f7089 (l : Launch) (D : va_G) (tk : Nat → ClassId) (N0 : Nat) (sa : Nat → Nat)  (sz : Nat) (a v cap n : Nat) (ml : Int32) (x : Int64) (ha9 : N0 ≤ a) (hv9 : N0 ≤ v) (hn9 : n ≤ cap) (hcap : cap ≤ 500000) : Met l yJ4_append_f7089 (wsy yJ4_append_f7089 cJ4_append_f7089 3 (some (.object "java/lang/StringBuilder"))) ({ frames := 5, cells := sbK cap (n + dgJ x), slots := sbS cap (n + dgJ x), locals := 115 } : Room) (cP D tk N0 sa [.ref a, .long x] sz (fun H => SBo D a v ml (nI n) H ∧ BA D tk v cap H)) (kQr (fun r H => r = a ∧ ∃ v1, (v1 = v ∨ sz ≤ v1) ∧ SBo D a v1 ml (nI (n + dgJ x)) H ∧ BA D tk v1 (sbC cap (n + dgJ x)) H) (inA2 a v sz)) (sbK cap (n + dgJ x)) (sbS cap (n + dgJ x)) (inA2 a v sz) := by
  refine mStart RJ4 rfl (by decide +kernel) (Nat.le_of_ble_eq_true rfl) ?_
  intro p e s m args below meth c E hr hlk hnm hsz hC hF ls hl
  subst hsz
  obtain ⟨hx, hb, -⟩ := id E
  have hA : ∀ q, (inA2 a v s.heap.size) q → N0 ≤ q := fun q h => h.elim (fun z => z ▸ ha9) (fun z => z.elim (fun w => w ▸ hv9) (fun w => Nat.le_trans hC.2.1 w))
  have hn : ∀ q, s.heap.size ≤ q → (inA2 a v s.heap.size) q := fun q h => Or.inr (Or.inr h)
  have hS : va_S (inA2 a v s.heap.size) s.heap s.heap [] := va_S.rf
  have hl : lv_has ls 3 [(0, .ref a), (1, .long x)] := hl
  obtain ⟨f0, hB⟩ : SBo D a v ml (nI n) s.heap ∧ BA D tk v cap s.heap := hF
  have g_f0 : (inA2 a v s.heap.size) a := Or.inl rfl
  have g_hB : (inA2 a v s.heap.size) v := Or.inr (Or.inl rfl)
  refine lv_aload_n (pc := 0) hx hb dJ4_append_f7089_0 rfl (lv_at hl 0 rfl) ?_
  refine lv_lload_n (pc := 1) hx hb dJ4_append_f7089_1 rfl (lv_at hl 1 rfl) ?_
  have hZ0_ := hS.1
  have t_f0 := f0.lt
  have t_hB := hB.lt
  refine k_r (pc := 2) (k_SU (ci := 1) rfl E hC hS hA hl.1 (c1.recv hC f0 rfl) (c_J5_append_66267 l D tk N0 sa s.heap.size a v cap n ml x (hA _ g_f0) (hA _ g_hB) hn9 hcap) kw_1358 kw_1821 kw_180 kw_1359 kw_18 kw_1360 (by decide) (n := 1) (by decide +kernel) rfl ⟨⟨rfl, rfl⟩, ⟨Nat.le_of_ble_eq_true rfl, Nat.le_of_ble_eq_true rfl⟩, (by dsimp only; omega), (by dsimp only; omega)⟩ rfl (Nat.le_of_ble_eq_true rfl) ⟨f0, hB⟩ dJ4_append_f7089_2) hS (inA2.to g_f0 g_hB) hn (fun r_1 H locs hR hz hk hS => ?_)
  obtain ⟨er9, hR⟩ := hR
  rw [er9]
  obtain ⟨v_2, hv_2, f0, hB⟩ := hR
  have g_hB := hv_2.elim (fun e9 => e9 ▸ g_hB) (fun z9 => hn _ (Nat.le_trans hZ0_ z9))
  have hv_2 := hv_2.imp_right (fun z9 => Nat.le_trans hZ0_ z9)
  refine lv_pop (pc := 5) hx hb dJ4_append_f7089_5 rfl ?_
  refine lv_aload_n (pc := 6) hx hb dJ4_append_f7089_6 rfl (lv_at hl 0 rfl) ?_
  refine r_aret (pc := 7) E hr (Or.inl ⟨_, rfl⟩) hlk hS (by omega) (by omega) ?_ dJ4_append_f7089_7
  exact ⟨rfl, _, hv_2, f0, hB⟩
set_option maxHeartbeats 4000000 in
set_option maxRecDepth 100000 in
/-- java/lang/StringBuilder.append(Ljava/lang/String;)Ljava/lang/StringBuilder; -/
theorem c_J4_append_15ec4 (l : Launch) (D : va_G) (tk : Nat → ClassId) (N0 : Nat) (sa : Nat → Nat)  (sz : Nat) (a v cap n t k : Nat) (ml : Int32) (ha9 : N0 ≤ a) (hv9 : N0 ≤ v) (hn9 : n ≤ cap) (hcap : cap ≤ 500000) (hk9 : k ≤ 400000) : Met l yJ4_append_15ec4 (wsy yJ4_append_15ec4 cJ4_append_15ec4 2 (some (.object "java/lang/StringBuilder"))) ({ frames := 5, cells := sbK cap (n + k), slots := sbS cap (n + k), locals := 113 } : Room) (cP D tk N0 sa [.ref a, .ref t] sz (fun H => SBo D a v ml (nI n) H ∧ BA D tk v cap H ∧ SX D tk t k H)) (kQr (fun r H => r = a ∧ ∃ v1, (v1 = v ∨ sz ≤ v1) ∧ SBo D a v1 ml (nI (n + k)) H ∧ BA D tk v1 (sbC cap (n + k)) H) (inA2 a v sz)) (sbK cap (n + k)) (sbS cap (n + k)) (inA2 a v sz) := by
  refine mStart RJ4 rfl (by decide +kernel) (Nat.le_of_ble_eq_true rfl) ?_
  intro p e s m args below meth c E hr hlk hnm hsz hC hF ls hl
  subst hsz
  obtain ⟨hx, hb, -⟩ := id E
  have hA : ∀ q, (inA2 a v s.heap.size) q → N0 ≤ q := fun q h => h.elim (fun z => z ▸ ha9) (fun z => z.elim (fun w => w ▸ hv9) (fun w => Nat.le_trans hC.2.1 w))
  have hn : ∀ q, s.heap.size ≤ q → (inA2 a v s.heap.size) q := fun q h => Or.inr (Or.inr h)
  have hS : va_S (inA2 a v s.heap.size) s.heap s.heap [] := va_S.rf
  have hl : lv_has ls 2 [(0, .ref a), (1, .ref t)] := hl
  obtain ⟨f0, hB, st⟩ : SBo D a v ml (nI n) s.heap ∧ BA D tk v cap s.heap ∧ SX D tk t k s.heap := hF
  have g_f0 : (inA2 a v s.heap.size) a := Or.inl rfl
  have g_hB : (inA2 a v s.heap.size) v := Or.inr (Or.inl rfl)
  refine lv_aload_n (pc := 0) hx hb dJ4_append_15ec4_0 rfl (lv_at hl 0 rfl) ?_
  refine lv_aload_n (pc := 1) hx hb dJ4_append_15ec4_1 rfl (lv_at hl 1 rfl) ?_
  have hZ0_ := hS.1
  have t_f0 := f0.lt
  have t_hB := hB.lt
  have t_st := st.lt
  refine k_r (pc := 2) (k_SU (ci := 1) rfl E hC hS hA hl.1 (c1.recv hC f0 rfl) (c_J5_append_cf1ce l D tk N0 sa s.heap.size a v cap n t k ml (hA _ g_f0) (hA _ g_hB) hn9 hcap hk9) kw_402 kw_1815 kw_180 kw_403 kw_18 kw_404 (by decide) (n := 1) (by decide +kernel) rfl ⟨⟨rfl, rfl⟩, ⟨Nat.le_of_ble_eq_true rfl, Nat.le_of_ble_eq_true rfl⟩, (by dsimp only; omega), (by dsimp only; omega)⟩ rfl (Nat.le_of_ble_eq_true rfl) ⟨f0, hB, st⟩ dJ4_append_15ec4_2) hS (inA2.to g_f0 g_hB) hn (fun r_1 H locs hR hz hk hS => ?_)
  obtain ⟨er9, hR⟩ := hR
  rw [er9]
  obtain ⟨v_2, hv_2, f0, hB⟩ := hR
  have g_hB := hv_2.elim (fun e9 => e9 ▸ g_hB) (fun z9 => hn _ (Nat.le_trans hZ0_ z9))
  have hv_2 := hv_2.imp_right (fun z9 => Nat.le_trans hZ0_ z9)
  refine lv_pop (pc := 5) hx hb dJ4_append_15ec4_5 rfl ?_
  refine lv_aload_n (pc := 6) hx hb dJ4_append_15ec4_6 rfl (lv_at hl 0 rfl) ?_
  refine r_aret (pc := 7) E hr (Or.inl ⟨_, rfl⟩) hlk hS (by omega) (by omega) ?_ dJ4_append_15ec4_7
  exact ⟨rfl, _, hv_2, f0, hB⟩
set_option maxHeartbeats 4000000 in
set_option maxRecDepth 100000 in
/-- java/lang/StringBuilder.length()I -/
theorem c_J4_length_8abf5 (l : Launch) (D : va_G) (tk : Nat → ClassId) (N0 : Nat) (sa : Nat → Nat)  (sz : Nat) (a v cap : Nat) (ml cn : Int32) : Met l yJ4_length_8abf5 (wsy yJ4_length_8abf5 cJ4_length_8abf5 1 (some .int)) ({ frames := 1, cells := 0, slots := 0, locals := 20 } : Room) (cP D tk N0 sa [.ref a] sz (fun H => SBo D a v ml cn H ∧ BA D tk v cap H)) (kQi (fun r H => r = cn) (nwA sz)) (0) (0) (nwA sz) := by
  refine mStart RJ4 rfl (by decide +kernel) (Nat.le_of_ble_eq_true rfl) ?_
  intro p e s m args below meth c E hr hlk hnm hsz hC hF ls hl
  subst hsz
  obtain ⟨hx, hb, -⟩ := id E
  have hA : ∀ q, (nwA s.heap.size) q → N0 ≤ q := fun q h => Nat.le_trans hC.2.1 h
  have hn : ∀ q, s.heap.size ≤ q → (nwA s.heap.size) q := fun q h => h
  have hS : va_S (nwA s.heap.size) s.heap s.heap [] := va_S.rf
  have hl : lv_has ls 1 [(0, .ref a)] := hl
  obtain ⟨f0, hB⟩ : SBo D a v ml cn s.heap ∧ BA D tk v cap s.heap := hF
  refine lv_aload_n (pc := 0) hx hb dJ4_length_8abf5_0 rfl (lv_at hl 0 rfl) ?_
  refine k_i (pc := 1) (k_SU (ci := 1) rfl E hC hS hA hl.1 (c1.recv hC f0 rfl) (c_J5_length_8abf5 l D tk N0 sa s.heap.size a v cap ml cn) kw_339 kw_335 kw_180 kw_334 kw_18 kw_340 (by decide) (n := 0) (by decide +kernel) rfl ⟨⟨rfl, rfl⟩, ⟨by decide, by decide⟩, by decide, by decide⟩ rfl (Nat.le_of_ble_eq_true rfl) ⟨f0, hB⟩ dJ4_length_8abf5_1) hS (fun q z w => absurd w (Nat.not_le.mpr z)) hn (fun r_1 H locs hR hz hk hS => ?_)
  have f0 := f0.kept (hk _ f0.lt (Nat.not_le.mpr f0.lt))
  have hB := hB.kept (hk _ hB.lt (Nat.not_le.mpr hB.lt))
  rw [show r_1 = cn from hR]
  refine r_iret (pc := 4) E hr hlk hS (by decide) (by decide) ?_ dJ4_length_8abf5_4
  rfl
set_option maxHeartbeats 4000000 in
set_option maxRecDepth 100000 in
/-- java/lang/AbstractStringBuilder.setLength(I)V -/
theorem c_J5_setLength_d00df (l : Launch) (D : va_G) (tk : Nat → ClassId) (N0 : Nat) (sa : Nat → Nat)  (sz : Nat) (a v cap n : Nat) (ml : Int32) (ha9 : N0 ≤ a) (hv9 : N0 ≤ v) (hn9 : n ≤ cap) (hcap : cap ≤ 500000) : Met l yJ5_setLength_d00df (wsy yJ5_setLength_d00df cJ5_setLength_d00df 2 none) ({ frames := 4, cells := sbK cap 0, slots := sbS cap 0, locals := 91 } : Room) (cP D tk N0 sa [.ref a, .int 0] sz (fun H => SBo D a v ml (nI n) H ∧ BA D tk v cap H)) (kQv (fun H => ∃ v1 ml1, (v1 = v ∨ sz ≤ v1) ∧ SBo D a v1 ml1 0 H ∧ BA D tk v1 (sbC cap 0) H) (inA2 a v sz)) (sbK cap 0) (sbS cap 0) (inA2 a v sz) := by
  refine mStart RJ5 rfl (by decide +kernel) (Nat.le_of_ble_eq_true rfl) ?_
  intro p e s m args below meth c E hr hlk hnm hsz hC hF ls hl
  subst hsz
  obtain ⟨hx, hb, -⟩ := id E
  have hA : ∀ q, (inA2 a v s.heap.size) q → N0 ≤ q := fun q h => h.elim (fun z => z ▸ ha9) (fun z => z.elim (fun w => w ▸ hv9) (fun w => Nat.le_trans hC.2.1 w))
  have hn : ∀ q, s.heap.size ≤ q → (inA2 a v s.heap.size) q := fun q h => Or.inr (Or.inr h)
  have hS : va_S (inA2 a v s.heap.size) s.heap s.heap [] := va_S.rf
  have hl : lv_has ls 2 [(0, .ref a), (1, .int 0)] := hl
  obtain ⟨f0, hB⟩ : SBo D a v ml (nI n) s.heap ∧ BA D tk v cap s.heap := hF
  have g_f0 : (inA2 a v s.heap.size) a := Or.inl rfl
  have g_hB : (inA2 a v s.heap.size) v := Or.inr (Or.inl rfl)
  refine lv_iload_n (pc := 0) hx hb dJ5_setLength_d00df_0 rfl (lv_at hl 1 rfl) ?_
  refine lv_if_ge (pc := 1) (tgt := 13) hx hb dJ5_setLength_d00df_1 (by decide) (fun c_1 => ?_) (fun c_1 => ?_)
  rotate_left
  · exact absurd (by decide) c_1
  refine lv_aload_n (pc := 13) hx hb dJ5_setLength_d00df_13 rfl (lv_at hl 0 rfl) ?_
  refine lv_iload_n (pc := 14) hx hb dJ5_setLength_d00df_14 rfl (lv_at hl 1 rfl) ?_
  have hZ0_ := hS.1
  have t_f0 := f0.lt
  have t_hB := hB.lt
  refine k_v (pc := 15) (k_U E hC hS hA hl.1 (c1.recv hC f0 rfl) (c_J5_ensureCapacityInternal_d00df l D tk N0 sa s.heap.size a v cap ml (nI n) 0 0 (hA _ g_f0) rfl (by omega) (by omega)) kw_189 kw_1810 kw_191 (selUp (n := 4) (E.2.2.2.2 _ (List.mem_cons_of_mem _ kw_150)) (va_Nw.use rfl (hC.2.2.2.1 _ kn_190 rfl)) (E.2.2.2.2 _ (List.mem_cons_of_mem _ kw_191)) (E.2.2.2.2 _ (List.mem_cons_of_mem _ kw_1810))) kw_18 kw_192 (n := 1) (by decide +kernel) rfl ⟨⟨rfl, rfl⟩, ⟨Nat.le_of_ble_eq_true rfl, Nat.le_of_ble_eq_true rfl⟩, (by dsimp only; omega), (by dsimp only; omega)⟩ rfl (Nat.le_of_ble_eq_true rfl) ⟨f0, hB⟩ dJ5_setLength_d00df_15) hS (inA1.to g_f0) hn (fun H locs hR hz hk hS => ?_)
  obtain ⟨v_3, hv_3, f0, hB⟩ := hR
  have g_hB := hv_3.elim (fun e9 => e9 ▸ g_hB) (fun z9 => hn _ (Nat.le_trans hZ0_ z9))
  have hv_3 := hv_3.imp_right (fun z9 => Nat.le_trans hZ0_ z9)
  refine lv_aload_n (pc := 18) hx hb dJ5_setLength_d00df_18 rfl (lv_at hl 0 rfl) ?_
  refine r_get (pc := 19) E hC f0 3 (v := .int (nI n)) rfl rfl (by decide) uJ4 (List.mem_cons_of_mem _ kw_171) (fun _ h => h) dJ5_setLength_d00df_19 ?_
  refine lv_iload_n (pc := 22) hx hb dJ5_setLength_d00df_22 rfl (lv_at hl 1 rfl) ?_
  refine lv_icmp_ge (pc := 23) (tgt := 63) hx hb dJ5_setLength_d00df_23 (by decide) (fun c_4 => ?_) (fun c_4 => ?_)
  rotate_left
  · exact absurd (nI_pos' (by omega)) c_4
  refine lv_aload_n (pc := 63) hx hb dJ5_setLength_d00df_63 rfl (lv_at hl 0 rfl) ?_
  refine r_get (pc := 64) E hC f0 3 (v := .int (nI n)) rfl rfl (by decide) uJ4 (List.mem_cons_of_mem _ kw_171) (fun _ h => h) dJ5_setLength_d00df_64 ?_
  refine lv_iload_n (pc := 67) hx hb dJ5_setLength_d00df_67 rfl (lv_at hl 1 rfl) ?_
  refine lv_icmp_le (pc := 68) (tgt := 76) hx hb dJ5_setLength_d00df_68 (by decide) (fun c_5 => ?_) (fun c_5 => ?_)
  · refine lv_aload_n (pc := 76) hx hb dJ5_setLength_d00df_76 rfl (lv_at hl 0 rfl) ?_
    refine lv_iload_n (pc := 77) hx hb dJ5_setLength_d00df_77 rfl (lv_at hl 1 rfl) ?_
    refine r_put (pc := 78) E hC f0 hS g_f0 3 tyJ4 tyJ4_ok nmJ4 rfl (by decide) (Nat.le_of_ble_eq_true rfl) uJ4 (List.mem_cons_of_mem _ kw_171) (fun _ h => h) rfl rfl rfl dJ5_setLength_d00df_78 (fun H locs n_ ho hz hS => ?_)
    have hB := hB.kept (ho _ (clA.ne hB.cl f0.cl (hC.ao 1 1 rfl rfl)))
    have f0 : c1 D a (.inr (1, [.ref v_3, .int 0, .int ml, .int 0])) H := n_
    refine r_vret (pc := 81) E hr hlk hS (by omega) (by omega) ?_ dJ5_setLength_d00df_81
    exact ⟨_, _, hv_3, f0, hB⟩
  · refine lv_aload_n (pc := 71) hx hb dJ5_setLength_d00df_71 rfl (lv_at hl 0 rfl) ?_
    refine lv_iconst (pc := 72) (v := 1) hx hb dJ5_setLength_d00df_72 (by decide) ?_
    refine r_put (pc := 73) E hC f0 hS g_f0 2 tyJ4 tyJ4_ok nmJ4 rfl (by decide) (Nat.le_of_ble_eq_true rfl) uJ4 (List.mem_cons_of_mem _ kw_169) (fun _ h => h) rfl rfl rfl dJ5_setLength_d00df_73 (fun H locs n_ ho hz hS => ?_)
    have hB := hB.kept (ho _ (clA.ne hB.cl f0.cl (hC.ao 1 1 rfl rfl)))
    have f0 : c1 D a (.inr (1, [.ref v_3, .int 0, .int 1, .int (nI n)])) H := n_
    refine lv_aload_n (pc := 76) hx hb dJ5_setLength_d00df_76 rfl (lv_at hl 0 rfl) ?_
    refine lv_iload_n (pc := 77) hx hb dJ5_setLength_d00df_77 rfl (lv_at hl 1 rfl) ?_
    refine r_put (pc := 78) E hC f0 hS g_f0 3 tyJ4 tyJ4_ok nmJ4 rfl (by decide) (Nat.le_of_ble_eq_true rfl) uJ4 (List.mem_cons_of_mem _ kw_171) (fun _ h => h) rfl rfl rfl dJ5_setLength_d00df_78 (fun H locs n_ ho hz hS => ?_)
    have hB := hB.kept (ho _ (clA.ne hB.cl f0.cl (hC.ao 1 1 rfl rfl)))
    have f0 : c1 D a (.inr (1, [.ref v_3, .int 0, .int 1, .int 0])) H := n_
    refine r_vret (pc := 81) E hr hlk hS (by omega) (by omega) ?_ dJ5_setLength_d00df_81
    exact ⟨_, _, hv_3, f0, hB⟩
set_option maxHeartbeats 4000000 in
set_option maxRecDepth 100000 in
/-- java/lang/StringBuilder.setLength(I)V -/
theorem c_J4_setLength_d00df (l : Launch) (D : va_G) (tk : Nat → ClassId) (N0 : Nat) (sa : Nat → Nat)  (sz : Nat) (a v cap n : Nat) (ml : Int32) (ha9 : N0 ≤ a) (hv9 : N0 ≤ v) (hn9 : n ≤ cap) (hcap : cap ≤ 500000) : Met l yJ4_setLength_d00df (wsy yJ4_setLength_d00df cJ4_setLength_d00df 2 none) ({ frames := 5, cells := sbK cap 0, slots := sbS cap 0, locals := 112 } : Room) (cP D tk N0 sa [.ref a, .int 0] sz (fun H => SBo D a v ml (nI n) H ∧ BA D tk v cap H)) (kQv (fun H => ∃ v1 ml1, (v1 = v ∨ sz ≤ v1) ∧ SBo D a v1 ml1 0 H ∧ BA D tk v1 (sbC cap 0) H) (inA2 a v sz)) (sbK cap 0) (sbS cap 0) (inA2 a v sz) := by
  refine mStart RJ4 rfl (by decide +kernel) (Nat.le_of_ble_eq_true rfl) ?_
  intro p e s m args below meth c E hr hlk hnm hsz hC hF ls hl
  subst hsz
  obtain ⟨hx, hb, -⟩ := id E
  have hA : ∀ q, (inA2 a v s.heap.size) q → N0 ≤ q := fun q h => h.elim (fun z => z ▸ ha9) (fun z => z.elim (fun w => w ▸ hv9) (fun w => Nat.le_trans hC.2.1 w))
  have hn : ∀ q, s.heap.size ≤ q → (inA2 a v s.heap.size) q := fun q h => Or.inr (Or.inr h)
  have hS : va_S (inA2 a v s.heap.size) s.heap s.heap [] := va_S.rf
  have hl : lv_has ls 2 [(0, .ref a), (1, .int 0)] := hl
  obtain ⟨f0, hB⟩ : SBo D a v ml (nI n) s.heap ∧ BA D tk v cap s.heap := hF
  have g_f0 : (inA2 a v s.heap.size) a := Or.inl rfl
  have g_hB : (inA2 a v s.heap.size) v := Or.inr (Or.inl rfl)
  refine lv_aload_n (pc := 0) hx hb dJ4_setLength_d00df_0 rfl (lv_at hl 0 rfl) ?_
  refine lv_iload_n (pc := 1) hx hb dJ4_setLength_d00df_1 rfl (lv_at hl 1 rfl) ?_
  have hZ0_ := hS.1
  have t_f0 := f0.lt
  have t_hB := hB.lt
  refine k_v (pc := 2) (k_SU (ci := 1) rfl E hC hS hA hl.1 (c1.recv hC f0 rfl) (c_J5_setLength_d00df l D tk N0 sa s.heap.size a v cap n ml (hA _ g_f0) (hA _ g_hB) hn9 hcap) kw_707 kw_1819 kw_180 kw_708 kw_18 kw_709 (by decide) (n := 1) (by decide +kernel) rfl ⟨⟨rfl, rfl⟩, ⟨Nat.le_of_ble_eq_true rfl, Nat.le_of_ble_eq_true rfl⟩, (by dsimp only; omega), (by dsimp only; omega)⟩ rfl (Nat.le_of_ble_eq_true rfl) ⟨f0, hB⟩ dJ4_setLength_d00df_2) hS (inA2.to g_f0 g_hB) hn (fun H locs hR hz hk hS => ?_)
  obtain ⟨v_2, ml_2, hv_2, f0, hB⟩ := hR
  have g_hB := hv_2.elim (fun e9 => e9 ▸ g_hB) (fun z9 => hn _ (Nat.le_trans hZ0_ z9))
  have hv_2 := hv_2.imp_right (fun z9 => Nat.le_trans hZ0_ z9)
  refine r_vret (pc := 5) E hr hlk hS (by omega) (by omega) ?_ dJ4_setLength_d00df_5
  exact ⟨_, _, hv_2, f0, hB⟩
set_option maxHeartbeats 4000000 in
set_option maxRecDepth 100000 in
/-- java/util/Arrays.checkLength(II)V -/
theorem c_J7_checkLength_df160 (l : Launch) (D : va_G) (tk : Nat → ClassId) (N0 : Nat) (sa : Nat → Nat)  (sz : Nat) (fr to : Int32) (i j : Nat) (hfr : fr = nI i) (hto : to = nI j) (hij : i ≤ j) (hj9 : j ≤ 100000000) : Met l yJ7_checkLength_df160 (wsy yJ7_checkLength_df160 cJ7_checkLength_df160 2 none) ({ frames := 0, cells := 0, slots := 0, locals := 0 } : Room) (cP D tk N0 sa [.int fr, .int to] sz (fun H => True)) (kQv (fun H => True) (nwA sz)) (0) (0) (nwA sz) := by
  refine mStart RJ7 rfl (by decide +kernel) (Nat.le_of_ble_eq_true rfl) ?_
  intro p e s m args below meth c E hr hlk hnm hsz hC hF ls hl
  subst hsz
  obtain ⟨hx, hb, -⟩ := id E
  have hA : ∀ q, (nwA s.heap.size) q → N0 ≤ q := fun q h => Nat.le_trans hC.2.1 h
  have hn : ∀ q, s.heap.size ≤ q → (nwA s.heap.size) q := fun q h => h
  have hS : va_S (nwA s.heap.size) s.heap s.heap [] := va_S.rf
  have hl : lv_has ls 2 [(0, .int fr), (1, .int to)] := hl
  refine lv_iload_n (pc := 0) hx hb dJ7_checkLength_df160_0 rfl (lv_at hl 1 rfl) ?_
  refine lv_iload_n (pc := 1) hx hb dJ7_checkLength_df160_1 rfl (lv_at hl 0 rfl) ?_
  refine lv_icmp_ge (pc := 2) (tgt := 37) hx hb dJ7_checkLength_df160_2 (by decide) (fun c_1 => ?_) (fun c_1 => ?_)
  rotate_left
  · exact absurd (by rw [hfr, hto]; exact nI_le hij (by omega)) c_1
  refine r_vret (pc := 37) E hr hlk hS (by decide) (by decide) ?_ dJ7_checkLength_df160_37
  exact trivial
set_option maxHeartbeats 4000000 in
set_option maxRecDepth 100000 in
/-- java/util/Arrays.copyOfRangeByte([BII)[B -/
theorem c_J7_copyOfRangeByte_39247 (l : Launch) (D : va_G) (tk : Nat → ClassId) (N0 : Nat) (sa : Nat → Nat)  (sz : Nat) (b n i j : Nat) (fr to : Int32) (hfr : fr = nI i) (hto : to = nI j) (hij : i ≤ j) (hj9 : j ≤ 100000000) (hjn : j ≤ n) (hn9 : n ≤ 100000000) : Met l yJ7_copyOfRangeByte_39247 (wsy yJ7_copyOfRangeByte_39247 cJ7_copyOfRangeByte_39247 5 (some (.array .byte))) ({ frames := 1, cells := 1, slots := j - i, locals := 26 } : Room) (cP D tk N0 sa [.ref b, .int fr, .int to] sz (fun H => BX tk b n H)) (kQr (fun r H => sz ≤ r ∧ BA D tk r (j - i) H) (nwA sz)) (1) (j - i) (nwA sz) := by
  refine mStart RJ7 rfl (by decide +kernel) (Nat.le_of_ble_eq_true rfl) ?_
  intro p e s m args below meth c E hr hlk hnm hsz hC hF ls hl
  subst hsz
  obtain ⟨hx, hb, -⟩ := id E
  have hA : ∀ q, (nwA s.heap.size) q → N0 ≤ q := fun q h => Nat.le_trans hC.2.1 h
  have hn : ∀ q, s.heap.size ≤ q → (nwA s.heap.size) q := fun q h => h
  have hS : va_S (nwA s.heap.size) s.heap s.heap [] := va_S.rf
  have hl : lv_has ls 5 [(0, .ref b), (1, .int fr), (2, .int to)] := hl
  have hB : BX tk b n s.heap := hF
  refine lv_iload_n (pc := 0) hx hb dJ7_copyOfRangeByte_39247_0 rfl (lv_at hl 1 rfl) ?_
  refine lv_iload_n (pc := 1) hx hb dJ7_copyOfRangeByte_39247_1 rfl (lv_at hl 2 rfl) ?_
  refine k_v (pc := 2) (k_S E hC hS hA hl.1 (c_J7_checkLength_df160 l D tk N0 sa s.heap.size fr to i j hfr hto hij hj9) kw_348 kw_349 kw_24 kw_350 (n := 2) (by decide +kernel) rfl ⟨⟨rfl, rfl⟩, ⟨Nat.le_of_ble_eq_true rfl, Nat.le_of_ble_eq_true rfl⟩, (by dsimp only; omega), (by dsimp only; omega)⟩ rfl (Nat.le_of_ble_eq_true rfl) trivial dJ7_copyOfRangeByte_39247_2) hS (fun q z w => absurd w (Nat.not_le.mpr z)) hn (fun H locs hR hz hk hS => ?_)
  have hB := hB.kept (hk _ hB.lt (Nat.not_le.mpr hB.lt))
  refine lv_iload_n (pc := 5) hx hb dJ7_copyOfRangeByte_39247_5 rfl (lv_at hl 2 rfl) ?_
  refine lv_iload_n (pc := 6) hx hb dJ7_copyOfRangeByte_39247_6 rfl (lv_at hl 1 rfl) ?_
  refine lv_isub (pc := 7) hx hb dJ7_copyOfRangeByte_39247_7 ?_
  obtain ⟨x_2, ex_2⟩ : ∃ z9 : Int32, z9 = to - fr := ⟨_, rfl⟩
  rw [← ex_2]
  refine lv_istore_n (pc := 8) (lv' := [(3, .int x_2), (0, .ref b), (1, .int fr), (2, .int to)]) hx hb dJ7_copyOfRangeByte_39247_8 rfl hl (by decide) rfl (fun ls hl => ?_)
  refine lv_iload_n (pc := 9) hx hb dJ7_copyOfRangeByte_39247_9 rfl (lv_at hl 0 rfl) ?_
  have hx9 : x_2 = nI (j - i) := by rw [ex_2, hfr, hto]; exact pk_sub hij
  have hS0_ := hS
  refine r_newb (pc := 10) E hC hS (N := (j - i)) (by rw [hx9]; exact nI_pos (by omega)) (by rw [hx9]; exact nI_clamp (by omega)) (by omega) (by dsimp only; omega) (by dsimp only; omega) dJ7_copyOfRangeByte_39247_10 (fun qf3 H zq_ n_ ho_ hS => ?_)
  have l_hB_f3 : b < qf3 := zq_ ▸ hB.lt
  have hB := hB.kept (ho_ _ hB.lt)
  have f3 := n_
  have s_f3 : s.heap.size ≤ qf3 := zq_ ▸ hS0_.1
  have g_f3 := hn _ s_f3
  refine lv_astore (pc := 12) (lv' := [(4, .ref qf3), (3, .int x_2), (0, .ref b), (1, .int fr), (2, .int to)]) hx hb dJ7_copyOfRangeByte_39247_12 hl (by decide) rfl (fun ls hl => ?_)
  refine lv_aload_n (pc := 14) hx hb dJ7_copyOfRangeByte_39247_14 rfl (lv_at hl 2 rfl) ?_
  refine lv_iload_n (pc := 15) hx hb dJ7_copyOfRangeByte_39247_15 rfl (lv_at hl 3 rfl) ?_
  refine lv_aload (pc := 16) hx hb dJ7_copyOfRangeByte_39247_16 (lv_at hl 0 rfl) ?_
  refine lv_iconst (pc := 18) (v := 0) hx hb dJ7_copyOfRangeByte_39247_18 (by decide) ?_
  refine lv_aload_n (pc := 19) hx hb dJ7_copyOfRangeByte_39247_19 rfl (lv_at hl 2 rfl) ?_
  obtain ⟨x_4, ex_4⟩ : ∃ z9 : Int32, z9 = nI n := ⟨_, rfl⟩
  refine r_alenX (pc := 20) E hC hB (v := x_4) ex_4.symm dJ7_copyOfRangeByte_39247_20 ?_
  refine lv_iload_n (pc := 21) hx hb dJ7_copyOfRangeByte_39247_21 rfl (lv_at hl 3 rfl) ?_
  refine lv_isub (pc := 22) hx hb dJ7_copyOfRangeByte_39247_22 ?_
  refine lv_iload_n (pc := 23) hx hb dJ7_copyOfRangeByte_39247_23 rfl (lv_at hl 1 rfl) ?_
  refine k_i (pc := 24) (k_S E hC hS hA hl.1 (c_J9_min_7cf53 l D tk N0 sa H.size (x_4 - fr) x_2 ) kw_218 kw_219 kw_9 kw_220 (n := 2) (by decide +kernel) rfl ⟨⟨rfl, rfl⟩, ⟨Nat.le_of_ble_eq_true rfl, Nat.le_of_ble_eq_true rfl⟩, (by dsimp only; omega), (by dsimp only; omega)⟩ rfl (Nat.le_of_ble_eq_true rfl) trivial dJ7_copyOfRangeByte_39247_24) hS (fun q z w => absurd w (Nat.not_le.mpr z)) hn (fun r_5 H locs hR hz hk hS => ?_)
  have er_5 := hR
  have hB := hB.kept (hk _ hB.lt (Nat.not_le.mpr hB.lt))
  have f3 := f3.kept (hk _ f3.lt (Nat.not_le.mpr f3.lt))
  have hm9 : r_5 = nI (j - i) := by rw [er_5, hx9, ex_4, hfr, pk_sub (by omega)]; exact f_minr (by omega) (by omega)
  refine r_acpyB (pc := 27) E hC hl.1 hB f3 hS g_f3 (by rw [hfr]; exact nI_pos (by omega)) (by decide) (by rw [hm9]; exact nI_pos (by omega)) (by rw [hfr, hm9, nI_clamp (n := i) (by omega), nI_clamp (n := j - i) (by omega)]; omega) (by rw [hm9, sb_cl0, nI_clamp (n := j - i) (by omega)]; omega) kw_221 (by exact Nat.le_of_ble_eq_true rfl) (by decide) (by exact Nat.le_of_ble_eq_true rfl) dJ7_copyOfRangeByte_39247_27 (fun H locs n_ ho hz hS => ?_)
  have hB := hB.kept (ho _ (Nat.ne_of_lt l_hB_f3))
  have f3 := n_
  refine lv_aload (pc := 30) hx hb dJ7_copyOfRangeByte_39247_30 (lv_at hl 0 rfl) ?_
  refine r_aret (pc := 32) E hr (Or.inr ⟨_, rfl⟩) hlk hS (by omega) (by omega) ?_ dJ7_copyOfRangeByte_39247_32
  exact ⟨s_f3, f3⟩
set_option maxHeartbeats 4000000 in
set_option maxRecDepth 100000 in
/-- java/util/Arrays.copyOfRange([BII)[B -/
theorem c_J7_copyOfRange_39247 (l : Launch) (D : va_G) (tk : Nat → ClassId) (N0 : Nat) (sa : Nat → Nat)  (sz : Nat) (b n i j : Nat) (fr to : Int32) (hfr : fr = nI i) (hto : to = nI j) (hij : i ≤ j) (hj9 : j ≤ 100000000) (hjn : j ≤ n) (hn9 : n ≤ 100000000) : Met l yJ7_copyOfRange_39247 (wsy yJ7_copyOfRange_39247 cJ7_copyOfRange_39247 3 (some (.array .byte))) ({ frames := 2, cells := 1, slots := j - i, locals := 50 } : Room) (cP D tk N0 sa [.ref b, .int fr, .int to] sz (fun H => BA D tk b n H)) (kQr (fun r H => sz ≤ r ∧ BA D tk r (j - i) H) (nwA sz)) (1) (j - i) (nwA sz) := by
  refine mStart RJ7 rfl (by decide +kernel) (Nat.le_of_ble_eq_true rfl) ?_
  intro p e s m args below meth c E hr hlk hnm hsz hC hF ls hl
  subst hsz
  obtain ⟨hx, hb, -⟩ := id E
  have hA : ∀ q, (nwA s.heap.size) q → N0 ≤ q := fun q h => Nat.le_trans hC.2.1 h
  have hn : ∀ q, s.heap.size ≤ q → (nwA s.heap.size) q := fun q h => h
  have hS : va_S (nwA s.heap.size) s.heap s.heap [] := va_S.rf
  have hl : lv_has ls 3 [(0, .ref b), (1, .int fr), (2, .int to)] := hl
  have hB : BA D tk b n s.heap := hF
  refine lv_iload_n (pc := 0) hx hb dJ7_copyOfRange_39247_0 rfl (lv_at hl 1 rfl) ?_
  refine lv_if_ne (pc := 1) (tgt := 10) hx hb dJ7_copyOfRange_39247_1 (by decide) (fun c_1 => ?_) (fun c_1 => ?_)
  · refine lv_aload_n (pc := 10) hx hb dJ7_copyOfRange_39247_10 rfl (lv_at hl 0 rfl) ?_
    refine lv_iload_n (pc := 11) hx hb dJ7_copyOfRange_39247_11 rfl (lv_at hl 1 rfl) ?_
    refine lv_iload_n (pc := 12) hx hb dJ7_copyOfRange_39247_12 rfl (lv_at hl 2 rfl) ?_
    have hZ0_ := hS.1
    have t_hB := hB.lt
    refine k_r (pc := 13) (k_S E hC hS hA hl.1 (c_J7_copyOfRangeByte_39247 l D tk N0 sa s.heap.size b n i j fr to hfr hto hij hj9 hjn hn9) kw_345 kw_346 kw_24 kw_347 (n := 3) (by decide +kernel) rfl ⟨⟨rfl, rfl⟩, ⟨Nat.le_of_ble_eq_true rfl, Nat.le_of_ble_eq_true rfl⟩, (by dsimp only; omega), (by dsimp only; omega)⟩ rfl (Nat.le_of_ble_eq_true rfl) hB.bx dJ7_copyOfRange_39247_13) hS (fun q z w => absurd w (Nat.not_le.mpr z)) hn (fun r_2 H locs hR hz hk hS => ?_)
    have hB := hB.kept (hk _ hB.lt (Nat.not_le.mpr hB.lt))
    obtain ⟨z9_, f3⟩ := hR
    have s_f3 : s.heap.size ≤ r_2 := Nat.le_trans hZ0_ z9_
    have g_f3 := hn _ s_f3
    have l_hB_f3 : b < r_2 := Nat.lt_of_lt_of_le t_hB z9_
    refine r_aret (pc := 16) E hr (Or.inr ⟨_, rfl⟩) hlk hS (by omega) (by omega) ?_ dJ7_copyOfRange_39247_16
    exact ⟨s_f3, f3⟩
  · refine lv_iload_n (pc := 4) hx hb dJ7_copyOfRange_39247_4 rfl (lv_at hl 2 rfl) ?_
    refine lv_aload_n (pc := 5) hx hb dJ7_copyOfRange_39247_5 rfl (lv_at hl 0 rfl) ?_
    obtain ⟨x_4, ex_4⟩ : ∃ z9 : Int32, z9 = nI n := ⟨_, rfl⟩
    refine r_alenB (pc := 6) E hC hB (v := x_4) ex_4.symm dJ7_copyOfRange_39247_6 ?_
    refine lv_icmp_eq (pc := 7) (tgt := 17) hx hb dJ7_copyOfRange_39247_7 (by decide) (fun c_5 => ?_) (fun c_5 => ?_)
    · have i09 : i = 0 := (nI_eq (by omega) (by decide)).mp (hfr.symm.trans (c_1.trans nI_0.symm))
      have jn9 : j = n := (nI_eq (by omega) (by omega)).mp (hto.symm.trans (c_5.trans ex_4))
      refine lv_aload_n (pc := 17) hx hb dJ7_copyOfRange_39247_17 rfl (lv_at hl 0 rfl) ?_
      have hS0_ := hS
      refine r_cloneB (pc := 18) E hC hl.1 hB hS kw_211 (by exact Nat.le_of_ble_eq_true rfl) (by decide) (by exact Nat.le_of_ble_eq_true rfl) (by dsimp only; omega) (by dsimp only; omega) dJ7_copyOfRange_39247_18 (fun qf6 H zq_ n_ ho_ hS => ?_)
      have l_hB_f6 : b < qf6 := zq_ ▸ hB.lt
      have hB := hB.kept (ho_ _ hB.lt)
      have f6 := n_
      have s_f6 : s.heap.size ≤ qf6 := zq_ ▸ hS0_.1
      have g_f6 := hn _ s_f6
      refine r_castB (pc := 21) E hC f6 kw_217 dJ7_copyOfRange_39247_21 ?_
      refine r_aret (pc := 24) E hr (Or.inr ⟨_, rfl⟩) hlk hS (by omega) (by omega) ?_ dJ7_copyOfRange_39247_24
      exact ⟨s_f6, (by rw [show j - i = n by omega]; exact f6)⟩
    · refine lv_aload_n (pc := 10) hx hb dJ7_copyOfRange_39247_10 rfl (lv_at hl 0 rfl) ?_
      refine lv_iload_n (pc := 11) hx hb dJ7_copyOfRange_39247_11 rfl (lv_at hl 1 rfl) ?_
      refine lv_iload_n (pc := 12) hx hb dJ7_copyOfRange_39247_12 rfl (lv_at hl 2 rfl) ?_
      have hZ0_ := hS.1
      have t_hB := hB.lt
      refine k_r (pc := 13) (k_S E hC hS hA hl.1 (c_J7_copyOfRangeByte_39247 l D tk N0 sa s.heap.size b n i j fr to hfr hto hij hj9 hjn hn9) kw_345 kw_346 kw_24 kw_347 (n := 3) (by decide +kernel) rfl ⟨⟨rfl, rfl⟩, ⟨Nat.le_of_ble_eq_true rfl, Nat.le_of_ble_eq_true rfl⟩, (by dsimp only; omega), (by dsimp only; omega)⟩ rfl (Nat.le_of_ble_eq_true rfl) hB.bx dJ7_copyOfRange_39247_13) hS (fun q z w => absurd w (Nat.not_le.mpr z)) hn (fun r_7 H locs hR hz hk hS => ?_)
      have hB := hB.kept (hk _ hB.lt (Nat.not_le.mpr hB.lt))
      obtain ⟨z9_, f8⟩ := hR
      have s_f8 : s.heap.size ≤ r_7 := Nat.le_trans hZ0_ z9_
      have g_f8 := hn _ s_f8
      have l_hB_f8 : b < r_7 := Nat.lt_of_lt_of_le t_hB z9_
      refine r_aret (pc := 16) E hr (Or.inr ⟨_, rfl⟩) hlk hS (by omega) (by omega) ?_ dJ7_copyOfRange_39247_16
      exact ⟨s_f8, f8⟩
set_option maxHeartbeats 4000000 in
set_option maxRecDepth 100000 in
/-- java/util/Arrays.copyOfRange([BII)[B -/
theorem c_J7_copyOfRange_39247_X (l : Launch) (D : va_G) (tk : Nat → ClassId) (N0 : Nat) (sa : Nat → Nat)  (sz : Nat) (b n i j : Nat) (fr to : Int32) (hfr : fr = nI i) (hto : to = nI j) (hij : i ≤ j) (hj9 : j ≤ 100000000) (hjn : j ≤ n) (hn9 : n ≤ 100000000) (hno : i = 0 → j = n → False) : Met l yJ7_copyOfRange_39247 (wsy yJ7_copyOfRange_39247 cJ7_copyOfRange_39247 3 (some (.array .byte))) ({ frames := 2, cells := 1, slots := j - i, locals := 50 } : Room) (cP D tk N0 sa [.ref b, .int fr, .int to] sz (fun H => BX tk b n H)) (kQr (fun r H => sz ≤ r ∧ BA D tk r (j - i) H) (nwA sz)) (1) (j - i) (nwA sz) := by
  refine mStart RJ7 rfl (by decide +kernel) (Nat.le_of_ble_eq_true rfl) ?_
  intro p e s m args below meth c E hr hlk hnm hsz hC hF ls hl
  subst hsz
  obtain ⟨hx, hb, -⟩ := id E
  have hA : ∀ q, (nwA s.heap.size) q → N0 ≤ q := fun q h => Nat.le_trans hC.2.1 h
  have hn : ∀ q, s.heap.size ≤ q → (nwA s.heap.size) q := fun q h => h
  have hS : va_S (nwA s.heap.size) s.heap s.heap [] := va_S.rf
  have hl : lv_has ls 3 [(0, .ref b), (1, .int fr), (2, .int to)] := hl
  have hB : BX tk b n s.heap := hF
  refine lv_iload_n (pc := 0) hx hb dJ7_copyOfRange_39247_0 rfl (lv_at hl 1 rfl) ?_
  refine lv_if_ne (pc := 1) (tgt := 10) hx hb dJ7_copyOfRange_39247_1 (by decide) (fun c_1 => ?_) (fun c_1 => ?_)
  · refine lv_aload_n (pc := 10) hx hb dJ7_copyOfRange_39247_10 rfl (lv_at hl 0 rfl) ?_
    refine lv_iload_n (pc := 11) hx hb dJ7_copyOfRange_39247_11 rfl (lv_at hl 1 rfl) ?_
    refine lv_iload_n (pc := 12) hx hb dJ7_copyOfRange_39247_12 rfl (lv_at hl 2 rfl) ?_
    have hZ0_ := hS.1
    have t_hB := hB.lt
    refine k_r (pc := 13) (k_S E hC hS hA hl.1 (c_J7_copyOfRangeByte_39247 l D tk N0 sa s.heap.size b n i j fr to hfr hto hij hj9 hjn hn9) kw_345 kw_346 kw_24 kw_347 (n := 3) (by decide +kernel) rfl ⟨⟨rfl, rfl⟩, ⟨Nat.le_of_ble_eq_true rfl, Nat.le_of_ble_eq_true rfl⟩, (by dsimp only; omega), (by dsimp only; omega)⟩ rfl (Nat.le_of_ble_eq_true rfl) hB dJ7_copyOfRange_39247_13) hS (fun q z w => absurd w (Nat.not_le.mpr z)) hn (fun r_2 H locs hR hz hk hS => ?_)
    have hB := hB.kept (hk _ hB.lt (Nat.not_le.mpr hB.lt))
    obtain ⟨z9_, f3⟩ := hR
    have s_f3 : s.heap.size ≤ r_2 := Nat.le_trans hZ0_ z9_
    have g_f3 := hn _ s_f3
    have l_hB_f3 : b < r_2 := Nat.lt_of_lt_of_le t_hB z9_
    refine r_aret (pc := 16) E hr (Or.inr ⟨_, rfl⟩) hlk hS (by omega) (by omega) ?_ dJ7_copyOfRange_39247_16
    exact ⟨s_f3, f3⟩
  · refine lv_iload_n (pc := 4) hx hb dJ7_copyOfRange_39247_4 rfl (lv_at hl 2 rfl) ?_
    refine lv_aload_n (pc := 5) hx hb dJ7_copyOfRange_39247_5 rfl (lv_at hl 0 rfl) ?_
    obtain ⟨x_4, ex_4⟩ : ∃ z9 : Int32, z9 = nI n := ⟨_, rfl⟩
    refine r_alenX (pc := 6) E hC hB (v := x_4) ex_4.symm dJ7_copyOfRange_39247_6 ?_
    refine lv_icmp_eq (pc := 7) (tgt := 17) hx hb dJ7_copyOfRange_39247_7 (by decide) (fun c_5 => ?_) (fun c_5 => ?_)
    · exact absurd c_5 (fun z9 => hno ((nI_eq (by omega) (by decide)).mp (hfr.symm.trans (c_1.trans nI_0.symm))) ((nI_eq (by omega) (by omega)).mp (hto.symm.trans (z9.trans ex_4))))
    refine lv_aload_n (pc := 10) hx hb dJ7_copyOfRange_39247_10 rfl (lv_at hl 0 rfl) ?_
    refine lv_iload_n (pc := 11) hx hb dJ7_copyOfRange_39247_11 rfl (lv_at hl 1 rfl) ?_
    refine lv_iload_n (pc := 12) hx hb dJ7_copyOfRange_39247_12 rfl (lv_at hl 2 rfl) ?_
    have hZ0_ := hS.1
    have t_hB := hB.lt
    refine k_r (pc := 13) (k_S E hC hS hA hl.1 (c_J7_copyOfRangeByte_39247 l D tk N0 sa s.heap.size b n i j fr to hfr hto hij hj9 hjn hn9) kw_345 kw_346 kw_24 kw_347 (n := 3) (by decide +kernel) rfl ⟨⟨rfl, rfl⟩, ⟨Nat.le_of_ble_eq_true rfl, Nat.le_of_ble_eq_true rfl⟩, (by dsimp only; omega), (by dsimp only; omega)⟩ rfl (Nat.le_of_ble_eq_true rfl) hB dJ7_copyOfRange_39247_13) hS (fun q z w => absurd w (Nat.not_le.mpr z)) hn (fun r_6 H locs hR hz hk hS => ?_)
    have hB := hB.kept (hk _ hB.lt (Nat.not_le.mpr hB.lt))
    obtain ⟨z9_, f7⟩ := hR
    have s_f7 : s.heap.size ≤ r_6 := Nat.le_trans hZ0_ z9_
    have g_f7 := hn _ s_f7
    have l_hB_f7 : b < r_6 := Nat.lt_of_lt_of_le t_hB z9_
    refine r_aret (pc := 16) E hr (Or.inr ⟨_, rfl⟩) hlk hS (by omega) (by omega) ?_ dJ7_copyOfRange_39247_16
    exact ⟨s_f7, f7⟩
set_option maxHeartbeats 4000000 in
set_option maxRecDepth 100000 in
/-- java/lang/AbstractStringBuilder.getValue()[B -/
theorem c_J5_getValue_6d5f1 (l : Launch) (D : va_G) (tk : Nat → ClassId) (N0 : Nat) (sa : Nat → Nat)  (sz : Nat) (a v cap : Nat) (ml cn : Int32) : Met l yJ5_getValue_6d5f1 (wsy yJ5_getValue_6d5f1 cJ5_getValue_6d5f1 1 (some (.array .byte))) ({ frames := 0, cells := 0, slots := 0, locals := 0 } : Room) (cP D tk N0 sa [.ref a] sz (fun H => SBo D a v ml cn H ∧ BA D tk v cap H)) (kQr (fun r H => r = v) (nwA sz)) (0) (0) (nwA sz) := by
  refine mStart RJ5 rfl (by decide +kernel) (Nat.le_of_ble_eq_true rfl) ?_
  intro p e s m args below meth c E hr hlk hnm hsz hC hF ls hl
  subst hsz
  obtain ⟨hx, hb, -⟩ := id E
  have hA : ∀ q, (nwA s.heap.size) q → N0 ≤ q := fun q h => Nat.le_trans hC.2.1 h
  have hn : ∀ q, s.heap.size ≤ q → (nwA s.heap.size) q := fun q h => h
  have hS : va_S (nwA s.heap.size) s.heap s.heap [] := va_S.rf
  have hl : lv_has ls 1 [(0, .ref a)] := hl
  obtain ⟨f0, hB⟩ : SBo D a v ml cn s.heap ∧ BA D tk v cap s.heap := hF
  refine lv_aload_n (pc := 0) hx hb dJ5_getValue_6d5f1_0 rfl (lv_at hl 0 rfl) ?_
  refine r_get (pc := 1) E hC f0 0 (v := .ref v) rfl rfl (by decide) uJ4 (List.mem_cons_of_mem _ kw_167) (fun _ h => h) dJ5_getValue_6d5f1_1 ?_
  refine r_aret (pc := 4) E hr (Or.inr ⟨_, rfl⟩) hlk hS (by decide) (by decide) ?_ dJ5_getValue_6d5f1_4
  rfl
set_option maxHeartbeats 4000000 in
set_option maxRecDepth 100000 in
/-- java/lang/String.<init>(Ljava/lang/AbstractStringBuilder;Ljava/lang/Void;)V -/
theorem c_J0_init_db425 (l : Launch) (D : va_G) (tk : Nat → ClassId) (N0 : Nat) (sa : Nat → Nat)  (sz : Nat) (t a v cap n : Nat) (ml : Int32) (ha9 : N0 ≤ t) (hn9 : n ≤ cap) (hcap : cap ≤ 100000000) : Met l yJ0_init_db425 (wsy yJ0_init_db425 cJ0_init_db425 5 none) ({ frames := 3, cells := 1, slots := n, locals := 72 } : Room) (cP D tk N0 sa [.ref t, .ref a, .null] sz (fun H => c1 D t (.inr (0, [.null, .int 0, .int 0, .int 0])) H ∧ SBo D a v ml (nI n) H ∧ BA D tk v cap H)) (kQv (fun H => ∃ q, sz ≤ q ∧ SM D tk t q n H) (inA1 t sz)) (1) (n) (inA1 t sz) := by
  refine mStart RJ0 rfl (by decide +kernel) (Nat.le_of_ble_eq_true rfl) ?_
  intro p e s m args below meth c E hr hlk hnm hsz hC hF ls hl
  subst hsz
  obtain ⟨hx, hb, -⟩ := id E
  have hA : ∀ q, (inA1 t s.heap.size) q → N0 ≤ q := fun q h => h.elim (fun z => z ▸ ha9) (fun z => Nat.le_trans hC.2.1 z)
  have hn : ∀ q, s.heap.size ≤ q → (inA1 t s.heap.size) q := fun q h => Or.inr h
  have hS : va_S (inA1 t s.heap.size) s.heap s.heap [] := va_S.rf
  have hl : lv_has ls 5 [(0, .ref t), (1, .ref a), (2, .null)] := hl
  obtain ⟨fT, f0, hB⟩ : c1 D t (.inr (0, [.null, .int 0, .int 0, .int 0])) s.heap ∧ SBo D a v ml (nI n) s.heap ∧ BA D tk v cap s.heap := hF
  have g_fT : (inA1 t s.heap.size) t := Or.inl rfl
  refine lv_aload_n (pc := 0) hx hb dJ0_init_db425_0 rfl (lv_at hl 0 rfl) ?_
  refine r_oinit (pc := 1) E hl.1 kw_327 (Nat.le_of_ble_eq_true rfl) (by exact Nat.le_of_ble_eq_true rfl) (by exact Nat.le_of_ble_eq_true rfl) dJ0_init_db425_1 ?_
  refine lv_aload_n (pc := 4) hx hb dJ0_init_db425_4 rfl (lv_at hl 1 rfl) ?_
  refine k_r (pc := 5) (k_U E hC hS hA hl.1 (c1.recv hC f0 rfl) (c_J5_getValue_6d5f1 l D tk N0 sa s.heap.size a v cap ml (nI n)) kw_328 kw_330 kw_329 (E.2.2.2.2 _ (List.mem_cons_of_mem _ kw_331)) kw_18 kw_332 (n := 0) (by decide +kernel) rfl ⟨⟨rfl, rfl⟩, ⟨Nat.le_of_ble_eq_true rfl, Nat.le_of_ble_eq_true rfl⟩, (by dsimp only; omega), (by dsimp only; omega)⟩ rfl (Nat.le_of_ble_eq_true rfl) ⟨f0, hB⟩ dJ0_init_db425_5) hS (fun q z w => absurd w (Nat.not_le.mpr z)) hn (fun r_1 H locs hR hz hk hS => ?_)
  have fT := fT.kept (hk _ fT.lt (Nat.not_le.mpr fT.lt))
  have f0 := f0.kept (hk _ f0.lt (Nat.not_le.mpr f0.lt))
  have hB := hB.kept (hk _ hB.lt (Nat.not_le.mpr hB.lt))
  rw [show r_1 = v from hR]
  refine lv_astore_n (pc := 8) (lv' := [(3, .ref v), (0, .ref t), (1, .ref a), (2, .null)]) hx hb dJ0_init_db425_8 rfl hl (by decide) rfl (fun ls hl => ?_)
  refine lv_aload_n (pc := 9) hx hb dJ0_init_db425_9 rfl (lv_at hl 2 rfl) ?_
  refine k_i (pc := 10) (k_UO E hC hS hA hl.1 (c1.recv hC f0 rfl) (c_J4_length_8abf5 l D tk N0 sa H.size a v cap ml (nI n)) kw_333 kw_335 kw_334 kw_340 kw_337 kw_336 kw_19 kw_338 (n := 0) (by decide +kernel) rfl ⟨⟨rfl, rfl⟩, ⟨Nat.le_of_ble_eq_true rfl, Nat.le_of_ble_eq_true rfl⟩, (by dsimp only; omega), (by dsimp only; omega)⟩ rfl (Nat.le_of_ble_eq_true rfl) ⟨f0, hB⟩ dJ0_init_db425_10) hS (fun q z w => absurd w (Nat.not_le.mpr z)) hn (fun r_2 H locs hR hz hk hS => ?_)
  have fT := fT.kept (hk _ fT.lt (Nat.not_le.mpr fT.lt))
  have f0 := f0.kept (hk _ f0.lt (Nat.not_le.mpr f0.lt))
  have hB := hB.kept (hk _ hB.lt (Nat.not_le.mpr hB.lt))
  rw [show r_2 = nI n from hR]
  obtain ⟨x_3, ex_3⟩ : ∃ z9 : Int32, z9 = nI n := ⟨_, rfl⟩
  rw [← ex_3]
  refine lv_istore (pc := 13) (lv' := [(4, .int x_3), (3, .ref v), (0, .ref t), (1, .ref a), (2, .null)]) hx hb dJ0_init_db425_13 hl (by decide) rfl (fun ls hl => ?_)
  refine lv_aload_n (pc := 15) hx hb dJ0_init_db425_15 rfl (lv_at hl 3 rfl) ?_
  refine k_i (pc := 16) (k_U E hC hS hA hl.1 (c1.recv hC f0 rfl) (c_J5_isLatin1_aae02 l D tk N0 sa H.size a v cap ml (nI n)) kw_341 kw_226 kw_225 (E.2.2.2.2 _ (List.mem_cons_of_mem _ kw_227)) kw_18 kw_228 (n := 0) (by decide +kernel) rfl ⟨⟨rfl, rfl⟩, ⟨Nat.le_of_ble_eq_true rfl, Nat.le_of_ble_eq_true rfl⟩, (by dsimp only; omega), (by dsimp only; omega)⟩ rfl (Nat.le_of_ble_eq_true rfl) ⟨f0, hB⟩ dJ0_init_db425_16) hS (fun q z w => absurd w (Nat.not_le.mpr z)) hn (fun r_4 H locs hR hz hk hS => ?_)
  have fT := fT.kept (hk _ fT.lt (Nat.not_le.mpr fT.lt))
  have f0 := f0.kept (hk _ f0.lt (Nat.not_le.mpr f0.lt))
  have hB := hB.kept (hk _ hB.lt (Nat.not_le.mpr hB.lt))
  rw [show r_4 = 1 from hR]
  refine lv_if_eq (pc := 19) (tgt := 41) hx hb dJ0_init_db425_19 (by decide) (fun c_5 => ?_) (fun c_5 => ?_)
  · exact absurd c_5 (by decide)
  refine lv_aload_n (pc := 22) hx hb dJ0_init_db425_22 rfl (lv_at hl 2 rfl) ?_
  refine lv_iconst (pc := 23) (v := 0) hx hb dJ0_init_db425_23 (by decide) ?_
  refine r_putF (pc := 24) E hC (hnm.trans rfl) fT hS g_fT 1 tyJ0 tyJ0_ok nmJ0 rfl (by decide) (Nat.le_of_ble_eq_true rfl) uJ0 (List.mem_cons_of_mem _ kw_476) (fun _ h => h) rfl rfl rfl rfl dJ0_init_db425_24 (fun H locs n_ ho hz hS => ?_)
  have f0 := f0.kept (ho _ (clA.ne f0.cl fT.cl (hC.oo 1 0 rfl rfl (by decide))))
  have hB := hB.kept (ho _ (clA.ne hB.cl fT.cl (hC.ao 0 1 rfl rfl)))
  have fT : c1 D t (.inr (0, [.null, .int 0, .int 0, .int 0])) H := n_
  refine lv_aload_n (pc := 27) hx hb dJ0_init_db425_27 rfl (lv_at hl 2 rfl) ?_
  refine lv_aload_n (pc := 28) hx hb dJ0_init_db425_28 rfl (lv_at hl 1 rfl) ?_
  refine lv_iconst (pc := 29) (v := 0) hx hb dJ0_init_db425_29 (by decide) ?_
  refine lv_iload (pc := 30) hx hb dJ0_init_db425_30 (lv_at hl 0 rfl) ?_
  have hZ0_ := hS.1
  have t_fT := fT.lt
  have t_f0 := f0.lt
  have t_hB := hB.lt
  refine k_r (pc := 32) (k_S E hC hS hA hl.1 (c_J7_copyOfRange_39247 l D tk N0 sa H.size v cap 0 n 0 x_3 nI_0.symm ex_3 (Nat.zero_le _) (by omega) hn9 hcap) kw_342 kw_343 kw_24 kw_344 (n := 3) (by decide +kernel) rfl ⟨⟨rfl, rfl⟩, ⟨Nat.le_of_ble_eq_true rfl, Nat.le_of_ble_eq_true rfl⟩, (by dsimp only; omega), (by dsimp only; omega)⟩ rfl (Nat.le_of_ble_eq_true rfl) hB dJ0_init_db425_32) hS (fun q z w => absurd w (Nat.not_le.mpr z)) hn (fun r_6 H locs hR hz hk hS => ?_)
  have fT := fT.kept (hk _ fT.lt (Nat.not_le.mpr fT.lt))
  have f0 := f0.kept (hk _ f0.lt (Nat.not_le.mpr f0.lt))
  have hB := hB.kept (hk _ hB.lt (Nat.not_le.mpr hB.lt))
  obtain ⟨z9_, f7⟩ := hR
  have s_f7 : s.heap.size ≤ r_6 := Nat.le_trans hZ0_ z9_
  have g_f7 := hn _ s_f7
  have l_fT_f7 : t < r_6 := Nat.lt_of_lt_of_le t_fT z9_
  have l_f0_f7 : a < r_6 := Nat.lt_of_lt_of_le t_f0 z9_
  have l_hB_f7 : v < r_6 := Nat.lt_of_lt_of_le t_hB z9_
  refine r_putF (pc := 35) E hC (hnm.trans rfl) fT hS g_fT 0 tyJ0 tyJ0_ok nmJ0 rfl (by decide) (Nat.le_of_ble_eq_true rfl) uJ0 (List.mem_cons_of_mem _ kw_475) (fun _ h => h) rfl rfl rfl rfl dJ0_init_db425_35 (fun H locs n_ ho hz hS => ?_)
  have f0 := f0.kept (ho _ (clA.ne f0.cl fT.cl (hC.oo 1 0 rfl rfl (by decide))))
  have hB := hB.kept (ho _ (clA.ne hB.cl fT.cl (hC.ao 0 1 rfl rfl)))
  have f7 := f7.kept (ho _ (clA.ne f7.cl fT.cl (hC.ao 0 1 rfl rfl)))
  have fT : c1 D t (.inr (0, [.ref r_6, .int 0, .int 0, .int 0])) H := n_
  refine lv_goto (pc := 38) (tgt := 97) hx hb dJ0_init_db425_38 (by decide) ?_
  refine r_vret (pc := 97) E hr hlk hS (by omega) (by omega) ?_ dJ0_init_db425_97
  exact ⟨_, s_f7, fT, f7⟩
set_option maxHeartbeats 4000000 in
set_option maxRecDepth 100000 in
/-- java/lang/String.<init>(Ljava/lang/StringBuilder;)V -/
theorem c_J0_init_81219 (l : Launch) (D : va_G) (tk : Nat → ClassId) (N0 : Nat) (sa : Nat → Nat)  (sz : Nat) (t a v cap n : Nat) (ml : Int32) (ha9 : N0 ≤ t) (hn9 : n ≤ cap) (hcap : cap ≤ 100000000) : Met l yJ0_init_81219 (wsy yJ0_init_81219 cJ0_init_81219 2 none) ({ frames := 4, cells := 1, slots := n, locals := 96 } : Room) (cP D tk N0 sa [.ref t, .ref a] sz (fun H => c1 D t (.inr (0, [.null, .int 0, .int 0, .int 0])) H ∧ SBo D a v ml (nI n) H ∧ BA D tk v cap H)) (kQv (fun H => ∃ q, sz ≤ q ∧ SM D tk t q n H) (inA1 t sz)) (1) (n) (inA1 t sz) := by
  refine mStart RJ0 rfl (by decide +kernel) (Nat.le_of_ble_eq_true rfl) ?_
  intro p e s m args below meth c E hr hlk hnm hsz hC hF ls hl
  subst hsz
  obtain ⟨hx, hb, -⟩ := id E
  have hA : ∀ q, (inA1 t s.heap.size) q → N0 ≤ q := fun q h => h.elim (fun z => z ▸ ha9) (fun z => Nat.le_trans hC.2.1 z)
  have hn : ∀ q, s.heap.size ≤ q → (inA1 t s.heap.size) q := fun q h => Or.inr h
  have hS : va_S (inA1 t s.heap.size) s.heap s.heap [] := va_S.rf
  have hl : lv_has ls 2 [(0, .ref t), (1, .ref a)] := hl
  obtain ⟨fT, f0, hB⟩ : c1 D t (.inr (0, [.null, .int 0, .int 0, .int 0])) s.heap ∧ SBo D a v ml (nI n) s.heap ∧ BA D tk v cap s.heap := hF
  have g_fT : (inA1 t s.heap.size) t := Or.inl rfl
  refine lv_aload_n (pc := 0) hx hb dJ0_init_81219_0 rfl (lv_at hl 0 rfl) ?_
  refine lv_aload_n (pc := 1) hx hb dJ0_init_81219_1 rfl (lv_at hl 1 rfl) ?_
  refine lv_null (pc := 2) hx hb dJ0_init_81219_2 ?_
  have hZ0_ := hS.1
  have t_fT := fT.lt
  have t_f0 := f0.lt
  have t_hB := hB.lt
  refine k_v (pc := 3) (k_I E hC hS hA hl.1 (c_J0_init_db425 l D tk N0 sa s.heap.size t a v cap n ml (hA _ g_fT) hn9 hcap) kw_324 kw_325 kw_20 kw_326 rfl (n := 2) (by decide +kernel) rfl ⟨⟨rfl, rfl⟩, ⟨Nat.le_of_ble_eq_true rfl, Nat.le_of_ble_eq_true rfl⟩, (by dsimp only; omega), (by dsimp only; omega)⟩ rfl (Nat.le_of_ble_eq_true rfl) ⟨fT, f0, hB⟩ dJ0_init_81219_3) hS (inA1.to g_fT) hn (fun H locs hR hz hk hS => ?_)
  have f0 := f0.kept (hk _ f0.lt (inA1.not (clA.ne f0.cl fT.cl (hC.oo 1 0 rfl rfl (by decide))) f0.lt))
  have hB := hB.kept (hk _ hB.lt (inA1.not (clA.ne hB.cl fT.cl (hC.ao 0 1 rfl rfl)) hB.lt))
  obtain ⟨q_f2, z9_, fT, f2⟩ := hR
  have s_f2 : s.heap.size ≤ q_f2 := Nat.le_trans hZ0_ z9_
  have g_f2 := hn _ s_f2
  have l_fT_f2 : t < q_f2 := Nat.lt_of_lt_of_le t_fT z9_
  have l_f0_f2 : a < q_f2 := Nat.lt_of_lt_of_le t_f0 z9_
  have l_hB_f2 : v < q_f2 := Nat.lt_of_lt_of_le t_hB z9_
  refine r_vret (pc := 6) E hr hlk hS (by omega) (by omega) ?_ dJ0_init_81219_6
  exact ⟨_, s_f2, fT, f2⟩
set_option maxHeartbeats 4000000 in
set_option maxRecDepth 100000 in
/-- java/lang/StringBuilder.toString()Ljava/lang/String; -/
theorem c_J4_toString_0e30d (l : Launch) (D : va_G) (tk : Nat → ClassId) (N0 : Nat) (sa : Nat → Nat)  (sz : Nat) (a v cap n : Nat) (ml : Int32) (hn9 : n ≤ cap) (hcap : cap ≤ 100000000) : Met l yJ4_toString_0e30d (wsy yJ4_toString_0e30d cJ4_toString_0e30d 1 (some (.object "java/lang/String"))) ({ frames := 5, cells := 2, slots := 4 + n, locals := 117 } : Room) (cP D tk N0 sa [.ref a] sz (fun H => SBo D a v ml (nI n) H ∧ BA D tk v cap H)) (kQr (fun r H => ∃ q, sz ≤ r ∧ sz ≤ q ∧ SM D tk r q n H) (nwA sz)) (2) (4 + n) (nwA sz) := by
  refine mStart RJ4 rfl (by decide +kernel) (Nat.le_of_ble_eq_true rfl) ?_
  intro p e s m args below meth c E hr hlk hnm hsz hC hF ls hl
  subst hsz
  obtain ⟨hx, hb, -⟩ := id E
  have hA : ∀ q, (nwA s.heap.size) q → N0 ≤ q := fun q h => Nat.le_trans hC.2.1 h
  have hn : ∀ q, s.heap.size ≤ q → (nwA s.heap.size) q := fun q h => h
  have hS : va_S (nwA s.heap.size) s.heap s.heap [] := va_S.rf
  have hl : lv_has ls 1 [(0, .ref a)] := hl
  obtain ⟨f0, hB⟩ : SBo D a v ml (nI n) s.heap ∧ BA D tk v cap s.heap := hF
  have hS0_ := hS
  refine r_new (pc := 0) E hC hS tyJ0_ok uJ0 (List.mem_cons_of_mem _ kw_319) (List.mem_cons_of_mem _ kw_320) (List.mem_cons_of_mem _ kw_20) (ci := 0) rfl (fs := [.null, .int 0, .int 0, .int 0]) (by decide) (by dsimp only; omega) (by dsimp only; omega) dJ4_toString_0e30d_0 (fun qf1 H zq_ n_ ho_ hS => ?_)
  have l_f0_f1 : a < qf1 := zq_ ▸ f0.lt
  have f0 := f0.kept (ho_ _ f0.lt)
  have l_hB_f1 : v < qf1 := zq_ ▸ hB.lt
  have hB := hB.kept (ho_ _ hB.lt)
  have f1 := n_
  have s_f1 : s.heap.size ≤ qf1 := zq_ ▸ hS0_.1
  have g_f1 := hn _ s_f1
  refine lv_dup (pc := 3) hx hb dJ4_toString_0e30d_3 rfl ?_
  refine lv_aload_n (pc := 4) hx hb dJ4_toString_0e30d_4 rfl (lv_at hl 0 rfl) ?_
  have hZ0_ := hS.1
  have t_f0 := f0.lt
  have t_hB := hB.lt
  have t_f1 := f1.lt
  refine k_v (pc := 5) (k_I E hC hS hA hl.1 (c_J0_init_81219 l D tk N0 sa H.size qf1 a v cap n ml (hA _ g_f1) hn9 hcap) kw_321 kw_322 kw_20 kw_323 rfl (n := 1) (by decide +kernel) rfl ⟨⟨rfl, rfl⟩, ⟨Nat.le_of_ble_eq_true rfl, Nat.le_of_ble_eq_true rfl⟩, (by dsimp only; omega), (by dsimp only; omega)⟩ rfl (Nat.le_of_ble_eq_true rfl) ⟨f1, f0, hB⟩ dJ4_toString_0e30d_5) hS (inA1.to g_f1) hn (fun H locs hR hz hk hS => ?_)
  have f0 := f0.kept (hk _ f0.lt (inA1.not (clA.ne f0.cl f1.cl (hC.oo 1 0 rfl rfl (by decide))) f0.lt))
  have hB := hB.kept (hk _ hB.lt (inA1.not (clA.ne hB.cl f1.cl (hC.ao 0 1 rfl rfl)) hB.lt))
  obtain ⟨q_f3, z9_, f1, f3⟩ := hR
  have s_f3 : s.heap.size ≤ q_f3 := Nat.le_trans hZ0_ z9_
  have g_f3 := hn _ s_f3
  have l_f0_f3 : a < q_f3 := Nat.lt_of_lt_of_le t_f0 z9_
  have l_hB_f3 : v < q_f3 := Nat.lt_of_lt_of_le t_hB z9_
  have l_f1_f3 : qf1 < q_f3 := Nat.lt_of_lt_of_le t_f1 z9_
  refine r_aret (pc := 8) E hr (Or.inl ⟨_, rfl⟩) hlk hS (by omega) (by omega) ?_ dJ4_toString_0e30d_8
  exact ⟨_, s_f1, s_f3, f1, f3⟩
set_option maxHeartbeats 4000000 in
set_option maxRecDepth 100000 in
/-- jdk/internal/util/Preconditions.checkFromToIndex(IIILjava/util/function/BiFunction;)I -/
theorem c_J3_checkFromToIndex_8c36e_A (l : Launch) (D : va_G) (tk : Nat → ClassId) (N0 : Nat) (sa : Nat → Nat)  (sz : Nat) (fr to ln : Int32) (i j n : Nat) (q9 : Nat) (hfr : fr = nI i) (hto : to = nI j) (hln : ln = nI n) (hij : i ≤ j) (hjn : j ≤ n) (hn9 : n ≤ 100000000) : Met l yJ3_checkFromToIndex_8c36e (wsy yJ3_checkFromToIndex_8c36e cJ3_checkFromToIndex_8c36e 4 (some .int)) ({ frames := 0, cells := 0, slots := 0, locals := 0 } : Room) (cP D tk N0 sa [.int fr, .int to, .int ln, .ref q9] sz (fun H => True)) (kQi (fun r H => True) (nwA sz)) (0) (0) (nwA sz) := by
  refine mStart RJ3 rfl (by decide +kernel) (Nat.le_of_ble_eq_true rfl) ?_
  intro p e s m args below meth c E hr hlk hnm hsz hC hF ls hl
  subst hsz
  obtain ⟨hx, hb, -⟩ := id E
  have hA : ∀ q, (nwA s.heap.size) q → N0 ≤ q := fun q h => Nat.le_trans hC.2.1 h
  have hn : ∀ q, s.heap.size ≤ q → (nwA s.heap.size) q := fun q h => h
  have hS : va_S (nwA s.heap.size) s.heap s.heap [] := va_S.rf
  have hl : lv_has ls 4 [(0, .int fr), (1, .int to), (2, .int ln), (3, .ref q9)] := hl
  refine lv_iload_n (pc := 0) hx hb dJ3_checkFromToIndex_8c36e_0 rfl (lv_at hl 0 rfl) ?_
  refine lv_if_lt (pc := 1) (tgt := 14) hx hb dJ3_checkFromToIndex_8c36e_1 (by decide) (fun c_1 => ?_) (fun c_1 => ?_)
  · exact absurd c_1 (by rw [hfr]; exact nI_pos (by omega))
  refine lv_iload_n (pc := 4) hx hb dJ3_checkFromToIndex_8c36e_4 rfl (lv_at hl 0 rfl) ?_
  refine lv_iload_n (pc := 5) hx hb dJ3_checkFromToIndex_8c36e_5 rfl (lv_at hl 1 rfl) ?_
  refine lv_icmp_gt (pc := 6) (tgt := 14) hx hb dJ3_checkFromToIndex_8c36e_6 (by decide) (fun c_2 => ?_) (fun c_2 => ?_)
  · exact absurd c_2 (by rw [hfr, hto]; exact nI_nlt hij (by omega))
  refine lv_iload_n (pc := 9) hx hb dJ3_checkFromToIndex_8c36e_9 rfl (lv_at hl 1 rfl) ?_
  refine lv_iload_n (pc := 10) hx hb dJ3_checkFromToIndex_8c36e_10 rfl (lv_at hl 2 rfl) ?_
  refine lv_icmp_le (pc := 11) (tgt := 22) hx hb dJ3_checkFromToIndex_8c36e_11 (by decide) (fun c_3 => ?_) (fun c_3 => ?_)
  rotate_left
  · exact absurd (by rw [hto, hln]; exact nI_le hjn (by omega)) c_3
  refine lv_iload_n (pc := 22) hx hb dJ3_checkFromToIndex_8c36e_22 rfl (lv_at hl 0 rfl) ?_
  refine r_iret (pc := 23) E hr hlk hS (by decide) (by decide) ?_ dJ3_checkFromToIndex_8c36e_23
  exact trivial
set_option maxHeartbeats 4000000 in
set_option maxRecDepth 100000 in
/-- jdk/internal/util/Preconditions.checkFromToIndex(IIILjava/util/function/BiFunction;)I -/
theorem c_J3_checkFromToIndex_8c36e (l : Launch) (D : va_G) (tk : Nat → ClassId) (N0 : Nat) (sa : Nat → Nat)  (sz : Nat) (fr to ln : Int32) (i j n : Nat) (hfr : fr = nI i) (hto : to = nI j) (hln : ln = nI n) (hij : i ≤ j) (hjn : j ≤ n) (hn9 : n ≤ 100000000) : Met l yJ3_checkFromToIndex_8c36e (wsy yJ3_checkFromToIndex_8c36e cJ3_checkFromToIndex_8c36e 4 (some .int)) ({ frames := 0, cells := 0, slots := 0, locals := 0 } : Room) (cP D tk N0 sa [.int fr, .int to, .int ln, .null] sz (fun H => True)) (kQi (fun r H => True) (nwA sz)) (0) (0) (nwA sz) := by
  refine mStart RJ3 rfl (by decide +kernel) (Nat.le_of_ble_eq_true rfl) ?_
  intro p e s m args below meth c E hr hlk hnm hsz hC hF ls hl
  subst hsz
  obtain ⟨hx, hb, -⟩ := id E
  have hA : ∀ q, (nwA s.heap.size) q → N0 ≤ q := fun q h => Nat.le_trans hC.2.1 h
  have hn : ∀ q, s.heap.size ≤ q → (nwA s.heap.size) q := fun q h => h
  have hS : va_S (nwA s.heap.size) s.heap s.heap [] := va_S.rf
  have hl : lv_has ls 4 [(0, .int fr), (1, .int to), (2, .int ln), (3, .null)] := hl
  refine lv_iload_n (pc := 0) hx hb dJ3_checkFromToIndex_8c36e_0 rfl (lv_at hl 0 rfl) ?_
  refine lv_if_lt (pc := 1) (tgt := 14) hx hb dJ3_checkFromToIndex_8c36e_1 (by decide) (fun c_1 => ?_) (fun c_1 => ?_)
  · exact absurd c_1 (by rw [hfr]; exact nI_pos (by omega))
  refine lv_iload_n (pc := 4) hx hb dJ3_checkFromToIndex_8c36e_4 rfl (lv_at hl 0 rfl) ?_
  refine lv_iload_n (pc := 5) hx hb dJ3_checkFromToIndex_8c36e_5 rfl (lv_at hl 1 rfl) ?_
  refine lv_icmp_gt (pc := 6) (tgt := 14) hx hb dJ3_checkFromToIndex_8c36e_6 (by decide) (fun c_2 => ?_) (fun c_2 => ?_)
  · exact absurd c_2 (by rw [hfr, hto]; exact nI_nlt hij (by omega))
  refine lv_iload_n (pc := 9) hx hb dJ3_checkFromToIndex_8c36e_9 rfl (lv_at hl 1 rfl) ?_
  refine lv_iload_n (pc := 10) hx hb dJ3_checkFromToIndex_8c36e_10 rfl (lv_at hl 2 rfl) ?_
  refine lv_icmp_le (pc := 11) (tgt := 22) hx hb dJ3_checkFromToIndex_8c36e_11 (by decide) (fun c_3 => ?_) (fun c_3 => ?_)
  rotate_left
  · exact absurd (by rw [hto, hln]; exact nI_le hjn (by omega)) c_3
  refine lv_iload_n (pc := 22) hx hb dJ3_checkFromToIndex_8c36e_22 rfl (lv_at hl 0 rfl) ?_
  refine r_iret (pc := 23) E hr hlk hS (by decide) (by decide) ?_ dJ3_checkFromToIndex_8c36e_23
  exact trivial
set_option maxHeartbeats 4000000 in
set_option maxRecDepth 100000 in
/-- java/lang/String.checkBoundsBeginEnd(III)V -/
theorem c_J0_checkBoundsBeginEnd_23922 (l : Launch) (D : va_G) (tk : Nat → ClassId) (N0 : Nat) (sa : Nat → Nat)  (sz : Nat) (fr to ln : Int32) (i j n : Nat) (hfr : fr = nI i) (hto : to = nI j) (hln : ln = nI n) (hij : i ≤ j) (hjn : j ≤ n) (hn9 : n ≤ 100000000) : Met l yJ0_checkBoundsBeginEnd_23922 (wsy yJ0_checkBoundsBeginEnd_23922 cJ0_checkBoundsBeginEnd_23922 3 none) ({ frames := 1, cells := 0, slots := 0, locals := 23 } : Room) (cP D tk N0 sa [.int fr, .int to, .int ln] sz (fun H => True)) (kQv (fun H => True) (nwA sz)) (0) (0) (nwA sz) := by
  refine mStart RJ0 rfl (by decide +kernel) (Nat.le_of_ble_eq_true rfl) ?_
  intro p e s m args below meth c E hr hlk hnm hsz hC hF ls hl
  subst hsz
  obtain ⟨hx, hb, -⟩ := id E
  have hA : ∀ q, (nwA s.heap.size) q → N0 ≤ q := fun q h => Nat.le_trans hC.2.1 h
  have hn : ∀ q, s.heap.size ≤ q → (nwA s.heap.size) q := fun q h => h
  have hS : va_S (nwA s.heap.size) s.heap s.heap [] := va_S.rf
  have hl : lv_has ls 3 [(0, .int fr), (1, .int to), (2, .int ln)] := hl
  rcases hC.xt.2.1 with hz9 | ⟨t9, hz9⟩
  · refine lv_iload_n (pc := 0) hx hb dJ0_checkBoundsBeginEnd_23922_0 rfl (lv_at hl 0 rfl) ?_
    refine lv_iload_n (pc := 1) hx hb dJ0_checkBoundsBeginEnd_23922_1 rfl (lv_at hl 1 rfl) ?_
    refine lv_iload_n (pc := 2) hx hb dJ0_checkBoundsBeginEnd_23922_2 rfl (lv_at hl 2 rfl) ?_
    refine va_gets (pc := 3) hx hb (hz9.narrow hA) hS E.2.2.2.1 (E.2.2.2.2 _ (List.mem_cons_of_mem _ kw_251)) (fun _ h => h) dJ0_checkBoundsBeginEnd_23922_3 ?_
    refine k_i (pc := 6) (k_S E hC hS hA hl.1 (c_J3_checkFromToIndex_8c36e l D tk N0 sa s.heap.size fr to ln i j n hfr hto hln hij hjn hn9) kw_307 kw_308 kw_26 kw_309 (n := 4) (by decide +kernel) rfl ⟨⟨rfl, rfl⟩, ⟨by decide, by decide⟩, by decide, by decide⟩ rfl (Nat.le_of_ble_eq_true rfl) trivial dJ0_checkBoundsBeginEnd_23922_6) hS (fun q z w => absurd w (Nat.not_le.mpr z)) hn (fun r_1 H locs hR hz hk hS => ?_)
    refine lv_pop (pc := 9) hx hb dJ0_checkBoundsBeginEnd_23922_9 rfl ?_
    refine r_vret (pc := 10) E hr hlk hS (by decide) (by decide) ?_ dJ0_checkBoundsBeginEnd_23922_10
    exact trivial
  · refine lv_iload_n (pc := 0) hx hb dJ0_checkBoundsBeginEnd_23922_0 rfl (lv_at hl 0 rfl) ?_
    refine lv_iload_n (pc := 1) hx hb dJ0_checkBoundsBeginEnd_23922_1 rfl (lv_at hl 1 rfl) ?_
    refine lv_iload_n (pc := 2) hx hb dJ0_checkBoundsBeginEnd_23922_2 rfl (lv_at hl 2 rfl) ?_
    refine va_gets (pc := 3) hx hb (hz9.narrow hA) hS E.2.2.2.1 (E.2.2.2.2 _ (List.mem_cons_of_mem _ kw_251)) (fun _ h => h) dJ0_checkBoundsBeginEnd_23922_3 ?_
    refine k_i (pc := 6) (k_S E hC hS hA hl.1 (c_J3_checkFromToIndex_8c36e_A l D tk N0 sa s.heap.size fr to ln i j n t9 hfr hto hln hij hjn hn9) kw_307 kw_308 kw_26 kw_309 (n := 4) (by decide +kernel) rfl ⟨⟨rfl, rfl⟩, ⟨by decide, by decide⟩, by decide, by decide⟩ rfl (Nat.le_of_ble_eq_true rfl) trivial dJ0_checkBoundsBeginEnd_23922_6) hS (fun q z w => absurd w (Nat.not_le.mpr z)) hn (fun r_2 H locs hR hz hk hS => ?_)
    refine lv_pop (pc := 9) hx hb dJ0_checkBoundsBeginEnd_23922_9 rfl ?_
    refine r_vret (pc := 10) E hr hlk hS (by decide) (by decide) ?_ dJ0_checkBoundsBeginEnd_23922_10
    exact trivial
set_option maxHeartbeats 4000000 in
set_option maxRecDepth 100000 in
/-- jdk/internal/util/Preconditions.checkIndex(IILjava/util/function/BiFunction;)I -/
theorem c_J3_checkIndex_8e157 (l : Launch) (D : va_G) (tk : Nat → ClassId) (N0 : Nat) (sa : Nat → Nat)  (sz : Nat) (ix ln : Int32) (i n : Nat) (hix : ix = nI i) (hln : ln = nI n) (hin : i < n) (hn9 : n ≤ 100000000) : Met l yJ3_checkIndex_8e157 (wsy yJ3_checkIndex_8e157 cJ3_checkIndex_8e157 3 (some .int)) ({ frames := 0, cells := 0, slots := 0, locals := 0 } : Room) (cP D tk N0 sa [.int ix, .int ln, .null] sz (fun H => True)) (kQi (fun r H => r = ix) (nwA sz)) (0) (0) (nwA sz) := by
  refine mStart RJ3 rfl (by decide +kernel) (Nat.le_of_ble_eq_true rfl) ?_
  intro p e s m args below meth c E hr hlk hnm hsz hC hF ls hl
  subst hsz
  obtain ⟨hx, hb, -⟩ := id E
  have hA : ∀ q, (nwA s.heap.size) q → N0 ≤ q := fun q h => Nat.le_trans hC.2.1 h
  have hn : ∀ q, s.heap.size ≤ q → (nwA s.heap.size) q := fun q h => h
  have hS : va_S (nwA s.heap.size) s.heap s.heap [] := va_S.rf
  have hl : lv_has ls 3 [(0, .int ix), (1, .int ln), (2, .null)] := hl
  refine lv_iload_n (pc := 0) hx hb dJ3_checkIndex_8e157_0 rfl (lv_at hl 0 rfl) ?_
  refine lv_if_lt (pc := 1) (tgt := 9) hx hb dJ3_checkIndex_8e157_1 (by decide) (fun c_1 => ?_) (fun c_1 => ?_)
  · exact absurd c_1 (by rw [hix]; exact nI_pos (by omega))
  refine lv_iload_n (pc := 4) hx hb dJ3_checkIndex_8e157_4 rfl (lv_at hl 0 rfl) ?_
  refine lv_iload_n (pc := 5) hx hb dJ3_checkIndex_8e157_5 rfl (lv_at hl 1 rfl) ?_
  refine lv_icmp_lt (pc := 6) (tgt := 16) hx hb dJ3_checkIndex_8e157_6 (by decide) (fun c_2 => ?_) (fun c_2 => ?_)
  rotate_left
  · exact absurd (by rw [hix, hln]; exact nI_lt hin (by omega)) c_2
  refine lv_iload_n (pc := 16) hx hb dJ3_checkIndex_8e157_16 rfl (lv_at hl 0 rfl) ?_
  refine r_iret (pc := 17) E hr hlk hS (by decide) (by decide) ?_ dJ3_checkIndex_8e157_17
  rfl
set_option maxHeartbeats 4000000 in
set_option maxRecDepth 100000 in
/-- java/util/Objects.checkIndex(II)I -/
theorem c_J15_checkIndex_7cf53 (l : Launch) (D : va_G) (tk : Nat → ClassId) (N0 : Nat) (sa : Nat → Nat)  (sz : Nat) (ix ln : Int32) (i n : Nat) (hix : ix = nI i) (hln : ln = nI n) (hin : i < n) (hn9 : n ≤ 100000000) : Met l yJ15_checkIndex_7cf53 (wsy yJ15_checkIndex_7cf53 cJ15_checkIndex_7cf53 2 (some .int)) ({ frames := 1, cells := 0, slots := 0, locals := 22 } : Room) (cP D tk N0 sa [.int ix, .int ln] sz (fun H => True)) (kQi (fun r H => r = ix) (nwA sz)) (0) (0) (nwA sz) := by
  refine mStart RJ15 rfl (by decide +kernel) (Nat.le_of_ble_eq_true rfl) ?_
  intro p e s m args below meth c E hr hlk hnm hsz hC hF ls hl
  subst hsz
  obtain ⟨hx, hb, -⟩ := id E
  have hA : ∀ q, (nwA s.heap.size) q → N0 ≤ q := fun q h => Nat.le_trans hC.2.1 h
  have hn : ∀ q, s.heap.size ≤ q → (nwA s.heap.size) q := fun q h => h
  have hS : va_S (nwA s.heap.size) s.heap s.heap [] := va_S.rf
  have hl : lv_has ls 2 [(0, .int ix), (1, .int ln)] := hl
  refine lv_iload_n (pc := 0) hx hb dJ15_checkIndex_7cf53_0 rfl (lv_at hl 0 rfl) ?_
  refine lv_iload_n (pc := 1) hx hb dJ15_checkIndex_7cf53_1 rfl (lv_at hl 1 rfl) ?_
  refine lv_null (pc := 2) hx hb dJ15_checkIndex_7cf53_2 ?_
  refine k_i (pc := 3) (k_S E hC hS hA hl.1 (c_J3_checkIndex_8e157 l D tk N0 sa s.heap.size ix ln i n hix hln hin hn9) kw_1557 kw_275 kw_26 kw_276 (n := 3) (by decide +kernel) rfl ⟨⟨rfl, rfl⟩, ⟨by decide, by decide⟩, by decide, by decide⟩ rfl (Nat.le_of_ble_eq_true rfl) trivial dJ15_checkIndex_7cf53_3) hS (fun q z w => absurd w (Nat.not_le.mpr z)) hn (fun r_1 H locs hR hz hk hS => ?_)
  rw [show r_1 = ix from hR]
  refine r_iret (pc := 6) E hr hlk hS (by decide) (by decide) ?_ dJ15_checkIndex_7cf53_6
  rfl
set_option maxHeartbeats 4000000 in
set_option maxRecDepth 100000 in
/-- java/lang/String.<init>([BB)V -/
theorem c_J0_init_031fb (l : Launch) (D : va_G) (tk : Nat → ClassId) (N0 : Nat) (sa : Nat → Nat)  (sz : Nat) (t b n : Nat) (ha9 : N0 ≤ t) : Met l yJ0_init_031fb (wsy yJ0_init_031fb cJ0_init_031fb 3 none) ({ frames := 1, cells := 0, slots := 0, locals := 20 } : Room) (cP D tk N0 sa [.ref t, .ref b, .int 0] sz (fun H => c1 D t (.inr (0, [.null, .int 0, .int 0, .int 0])) H ∧ BA D tk b n H)) (kQv (fun H => SM D tk t b n H) (inA1 t sz)) (0) (0) (inA1 t sz) := by
  refine mStart RJ0 rfl (by decide +kernel) (Nat.le_of_ble_eq_true rfl) ?_
  intro p e s m args below meth c E hr hlk hnm hsz hC hF ls hl
  subst hsz
  obtain ⟨hx, hb, -⟩ := id E
  have hA : ∀ q, (inA1 t s.heap.size) q → N0 ≤ q := fun q h => h.elim (fun z => z ▸ ha9) (fun z => Nat.le_trans hC.2.1 z)
  have hn : ∀ q, s.heap.size ≤ q → (inA1 t s.heap.size) q := fun q h => Or.inr h
  have hS : va_S (inA1 t s.heap.size) s.heap s.heap [] := va_S.rf
  have hl : lv_has ls 3 [(0, .ref t), (1, .ref b), (2, .int 0)] := hl
  obtain ⟨fT, hB⟩ : c1 D t (.inr (0, [.null, .int 0, .int 0, .int 0])) s.heap ∧ BA D tk b n s.heap := hF
  have g_fT : (inA1 t s.heap.size) t := Or.inl rfl
  refine lv_aload_n (pc := 0) hx hb dJ0_init_031fb_0 rfl (lv_at hl 0 rfl) ?_
  refine r_oinit (pc := 1) E hl.1 kw_327 (Nat.le_of_ble_eq_true rfl) (by decide) (by decide) dJ0_init_031fb_1 ?_
  refine lv_aload_n (pc := 4) hx hb dJ0_init_031fb_4 rfl (lv_at hl 0 rfl) ?_
  refine lv_aload_n (pc := 5) hx hb dJ0_init_031fb_5 rfl (lv_at hl 1 rfl) ?_
  refine r_putF (pc := 6) E hC (hnm.trans rfl) fT hS g_fT 0 tyJ0 tyJ0_ok nmJ0 rfl (by decide) (Nat.le_of_ble_eq_true rfl) uJ0 (List.mem_cons_of_mem _ kw_475) (fun _ h => h) rfl rfl rfl rfl dJ0_init_031fb_6 (fun H locs n_ ho hz hS => ?_)
  have hB := hB.kept (ho _ (clA.ne hB.cl fT.cl (hC.ao 0 1 rfl rfl)))
  have fT : c1 D t (.inr (0, [.ref b, .int 0, .int 0, .int 0])) H := n_
  refine lv_aload_n (pc := 9) hx hb dJ0_init_031fb_9 rfl (lv_at hl 0 rfl) ?_
  refine lv_iload_n (pc := 10) hx hb dJ0_init_031fb_10 rfl (lv_at hl 2 rfl) ?_
  refine r_putF (pc := 11) E hC (hnm.trans rfl) fT hS g_fT 1 tyJ0 tyJ0_ok nmJ0 rfl (by decide) (Nat.le_of_ble_eq_true rfl) uJ0 (List.mem_cons_of_mem _ kw_476) (fun _ h => h) rfl rfl rfl rfl dJ0_init_031fb_11 (fun H locs n_ ho hz hS => ?_)
  have hB := hB.kept (ho _ (clA.ne hB.cl fT.cl (hC.ao 0 1 rfl rfl)))
  have fT : c1 D t (.inr (0, [.ref b, .int 0, .int 0, .int 0])) H := n_
  refine r_vret (pc := 14) E hr hlk hS (by decide) (by decide) ?_ dJ0_init_031fb_14
  exact ⟨fT, hB⟩
set_option maxHeartbeats 4000000 in
set_option maxRecDepth 100000 in
/-- java/lang/StringLatin1.newString([BII)Ljava/lang/String; -/
theorem c_J1_newString_b4f7a (l : Launch) (D : va_G) (tk : Nat → ClassId) (N0 : Nat) (sa : Nat → Nat)  (sz : Nat) (b n i w9 : Nat) (ix ln : Int32) (hi9 : ix = nI i) (hm9 : ln = nI w9) (him : i + w9 ≤ n) (hno : i = 0 → i + w9 = n → False) (hn9 : n ≤ 100000000) : Met l yJ1_newString_b4f7a (wsy yJ1_newString_b4f7a cJ1_newString_b4f7a 3 (some (.object "java/lang/String"))) ({ frames := 3, cells := 2, slots := 4 + w9, locals := 72 } : Room) (cP D tk N0 sa [.ref b, .int ix, .int ln] sz (fun H => BX tk b n H)) (kQr (fun r H => SX D tk r w9 H) (nwA sz)) (2) (4 + w9) (nwA sz) := by
  refine mStart RJ1 rfl (by decide +kernel) (Nat.le_of_ble_eq_true rfl) ?_
  intro p e s m args below meth c E hr hlk hnm hsz hC hF ls hl
  subst hsz
  obtain ⟨hx, hb, -⟩ := id E
  have hA : ∀ q, (nwA s.heap.size) q → N0 ≤ q := fun q h => Nat.le_trans hC.2.1 h
  have hn : ∀ q, s.heap.size ≤ q → (nwA s.heap.size) q := fun q h => h
  have hS : va_S (nwA s.heap.size) s.heap s.heap [] := va_S.rf
  have hl : lv_has ls 3 [(0, .ref b), (1, .int ix), (2, .int ln)] := hl
  have hB : BX tk b n s.heap := hF
  refine lv_iload_n (pc := 0) hx hb dJ1_newString_b4f7a_0 rfl (lv_at hl 2 rfl) ?_
  refine lv_if_ne (pc := 1) (tgt := 7) hx hb dJ1_newString_b4f7a_1 (by decide) (fun c_1 => ?_) (fun c_1 => ?_)
  · have hS0_ := hS
    refine r_new (pc := 7) E hC hS tyJ0_ok uJ0 (List.mem_cons_of_mem _ kw_1727) (List.mem_cons_of_mem _ kw_320) (List.mem_cons_of_mem _ kw_20) (ci := 0) rfl (fs := [.null, .int 0, .int 0, .int 0]) (by decide) (by dsimp only; omega) (by dsimp only; omega) dJ1_newString_b4f7a_7 (fun qf2 H zq_ n_ ho_ hS => ?_)
    have l_hB_f2 : b < qf2 := zq_ ▸ hB.lt
    have hB := hB.kept (ho_ _ hB.lt)
    have f2 := n_
    have s_f2 : s.heap.size ≤ qf2 := zq_ ▸ hS0_.1
    have g_f2 := hn _ s_f2
    refine lv_dup (pc := 10) hx hb dJ1_newString_b4f7a_10 rfl ?_
    refine lv_aload_n (pc := 11) hx hb dJ1_newString_b4f7a_11 rfl (lv_at hl 0 rfl) ?_
    refine lv_iload_n (pc := 12) hx hb dJ1_newString_b4f7a_12 rfl (lv_at hl 1 rfl) ?_
    refine lv_iload_n (pc := 13) hx hb dJ1_newString_b4f7a_13 rfl (lv_at hl 1 rfl) ?_
    refine lv_iload_n (pc := 14) hx hb dJ1_newString_b4f7a_14 rfl (lv_at hl 2 rfl) ?_
    refine lv_iadd (pc := 15) hx hb dJ1_newString_b4f7a_15 ?_
    have hZ0_ := hS.1
    have t_hB := hB.lt
    have t_f2 := f2.lt
    refine k_r (pc := 16) (k_S E hC hS hA hl.1 (c_J7_copyOfRange_39247_X l D tk N0 sa H.size b n i (i + w9) ix (ix + ln) hi9 (by rw [hi9, hm9]; exact nI_add i w9) (by omega) (by omega) him hn9 hno) kw_1728 kw_343 kw_24 kw_344 (n := 3) (by decide +kernel) rfl ⟨⟨rfl, rfl⟩, ⟨Nat.le_of_ble_eq_true rfl, Nat.le_of_ble_eq_true rfl⟩, (by dsimp only; omega), (by dsimp only; omega)⟩ rfl (Nat.le_of_ble_eq_true rfl) hB dJ1_newString_b4f7a_16) hS (fun q z w => absurd w (Nat.not_le.mpr z)) hn (fun r_3 H locs hR hz hk hS => ?_)
    have hB := hB.kept (hk _ hB.lt (Nat.not_le.mpr hB.lt))
    have f2 := f2.kept (hk _ f2.lt (Nat.not_le.mpr f2.lt))
    obtain ⟨z9_, f4⟩ := hR
    have s_f4 : s.heap.size ≤ r_3 := Nat.le_trans hZ0_ z9_
    have g_f4 := hn _ s_f4
    have l_hB_f4 : b < r_3 := Nat.lt_of_lt_of_le t_hB z9_
    have l_f2_f4 : qf2 < r_3 := Nat.lt_of_lt_of_le t_f2 z9_
    refine lv_iconst (pc := 19) (v := 0) hx hb dJ1_newString_b4f7a_19 (by decide) ?_
    refine k_v (pc := 20) (k_I E hC hS hA hl.1 (c_J0_init_031fb l D tk N0 sa H.size qf2 r_3 (((i + w9) - i)) (hA _ g_f2)) kw_1729 kw_1730 kw_20 kw_1731 rfl (n := 2) (by decide +kernel) rfl ⟨⟨rfl, rfl⟩, ⟨Nat.le_of_ble_eq_true rfl, Nat.le_of_ble_eq_true rfl⟩, (by dsimp only; omega), (by dsimp only; omega)⟩ rfl (Nat.le_of_ble_eq_true rfl) ⟨f2, f4⟩ dJ1_newString_b4f7a_20) hS (inA1.to g_f2) hn (fun H locs hR hz hk hS => ?_)
    have hB := hB.kept (hk _ hB.lt (inA1.not (hB.neo hC f2.cl (ci := 0) rfl) hB.lt))
    obtain ⟨f2, f4⟩ := hR
    refine r_aret (pc := 23) E hr (Or.inl ⟨_, rfl⟩) hlk hS (by omega) (by omega) ?_ dJ1_newString_b4f7a_23
    exact (by have h9 := SM.sx (D := D) ⟨f2, f4⟩; rw [show i + w9 - i = w9 by omega] at h9; exact h9)
  · refine va_ldcS (pc := 4) hx hb E.2.2.2.1 (hC.2.2.2.2.1 14 _ rfl).1 dJ1_newString_b4f7a_4 ?_
    have k6 : SX D tk (sa (10 + 14)) 0 s.heap := hC.str hS hA 14 _ rfl (by decide)
    refine r_aret (pc := 6) E hr (Or.inl ⟨_, rfl⟩) hlk hS (by omega) (by omega) ?_ dJ1_newString_b4f7a_6
    have m09 : w9 = 0 := (nI_eq (by omega) (by decide)).mp (hm9.symm.trans (c_1.trans nI_0.symm))
    exact (by rw [m09]; exact k6)
set_option maxHeartbeats 4000000 in
set_option maxRecDepth 100000 in
/-- java/lang/String.substring(II)Ljava/lang/String; -/
theorem c_J0_substring_37a41 (l : Launch) (D : va_G) (tk : Nat → ClassId) (N0 : Nat) (sa : Nat → Nat)  (sz : Nat) (t k i j : Nat) (fr to : Int32) (hfr : fr = nI i) (hto : to = nI j) (hij : i ≤ j) (hjk : j ≤ k) (hk9 : k ≤ 100000000) : Met l yJ0_substring_37a41 (wsy yJ0_substring_37a41 cJ0_substring_37a41 5 (some (.object "java/lang/String"))) ({ frames := 4, cells := 2, slots := 4 + (j - i), locals := 94 } : Room) (cP D tk N0 sa [.ref t, .int fr, .int to] sz (fun H => SX D tk t k H)) (kQr (fun r H => SX D tk r (j - i) H) (nwA sz)) (2) (4 + (j - i)) (nwA sz) := by
  refine mStart RJ0 rfl (by decide +kernel) (Nat.le_of_ble_eq_true rfl) ?_
  intro p e s m args below meth c E hr hlk hnm hsz hC hF ls hl
  subst hsz
  obtain ⟨hx, hb, -⟩ := id E
  have hA : ∀ q, (nwA s.heap.size) q → N0 ≤ q := fun q h => Nat.le_trans hC.2.1 h
  have hn : ∀ q, s.heap.size ≤ q → (nwA s.heap.size) q := fun q h => h
  have hS : va_S (nwA s.heap.size) s.heap s.heap [] := va_S.rf
  have hl : lv_has ls 5 [(0, .ref t), (1, .int fr), (2, .int to)] := hl
  obtain ⟨b0, h0, h1, h2⟩ : SX D tk t k s.heap := hF
  refine lv_aload_n (pc := 0) hx hb dJ0_substring_37a41_0 rfl (lv_at hl 0 rfl) ?_
  refine k_i (pc := 1) (k_V E hC hS hA hl.1 (xf.recv hC h0 rfl) rfl (c_J0_length_8abf5 l D tk N0 sa s.heap.size t k) kw_1717 kw_413 kw_414 kw_20 kw_415 (n := 0) (by decide +kernel) rfl ⟨⟨rfl, rfl⟩, ⟨Nat.le_of_ble_eq_true rfl, Nat.le_of_ble_eq_true rfl⟩, (by dsimp only; omega), (by dsimp only; omega)⟩ rfl (Nat.le_of_ble_eq_true rfl) ⟨_, h0, h1, h2⟩ dJ0_substring_37a41_1) hS (fun q z w => absurd w (Nat.not_le.mpr z)) hn (fun r_1 H locs hR hz hk hS => ?_)
  have h0 := h0.kept (hk _ h0.lt (Nat.not_le.mpr h0.lt))
  have h1 := h1.kept (hk _ h1.lt (Nat.not_le.mpr h1.lt))
  have h2 := h2.kept (hk _ h2.lt (Nat.not_le.mpr h2.lt))
  rw [show r_1 = nI k from hR]
  obtain ⟨x_2, ex_2⟩ : ∃ z9 : Int32, z9 = nI k := ⟨_, rfl⟩
  rw [← ex_2]
  refine lv_istore_n (pc := 4) (lv' := [(3, .int x_2), (0, .ref t), (1, .int fr), (2, .int to)]) hx hb dJ0_substring_37a41_4 rfl hl (by decide) rfl (fun ls hl => ?_)
  refine lv_iload_n (pc := 5) hx hb dJ0_substring_37a41_5 rfl (lv_at hl 2 rfl) ?_
  refine lv_iload_n (pc := 6) hx hb dJ0_substring_37a41_6 rfl (lv_at hl 3 rfl) ?_
  refine lv_iload_n (pc := 7) hx hb dJ0_substring_37a41_7 rfl (lv_at hl 0 rfl) ?_
  refine k_v (pc := 8) (k_S E hC hS hA hl.1 (c_J0_checkBoundsBeginEnd_23922 l D tk N0 sa H.size fr to x_2 i j k hfr hto ex_2 hij hjk hk9) kw_1718 kw_305 kw_20 kw_306 (n := 3) (by decide +kernel) rfl ⟨⟨rfl, rfl⟩, ⟨Nat.le_of_ble_eq_true rfl, Nat.le_of_ble_eq_true rfl⟩, (by dsimp only; omega), (by dsimp only; omega)⟩ rfl (Nat.le_of_ble_eq_true rfl) trivial dJ0_substring_37a41_8) hS (fun q z w => absurd w (Nat.not_le.mpr z)) hn (fun H locs hR hz hk hS => ?_)
  have h0 := h0.kept (hk _ h0.lt (Nat.not_le.mpr h0.lt))
  have h1 := h1.kept (hk _ h1.lt (Nat.not_le.mpr h1.lt))
  have h2 := h2.kept (hk _ h2.lt (Nat.not_le.mpr h2.lt))
  refine lv_iload_n (pc := 11) hx hb dJ0_substring_37a41_11 rfl (lv_at hl 2 rfl) ?_
  refine lv_if_ne (pc := 12) (tgt := 22) hx hb dJ0_substring_37a41_12 (by decide) (fun c_4 => ?_) (fun c_4 => ?_)
  · have hno : i = 0 → i + (j - i) = k → False := fun z9 _ => c_4 (by rw [hfr, z9]; exact nI_0)
    refine lv_iload_n (pc := 22) hx hb dJ0_substring_37a41_22 rfl (lv_at hl 3 rfl) ?_
    refine lv_iload_n (pc := 23) hx hb dJ0_substring_37a41_23 rfl (lv_at hl 2 rfl) ?_
    refine lv_isub (pc := 24) hx hb dJ0_substring_37a41_24 ?_
    obtain ⟨x_5, ex_5⟩ : ∃ z9 : Int32, z9 = to - fr := ⟨_, rfl⟩
    rw [← ex_5]
    refine lv_istore (pc := 25) (lv' := [(4, .int x_5), (3, .int x_2), (0, .ref t), (1, .int fr), (2, .int to)]) hx hb dJ0_substring_37a41_25 hl (by decide) rfl (fun ls hl => ?_)
    refine lv_aload_n (pc := 27) hx hb dJ0_substring_37a41_27 rfl (lv_at hl 2 rfl) ?_
    refine k_i (pc := 28) (k_V E hC hS hA hl.1 (xf.recv hC h0 rfl) rfl (c_J0_isLatin1_aae02 l D tk N0 sa H.size t k) kw_1719 kw_1720 kw_1721 kw_20 kw_1722 (n := 0) (by decide +kernel) rfl ⟨⟨rfl, rfl⟩, ⟨Nat.le_of_ble_eq_true rfl, Nat.le_of_ble_eq_true rfl⟩, (by dsimp only; omega), (by dsimp only; omega)⟩ rfl (Nat.le_of_ble_eq_true rfl) ⟨_, h0, h1, h2⟩ dJ0_substring_37a41_28) hS (fun q z w => absurd w (Nat.not_le.mpr z)) hn (fun r_6 H locs hR hz hk hS => ?_)
    have h0 := h0.kept (hk _ h0.lt (Nat.not_le.mpr h0.lt))
    have h1 := h1.kept (hk _ h1.lt (Nat.not_le.mpr h1.lt))
    have h2 := h2.kept (hk _ h2.lt (Nat.not_le.mpr h2.lt))
    rw [show r_6 = 1 from hR]
    refine lv_if_eq (pc := 31) (tgt := 47) hx hb dJ0_substring_37a41_31 (by decide) (fun c_7 => ?_) (fun c_7 => ?_)
    · exact absurd c_7 (by decide)
    refine lv_aload_n (pc := 34) hx hb dJ0_substring_37a41_34 rfl (lv_at hl 2 rfl) ?_
    refine r_getX (pc := 35) E hC h0 rfl (by decide) uJ0 (List.mem_cons_of_mem _ kw_475) (fun _ h => h) dJ0_substring_37a41_35 ?_
    refine lv_iload_n (pc := 38) hx hb dJ0_substring_37a41_38 rfl (lv_at hl 3 rfl) ?_
    refine lv_iload (pc := 39) hx hb dJ0_substring_37a41_39 (lv_at hl 0 rfl) ?_
    have hZ0_ := hS.1
    have t_h0 := h0.lt
    have t_h1 := h1.lt
    have t_h2 := h2.lt
    refine k_r (pc := 41) (k_S E hC hS hA hl.1 (c_J1_newString_b4f7a l D tk N0 sa H.size b0 k i (j - i) fr x_5 hfr (by rw [ex_5, hfr, hto]; exact pk_sub hij) (by omega) hno hk9) kw_1723 kw_1724 kw_27 kw_1725 (n := 3) (by decide +kernel) rfl ⟨⟨rfl, rfl⟩, ⟨Nat.le_of_ble_eq_true rfl, Nat.le_of_ble_eq_true rfl⟩, (by dsimp only; omega), (by dsimp only; omega)⟩ rfl (Nat.le_of_ble_eq_true rfl) h2 dJ0_substring_37a41_41) hS (fun q z w => absurd w (Nat.not_le.mpr z)) hn (fun r_8 H locs hR hz hk hS => ?_)
    have h0 := h0.kept (hk _ h0.lt (Nat.not_le.mpr h0.lt))
    have h1 := h1.kept (hk _ h1.lt (Nat.not_le.mpr h1.lt))
    have h2 := h2.kept (hk _ h2.lt (Nat.not_le.mpr h2.lt))
    have f9 := hR
    refine lv_goto (pc := 44) (tgt := 57) hx hb dJ0_substring_37a41_44 (by decide) ?_
    refine r_aret (pc := 57) E hr (Or.inl ⟨_, rfl⟩) hlk hS (by omega) (by omega) ?_ dJ0_substring_37a41_57
    exact f9
  · refine lv_iload_n (pc := 15) hx hb dJ0_substring_37a41_15 rfl (lv_at hl 3 rfl) ?_
    refine lv_iload_n (pc := 16) hx hb dJ0_substring_37a41_16 rfl (lv_at hl 0 rfl) ?_
    refine lv_icmp_ne (pc := 17) (tgt := 22) hx hb dJ0_substring_37a41_17 (by decide) (fun c_10 => ?_) (fun c_10 => ?_)
    · have hno : i = 0 → i + (j - i) = k → False := fun _ z9 => c_10 (by rw [hto, ex_2, show j = k by omega])
      refine lv_iload_n (pc := 22) hx hb dJ0_substring_37a41_22 rfl (lv_at hl 3 rfl) ?_
      refine lv_iload_n (pc := 23) hx hb dJ0_substring_37a41_23 rfl (lv_at hl 2 rfl) ?_
      refine lv_isub (pc := 24) hx hb dJ0_substring_37a41_24 ?_
      obtain ⟨x_11, ex_11⟩ : ∃ z9 : Int32, z9 = to - fr := ⟨_, rfl⟩
      rw [← ex_11]
      refine lv_istore (pc := 25) (lv' := [(4, .int x_11), (3, .int x_2), (0, .ref t), (1, .int fr), (2, .int to)]) hx hb dJ0_substring_37a41_25 hl (by decide) rfl (fun ls hl => ?_)
      refine lv_aload_n (pc := 27) hx hb dJ0_substring_37a41_27 rfl (lv_at hl 2 rfl) ?_
      refine k_i (pc := 28) (k_V E hC hS hA hl.1 (xf.recv hC h0 rfl) rfl (c_J0_isLatin1_aae02 l D tk N0 sa H.size t k) kw_1719 kw_1720 kw_1721 kw_20 kw_1722 (n := 0) (by decide +kernel) rfl ⟨⟨rfl, rfl⟩, ⟨Nat.le_of_ble_eq_true rfl, Nat.le_of_ble_eq_true rfl⟩, (by dsimp only; omega), (by dsimp only; omega)⟩ rfl (Nat.le_of_ble_eq_true rfl) ⟨_, h0, h1, h2⟩ dJ0_substring_37a41_28) hS (fun q z w => absurd w (Nat.not_le.mpr z)) hn (fun r_12 H locs hR hz hk hS => ?_)
      have h0 := h0.kept (hk _ h0.lt (Nat.not_le.mpr h0.lt))
      have h1 := h1.kept (hk _ h1.lt (Nat.not_le.mpr h1.lt))
      have h2 := h2.kept (hk _ h2.lt (Nat.not_le.mpr h2.lt))
      rw [show r_12 = 1 from hR]
      refine lv_if_eq (pc := 31) (tgt := 47) hx hb dJ0_substring_37a41_31 (by decide) (fun c_13 => ?_) (fun c_13 => ?_)
      · exact absurd c_13 (by decide)
      refine lv_aload_n (pc := 34) hx hb dJ0_substring_37a41_34 rfl (lv_at hl 2 rfl) ?_
      refine r_getX (pc := 35) E hC h0 rfl (by decide) uJ0 (List.mem_cons_of_mem _ kw_475) (fun _ h => h) dJ0_substring_37a41_35 ?_
      refine lv_iload_n (pc := 38) hx hb dJ0_substring_37a41_38 rfl (lv_at hl 3 rfl) ?_
      refine lv_iload (pc := 39) hx hb dJ0_substring_37a41_39 (lv_at hl 0 rfl) ?_
      have hZ0_ := hS.1
      have t_h0 := h0.lt
      have t_h1 := h1.lt
      have t_h2 := h2.lt
      refine k_r (pc := 41) (k_S E hC hS hA hl.1 (c_J1_newString_b4f7a l D tk N0 sa H.size b0 k i (j - i) fr x_11 hfr (by rw [ex_11, hfr, hto]; exact pk_sub hij) (by omega) hno hk9) kw_1723 kw_1724 kw_27 kw_1725 (n := 3) (by decide +kernel) rfl ⟨⟨rfl, rfl⟩, ⟨Nat.le_of_ble_eq_true rfl, Nat.le_of_ble_eq_true rfl⟩, (by dsimp only; omega), (by dsimp only; omega)⟩ rfl (Nat.le_of_ble_eq_true rfl) h2 dJ0_substring_37a41_41) hS (fun q z w => absurd w (Nat.not_le.mpr z)) hn (fun r_14 H locs hR hz hk hS => ?_)
      have h0 := h0.kept (hk _ h0.lt (Nat.not_le.mpr h0.lt))
      have h1 := h1.kept (hk _ h1.lt (Nat.not_le.mpr h1.lt))
      have h2 := h2.kept (hk _ h2.lt (Nat.not_le.mpr h2.lt))
      have f15 := hR
      refine lv_goto (pc := 44) (tgt := 57) hx hb dJ0_substring_37a41_44 (by decide) ?_
      refine r_aret (pc := 57) E hr (Or.inl ⟨_, rfl⟩) hlk hS (by omega) (by omega) ?_ dJ0_substring_37a41_57
      exact f15
    · refine lv_aload_n (pc := 20) hx hb dJ0_substring_37a41_20 rfl (lv_at hl 1 rfl) ?_
      refine r_aret (pc := 21) E hr (Or.inl ⟨_, rfl⟩) hlk hS (by omega) (by omega) ?_ dJ0_substring_37a41_21
      have i09 : i = 0 := (nI_eq (by omega) (by decide)).mp (hfr.symm.trans (c_4.trans nI_0.symm))
      have jk9 : j = k := (nI_eq (by omega) (by omega)).mp (hto.symm.trans (c_10.trans ex_2))
      exact (by rw [show j - i = k by omega]; exact ⟨_, h0, h1, h2⟩)
set_option maxHeartbeats 4000000 in
set_option maxRecDepth 100000 in
/-- java/lang/String.substring(I)Ljava/lang/String; -/
theorem c_J0_substring_b52d3 (l : Launch) (D : va_G) (tk : Nat → ClassId) (N0 : Nat) (sa : Nat → Nat)  (sz : Nat) (t k i : Nat) (fr : Int32) (hfr : fr = nI i) (hij : i ≤ k) (hk9 : k ≤ 100000000) : Met l yJ0_substring_b52d3 (wsy yJ0_substring_b52d3 cJ0_substring_b52d3 2 (some (.object "java/lang/String"))) ({ frames := 5, cells := 2, slots := 4 + (k - i), locals := 118 } : Room) (cP D tk N0 sa [.ref t, .int fr] sz (fun H => SX D tk t k H)) (kQr (fun r H => SX D tk r (k - i) H) (nwA sz)) (2) (4 + (k - i)) (nwA sz) := by
  refine mStart RJ0 rfl (by decide +kernel) (Nat.le_of_ble_eq_true rfl) ?_
  intro p e s m args below meth c E hr hlk hnm hsz hC hF ls hl
  subst hsz
  obtain ⟨hx, hb, -⟩ := id E
  have hA : ∀ q, (nwA s.heap.size) q → N0 ≤ q := fun q h => Nat.le_trans hC.2.1 h
  have hn : ∀ q, s.heap.size ≤ q → (nwA s.heap.size) q := fun q h => h
  have hS : va_S (nwA s.heap.size) s.heap s.heap [] := va_S.rf
  have hl : lv_has ls 2 [(0, .ref t), (1, .int fr)] := hl
  have st : SX D tk t k s.heap := hF
  refine lv_aload_n (pc := 0) hx hb dJ0_substring_b52d3_0 rfl (lv_at hl 0 rfl) ?_
  refine lv_iload_n (pc := 1) hx hb dJ0_substring_b52d3_1 rfl (lv_at hl 1 rfl) ?_
  refine lv_aload_n (pc := 2) hx hb dJ0_substring_b52d3_2 rfl (lv_at hl 0 rfl) ?_
  refine k_i (pc := 3) (k_V E hC hS hA hl.1 (st.recv hC) rfl (c_J0_length_8abf5 l D tk N0 sa s.heap.size t k) kw_1717 kw_413 kw_414 kw_20 kw_415 (n := 0) (by decide +kernel) rfl ⟨⟨rfl, rfl⟩, ⟨Nat.le_of_ble_eq_true rfl, Nat.le_of_ble_eq_true rfl⟩, (by dsimp only; omega), (by dsimp only; omega)⟩ rfl (Nat.le_of_ble_eq_true rfl) st dJ0_substring_b52d3_3) hS (fun q z w => absurd w (Nat.not_le.mpr z)) hn (fun r_1 H locs hR hz hk hS => ?_)
  have st := st.new hk
  rw [show r_1 = nI k from hR]
  have hZ0_ := hS.1
  have t_st := st.lt
  refine k_r (pc := 6) (k_V E hC hS hA hl.1 (st.recv hC) rfl (c_J0_substring_37a41 l D tk N0 sa H.size t k i k fr (nI k) hfr rfl hij (Nat.le_refl k) hk9) kw_1746 kw_1714 kw_1715 kw_20 kw_1716 (n := 2) (by decide +kernel) rfl ⟨⟨rfl, rfl⟩, ⟨Nat.le_of_ble_eq_true rfl, Nat.le_of_ble_eq_true rfl⟩, (by dsimp only; omega), (by dsimp only; omega)⟩ rfl (Nat.le_of_ble_eq_true rfl) st dJ0_substring_b52d3_6) hS (fun q z w => absurd w (Nat.not_le.mpr z)) hn (fun r_2 H locs hR hz hk hS => ?_)
  have st := st.new hk
  have f3 := hR
  refine r_aret (pc := 9) E hr (Or.inl ⟨_, rfl⟩) hlk hS (by omega) (by omega) ?_ dJ0_substring_b52d3_9
  exact f3
set_option maxHeartbeats 4000000 in
set_option maxRecDepth 100000 in
/-- java/lang/Number.<init>()V -/
theorem c_Jxd2413_init_da8c8 (l : Launch) (D : va_G) (tk : Nat → ClassId) (N0 : Nat) (sa : Nat → Nat)  (sz : Nat) (a : Nat) : Met l yJxd2413_init_da8c8 (wsy yJxd2413_init_da8c8 cJxd2413_init_da8c8 1 none) ({ frames := 1, cells := 0, slots := 0, locals := 20 } : Room) (cP D tk N0 sa [.ref a] sz (fun H => True)) (kQv (fun H => True) (nwA sz)) (0) (0) (nwA sz) := by
  refine mStart RJxd2413 rfl (by decide +kernel) (Nat.le_of_ble_eq_true rfl) ?_
  intro p e s m args below meth c E hr hlk hnm hsz hC hF ls hl
  subst hsz
  obtain ⟨hx, hb, -⟩ := id E
  have hA : ∀ q, (nwA s.heap.size) q → N0 ≤ q := fun q h => Nat.le_trans hC.2.1 h
  have hn : ∀ q, s.heap.size ≤ q → (nwA s.heap.size) q := fun q h => h
  have hS : va_S (nwA s.heap.size) s.heap s.heap [] := va_S.rf
  have hl : lv_has ls 1 [(0, .ref a)] := hl
  refine lv_aload_n (pc := 0) hx hb dJxd2413_init_da8c8_0 rfl (lv_at hl 0 rfl) ?_
  refine r_oinit (pc := 1) E hl.1 kw_1429 (Nat.le_of_ble_eq_true rfl) (by decide) (by decide) dJxd2413_init_da8c8_1 ?_
  refine r_vret (pc := 4) E hr hlk hS (by decide) (by decide) ?_ dJxd2413_init_da8c8_4
  exact trivial
set_option maxHeartbeats 4000000 in
set_option maxRecDepth 100000 in
/-- java/lang/Long.<init>(J)V -/
theorem c_J13_init_e45a9 (l : Launch) (D : va_G) (tk : Nat → ClassId) (N0 : Nat) (sa : Nat → Nat)  (sz : Nat) (a : Nat) (x : Int64) (ha9 : N0 ≤ a) : Met l yJ13_init_e45a9 (wsy yJ13_init_e45a9 cJ13_init_e45a9 3 none) ({ frames := 2, cells := 0, slots := 0, locals := 40 } : Room) (cP D tk N0 sa [.ref a, .long x] sz (fun H => c1 D a (.inr (3, [.long 0])) H)) (kQv (fun H => c1 D a (.inr (3, [.long x])) H) (inA1 a sz)) (0) (0) (inA1 a sz) := by
  refine mStart RJ13 rfl (by decide +kernel) (Nat.le_of_ble_eq_true rfl) ?_
  intro p e s m args below meth c E hr hlk hnm hsz hC hF ls hl
  subst hsz
  obtain ⟨hx, hb, -⟩ := id E
  have hA : ∀ q, (inA1 a s.heap.size) q → N0 ≤ q := fun q h => h.elim (fun z => z ▸ ha9) (fun z => Nat.le_trans hC.2.1 z)
  have hn : ∀ q, s.heap.size ≤ q → (inA1 a s.heap.size) q := fun q h => Or.inr h
  have hS : va_S (inA1 a s.heap.size) s.heap s.heap [] := va_S.rf
  have hl : lv_has ls 3 [(0, .ref a), (1, .long x)] := hl
  have f0 : c1 D a (.inr (3, [.long 0])) s.heap := hF
  have g_f0 : (inA1 a s.heap.size) a := Or.inl rfl
  refine lv_aload_n (pc := 0) hx hb dJ13_init_e45a9_0 rfl (lv_at hl 0 rfl) ?_
  refine k_v (pc := 1) (k_I E hC hS hA hl.1 (c_Jxd2413_init_da8c8 l D tk N0 sa s.heap.size a) kw_1426 kw_1427 kw_16 kw_1428 rfl (n := 0) (by decide +kernel) rfl ⟨⟨rfl, rfl⟩, ⟨by decide, by decide⟩, by decide, by decide⟩ rfl (Nat.le_of_ble_eq_true rfl) trivial dJ13_init_e45a9_1) hS (fun q z w => absurd w (Nat.not_le.mpr z)) hn (fun H locs hR hz hk hS => ?_)
  have f0 := f0.kept (hk _ f0.lt (Nat.not_le.mpr f0.lt))
  refine lv_aload_n (pc := 4) hx hb dJ13_init_e45a9_4 rfl (lv_at hl 0 rfl) ?_
  refine lv_lload_n (pc := 5) hx hb dJ13_init_e45a9_5 rfl (lv_at hl 1 rfl) ?_
  refine r_putF (pc := 6) E hC (hnm.trans rfl) f0 hS g_f0 0 tyJ13 tyJ13_ok nmJ13 rfl (by decide) (Nat.le_of_ble_eq_true rfl) uJ13 (List.mem_cons_of_mem _ kw_1430) (fun _ h => h) rfl rfl rfl rfl dJ13_init_e45a9_6 (fun H locs n_ ho hz hS => ?_)
  have f0 : c1 D a (.inr (3, [.long x])) H := n_
  refine r_vret (pc := 9) E hr hlk hS (by decide) (by decide) ?_ dJ13_init_e45a9_9
  exact f0
set_option maxHeartbeats 4000000 in
set_option maxRecDepth 100000 in
/-- java/lang/Long.longValue()J -/
theorem c_J13_longValue_f9912 (l : Launch) (D : va_G) (tk : Nat → ClassId) (N0 : Nat) (sa : Nat → Nat)  (sz : Nat) (a : Nat) (x : Int64) : Met l yJ13_longValue_f9912 (wsy yJ13_longValue_f9912 cJ13_longValue_f9912 1 (some .long)) ({ frames := 0, cells := 0, slots := 0, locals := 0 } : Room) (cP D tk N0 sa [.ref a] sz (fun H => xf D 3 a 0 (.long x) H)) (kQl (fun r H => r = x) (nwA sz)) (0) (0) (nwA sz) := by
  refine mStart RJ13 rfl (by decide +kernel) (Nat.le_of_ble_eq_true rfl) ?_
  intro p e s m args below meth c E hr hlk hnm hsz hC hF ls hl
  subst hsz
  obtain ⟨hx, hb, -⟩ := id E
  have hA : ∀ q, (nwA s.heap.size) q → N0 ≤ q := fun q h => Nat.le_trans hC.2.1 h
  have hn : ∀ q, s.heap.size ≤ q → (nwA s.heap.size) q := fun q h => h
  have hS : va_S (nwA s.heap.size) s.heap s.heap [] := va_S.rf
  have hl : lv_has ls 1 [(0, .ref a)] := hl
  have h0 : xf D 3 a 0 (.long x) s.heap := hF
  refine lv_aload_n (pc := 0) hx hb dJ13_longValue_f9912_0 rfl (lv_at hl 0 rfl) ?_
  refine r_getX (pc := 1) E hC h0 rfl (by decide) uJ13 (List.mem_cons_of_mem _ kw_1430) (fun _ h => h) dJ13_longValue_f9912_1 ?_
  refine r_lret (pc := 4) E hr hlk hS (by decide) (by decide) ?_ dJ13_longValue_f9912_4
  rfl
set_option maxHeartbeats 4000000 in
set_option maxRecDepth 100000 in
/-- java/lang/Integer.<init>(I)V -/
theorem c_J6_init_d00df (l : Launch) (D : va_G) (tk : Nat → ClassId) (N0 : Nat) (sa : Nat → Nat)  (sz : Nat) (a : Nat) (x : Int32) (ha9 : N0 ≤ a) : Met l yJ6_init_d00df (wsy yJ6_init_d00df cJ6_init_d00df 2 none) ({ frames := 2, cells := 0, slots := 0, locals := 40 } : Room) (cP D tk N0 sa [.ref a, .int x] sz (fun H => c1 D a (.inr (2, [.int 0])) H)) (kQv (fun H => c1 D a (.inr (2, [.int x])) H) (inA1 a sz)) (0) (0) (inA1 a sz) := by
  refine mStart RJ6 rfl (by decide +kernel) (Nat.le_of_ble_eq_true rfl) ?_
  intro p e s m args below meth c E hr hlk hnm hsz hC hF ls hl
  subst hsz
  obtain ⟨hx, hb, -⟩ := id E
  have hA : ∀ q, (inA1 a s.heap.size) q → N0 ≤ q := fun q h => h.elim (fun z => z ▸ ha9) (fun z => Nat.le_trans hC.2.1 z)
  have hn : ∀ q, s.heap.size ≤ q → (inA1 a s.heap.size) q := fun q h => Or.inr h
  have hS : va_S (inA1 a s.heap.size) s.heap s.heap [] := va_S.rf
  have hl : lv_has ls 2 [(0, .ref a), (1, .int x)] := hl
  have f0 : c1 D a (.inr (2, [.int 0])) s.heap := hF
  have g_f0 : (inA1 a s.heap.size) a := Or.inl rfl
  refine lv_aload_n (pc := 0) hx hb dJ6_init_d00df_0 rfl (lv_at hl 0 rfl) ?_
  refine k_v (pc := 1) (k_I E hC hS hA hl.1 (c_Jxd2413_init_da8c8 l D tk N0 sa s.heap.size a) kw_1588 kw_1427 kw_16 kw_1428 rfl (n := 0) (by decide +kernel) rfl ⟨⟨rfl, rfl⟩, ⟨by decide, by decide⟩, by decide, by decide⟩ rfl (Nat.le_of_ble_eq_true rfl) trivial dJ6_init_d00df_1) hS (fun q z w => absurd w (Nat.not_le.mpr z)) hn (fun H locs hR hz hk hS => ?_)
  have f0 := f0.kept (hk _ f0.lt (Nat.not_le.mpr f0.lt))
  refine lv_aload_n (pc := 4) hx hb dJ6_init_d00df_4 rfl (lv_at hl 0 rfl) ?_
  refine lv_iload_n (pc := 5) hx hb dJ6_init_d00df_5 rfl (lv_at hl 1 rfl) ?_
  refine r_putF (pc := 6) E hC (hnm.trans rfl) f0 hS g_f0 0 tyJ6 tyJ6_ok nmJ6 rfl (by decide) (Nat.le_of_ble_eq_true rfl) uJ6 (List.mem_cons_of_mem _ kw_1589) (fun _ h => h) rfl rfl rfl rfl dJ6_init_d00df_6 (fun H locs n_ ho hz hS => ?_)
  have f0 : c1 D a (.inr (2, [.int x])) H := n_
  refine r_vret (pc := 9) E hr hlk hS (by decide) (by decide) ?_ dJ6_init_d00df_9
  exact f0
set_option maxHeartbeats 4000000 in
set_option maxRecDepth 100000 in
/-- java/lang/Integer.intValue()I -/
theorem c_J6_intValue_8abf5 (l : Launch) (D : va_G) (tk : Nat → ClassId) (N0 : Nat) (sa : Nat → Nat)  (sz : Nat) (a : Nat) (x : Int32) : Met l yJ6_intValue_8abf5 (wsy yJ6_intValue_8abf5 cJ6_intValue_8abf5 1 (some .int)) ({ frames := 0, cells := 0, slots := 0, locals := 0 } : Room) (cP D tk N0 sa [.ref a] sz (fun H => xf D 2 a 0 (.int x) H)) (kQi (fun r H => r = x) (nwA sz)) (0) (0) (nwA sz) := by
  refine mStart RJ6 rfl (by decide +kernel) (Nat.le_of_ble_eq_true rfl) ?_
  intro p e s m args below meth c E hr hlk hnm hsz hC hF ls hl
  subst hsz
  obtain ⟨hx, hb, -⟩ := id E
  have hA : ∀ q, (nwA s.heap.size) q → N0 ≤ q := fun q h => Nat.le_trans hC.2.1 h
  have hn : ∀ q, s.heap.size ≤ q → (nwA s.heap.size) q := fun q h => h
  have hS : va_S (nwA s.heap.size) s.heap s.heap [] := va_S.rf
  have hl : lv_has ls 1 [(0, .ref a)] := hl
  have h0 : xf D 2 a 0 (.int x) s.heap := hF
  refine lv_aload_n (pc := 0) hx hb dJ6_intValue_8abf5_0 rfl (lv_at hl 0 rfl) ?_
  refine r_getX (pc := 1) E hC h0 rfl (by decide) uJ6 (List.mem_cons_of_mem _ kw_1589) (fun _ h => h) dJ6_intValue_8abf5_1 ?_
  refine r_iret (pc := 4) E hr hlk hS (by decide) (by decide) ?_ dJ6_intValue_8abf5_4
  rfl
