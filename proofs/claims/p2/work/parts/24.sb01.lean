set_option maxHeartbeats 4000000 in
set_option maxRecDepth 100000 in
/-- java/lang/AbstractStringBuilder.ensureCapacityInternal(I)V -/
theorem c_J5_ensureCapacityInternal_d00df (l : Launch) (D : va_G) (tk : Nat → ClassId) (N0 : Nat) (sa : Nat → Nat)  (sz : Nat) (a v cap : Nat) (ml cn mn : Int32) (mk : Nat) (ha9 : N0 ≤ a) (hmk : mn = nI mk) (hcap : cap ≤ 1000000) (hmk9 : mk ≤ 1000000) : Met l yJ5_ensureCapacityInternal_d00df (wsy yJ5_ensureCapacityInternal_d00df cJ5_ensureCapacityInternal_d00df 3 none) ({ frames := 3, cells := sbK cap mk, slots := sbS cap mk, locals := 69 } : Room) (cP D tk N0 sa [.ref a, .int mn] sz (fun H => SBo D a v ml cn H ∧ BA D tk v cap H)) (kQv (fun H => ∃ v1, (v1 = v ∨ sz ≤ v1) ∧ SBo D a v1 ml cn H ∧ BA D tk v1 (sbC cap mk) H) (inA1 a sz)) (sbK cap mk) (sbS cap mk) (inA1 a sz) := by
  refine mStart RJ5 rfl (by decide +kernel) (Nat.le_of_ble_eq_true rfl) ?_
  intro p e s m args below meth c E hr hlk hnm hsz hC hF ls hl
  subst hsz
  obtain ⟨hx, hb, -⟩ := id E
  have hA : ∀ q, (inA1 a s.heap.size) q → N0 ≤ q := fun q h => h.elim (fun z => z ▸ ha9) (fun z => Nat.le_trans hC.2.1 z)
  have hn : ∀ q, s.heap.size ≤ q → (inA1 a s.heap.size) q := fun q h => Or.inr h
  have hS : va_S (inA1 a s.heap.size) s.heap s.heap [] := va_S.rf
  have hl : lv_has ls 3 [(0, .ref a), (1, .int mn)] := hl
  obtain ⟨f0, hB⟩ : SBo D a v ml cn s.heap ∧ BA D tk v cap s.heap := hF
  have g_f0 : (inA1 a s.heap.size) a := Or.inl rfl
  refine lv_aload_n (pc := 0) hx hb dJ5_ensureCapacityInternal_d00df_0 rfl (lv_at hl 0 rfl) ?_
  refine r_get (pc := 1) E hC f0 0 (v := .ref v) rfl rfl (by decide) uJ4 (List.mem_cons_of_mem _ kw_167) (fun _ h => h) dJ5_ensureCapacityInternal_d00df_1 ?_
  obtain ⟨x_1, ex_1⟩ : ∃ z9 : Int32, z9 = nI cap := ⟨_, rfl⟩
  refine r_alenB (pc := 4) E hC hB (v := x_1) ex_1.symm dJ5_ensureCapacityInternal_d00df_4 ?_
  refine lv_aload_n (pc := 5) hx hb dJ5_ensureCapacityInternal_d00df_5 rfl (lv_at hl 0 rfl) ?_
  refine r_get (pc := 6) E hC f0 1 (v := .int 0) rfl rfl (by decide) uJ4 (List.mem_cons_of_mem _ kw_168) (fun _ h => h) dJ5_ensureCapacityInternal_d00df_6 ?_
  refine lv_ishr (pc := 9) hx hb dJ5_ensureCapacityInternal_d00df_9 ?_
  obtain ⟨x_2, ex_2⟩ : ∃ z9 : Int32, z9 = x_1 >>> (0 &&& 31) := ⟨_, rfl⟩
  rw [← ex_2]
  refine lv_istore_n (pc := 10) (lv' := [(2, .int x_2), (0, .ref a), (1, .int mn)]) hx hb dJ5_ensureCapacityInternal_d00df_10 rfl hl (by decide) rfl (fun ls hl => ?_)
  have hle9 := ens_le ex_1 ex_2 hmk hcap hmk9
  refine lv_iload_n (pc := 11) hx hb dJ5_ensureCapacityInternal_d00df_11 rfl (lv_at hl 2 rfl) ?_
  refine lv_iload_n (pc := 12) hx hb dJ5_ensureCapacityInternal_d00df_12 rfl (lv_at hl 0 rfl) ?_
  refine lv_isub (pc := 13) hx hb dJ5_ensureCapacityInternal_d00df_13 ?_
  refine lv_if_le (pc := 14) (tgt := 38) hx hb dJ5_ensureCapacityInternal_d00df_14 (by decide) (fun c_3 => ?_) (fun c_3 => ?_)
  · refine r_vret (pc := 38) E hr hlk hS (by omega) (by omega) ?_ dJ5_ensureCapacityInternal_d00df_38
    exact ⟨v, Or.inl rfl, f0, by rw [sbC, if_pos (hle9.mp c_3)]; exact hB⟩
  · have hlt9 : cap < mk := Nat.not_le.mp (fun z9 => c_3 (hle9.mpr z9))
    have hK9 : sbK cap mk = 1 := if_neg (by omega)
    have hS9 : sbS cap mk = max mk (2 * cap + 2) := if_neg (by omega)
    refine lv_aload_n (pc := 17) hx hb dJ5_ensureCapacityInternal_d00df_17 rfl (lv_at hl 1 rfl) ?_
    refine lv_aload_n (pc := 18) hx hb dJ5_ensureCapacityInternal_d00df_18 rfl (lv_at hl 1 rfl) ?_
    refine r_get (pc := 19) E hC f0 0 (v := .ref v) rfl rfl (by decide) uJ4 (List.mem_cons_of_mem _ kw_167) (fun _ h => h) dJ5_ensureCapacityInternal_d00df_19 ?_
    refine lv_aload_n (pc := 22) hx hb dJ5_ensureCapacityInternal_d00df_22 rfl (lv_at hl 1 rfl) ?_
    refine lv_iload_n (pc := 23) hx hb dJ5_ensureCapacityInternal_d00df_23 rfl (lv_at hl 2 rfl) ?_
    refine k_i (pc := 24) (k_U E hC hS hA hl.1 (c1.recv hC f0 rfl) (c_J5_newCapacity_0f7a4 l D tk N0 sa s.heap.size a v cap ml cn mn mk hmk hcap hmk9 hlt9) kw_193 kw_1811 kw_195 (selUp (n := 4) (E.2.2.2.2 _ (List.mem_cons_of_mem _ kw_150)) (va_Nw.use rfl (hC.2.2.2.1 _ kn_194 rfl)) (E.2.2.2.2 _ (List.mem_cons_of_mem _ kw_195)) (E.2.2.2.2 _ (List.mem_cons_of_mem _ kw_1811))) kw_18 kw_196 (n := 1) (by decide +kernel) rfl ⟨⟨rfl, rfl⟩, ⟨Nat.le_of_ble_eq_true rfl, Nat.le_of_ble_eq_true rfl⟩, (by dsimp only; omega), (by dsimp only; omega)⟩ rfl (Nat.le_of_ble_eq_true rfl) ⟨f0, hB⟩ dJ5_ensureCapacityInternal_d00df_24) hS (fun q z w => absurd w (Nat.not_le.mpr z)) hn (fun r_4 H locs hR hz hk hS => ?_)
    have f0 := f0.kept (hk _ f0.lt (Nat.not_le.mpr f0.lt))
    have hB := hB.kept (hk _ hB.lt (Nat.not_le.mpr hB.lt))
    have hr9 : r_4 = nI (max mk (2 * cap + 2)) := hR
    refine lv_aload_n (pc := 27) hx hb dJ5_ensureCapacityInternal_d00df_27 rfl (lv_at hl 1 rfl) ?_
    refine r_get (pc := 28) E hC f0 1 (v := .int 0) rfl rfl (by decide) uJ4 (List.mem_cons_of_mem _ kw_168) (fun _ h => h) dJ5_ensureCapacityInternal_d00df_28 ?_
    refine lv_ishl (pc := 31) hx hb dJ5_ensureCapacityInternal_d00df_31 ?_
    have hZ0_ := hS.1
    have t_f0 := f0.lt
    have t_hB := hB.lt
    refine k_r (pc := 32) (k_S E hC hS hA hl.1 (c_J7_copyOf_9075b l D tk N0 sa H.size v cap (max mk (2 * cap + 2)) (r_4 <<< (0 &&& 31)) (by rw [hr9]; exact sb_shl0 _) (by omega) (by omega)) kw_208 kw_209 kw_24 kw_210 (n := 2) (by decide +kernel) rfl ⟨⟨rfl, rfl⟩, ⟨Nat.le_of_ble_eq_true rfl, Nat.le_of_ble_eq_true rfl⟩, (by dsimp only; omega), (by dsimp only; omega)⟩ rfl (Nat.le_of_ble_eq_true rfl) hB dJ5_ensureCapacityInternal_d00df_32) hS (fun q z w => absurd w (Nat.not_le.mpr z)) hn (fun r_5 H locs hR hz hk hS => ?_)
    have f0 := f0.kept (hk _ f0.lt (Nat.not_le.mpr f0.lt))
    have hB := hB.kept (hk _ hB.lt (Nat.not_le.mpr hB.lt))
    obtain ⟨z9_, f6⟩ := hR
    have s_f6 : s.heap.size ≤ r_5 := Nat.le_trans hZ0_ z9_
    have g_f6 := hn _ s_f6
    have l_f0_f6 : a < r_5 := Nat.lt_of_lt_of_le t_f0 z9_
    have l_hB_f6 : v < r_5 := Nat.lt_of_lt_of_le t_hB z9_
    refine r_put (pc := 35) E hC f0 hS g_f0 0 tyJ4 tyJ4_ok nmJ4 rfl (by decide) (Nat.le_of_ble_eq_true rfl) uJ4 (List.mem_cons_of_mem _ kw_167) (fun _ h => h) rfl rfl rfl dJ5_ensureCapacityInternal_d00df_35 (fun H locs n_ ho hz hS => ?_)
    have hB := hB.kept (ho _ (clA.ne hB.cl f0.cl (hC.ao 1 1 rfl rfl)))
    have f6 := f6.kept (ho _ (clA.ne f6.cl f0.cl (hC.ao 1 1 rfl rfl)))
    have f0 : c1 D a (.inr (1, [.ref r_5, .int 0, .int ml, .int cn])) H := n_
    refine r_vret (pc := 38) E hr hlk hS (by omega) (by omega) ?_ dJ5_ensureCapacityInternal_d00df_38
    exact ⟨_, Or.inr s_f6, f0, by rw [sbC, if_neg (by omega)]; exact f6⟩
