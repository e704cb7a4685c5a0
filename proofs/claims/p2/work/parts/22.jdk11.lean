set_option maxHeartbeats 4000000 in
set_option maxRecDepth 100000 in
/-- java/lang/AbstractStringBuilder.newCapacity(I)I -/
theorem c_J5_newCapacity_0f7a4 (l : Launch) (D : va_G) (tk : Nat → ClassId) (N0 : Nat) (sa : Nat → Nat)  (sz : Nat) (a v cap : Nat) (ml cn : Int32) (mn : Int32) (mk : Nat) (hmk : mn = nI mk) (hcap : cap ≤ 1000000) (hmk9 : mk ≤ 1000000) (hlt9 : cap < mk) : Met l yJ5_newCapacity_0f7a4 (wsy yJ5_newCapacity_0f7a4 cJ5_newCapacity_0f7a4 6 (some .int)) ({ frames := 2, cells := 0, slots := 0, locals := 44 } : Room) (cP D tk N0 sa [.ref a, .int mn] sz (fun H => SBo D a v ml cn H ∧ BA D tk v cap H)) (kQi (fun r H => r = nI (max mk (2 * cap + 2))) (nwA sz)) (0) (0) (nwA sz) := by
  refine mStart RJ5 rfl (by decide +kernel) (Nat.le_of_ble_eq_true rfl) ?_
  intro p e s m args below meth c E hr hlk hnm hsz hC hF ls hl
  subst hsz
  obtain ⟨hx, hb, -⟩ := id E
  have hA : ∀ q, (nwA s.heap.size) q → N0 ≤ q := fun q h => Nat.le_trans hC.2.1 h
  have hn : ∀ q, s.heap.size ≤ q → (nwA s.heap.size) q := fun q h => h
  have hS : va_S (nwA s.heap.size) s.heap s.heap [] := va_S.rf
  have hl : lv_has ls 6 [(0, .ref a), (1, .int mn)] := hl
  obtain ⟨f0, hB⟩ : SBo D a v ml cn s.heap ∧ BA D tk v cap s.heap := hF
  refine lv_aload_n (pc := 0) hx hb dJ5_newCapacity_0f7a4_0 rfl (lv_at hl 0 rfl) ?_
  refine r_get (pc := 1) E hC f0 0 (v := .ref v) rfl rfl (by decide) uJ4 (List.mem_cons_of_mem _ kw_167) (fun _ h => h) dJ5_newCapacity_0f7a4_1 ?_
  obtain ⟨x_1, ex_1⟩ : ∃ z9 : Int32, z9 = nI cap := ⟨_, rfl⟩
  refine r_alenB (pc := 4) E hC hB ex_1.symm dJ5_newCapacity_0f7a4_4 ?_
  refine lv_istore_n (pc := 5) (lv' := [(2, .int x_1), (0, .ref a), (1, .int mn)]) hx hb dJ5_newCapacity_0f7a4_5 rfl hl (by decide) rfl (fun ls hl => ?_)
  refine lv_iload_n (pc := 6) hx hb dJ5_newCapacity_0f7a4_6 rfl (lv_at hl 2 rfl) ?_
  refine lv_aload_n (pc := 7) hx hb dJ5_newCapacity_0f7a4_7 rfl (lv_at hl 1 rfl) ?_
  refine r_get (pc := 8) E hC f0 1 (v := .int 0) rfl rfl (by decide) uJ4 (List.mem_cons_of_mem _ kw_168) (fun _ h => h) dJ5_newCapacity_0f7a4_8 ?_
  refine lv_ishl (pc := 11) hx hb dJ5_newCapacity_0f7a4_11 ?_
  obtain ⟨x_2, ex_2⟩ : ∃ z9 : Int32, z9 = mn <<< (0 &&& 31) := ⟨_, rfl⟩
  rw [← ex_2]
  refine lv_istore_n (pc := 12) (lv' := [(3, .int x_2), (2, .int x_1), (0, .ref a), (1, .int mn)]) hx hb dJ5_newCapacity_0f7a4_12 rfl hl (by decide) rfl (fun ls hl => ?_)
  refine lv_iload_n (pc := 13) hx hb dJ5_newCapacity_0f7a4_13 rfl (lv_at hl 0 rfl) ?_
  refine lv_iload_n (pc := 14) hx hb dJ5_newCapacity_0f7a4_14 rfl (lv_at hl 1 rfl) ?_
  refine lv_isub (pc := 15) hx hb dJ5_newCapacity_0f7a4_15 ?_
  obtain ⟨x_3, ex_3⟩ : ∃ z9 : Int32, z9 = x_2 - x_1 := ⟨_, rfl⟩
  rw [← ex_3]
  refine lv_istore (pc := 16) (lv' := [(4, .int x_3), (3, .int x_2), (2, .int x_1), (0, .ref a), (1, .int mn)]) hx hb dJ5_newCapacity_0f7a4_16 hl (by decide) rfl (fun ls hl => ?_)
  refine lv_iload_n (pc := 18) hx hb dJ5_newCapacity_0f7a4_18 rfl (lv_at hl 2 rfl) ?_
  refine lv_iload (pc := 19) hx hb dJ5_newCapacity_0f7a4_19 (lv_at hl 0 rfl) ?_
  refine lv_iload_n (pc := 21) hx hb dJ5_newCapacity_0f7a4_21 rfl (lv_at hl 2 rfl) ?_
  refine lv_iconst (pc := 22) (v := 2) hx hb dJ5_newCapacity_0f7a4_22 (by decide) ?_
  refine lv_aload_n (pc := 23) hx hb dJ5_newCapacity_0f7a4_23 rfl (lv_at hl 3 rfl) ?_
  refine r_get (pc := 24) E hC f0 1 (v := .int 0) rfl rfl (by decide) uJ4 (List.mem_cons_of_mem _ kw_168) (fun _ h => h) dJ5_newCapacity_0f7a4_24 ?_
  refine lv_ishl (pc := 27) hx hb dJ5_newCapacity_0f7a4_27 ?_
  refine lv_iadd (pc := 28) hx hb dJ5_newCapacity_0f7a4_28 ?_
  have hq0 := nc_len (y := x_1 + ((2 : Int32) <<< ((0 : Int32) &&& 31))) ex_1.symm.symm hmk ex_2 ex_3 rfl hcap hmk9 hlt9
  obtain ⟨hq1, hq2, hq3⟩ := nc_pos (k := max mk (2 * cap + 2)) (by omega) (by omega)
  have hq4 : 0 < x_1 + f_max x_3 (x_1 + ((2 : Int32) <<< ((0 : Int32) &&& 31))) := by rw [hq0]; exact hq1
  have hq5 : x_1 + f_max x_3 (x_1 + ((2 : Int32) <<< ((0 : Int32) &&& 31))) ≤ 2147483639 := by rw [hq0]; exact hq2
  refine k_i (pc := 29) (k_S E hC hS hA hl.1 (c_J8_newLength_cabcc l D tk N0 sa s.heap.size x_1 x_3 (x_1 + ((2 : Int32) <<< ((0 : Int32) &&& 31))) (by assumption) (by assumption)) kw_197 kw_198 kw_23 kw_199 (n := 3) (by decide +kernel) rfl ⟨⟨rfl, rfl⟩, ⟨by decide, by decide⟩, by decide, by decide⟩ rfl (Nat.le_of_ble_eq_true rfl) trivial dJ5_newCapacity_0f7a4_29) hS (fun q z w => absurd w (Nat.not_le.mpr z)) hn (fun r_4 H locs hR hz hk hS => ?_)
  have er_4 := hR
  have f0 := f0.new hk
  have hB := hB.kept (hk _ hB.lt (Nat.not_le.mpr hB.lt))
  refine lv_istore (pc := 32) (lv' := [(5, .int r_4), (4, .int x_3), (3, .int x_2), (2, .int x_1), (0, .ref a), (1, .int mn)]) hx hb dJ5_newCapacity_0f7a4_32 hl (by decide) rfl (fun ls hl => ?_)
  refine lv_iload (pc := 34) hx hb dJ5_newCapacity_0f7a4_34 (lv_at hl 0 rfl) ?_
  refine lv_ldc (pc := 36) (v := 2147483647) hx hb E.2.2.2.1 (E.2.2.2.2 _ (List.mem_cons_of_mem _ kw_207)) dJ5_newCapacity_0f7a4_36 ?_
  refine lv_icmp_ne (pc := 38) (tgt := 51) hx hb dJ5_newCapacity_0f7a4_38 (by decide) (fun c_6 => ?_) (fun c_6 => ?_)
  rotate_left
  · exact absurd c_6 (fun z => hq3 (by rw [← hq0, ← er_4]; exact z))
  refine lv_iload (pc := 51) hx hb dJ5_newCapacity_0f7a4_51 (lv_at hl 0 rfl) ?_
  refine lv_aload_n (pc := 53) hx hb dJ5_newCapacity_0f7a4_53 rfl (lv_at hl 4 rfl) ?_
  refine r_get (pc := 54) E hC f0 1 (v := .int 0) rfl rfl (by decide) uJ4 (List.mem_cons_of_mem _ kw_168) (fun _ h => h) dJ5_newCapacity_0f7a4_54 ?_
  refine lv_ishr (pc := 57) hx hb dJ5_newCapacity_0f7a4_57 ?_
  refine r_iret (pc := 58) E hr hlk hS (by decide) (by decide) ?_ dJ5_newCapacity_0f7a4_58
  show r_4 >>> ((0 : Int32) &&& 31) = _
  rw [show ((0 : Int32) &&& 31) = 0 from by decide, Int32.shiftRight_zero, er_4, hq0]
