set_option maxHeartbeats 4000000 in
set_option maxRecDepth 100000 in
/-- jdk/internal/util/Preconditions.checkFromToIndex(IIILjava/util/function/BiFunction;)I -/
theorem c_J3_checkFromToIndex_8c36e_A (l : Launch) (D : va_G) (tk : Nat → ClassId) (N0 : Nat) (sa : Nat → Nat)  (sz : Nat) (fr to ln : Int32) (i j n : Nat) (q9 : Nat) (hfr : fr = nI i) (hto : to = nI j) (hln : ln = nI n) (hij : i ≤ j) (hjn : j ≤ n) (hn9 : n ≤ 100000000) : Met l yJ3_checkFromToIndex_8c36e (wsy yJ3_checkFromToIndex_8c36e cJ3_checkFromToIndex_8c36e 4 (some .int)) ({ frames := 0, cells := 0, slots := 0, locals := 0 } : Room) (cP D tk N0 sa [.int fr, .int to, .int ln, .ref q9] sz (fun H => True)) (kQi (fun r H => True) (nwA sz)) (0) (0) (nwA sz) := by
  refine mStart RJ3 rfl (by decide +kernel) (Nat.le_of_ble_eq_true rfl) ?_
  intro p e s m args below meth c E hr hlk hnm hsz hC hF ls hl
  subst hsz
  obtain ⟨hx, hb, -⟩ := id E
  have hA : ∀ q, (nwA s.heap.size) q → N0 ≤ q := fun q h => Nat.le_trans hC.2.1 h
  have hn : ∀ q, s.heap.size ≤ q → (nwA s.heap.size) q := fun q h => h
  have hS : va_S (nwA s.heap.size) s.heap s.heap [] := va_S.rf
  have hl : lv_has ls 4 [(0, .int fr), (1, .int to), (2, .int ln), (3, .ref q9)] := hl
  refine lv_iload_n (pc := 0) hx hb dJ3_checkFromToIndex_8c36e_0 rfl (lv_at hl 0 rfl) ?_
  refine lv_if_lt (pc := 1) (tgt := 14) hx hb dJ3_checkFromToIndex_8c36e_1 (by decide) (fun c_1 => ?_) (fun c_1 => ?_)
  · exact absurd c_1 (by rw [hfr]; exact nI_pos (by omega))
  refine lv_iload_n (pc := 4) hx hb dJ3_checkFromToIndex_8c36e_4 rfl (lv_at hl 0 rfl) ?_
  refine lv_iload_n (pc := 5) hx hb dJ3_checkFromToIndex_8c36e_5 rfl (lv_at hl 1 rfl) ?_
  refine lv_icmp_gt (pc := 6) (tgt := 14) hx hb dJ3_checkFromToIndex_8c36e_6 (by decide) (fun c_2 => ?_) (fun c_2 => ?_)
  · exact absurd c_2 (by rw [hfr, hto]; exact nI_nlt hij (by omega))
  refine lv_iload_n (pc := 9) hx hb dJ3_checkFromToIndex_8c36e_9 rfl (lv_at hl 1 rfl) ?_
  refine lv_iload_n (pc := 10) hx hb dJ3_checkFromToIndex_8c36e_10 rfl (lv_at hl 2 rfl) ?_
  refine lv_icmp_le (pc := 11) (tgt := 22) hx hb dJ3_checkFromToIndex_8c36e_11 (by decide) (fun c_3 => ?_) (fun c_3 => ?_)
  rotate_left
  · exact absurd (by rw [hto, hln]; exact nI_le hjn (by omega)) c_3
  refine lv_iload_n (pc := 22) hx hb dJ3_checkFromToIndex_8c36e_22 rfl (lv_at hl 0 rfl) ?_
  refine r_iret (pc := 23) E hr hlk hS (by decide) (by decide) ?_ dJ3_checkFromToIndex_8c36e_23
  exact trivial
