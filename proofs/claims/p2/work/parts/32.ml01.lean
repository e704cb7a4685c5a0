set_option maxHeartbeats 4000000 in
set_option maxRecDepth 100000 in
/-- BestratiosModel.isFit([J)Z -/
theorem c_X5_isFit (l : Launch) (D : va_G) (tk : Nat → ClassId) (N0 : Nat) (sa : Nat → Nat)  (sz : Nat) (pa : Nat) (ta : Int64) (ba : Int64) : Met l yX5_isFit (wsy yX5_isFit cX5_isFit 1 (some .boolean)) ({ frames := 0, cells := 0, slots := 0, locals := 0 } : Room) (cP D tk N0 sa [.ref pa] sz (fun H => L2 D tk pa ta ba H)) (kQi (fun r H => r = m_fit ta ba) (nwA sz)) (0) (0) (nwA sz) := by
  refine mStart RX5 rfl (by decide +kernel) (Nat.le_of_ble_eq_true rfl) ?_
  intro p e s m args below meth c E hr hlk hnm hsz hC hF ls hl
  subst hsz
  obtain ⟨hx, hb, -⟩ := id E
  have hA : ∀ q, (nwA s.heap.size) q → N0 ≤ q := fun q h => Nat.le_trans hC.2.1 h
  have hn : ∀ q, s.heap.size ≤ q → (nwA s.heap.size) q := fun q h => h
  have hS : va_S (nwA s.heap.size) s.heap s.heap [] := va_S.rf
  have hl : lv_has ls 1 [(0, .ref pa)] := hl
  have fa : L2 D tk pa ta ba s.heap := hF
  refine lv_aload_n (pc := 0) hx hb dX5_isFit_0 rfl (lv_at hl 0 rfl) ?_
  refine lv_ifnull (pc := 1) hx hb dX5_isFit_1 ?_
  refine lv_aload_n (pc := 4) hx hb dX5_isFit_4 rfl (lv_at hl 0 rfl) ?_
  refine lv_iconst (pc := 5) (v := 0) hx hb dX5_isFit_5 (by decide) ?_
  refine r_l0 (pc := 6) E hC fa dX5_isFit_6 ?_
  refine lv_ldc2 (pc := 7) (v := (-1000000000)) hx hb E.2.2.2.1 (E.2.2.2.2 _ (List.mem_cons_of_mem _ kw_1262)) dX5_isFit_7 ?_
  refine r_lclt (pc := 10) (tgt := 38) E dX5_isFit_10 dX5_isFit_11 (by decide) (fun c_1 => ?_) (fun c_1 => ?_)
  · refine lv_iconst (pc := 38) (v := 0) hx hb dX5_isFit_38 (by decide) ?_
    refine r_zret (pc := 39) E hr hlk hS (by decide) (by decide) rfl ?_ dX5_isFit_39
    first | with_reducible rfl | (simp [m_fit, c_1, Int64.not_le.mpr c_1]; done)
  · refine lv_aload_n (pc := 14) hx hb dX5_isFit_14 rfl (lv_at hl 0 rfl) ?_
    refine lv_iconst (pc := 15) (v := 0) hx hb dX5_isFit_15 (by decide) ?_
    refine r_l0 (pc := 16) E hC fa dX5_isFit_16 ?_
    refine lv_ldc2 (pc := 17) (v := 1000000000) hx hb E.2.2.2.1 (E.2.2.2.2 _ (List.mem_cons_of_mem _ kw_1263)) dX5_isFit_17 ?_
    refine r_lcgt (pc := 20) (tgt := 38) E dX5_isFit_20 dX5_isFit_21 (by decide) (fun c_2 => ?_) (fun c_2 => ?_)
    · refine lv_iconst (pc := 38) (v := 0) hx hb dX5_isFit_38 (by decide) ?_
      refine r_zret (pc := 39) E hr hlk hS (by decide) (by decide) rfl ?_ dX5_isFit_39
      first | with_reducible rfl | (simp [m_fit, c_1, Int64.not_lt.mp c_1, c_2, Int64.not_le.mpr c_2]; done)
    · refine lv_aload_n (pc := 24) hx hb dX5_isFit_24 rfl (lv_at hl 0 rfl) ?_
      refine lv_iconst (pc := 25) (v := 1) hx hb dX5_isFit_25 (by decide) ?_
      refine r_l1 (pc := 26) E hC fa dX5_isFit_26 ?_
      refine lv_ldc2 (pc := 27) (v := 1000000000) hx hb E.2.2.2.1 (E.2.2.2.2 _ (List.mem_cons_of_mem _ kw_1263)) dX5_isFit_27 ?_
      refine r_lcgt (pc := 30) (tgt := 38) E dX5_isFit_30 dX5_isFit_31 (by decide) (fun c_3 => ?_) (fun c_3 => ?_)
      · refine lv_iconst (pc := 38) (v := 0) hx hb dX5_isFit_38 (by decide) ?_
        refine r_zret (pc := 39) E hr hlk hS (by decide) (by decide) rfl ?_ dX5_isFit_39
        first | with_reducible rfl | (simp [m_fit, c_1, Int64.not_lt.mp c_1, c_2, Int64.not_lt.mp c_2, c_3, Int64.not_le.mpr c_3]; done)
      · refine lv_iconst (pc := 34) (v := 1) hx hb dX5_isFit_34 (by decide) ?_
        refine lv_goto (pc := 35) (tgt := 39) hx hb dX5_isFit_35 (by decide) ?_
        refine r_zret (pc := 39) E hr hlk hS (by decide) (by decide) rfl ?_ dX5_isFit_39
        first | with_reducible rfl | (simp [m_fit, c_1, Int64.not_lt.mp c_1, c_2, Int64.not_lt.mp c_2, c_3, Int64.not_lt.mp c_3]; done)
