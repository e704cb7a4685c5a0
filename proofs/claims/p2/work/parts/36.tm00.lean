set_option maxHeartbeats 4000000 in
set_option maxRecDepth 100000 in
/-- BestratiosModel.termsOf([J)Ljava/util/ArrayList; -/
theorem c_X5_termsOf (l : Launch) (D : va_G) (tk : Nat → ClassId) (N0 : Nat) (sa : Nat → Nat)  (sz : Nat) (pa : Nat) (ta : Int64) (ba : Int64) (hfa : m_F ta ba) : Met l yX5_termsOf (wsy yX5_termsOf cX5_termsOf 10 (some (.object "java/util/ArrayList"))) ({ frames := 7, cells := 49, slots := 175, locals := 157 } : Room) (cP D tk N0 sa [.ref pa] sz (fun H => L2 D tk pa ta ba H)) (kQr (fun r H => ∃ (n bb cap : Nat) (f : Nat → Option Nat) (w : Nat → Value) (md : Int32), sz ≤ r ∧ sz ≤ bb ∧ c1 D r (.inr (7, [.int md, .ref bb, .int (nI n)])) H ∧ c1 D bb (.inl (tk 4, cap, .inr (.inr (.inr (.inr f))))) H ∧ EL D 3 n f w H ∧ PT n w 0 ∧ 1 ≤ n ∧ n ≤ 43 ∧ n ≤ cap ∧ m_cap cap ∧ (n = (m_TE ta ba).length ∧ ∀ i, i < n → w i = .long (m_at ta ba i)) ∧ ∃ g : Int, EU n w ta.toInt g 0) (nwA sz)) (49) (175) (nwA sz) := by
  refine mStart RX5 rfl (by decide +kernel) (Nat.le_of_ble_eq_true rfl) ?_
  intro p e s m args below meth c E hr hlk hnm hsz hC hF ls hl
  subst hsz
  obtain ⟨hx, hb, -⟩ := id E
  have hA : ∀ q, (nwA s.heap.size) q → N0 ≤ q := fun q h => Nat.le_trans hC.2.1 h
  have hn : ∀ q, s.heap.size ≤ q → (nwA s.heap.size) q := fun q h => h
  have hS : va_S (nwA s.heap.size) s.heap s.heap [] := va_S.rf
  have hl : lv_has ls 10 [(0, .ref pa)] := hl
  obtain ⟨Q, hQ⟩ : ∃ Q, Q = MQ below (kQr (fun r H => ∃ (n bb cap : Nat) (f : Nat → Option Nat) (w : Nat → Value) (md : Int32), s.heap.size ≤ r ∧ s.heap.size ≤ bb ∧ c1 D r (.inr (7, [.int md, .ref bb, .int (nI n)])) H ∧ c1 D bb (.inl (tk 4, cap, .inr (.inr (.inr (.inr f))))) H ∧ EL D 3 n f w H ∧ PT n w 0 ∧ 1 ≤ n ∧ n ≤ 43 ∧ n ≤ cap ∧ m_cap cap ∧ (n = (m_TE ta ba).length ∧ ∀ i, i < n → w i = .long (m_at ta ba i)) ∧ ∃ g : Int, EU n w ta.toInt g 0) (nwA s.heap.size)) args s (49) (175) (nwA s.heap.size) := ⟨_, rfl⟩
  rw [← hQ]
  have fa : L2 D tk pa ta ba s.heap := hF
  have hS0_ := hS
  refine r_new (pc := 0) E hC hS tyJx4a65c_ok uJx4a65c (List.mem_cons_of_mem _ kw_1170) (List.mem_cons_of_mem _ kw_1171) (List.mem_cons_of_mem _ kw_8) (ci := 7) rfl (fs := [.int 0, .null, .int 0]) (by decide) (by dsimp only; omega) (by dsimp only; omega) dX5_termsOf_0 (fun qf1 H zq_ n_ ho_ hS => ?_)
  have l_fa_f1 : pa < qf1 := zq_ ▸ fa.lt
  have fa := fa.kept (ho_ _ fa.lt)
  have f1 := n_
  have s_f1 : s.heap.size ≤ qf1 := zq_ ▸ hS0_.1
  have g_f1 := hn _ s_f1
  refine lv_dup (pc := 3) hx hb dX5_termsOf_3 rfl ?_
  refine k_v (pc := 4) (k_I E hC hS hA hl.1 (c_Jx4a65c_init_da8c8 l D tk N0 sa H.size qf1 (hA _ g_f1)) kw_1172 kw_1173 kw_8 kw_1174 rfl (n := 0) (by decide +kernel) rfl ⟨⟨rfl, rfl⟩, ⟨Nat.le_of_ble_eq_true rfl, Nat.le_of_ble_eq_true rfl⟩, (by dsimp only; omega), (by dsimp only; omega)⟩ rfl (Nat.le_of_ble_eq_true rfl) f1 dX5_termsOf_4) hS (inA1.to g_f1) hn (fun H locs hR hz hk hS => ?_)
  have fa := fa.kept (hk _ fa.lt (inA1.not (clA.ne fa.cla f1.cl (hC.ao 7 0 rfl rfl)) fa.lt))
  have f1 := hR
  refine lv_astore_n (pc := 7) (lv' := [(1, .ref qf1), (0, .ref pa)]) hx hb dX5_termsOf_7 rfl hl (by decide) rfl (fun ls hl => ?_)
  refine lv_aload_n (pc := 8) hx hb dX5_termsOf_8 rfl (lv_at hl 1 rfl) ?_
  refine lv_iconst (pc := 9) (v := 0) hx hb dX5_termsOf_9 (by decide) ?_
  refine r_l0 (pc := 10) E hC fa dX5_termsOf_10 ?_
  refine lv_lstore_n (pc := 11) (lv' := [(2, .long ta), (1, .ref qf1), (0, .ref pa)]) hx hb dX5_termsOf_11 rfl hl (by decide) rfl (fun ls hl => ?_)
  refine lv_aload_n (pc := 12) hx hb dX5_termsOf_12 rfl (lv_at hl 2 rfl) ?_
  refine lv_iconst (pc := 13) (v := 1) hx hb dX5_termsOf_13 (by decide) ?_
  refine r_l1 (pc := 14) E hC fa dX5_termsOf_14 ?_
  refine lv_lstore (pc := 15) (lv' := [(4, .long ba), (2, .long ta), (1, .ref qf1), (0, .ref pa)]) hx hb dX5_termsOf_15 hl (by decide) rfl (fun ls hl => ?_)
  refine lv_lload (pc := 17) hx hb dX5_termsOf_17 (lv_at hl 0 rfl) ?_
  refine lv_lconst (pc := 19) (v := 0) hx hb dX5_termsOf_19 (by decide) ?_
  refine r_lceq (pc := 20) (tgt := 61) E dX5_termsOf_20 dX5_termsOf_21 (by decide) (fun c_3 => ?_) (fun c_3 => ?_)
  · exact absurd c_3 (m_ne0 hfa.2.1)
  refine lv_lload_n (pc := 24) hx hb dX5_termsOf_24 rfl (lv_at hl 1 rfl) ?_
  refine lv_lload (pc := 25) hx hb dX5_termsOf_25 (lv_at hl 0 rfl) ?_
  refine k_l (pc := 27) (k_S E hC hS hA hl.1 (c_X5_floor l D tk N0 sa H.size ta ba (m_ne0 hfa.2.1)) kw_1392 kw_1393 kw_5 kw_1394 (n := 2) (by decide +kernel) rfl ⟨⟨rfl, rfl⟩, ⟨Nat.le_of_ble_eq_true rfl, Nat.le_of_ble_eq_true rfl⟩, (by dsimp only; omega), (by dsimp only; omega)⟩ rfl (Nat.le_of_ble_eq_true rfl) trivial dX5_termsOf_27) hS (fun q z w => absurd w (Nat.not_le.mpr z)) hn (fun r_4 H locs hR hz hk hS => ?_)
  have er_4 := hR
  have fa := fa.kept (hk _ fa.lt (Nat.not_le.mpr fa.lt))
  have f1 := f1.kept (hk _ f1.lt (Nat.not_le.mpr f1.lt))
  refine lv_lstore (pc := 30) (lv' := [(6, .long r_4), (4, .long ba), (2, .long ta), (1, .ref qf1), (0, .ref pa)]) hx hb dX5_termsOf_30 hl (by decide) rfl (fun ls hl => ?_)
  refine lv_aload_n (pc := 32) hx hb dX5_termsOf_32 rfl (lv_at hl 3 rfl) ?_
  refine lv_lload (pc := 33) hx hb dX5_termsOf_33 (lv_at hl 0 rfl) ?_
  have hZ0_ := hS.1
  have t_fa := fa.lt
  have t_f1 := f1.lt
  refine k_r (pc := 35) (k_S E hC hS hA hl.1 (c_J13_valueOf_928b6 l D tk N0 sa H.size r_4) kw_1414 kw_1415 kw_17 kw_1416 (n := 1) (by decide +kernel) rfl ⟨⟨rfl, rfl⟩, ⟨Nat.le_of_ble_eq_true rfl, Nat.le_of_ble_eq_true rfl⟩, (by dsimp only; omega), (by dsimp only; omega)⟩ rfl (Nat.le_of_ble_eq_true rfl) trivial dX5_termsOf_35) hS (fun q z w => absurd w (Nat.not_le.mpr z)) hn (fun r_6 H locs hR hz hk hS => ?_)
  have fa := fa.kept (hk _ fa.lt (Nat.not_le.mpr fa.lt))
  have f1 := f1.kept (hk _ f1.lt (Nat.not_le.mpr f1.lt))
  have f7 := hR
  have hZ0_ := hS.1
  have t_fa := fa.lt
  have t_f1 := f1.lt
  have t_f7 := f7.lt
  refine k_i (pc := 38) (k_V E hC hS hA hl.1 (c1.recv hC f1 rfl) rfl (c_Jx4a65c_add_9ea2d_E l D tk N0 sa H.size qf1 r_6 3 0 (.long r_4) (fun _ => .null) (hA _ g_f1) (Or.inl rfl)) kw_1434 kw_1435 kw_1436 kw_8 kw_1437 (n := 1) (by decide +kernel) rfl ⟨⟨rfl, rfl⟩, ⟨Nat.le_of_ble_eq_true rfl, Nat.le_of_ble_eq_true rfl⟩, (by dsimp only; omega), (by dsimp only; omega)⟩ rfl (Nat.le_of_ble_eq_true rfl) ⟨f1, f7⟩ dX5_termsOf_38) hS (inA1.to g_f1) hn (fun r_8 H locs hR hz hk hS => ?_)
  have fa := fa.kept (hk _ fa.lt (inA1.not (clA.ne fa.cla f1.cl (hC.ao 7 0 rfl rfl)) fa.lt))
  have f7 := f7.kept (hk _ f7.lt (inA1.not (clA.ne f7.cl f1.cl (hC.oo 3 7 rfl rfl (by decide))) f7.lt))
  obtain ⟨hr9, q9, z9_, f1, f9, e9⟩ := hR
  have s_f9 : s.heap.size ≤ q9 := Nat.le_trans hZ0_ z9_
  have g_f9 := hn _ s_f9
  have l_fa_f9 : pa < q9 := Nat.lt_of_lt_of_le t_fa z9_
  have l_f1_f9 : qf1 < q9 := Nat.lt_of_lt_of_le t_f1 z9_
  have l_f7_f9 : r_6 < q9 := Nat.lt_of_lt_of_le t_f7 z9_
  rw [hr9]
  refine lv_pop (pc := 41) hx hb dX5_termsOf_41 rfl ?_
  refine lv_lload_n (pc := 42) hx hb dX5_termsOf_42 rfl (lv_at hl 2 rfl) ?_
  refine lv_lload (pc := 43) hx hb dX5_termsOf_43 (lv_at hl 0 rfl) ?_
  refine lv_lload (pc := 45) hx hb dX5_termsOf_45 (lv_at hl 1 rfl) ?_
  refine lv_lmul (pc := 47) hx hb dX5_termsOf_47 ?_
  refine lv_lsub (pc := 48) hx hb dX5_termsOf_48 ?_
  obtain ⟨x_10, ex_10⟩ : ∃ z9 : Int64, z9 = ta - (r_4 * ba) := ⟨_, rfl⟩
  rw [← ex_10]
  refine lv_lstore (pc := 49) (lv' := [(8, .long x_10), (6, .long r_4), (4, .long ba), (2, .long ta), (1, .ref qf1), (0, .ref pa)]) hx hb dX5_termsOf_49 hl (by decide) rfl (fun ls hl => ?_)
  have hS1 := m_T1 hfa er_4 ex_10
  have hq9 := er_4
  have hl9 := ex_10
  have hL1 := m_left hfa.1 hfa.2.1 hfa.2.2 er_4 ex_10
  refine lv_lload (pc := 51) hx hb dX5_termsOf_51 (lv_at hl 2 rfl) ?_
  refine lv_lstore_n (pc := 53) (lv' := [(2, .long ba), (8, .long x_10), (6, .long r_4), (4, .long ba), (1, .ref qf1), (0, .ref pa)]) hx hb dX5_termsOf_53 rfl hl (by decide) rfl (fun ls hl => ?_)
  refine lv_lload (pc := 54) hx hb dX5_termsOf_54 (lv_at hl 1 rfl) ?_
  refine lv_lstore (pc := 56) (lv' := [(4, .long x_10), (2, .long ba), (8, .long x_10), (6, .long r_4), (1, .ref qf1), (0, .ref pa)]) hx hb dX5_termsOf_56 hl (by decide) rfl (fun ls hl => ?_)
  refine lv_goto (pc := 58) (tgt := 17) hx hb dX5_termsOf_58 (by decide) ?_
  have loop_17 : ∀ (n : Nat) (k : Nat) (v9 : Nat) (c9 : Nat) (m9 : Int32) (f9 : Nat → Option Nat) (w9 : Nat → Value)(T9 : Int64) (B9 : Int64), 44 - k < n → 1 ≤ k ∧ k ≤ 43 → m_T k T9 B9 → PT k w9 B9 → EU k w9 ta.toInt T9.toInt B9.toInt → TX ta ba k w9 T9 B9 → m_cap c9 ∧ k ≤ c9 → s.heap.size ≤ v9 → ∀ (H : Heap) (locs : List Loc) (ls : Array Slot), va_S (nwA s.heap.size) s.heap H locs → c1 D qf1 (.inr (7, [.int m9, .ref v9, .int (nI k)])) H → c1 D v9 (.inl (tk 4, c9, .inr (.inr (.inr (.inr f9))))) H → EL D 3 k f9 w9 H → lv_has ls 10 [(1, .ref qf1), (2, .long T9), (4, .long B9)] → W p l e ({ frames := 7, cells := 49, slots := 175, locals := 157 } : Room) s m args below meth c H locs (1 + k + m_ac c9) (3 + k + m_as c9) Q (F0 m 17 ls []) := by
    intro n
    induction n with
    | zero =>
      intro k v9 c9 m9 f9 w9 T9 B9 hf9 hk9 hT9 hP9 hE9 hX9 hc9 hv9 H locs ls hS f1 fR el hl
      omega
    | succ n ih_17 =>
      intro k v9 c9 m9 f9 w9 T9 B9 hf9 hk9 hT9 hP9 hE9 hX9 hc9 hv9 H locs ls hS f1 fR el hl
      have g_fR := hn _ hv9
      have hcb := m_acB hc9.1
      refine lv_lload (pc := 17) hx hb dX5_termsOf_17 (lv_at hl 2 rfl) ?_
      refine lv_lconst (pc := 19) (v := 0) hx hb dX5_termsOf_19 (by decide) ?_
      refine r_lceq (pc := 20) (tgt := 61) E dX5_termsOf_20 dX5_termsOf_21 (by decide) (fun c_11 => ?_) (fun c_11 => ?_)
      · refine lv_aload_n (pc := 61) hx hb dX5_termsOf_61 rfl (lv_at hl 0 rfl) ?_
        try rw [hQ]
        refine r_aret (pc := 62) E hr (Or.inl ⟨_, rfl⟩) hlk hS (by omega) (by omega) ?_ dX5_termsOf_62
        exact ⟨k, v9, c9, f9, w9, m9, s_f1, hv9, f1, fR, el, (by have h9 := hP9; rw [c_11] at h9; exact h9), hk9.1, hk9.2, hc9.2, hc9.1, hX9.fin c_11 (by omega), _, (by have h9 := hE9; rw [c_11] at h9; exact h9)⟩
      · have hk0 := m_T0 hT9 hk9 c_11
        refine lv_lload_n (pc := 24) hx hb dX5_termsOf_24 rfl (lv_at hl 1 rfl) ?_
        refine lv_lload (pc := 25) hx hb dX5_termsOf_25 (lv_at hl 2 rfl) ?_
        refine k_l (pc := 27) (k_S E hC hS hA hl.1 (c_X5_floor l D tk N0 sa H.size T9 B9 c_11) kw_1392 kw_1393 kw_5 kw_1394 (n := 2) (by decide +kernel) rfl ⟨⟨rfl, rfl⟩, ⟨Nat.le_of_ble_eq_true rfl, Nat.le_of_ble_eq_true rfl⟩, (by dsimp only; omega), (by dsimp only; omega)⟩ rfl (Nat.le_of_ble_eq_true rfl) trivial dX5_termsOf_27) hS (fun q z w => absurd w (Nat.not_le.mpr z)) hn (fun r_12 H locs hR hz hk hS => ?_)
        have er_12 := hR
        have f1 := f1.kept (hk _ f1.lt (Nat.not_le.mpr f1.lt))
        have fR := fR.kept (hk _ fR.lt (Nat.not_le.mpr fR.lt))
        have el := el.new hk
        refine lv_lstore (pc := 30) (lv' := [(6, .long r_12), (1, .ref qf1), (2, .long T9), (4, .long B9)]) hx hb dX5_termsOf_30 hl (by decide) rfl (fun ls hl => ?_)
        refine lv_aload_n (pc := 32) hx hb dX5_termsOf_32 rfl (lv_at hl 1 rfl) ?_
        refine lv_lload (pc := 33) hx hb dX5_termsOf_33 (lv_at hl 0 rfl) ?_
        have hZ0_ := hS.1
        have t_f1 := f1.lt
        have t_fR := fR.lt
        refine k_r (pc := 35) (k_S E hC hS hA hl.1 (c_J13_valueOf_928b6 l D tk N0 sa H.size r_12) kw_1414 kw_1415 kw_17 kw_1416 (n := 1) (by decide +kernel) rfl ⟨⟨rfl, rfl⟩, ⟨Nat.le_of_ble_eq_true rfl, Nat.le_of_ble_eq_true rfl⟩, (by dsimp only; omega), (by dsimp only; omega)⟩ rfl (Nat.le_of_ble_eq_true rfl) trivial dX5_termsOf_35) hS (fun q z w => absurd w (Nat.not_le.mpr z)) hn (fun r_14 H locs hR hz hk hS => ?_)
        have f1 := f1.kept (hk _ f1.lt (Nat.not_le.mpr f1.lt))
        have fR := fR.kept (hk _ fR.lt (Nat.not_le.mpr fR.lt))
        have el := el.new hk
        have f15 := hR
        rcases Nat.lt_or_ge k c9 with hkc | hkc9
        · refine k_i (pc := 38) (k_V E hC hS hA hl.1 (c1.recv hC f1 rfl) rfl (c_Jx4a65c_add_9ea2d l D tk N0 sa H.size qf1 v9 k c9 r_14 3 m9 (.long r_12) f9 w9 (hA _ g_f1) (hA _ g_fR) (Or.inl rfl) hkc (by omega)) kw_1434 kw_1435 kw_1436 kw_8 kw_1437 (n := 1) (by decide +kernel) rfl ⟨⟨rfl, rfl⟩, ⟨Nat.le_of_ble_eq_true rfl, Nat.le_of_ble_eq_true rfl⟩, (by dsimp only; omega), (by dsimp only; omega)⟩ rfl (Nat.le_of_ble_eq_true rfl) ⟨f1, fR, el, f15⟩ dX5_termsOf_38) hS (inA2.to g_f1 g_fR) hn (fun r_16 H locs hR hz hk hS => ?_)
          have f15 := f15.kept (hk _ f15.lt (inA2.not (clA.ne f15.cl f1.cl (hC.oo 3 7 rfl rfl (by decide))) (clA.ne f15.cl fR.cla (hC.oa 3 4 rfl rfl)) f15.lt))
          obtain ⟨hr9, f1, fR, el⟩ := hR
          rw [hr9]
          refine lv_pop (pc := 41) hx hb dX5_termsOf_41 rfl ?_
          refine lv_lload_n (pc := 42) hx hb dX5_termsOf_42 rfl (lv_at hl 2 rfl) ?_
          refine lv_lload (pc := 43) hx hb dX5_termsOf_43 (lv_at hl 0 rfl) ?_
          refine lv_lload (pc := 45) hx hb dX5_termsOf_45 (lv_at hl 3 rfl) ?_
          refine lv_lmul (pc := 47) hx hb dX5_termsOf_47 ?_
          refine lv_lsub (pc := 48) hx hb dX5_termsOf_48 ?_
          obtain ⟨x_17, ex_17⟩ : ∃ z9 : Int64, z9 = T9 - (r_12 * B9) := ⟨_, rfl⟩
          rw [← ex_17]
          refine lv_lstore (pc := 49) (lv' := [(8, .long x_17), (6, .long r_12), (1, .ref qf1), (2, .long T9), (4, .long B9)]) hx hb dX5_termsOf_49 hl (by decide) rfl (fun ls hl => ?_)
          have hq9 := er_12
          have hl9 := ex_17
          have hS1 := m_T2 hT9 hk9 c_11 er_12 ex_17
          have hL1 := m_left (T := T9) (B := B9) (by obtain ⟨y1, y2, y3, -⟩ := hT9; omega) hk0.2 (by obtain ⟨-, y2, y3, -⟩ := hT9; omega) er_12 ex_17
          refine lv_lload (pc := 51) hx hb dX5_termsOf_51 (lv_at hl 4 rfl) ?_
          refine lv_lstore_n (pc := 53) (lv' := [(2, .long B9), (8, .long x_17), (6, .long r_12), (1, .ref qf1), (4, .long B9)]) hx hb dX5_termsOf_53 rfl hl (by decide) rfl (fun ls hl => ?_)
          refine lv_lload (pc := 54) hx hb dX5_termsOf_54 (lv_at hl 1 rfl) ?_
          refine lv_lstore (pc := 56) (lv' := [(4, .long x_17), (2, .long B9), (8, .long x_17), (6, .long r_12), (1, .ref qf1)]) hx hb dX5_termsOf_56 hl (by decide) rfl (fun ls hl => ?_)
          refine lv_goto (pc := 58) (tgt := 17) hx hb dX5_termsOf_58 (by decide) ?_
          refine W.widen (k := 1 + (k + 1) + m_ac (c9)) (n := 3 + (k + 1) + m_as (c9)) (by omega) (by omega) ?_
          exact ih_17  (k + 1) _ _ _ _ _  B9 x_17 (by omega) (by omega) hS1.1 (by exact hP9.add hS1.2.1 hS1.2.2.1 hS1.2.2.2) (by exact hE9.add hL1.1 hk0.2 (by obtain ⟨-, y2, y3, -⟩ := hT9; omega)) (by exact hX9.add c_11 (by omega) hq9 hl9) (by exact ⟨hc9.1, by omega⟩) hv9 _ _ _ hS f1 fR el (lv_sub hl [4, 1, 0] rfl)
        · have hkc : k = c9 := by omega
          have fR : c1 D v9 (.inl (tk 4, k, .inr (.inr (.inr (.inr f9))))) H := by have h9 := fR; rw [← hkc] at h9; exact h9
          have hgr := m_grow (c9 := k) (by rw [hkc]; exact hc9.1) (by omega)
          have hmk : m_ac c9 = m_ac k ∧ m_as c9 = m_as k := by rw [hkc]; exact ⟨rfl, rfl⟩
          have hgb := m_acB hgr.1
          have hZ0_ := hS.1
          have t_f1 := f1.lt
          have t_fR := fR.lt
          have t_f15 := f15.lt
          refine k_i (pc := 38) (k_V E hC hS hA hl.1 (c1.recv hC f1 rfl) rfl (c_Jx4a65c_add_9ea2d_G l D tk N0 sa H.size qf1 v9 k r_14 3 m9 (.long r_12) f9 w9 (hA _ g_f1) (Or.inl rfl) (by omega) (by omega)) kw_1434 kw_1435 kw_1436 kw_8 kw_1437 (n := 1) (by decide +kernel) rfl ⟨⟨rfl, rfl⟩, ⟨Nat.le_of_ble_eq_true rfl, Nat.le_of_ble_eq_true rfl⟩, (by dsimp only; omega), (by dsimp only; omega)⟩ rfl (Nat.le_of_ble_eq_true rfl) ⟨f1, fR, el, f15⟩ dX5_termsOf_38) hS (inA1.to g_f1) hn (fun r_18 H locs hR hz hk hS => ?_)
          have fR := fR.kept (hk _ fR.lt (inA1.not (clA.ne fR.cla f1.cl (hC.ao 7 4 rfl rfl)) fR.lt))
          have f15 := f15.kept (hk _ f15.lt (inA1.not (clA.ne f15.cl f1.cl (hC.oo 3 7 rfl rfl (by decide))) f15.lt))
          obtain ⟨hr9, q19, f_19, z9_, f1, f19, el⟩ := hR
          have s_f19 : s.heap.size ≤ q19 := Nat.le_trans hZ0_ z9_
          have g_f19 := hn _ s_f19
          have l_f1_f19 : qf1 < q19 := Nat.lt_of_lt_of_le t_f1 z9_
          have l_fR_f19 : v9 < q19 := Nat.lt_of_lt_of_le t_fR z9_
          have l_f15_f19 : r_14 < q19 := Nat.lt_of_lt_of_le t_f15 z9_
          rw [hr9]
          refine lv_pop (pc := 41) hx hb dX5_termsOf_41 rfl ?_
          refine lv_lload_n (pc := 42) hx hb dX5_termsOf_42 rfl (lv_at hl 2 rfl) ?_
          refine lv_lload (pc := 43) hx hb dX5_termsOf_43 (lv_at hl 0 rfl) ?_
          refine lv_lload (pc := 45) hx hb dX5_termsOf_45 (lv_at hl 3 rfl) ?_
          refine lv_lmul (pc := 47) hx hb dX5_termsOf_47 ?_
          refine lv_lsub (pc := 48) hx hb dX5_termsOf_48 ?_
          obtain ⟨x_20, ex_20⟩ : ∃ z9 : Int64, z9 = T9 - (r_12 * B9) := ⟨_, rfl⟩
          rw [← ex_20]
          refine lv_lstore (pc := 49) (lv' := [(8, .long x_20), (6, .long r_12), (1, .ref qf1), (2, .long T9), (4, .long B9)]) hx hb dX5_termsOf_49 hl (by decide) rfl (fun ls hl => ?_)
          have hq9 := er_12
          have hl9 := ex_20
          have hS1 := m_T2 hT9 hk9 c_11 er_12 ex_20
          have hL1 := m_left (T := T9) (B := B9) (by obtain ⟨y1, y2, y3, -⟩ := hT9; omega) hk0.2 (by obtain ⟨-, y2, y3, -⟩ := hT9; omega) er_12 ex_20
          refine lv_lload (pc := 51) hx hb dX5_termsOf_51 (lv_at hl 4 rfl) ?_
          refine lv_lstore_n (pc := 53) (lv' := [(2, .long B9), (8, .long x_20), (6, .long r_12), (1, .ref qf1), (4, .long B9)]) hx hb dX5_termsOf_53 rfl hl (by decide) rfl (fun ls hl => ?_)
          refine lv_lload (pc := 54) hx hb dX5_termsOf_54 (lv_at hl 1 rfl) ?_
          refine lv_lstore (pc := 56) (lv' := [(4, .long x_20), (2, .long B9), (8, .long x_20), (6, .long r_12), (1, .ref qf1)]) hx hb dX5_termsOf_56 hl (by decide) rfl (fun ls hl => ?_)
          refine lv_goto (pc := 58) (tgt := 17) hx hb dX5_termsOf_58 (by decide) ?_
          refine W.widen (k := 1 + (k + 1) + m_ac (k + k / 2)) (n := 3 + (k + 1) + m_as (k + k / 2)) (by omega) (by omega) ?_
          exact ih_17  (k + 1) _ _ _ _ _  B9 x_20 (by omega) (by omega) hS1.1 (by exact hP9.add hS1.2.1 hS1.2.2.1 hS1.2.2.2) (by exact hE9.add hL1.1 hk0.2 (by obtain ⟨-, y2, y3, -⟩ := hT9; omega)) (by exact hX9.add c_11 (by omega) hq9 hl9) (by exact ⟨hgr.1, by omega⟩) s_f19 _ _ _ hS f1 f19 el (lv_sub hl [4, 1, 0] rfl)
  have hm0 : m_ac 10 = 1 ∧ m_as 10 = 10 := ⟨rfl, rfl⟩
  refine W.widen (k := 1 + 1 + m_ac (10)) (n := 3 + 1 + m_as (10)) (by omega) (by omega) ?_
  exact loop_17 45 1 _ _ _ _ _  ba x_10 (by omega) (by omega) hS1.1 (by exact PT.one hS1.2) (by exact EU.one hL1.1 hfa.2.1 hfa.2.2) (by exact TX.one (m_ne0 hfa.2.1) hq9 hl9) (by exact ⟨Or.inl rfl, by decide⟩) s_f9 _ _ _ hS f1 f9 e9 (lv_sub hl [4, 1, 0] rfl)
