set_option maxHeartbeats 4000000 in
set_option maxRecDepth 100000 in
/-- BestratiosModel.raised([JI)[J -/
theorem c_X5_raised (l : Launch) (D : va_G) (tk : Nat → ClassId) (N0 : Nat) (sa : Nat → Nat)  (sz : Nat) (pa : Nat) (ta : Int64) (ba : Int64) (tm : Int32) (kt : Nat) (hfa : m_F ta ba) (htm : f_absI tm = nI kt) (hkt : kt ≤ 6) : Met l yX5_raised (wsy yX5_raised cX5_raised 4 (some (.array .long))) ({ frames := 4, cells := 8, slots := 16, locals := 98 } : Room) (cP D tk N0 sa [.ref pa, .int tm] sz (fun H => L2 D tk pa ta ba H)) (kQo (fun v H => (v = none ∧ m_RA ta ba tm = none) ∨ (∃ q t b, v = some q ∧ sz ≤ q ∧ L2 D tk q t b H ∧ 1 ≤ b.toInt ∧ m_RA ta ba tm = some (t, b))) (nwA sz)) (8) (16) (nwA sz) := by
  refine mStart RX5 rfl (by decide +kernel) (Nat.le_of_ble_eq_true rfl) ?_
  intro p e s m args below meth c E hr hlk hnm hsz hC hF ls hl
  subst hsz
  obtain ⟨hx, hb, -⟩ := id E
  have hA : ∀ q, (nwA s.heap.size) q → N0 ≤ q := fun q h => Nat.le_trans hC.2.1 h
  have hn : ∀ q, s.heap.size ≤ q → (nwA s.heap.size) q := fun q h => h
  have hS : va_S (nwA s.heap.size) s.heap s.heap [] := va_S.rf
  have hl : lv_has ls 4 [(0, .ref pa), (1, .int tm)] := hl
  obtain ⟨Q, hQ⟩ : ∃ Q, Q = MQ below (kQo (fun v H => (v = none ∧ m_RA ta ba tm = none) ∨ (∃ q t b, v = some q ∧ s.heap.size ≤ q ∧ L2 D tk q t b H ∧ 1 ≤ b.toInt ∧ m_RA ta ba tm = some (t, b))) (nwA s.heap.size)) args s (8) (16) (nwA s.heap.size) := ⟨_, rfl⟩
  rw [← hQ]
  have fa : L2 D tk pa ta ba s.heap := hF
  refine lv_iconst (pc := 0) (v := 2) hx hb dX5_raised_0 (by decide) ?_
  have hS0_ := hS
  refine r_newl (pc := 1) E hC hS (N := 2) (by decide) (by decide) (by decide) (by dsimp only; omega) (by dsimp only; omega) dX5_raised_1 (fun qf1 H zq_ n_ ho_ hS => ?_)
  have l_fa_f1 : pa < qf1 := zq_ ▸ fa.lt
  have fa := fa.kept (ho_ _ fa.lt)
  have f1 := n_
  have s_f1 : s.heap.size ≤ qf1 := zq_ ▸ hS0_.1
  have g_f1 := hn _ s_f1
  refine lv_dup (pc := 3) hx hb dX5_raised_3 rfl ?_
  refine lv_iconst (pc := 4) (v := 0) hx hb dX5_raised_4 (by decide) ?_
  refine lv_lconst (pc := 5) (v := 1) hx hb dX5_raised_5 (by decide) ?_
  refine r_last (pc := 6) E hC f1 hS g_f1 (by unfold vp_in; decide) dX5_raised_6 (fun H locs n_ ho hz hS => ?_)
  have fa := fa.kept (ho _ (Nat.ne_of_lt l_fa_f1))
  have f1 : c1 D qf1 (.inl (tk 0, 2, .inr (.inl (vp_updL (fun _ => 0) 0 (1))))) H := n_
  refine lv_dup (pc := 7) hx hb dX5_raised_7 rfl ?_
  refine lv_iconst (pc := 8) (v := 1) hx hb dX5_raised_8 (by decide) ?_
  refine lv_lconst (pc := 9) (v := 1) hx hb dX5_raised_9 (by decide) ?_
  refine r_last (pc := 10) E hC f1 hS g_f1 (by unfold vp_in; decide) dX5_raised_10 (fun H locs n_ ho hz hS => ?_)
  have fa := fa.kept (ho _ (Nat.ne_of_lt l_fa_f1))
  have f1 : L2 D tk qf1 (1) (1) H := n_
  refine lv_astore_n (pc := 11) (lv' := [(2, .ref qf1), (0, .ref pa), (1, .int tm)]) hx hb dX5_raised_11 rfl hl (by decide) rfl (fun ls hl => ?_)
  refine lv_iconst (pc := 12) (v := 0) hx hb dX5_raised_12 (by decide) ?_
  refine lv_istore_n (pc := 13) (lv' := [(3, .int 0), (2, .ref qf1), (0, .ref pa), (1, .int tm)]) hx hb dX5_raised_13 rfl hl (by decide) rfl (fun ls hl => ?_)
  have loop_14 : ∀ (n : Nat) (k : Nat) (t9 : Int64) (b9 : Int64)(q9 : Nat) (y9 : Int32), 7 - k < n → k ≤ kt → y9 = nI k → 1 ≤ b9.toInt ∧ b9.toInt ≤ 1000000000000000000 ∧ t9.toInt.natAbs ≤ 1000000000000000000 → s.heap.size ≤ q9 → m_raL ta ba (kt - k) t9 b9 = m_raL ta ba kt 1 1 → ∀ (H : Heap) (locs : List Loc) (ls : Array Slot), va_S (nwA s.heap.size) s.heap H locs → L2 D tk pa ta ba H → L2 D tk q9 t9 b9 H → lv_has ls 4 [(0, .ref pa), (1, .int tm), (2, .ref q9), (3, .int y9)] → W p l e ({ frames := 4, cells := 8, slots := 16, locals := 98 } : Room) s m args below meth c H locs (k + 1) (2 * k + 2) Q (F0 m 14 ls []) := by
    intro n
    induction n with
    | zero =>
      intro k t9 b9 q9 y9 hf9 hk9 hx9 hb9 hs9 hg9 H locs ls hS fa fm hl
      omega
    | succ n ih_14 =>
      intro k t9 b9 q9 y9 hf9 hk9 hx9 hb9 hs9 hg9 H locs ls hS fa fm hl
      refine lv_iload_n (pc := 14) hx hb dX5_raised_14 rfl (lv_at hl 3 rfl) ?_
      refine lv_iload_n (pc := 15) hx hb dX5_raised_15 rfl (lv_at hl 1 rfl) ?_
      refine k_i (pc := 16) (k_S E hC hS hA hl.1 (c_J9_abs_0f7a4 l D tk N0 sa H.size tm ) kw_1333 kw_1334 kw_9 kw_1335 (n := 1) (by decide +kernel) rfl ⟨⟨rfl, rfl⟩, ⟨Nat.le_of_ble_eq_true rfl, Nat.le_of_ble_eq_true rfl⟩, (by dsimp only; omega), (by dsimp only; omega)⟩ rfl (Nat.le_of_ble_eq_true rfl) trivial dX5_raised_16) hS (fun q z w => absurd w (Nat.not_le.mpr z)) hn (fun r_2 H locs hR hz hk hS => ?_)
      have er_2 := hR
      have fa := fa.kept (hk _ fa.lt (Nat.not_le.mpr fa.lt))
      have fm := fm.kept (hk _ fm.lt (Nat.not_le.mpr fm.lt))
      refine lv_icmp_ge (pc := 19) (tgt := 41) hx hb dX5_raised_19 (by decide) (fun c_4 => ?_) (fun c_4 => ?_)
      · have hfin : m_raL ta ba kt 1 1 = (t9, b9) := by
          have h8 : kt ≤ k := by
            have h7 := c_4
            rw [er_2, htm, hx9] at h7
            exact (nI_leI (by omega) (by omega)).mp h7
          rw [← hg9, show kt - k = 0 by omega]
          rfl
        refine lv_aload_n (pc := 41) hx hb dX5_raised_41 rfl (lv_at hl 2 rfl) ?_
        have hZ0_ := hS.1
        have t_fa := fa.lt
        have t_fm := fm.lt
        refine k_i (pc := 42) (k_S E hC hS hA hl.1 (c_X5_isFit l D tk N0 sa H.size q9 t9 b9 ) kw_1259 kw_1260 kw_5 kw_1261 (n := 1) (by decide +kernel) rfl ⟨⟨rfl, rfl⟩, ⟨Nat.le_of_ble_eq_true rfl, Nat.le_of_ble_eq_true rfl⟩, (by dsimp only; omega), (by dsimp only; omega)⟩ rfl (Nat.le_of_ble_eq_true rfl) fm dX5_raised_42) hS (fun q z w => absurd w (Nat.not_le.mpr z)) hn (fun r_5 H locs hR hz hk hS => ?_)
        have fa := fa.kept (hk _ fa.lt (Nat.not_le.mpr fa.lt))
        have fm := fm.kept (hk _ fm.lt (Nat.not_le.mpr fm.lt))
        have er_5 := hR
        refine lv_if_ne (pc := 45) (tgt := 52) hx hb dX5_raised_45 (by decide) (fun c_6 => ?_) (fun c_6 => ?_)
        · refine lv_iload_n (pc := 52) hx hb dX5_raised_52 rfl (lv_at hl 1 rfl) ?_
          refine lv_if_ge (pc := 53) (tgt := 63) hx hb dX5_raised_53 (by decide) (fun c_7 => ?_) (fun c_7 => ?_)
          · refine lv_aload_n (pc := 63) hx hb dX5_raised_63 rfl (lv_at hl 2 rfl) ?_
            try rw [hQ]
            refine r_oret (pc := 64) E hr (Or.inr ⟨_, rfl⟩) hlk hS (by omega) (by omega) (some q9) ?_ dX5_raised_64
            exact Or.inr ⟨_, _, _, rfl, hs9, fm, hb9.1, by rw [m_RAe htm hkt hfin, if_neg (fun z9 => c_6 (er_5.trans z9)), if_neg (Int32.not_lt.mpr c_7)]⟩
          · have hF8 := m_fit1 (t := t9) (b := b9) (by rw [← er_5]; exact c_6) hb9.1
            refine lv_aload_n (pc := 56) hx hb dX5_raised_56 rfl (lv_at hl 2 rfl) ?_
            have hZ0_ := hS.1
            have t_fa := fa.lt
            have t_fm := fm.lt
            refine k_o (pc := 57) (k_S E hC hS hA hl.1 (c_X5_inverse l D tk N0 sa H.size q9 t9 b9 (fun z9 => (m_inv hF8 z9).1)) kw_1315 kw_1316 kw_5 kw_1317 (n := 1) (by decide +kernel) rfl ⟨⟨rfl, rfl⟩, ⟨Nat.le_of_ble_eq_true rfl, Nat.le_of_ble_eq_true rfl⟩, (by dsimp only; omega), (by dsimp only; omega)⟩ rfl (Nat.le_of_ble_eq_true rfl) fm dX5_raised_57) hS (fun q z w => absurd w (Nat.not_le.mpr z)) hn (fun r_8 H locs hR hz hk hS => ?_)
            have fa := fa.kept (hk _ fa.lt (Nat.not_le.mpr fa.lt))
            have fm := fm.kept (hk _ fm.lt (Nat.not_le.mpr fm.lt))
            rcases hR with ⟨rfl, hn_9⟩ | ⟨q_f9, rfl, hn_9, z9_, f9⟩
            · refine lv_goto (pc := 60) (tgt := 64) hx hb dX5_raised_60 (by decide) ?_
              try rw [hQ]
              refine r_oret (pc := 64) E hr (Or.inr ⟨_, rfl⟩) hlk hS (by omega) (by omega) none ?_ dX5_raised_64
              exact Or.inl ⟨rfl, by rw [m_RAe htm hkt hfin, if_neg (fun z9 => c_6 (er_5.trans z9)), if_pos (Int32.not_le.mp c_7)]; unfold m_IV; rw [if_pos hn_9]⟩
            · have s_f9 : s.heap.size ≤ q_f9 := Nat.le_trans hZ0_ z9_
              have g_f9 := hn _ s_f9
              have l_fa_f9 : pa < q_f9 := Nat.lt_of_lt_of_le t_fa z9_
              have l_fm_f9 : q9 < q_f9 := Nat.lt_of_lt_of_le t_fm z9_
              refine lv_goto (pc := 60) (tgt := 64) hx hb dX5_raised_60 (by decide) ?_
              try rw [hQ]
              refine r_oret (pc := 64) E hr (Or.inr ⟨_, rfl⟩) hlk hS (by omega) (by omega) (some q_f9) ?_ dX5_raised_64
              exact Or.inr ⟨_, _, _, rfl, s_f9, f9, (m_inv hF8 hn_9).2.1, by rw [m_RAe htm hkt hfin, if_neg (fun z9 => c_6 (er_5.trans z9)), if_pos (Int32.not_le.mp c_7)]; unfold m_IV; rw [if_neg hn_9]; rfl⟩
        · refine lv_null (pc := 48) hx hb dX5_raised_48 ?_
          refine lv_goto (pc := 49) (tgt := 64) hx hb dX5_raised_49 (by decide) ?_
          try rw [hQ]
          refine r_oret (pc := 64) E hr (Or.inr ⟨_, rfl⟩) hlk hS (by omega) (by omega) none ?_ dX5_raised_64
          exact Or.inl ⟨rfl, by rw [m_RAe htm hkt hfin, if_pos (er_5.symm.trans c_6)]⟩
      · refine lv_aload_n (pc := 22) hx hb dX5_raised_22 rfl (lv_at hl 2 rfl) ?_
        have hZ0_ := hS.1
        have t_fa := fa.lt
        have t_fm := fm.lt
        refine k_i (pc := 23) (k_S E hC hS hA hl.1 (c_X5_isFit l D tk N0 sa H.size q9 t9 b9 ) kw_1259 kw_1260 kw_5 kw_1261 (n := 1) (by decide +kernel) rfl ⟨⟨rfl, rfl⟩, ⟨Nat.le_of_ble_eq_true rfl, Nat.le_of_ble_eq_true rfl⟩, (by dsimp only; omega), (by dsimp only; omega)⟩ rfl (Nat.le_of_ble_eq_true rfl) fm dX5_raised_23) hS (fun q z w => absurd w (Nat.not_le.mpr z)) hn (fun r_10 H locs hR hz hk hS => ?_)
        have fa := fa.kept (hk _ fa.lt (Nat.not_le.mpr fa.lt))
        have fm := fm.kept (hk _ fm.lt (Nat.not_le.mpr fm.lt))
        have er_10 := hR
        refine lv_if_eq (pc := 26) (tgt := 41) hx hb dX5_raised_26 (by decide) (fun c_11 => ?_) (fun c_11 => ?_)
        · have hfin : m_raL ta ba kt 1 1 = (t9, b9) := by
            rw [← hg9]
            exact m_raLz (by rw [← er_10]; exact c_11)
          refine lv_aload_n (pc := 41) hx hb dX5_raised_41 rfl (lv_at hl 2 rfl) ?_
          have hZ0_ := hS.1
          have t_fa := fa.lt
          have t_fm := fm.lt
          refine k_i (pc := 42) (k_S E hC hS hA hl.1 (c_X5_isFit l D tk N0 sa H.size q9 t9 b9 ) kw_1259 kw_1260 kw_5 kw_1261 (n := 1) (by decide +kernel) rfl ⟨⟨rfl, rfl⟩, ⟨Nat.le_of_ble_eq_true rfl, Nat.le_of_ble_eq_true rfl⟩, (by dsimp only; omega), (by dsimp only; omega)⟩ rfl (Nat.le_of_ble_eq_true rfl) fm dX5_raised_42) hS (fun q z w => absurd w (Nat.not_le.mpr z)) hn (fun r_12 H locs hR hz hk hS => ?_)
          have fa := fa.kept (hk _ fa.lt (Nat.not_le.mpr fa.lt))
          have fm := fm.kept (hk _ fm.lt (Nat.not_le.mpr fm.lt))
          have er_12 := hR
          refine lv_if_ne (pc := 45) (tgt := 52) hx hb dX5_raised_45 (by decide) (fun c_13 => ?_) (fun c_13 => ?_)
          · refine lv_iload_n (pc := 52) hx hb dX5_raised_52 rfl (lv_at hl 1 rfl) ?_
            refine lv_if_ge (pc := 53) (tgt := 63) hx hb dX5_raised_53 (by decide) (fun c_14 => ?_) (fun c_14 => ?_)
            · refine lv_aload_n (pc := 63) hx hb dX5_raised_63 rfl (lv_at hl 2 rfl) ?_
              try rw [hQ]
              refine r_oret (pc := 64) E hr (Or.inr ⟨_, rfl⟩) hlk hS (by omega) (by omega) (some q9) ?_ dX5_raised_64
              exact Or.inr ⟨_, _, _, rfl, hs9, fm, hb9.1, by rw [m_RAe htm hkt hfin, if_neg (fun z9 => c_13 (er_12.trans z9)), if_neg (Int32.not_lt.mpr c_14)]⟩
            · have hF8 := m_fit1 (t := t9) (b := b9) (by rw [← er_12]; exact c_13) hb9.1
              refine lv_aload_n (pc := 56) hx hb dX5_raised_56 rfl (lv_at hl 2 rfl) ?_
              have hZ0_ := hS.1
              have t_fa := fa.lt
              have t_fm := fm.lt
              refine k_o (pc := 57) (k_S E hC hS hA hl.1 (c_X5_inverse l D tk N0 sa H.size q9 t9 b9 (fun z9 => (m_inv hF8 z9).1)) kw_1315 kw_1316 kw_5 kw_1317 (n := 1) (by decide +kernel) rfl ⟨⟨rfl, rfl⟩, ⟨Nat.le_of_ble_eq_true rfl, Nat.le_of_ble_eq_true rfl⟩, (by dsimp only; omega), (by dsimp only; omega)⟩ rfl (Nat.le_of_ble_eq_true rfl) fm dX5_raised_57) hS (fun q z w => absurd w (Nat.not_le.mpr z)) hn (fun r_15 H locs hR hz hk hS => ?_)
              have fa := fa.kept (hk _ fa.lt (Nat.not_le.mpr fa.lt))
              have fm := fm.kept (hk _ fm.lt (Nat.not_le.mpr fm.lt))
              rcases hR with ⟨rfl, hn_16⟩ | ⟨q_f16, rfl, hn_16, z9_, f16⟩
              · refine lv_goto (pc := 60) (tgt := 64) hx hb dX5_raised_60 (by decide) ?_
                try rw [hQ]
                refine r_oret (pc := 64) E hr (Or.inr ⟨_, rfl⟩) hlk hS (by omega) (by omega) none ?_ dX5_raised_64
                exact Or.inl ⟨rfl, by rw [m_RAe htm hkt hfin, if_neg (fun z9 => c_13 (er_12.trans z9)), if_pos (Int32.not_le.mp c_14)]; unfold m_IV; rw [if_pos hn_16]⟩
              · have s_f16 : s.heap.size ≤ q_f16 := Nat.le_trans hZ0_ z9_
                have g_f16 := hn _ s_f16
                have l_fa_f16 : pa < q_f16 := Nat.lt_of_lt_of_le t_fa z9_
                have l_fm_f16 : q9 < q_f16 := Nat.lt_of_lt_of_le t_fm z9_
                refine lv_goto (pc := 60) (tgt := 64) hx hb dX5_raised_60 (by decide) ?_
                try rw [hQ]
                refine r_oret (pc := 64) E hr (Or.inr ⟨_, rfl⟩) hlk hS (by omega) (by omega) (some q_f16) ?_ dX5_raised_64
                exact Or.inr ⟨_, _, _, rfl, s_f16, f16, (m_inv hF8 hn_16).2.1, by rw [m_RAe htm hkt hfin, if_neg (fun z9 => c_13 (er_12.trans z9)), if_pos (Int32.not_le.mp c_14)]; unfold m_IV; rw [if_neg hn_16]; rfl⟩
          · refine lv_null (pc := 48) hx hb dX5_raised_48 ?_
            refine lv_goto (pc := 49) (tgt := 64) hx hb dX5_raised_49 (by decide) ?_
            try rw [hQ]
            refine r_oret (pc := 64) E hr (Or.inr ⟨_, rfl⟩) hlk hS (by omega) (by omega) none ?_ dX5_raised_64
            exact Or.inl ⟨rfl, by rw [m_RAe htm hkt hfin, if_pos (er_12.symm.trans c_13)]⟩
        · have hnf9 : ¬ m_fit t9 b9 = 0 := by rw [← er_10]; exact c_11
          have hF9 := m_fit1 (t := t9) (b := b9) (by rw [← er_10]; exact c_11) hb9.1
          have hP9 := m_prod hF9 hfa
          have hlt := Int32.not_le.mp c_4
          have hkk : k < kt := by rw [er_2, htm, hx9] at hlt; exact (nI_ltI (by omega) (by omega)).mp hlt
          refine lv_aload_n (pc := 29) hx hb dX5_raised_29 rfl (lv_at hl 2 rfl) ?_
          refine lv_aload_n (pc := 30) hx hb dX5_raised_30 rfl (lv_at hl 0 rfl) ?_
          have hZ0_ := hS.1
          have t_fa := fa.lt
          have t_fm := fm.lt
          refine k_r (pc := 31) (k_S E hC hS hA hl.1 (c_X5_product l D tk N0 sa H.size q9 t9 b9 pa ta ba hP9.1) kw_1308 kw_1309 kw_5 kw_1310 (n := 2) (by decide +kernel) rfl ⟨⟨rfl, rfl⟩, ⟨Nat.le_of_ble_eq_true rfl, Nat.le_of_ble_eq_true rfl⟩, (by dsimp only; omega), (by dsimp only; omega)⟩ rfl (Nat.le_of_ble_eq_true rfl) ⟨fm, fa⟩ dX5_raised_31) hS (fun q z w => absurd w (Nat.not_le.mpr z)) hn (fun r_17 H locs hR hz hk hS => ?_)
          have fa := fa.kept (hk _ fa.lt (Nat.not_le.mpr fa.lt))
          have fm := fm.kept (hk _ fm.lt (Nat.not_le.mpr fm.lt))
          obtain ⟨z9_, f18⟩ := hR
          have s_f18 : s.heap.size ≤ r_17 := Nat.le_trans hZ0_ z9_
          have g_f18 := hn _ s_f18
          have l_fa_f18 : pa < r_17 := Nat.lt_of_lt_of_le t_fa z9_
          have l_fm_f18 : q9 < r_17 := Nat.lt_of_lt_of_le t_fm z9_
          refine lv_astore_n (pc := 34) (lv' := [(2, .ref r_17), (0, .ref pa), (1, .int tm), (3, .int y9)]) hx hb dX5_raised_34 rfl hl (by decide) rfl (fun ls hl => ?_)
          obtain ⟨x_19, ex_19⟩ : ∃ z9 : Int32, z9 = y9 + 1 := ⟨_, rfl⟩
          refine lv_iinc (pc := 35) (v := x_19) (lv' := [(3, .int x_19), (2, .ref r_17), (0, .ref pa), (1, .int tm)]) hx hb dX5_raised_35 hl (k := 3) rfl (by rw [ex_19]; rfl) (by decide) rfl (fun ls hl => ?_)
          refine lv_goto (pc := 38) (tgt := 14) hx hb dX5_raised_38 (by decide) ?_
          refine W.widen (k := k + 1 + 1) (n := 2 * (k + 1) + 2) (by omega) (by omega) ?_
          exact ih_14  (k + 1) _ _  r_17 x_19 (by omega) (by omega) (i_up hx9 ex_19) ⟨hP9.2.1, hP9.2.2.1, hP9.2.2.2⟩ s_f18 (m_raLs hnf9 (show kt - k = (kt - (k + 1)) + 1 by omega) hg9) _ _ _ hS fa f18 (lv_sub hl [2, 3, 1, 0] rfl)
  refine W.widen (k := 0 + 1) (n := 2 * 0 + 2) (by omega) (by omega) ?_
  exact loop_14 8 0 1 1  qf1 0 (by omega) (Nat.zero_le _) nI_0.symm (by decide) s_f1 rfl _ _ _ hS fa f1 (lv_sub hl [2, 3, 1, 0] rfl)
