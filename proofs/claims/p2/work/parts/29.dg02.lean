set_option maxHeartbeats 4000000 in
set_option maxRecDepth 100000 in
/-- Bestratios.digest()J -/
theorem c_X3_digest (l : Launch) (D : va_G) (tk : Nat → ClassId) (N0 : Nat) (sa : Nat → Nat) {ad : Nat → Nat} (hAD : ADok N0 ad) (sz : Nat) (g : CS) (hdg : ∀ i, i < 6 → ∀ md, txD (f_cutNum (tT g i) (tB g i) 3 md) 3) (kp : Nat) (hpl : tI g 3 = nI kp) (hkp : kp ≤ 9) (hdr : txD (f_cutNum (tT g 10) (tB g 10) (tI g 3) 0) kp) : Met l yX3_digest (wsy yX3_digest cX3_digest 5 (some .long)) ({ frames := 9, cells := 2986, slots := 5988, locals := 209 } : Room) (cP D tk N0 sa [.ref (ad 15)] sz (fun H => CW D tk ad g H)) (kQl (fun r H => CW D tk ad (tx_dgW g) H) (cwA ad sz)) (2986) (5988) (cwA ad sz) := by
  refine mStart RX3 rfl (by decide +kernel) (Nat.le_of_ble_eq_true rfl) ?_
  intro p e s m args below meth c E hr hlk hnm hsz hC hF ls hl
  subst hsz
  obtain ⟨hx, hb, -⟩ := id E
  have hA : ∀ q, (cwA ad s.heap.size) q → N0 ≤ q := cwA.ge hAD hC.2.1
  have hn : ∀ q, s.heap.size ≤ q → (cwA ad s.heap.size) q := fun q h => Or.inr h
  have hS : va_S (cwA ad s.heap.size) s.heap s.heap [] := va_S.rf
  have hl : lv_has ls 5 [(0, .ref (ad 15))] := hl
  obtain ⟨Q, hQ⟩ : ∃ Q, Q = MQ below (kQl (fun r H => CW D tk ad (tx_dgW g) H) (cwA ad s.heap.size)) args s (2986) (5988) (cwA ad s.heap.size) := ⟨_, rfl⟩
  rw [← hQ]
  have hW : CW D tk ad g s.heap := hF
  have hS0_ := hS
  refine r_new (pc := 0) E hC hS tyJ4_ok uJ4 (List.mem_cons_of_mem _ kw_149) (List.mem_cons_of_mem _ kw_150) (List.mem_cons_of_mem _ kw_19) (ci := 1) rfl (fs := [.null, .int 0, .int 0, .int 0]) (by decide) (by dsimp only; omega) (by dsimp only; omega) dX3_digest_0 (fun qf1 H zq_ n_ ho_ hS => ?_)
  have nW_f1 : ∀ k, k < 22 → ad k ≠ qf1 := fun k hk9 => Nat.ne_of_lt (zq_ ▸ (hW k hk9).lt)
  have hW := hW.kept (fun k hk9 => ho_ _ (hW k hk9).lt)
  have f1 := n_
  have s_f1 : s.heap.size ≤ qf1 := zq_ ▸ hS0_.1
  have g_f1 := hn _ s_f1
  refine lv_dup (pc := 3) hx hb dX3_digest_3 rfl ?_
  have hZ0_ := hS.1
  have t_hW := fun k (hk9 : k < 22) => (hW k hk9).lt
  have t_f1 := f1.lt
  refine k_v (pc := 4) (k_I E hC hS hA hl.1 (c_J4_init_da8c8 l D tk N0 sa H.size qf1 (hA _ g_f1)) kw_151 kw_152 kw_19 kw_153 rfl (n := 0) (by decide +kernel) rfl ⟨⟨rfl, rfl⟩, ⟨Nat.le_of_ble_eq_true rfl, Nat.le_of_ble_eq_true rfl⟩, (by dsimp only; omega), (by dsimp only; omega)⟩ rfl (Nat.le_of_ble_eq_true rfl) f1 dX3_digest_4) hS (inA1.to g_f1) hn (fun H locs hR hz hk hS => ?_)
  have hW := hW.kept (fun k hk9 => hk _ (hW k hk9).lt (inA1.not (nW_f1 k hk9) (hW k hk9).lt))
  obtain ⟨q_hB, z9_, f1, hB⟩ := hR
  have s_hB : s.heap.size ≤ q_hB := Nat.le_trans hZ0_ z9_
  have g_hB := hn _ s_hB
  have nW_hB : ∀ k, k < 22 → ad k ≠ q_hB := fun k hk9 => Nat.ne_of_lt (Nat.lt_of_lt_of_le (t_hW k hk9) z9_)
  have l_f1_hB : qf1 < q_hB := Nat.lt_of_lt_of_le t_f1 z9_
  have nW_f1 := cwO hC hW f1.cl
  refine lv_astore_n (pc := 7) (lv' := [(1, .ref qf1), (0, .ref (ad 15))]) hx hb dX3_digest_7 rfl hl (by decide) rfl (fun ls hl => ?_)
  refine lv_ldc2 (pc := 8) (v := 7846) hx hb E.2.2.2.1 (E.2.2.2.2 _ (List.mem_cons_of_mem _ kw_673)) dX3_digest_8 ?_
  refine lv_lstore_n (pc := 11) (lv' := [(2, .long 7846), (1, .ref qf1), (0, .ref (ad 15))]) hx hb dX3_digest_11 rfl hl (by decide) rfl (fun ls hl => ?_)
  refine lv_iconst (pc := 12) (v := 0) hx hb dX3_digest_12 (by decide) ?_
  refine lv_istore (pc := 13) (lv' := [(4, .int 0), (2, .long 7846), (1, .ref qf1), (0, .ref (ad 15))]) hx hb dX3_digest_13 hl (by decide) rfl (fun ls hl => ?_)
  have loop_15 : ∀ (n : Nat) (k : Nat)(s9 : Int64) (y9 : Int32), 5 - k < n → k ≤ 5 → y9 = nI k → ∀ (H : Heap) (locs : List Loc) (ls : Array Slot), va_S (cwA ad s.heap.size) s.heap H locs → CW D tk ad g H → c1 D qf1 (.inr (1, [.ref q_hB, .int 0, .int 0, .int 0])) H → BA D tk q_hB 16 H → lv_has ls 5 [(0, .ref (ad 15)), (1, .ref qf1), (2, .long s9), (4, .int y9)] → W p l e ({ frames := 9, cells := 2986, slots := 5988, locals := 209 } : Room) s m args below meth c H locs (2) (20) Q (F0 m 15 ls []) := by
    intro n
    induction n with
    | zero =>
      intro k s9 y9 hf9 hk9 hx9 H locs ls hS hW f1 hB hl
      omega
    | succ n ih_15 =>
      intro k s9 y9 hf9 hk9 hx9 H locs ls hS hW f1 hB hl
      refine lv_iload (pc := 15) hx hb dX3_digest_15 (lv_at hl 3 rfl) ?_
      refine lv_iconst (pc := 17) (v := 4) hx hb dX3_digest_17 (by decide) ?_
      refine lv_icmp_gt (pc := 18) (tgt := 39) hx hb dX3_digest_18 (by decide) (fun c_3 => ?_) (fun c_3 => ?_)
      · refine lv_iconst (pc := 39) (v := 0) hx hb dX3_digest_39 (by decide) ?_
        refine lv_istore (pc := 40) (lv' := [(4, .int 0), (0, .ref (ad 15)), (1, .ref qf1), (2, .long s9)]) hx hb dX3_digest_40 hl (by decide) rfl (fun ls hl => ?_)
        have loop_42 : ∀ (n : Nat) (k8 : Nat) (v9 : Nat) (n9 : Nat) (c9 : Nat) (m9 : Int32)(g1 : CS) (s8 : Int64) (w9 : Int32), 6 - k8 < n → k8 ≤ 6 → w9 = nI k8 → s.heap.size ≤ v9 → n9 ≤ c9 ∧ 16 ≤ c9 ∧ c9 ≤ 3000 → tx_dgL (6 - k8) k8 g1 = tx_dgL 6 0 g → tx_sm g g1 → ∀ (H : Heap) (locs : List Loc) (ls : Array Slot), va_S (cwA ad s.heap.size) s.heap H locs → CW D tk ad g1 H → SBo D qf1 v9 m9 (nI n9) H → BA D tk v9 c9 H → lv_has ls 5 [(0, .ref (ad 15)), (1, .ref qf1), (2, .long s8), (4, .int w9)] → W p l e ({ frames := 9, cells := 2986, slots := 5988, locals := 209 } : Room) s m args below meth c H locs (2 + (c9 - 16)) (20 + 2 * (c9 - 16)) Q (F0 m 42 ls []) := by
          intro n
          induction n with
          | zero =>
            intro k8 v9 n9 c9 m9 g1 s8 w9 hf8 hk8 hx8 hv9 hb9 hg9 hs9 H locs ls hS hW f1 hB hl
            omega
          | succ n ih_42 =>
            intro k8 v9 n9 c9 m9 g1 s8 w9 hf8 hk8 hx8 hv9 hb9 hg9 hs9 H locs ls hS hW f1 hB hl
            have g_hB := hn _ hv9
            have nW_hB := cwB hC hW hB.cl
            refine lv_iload (pc := 42) hx hb dX3_digest_42 (lv_at hl 3 rfl) ?_
            refine lv_aload_n (pc := 44) hx hb dX3_digest_44 rfl (lv_at hl 0 rfl) ?_
            refine r_get (pc := 45) E hC hW.obj 0 (v := .ref (ad 16)) rfl rfl (by decide) uX3 (List.mem_cons_of_mem _ kw_114) (fun _ h => h) dX3_digest_45 ?_
            refine r_alen (pc := 48) E hC hW.row 2 rfl (v := 6) rfl dX3_digest_48 ?_
            refine lv_icmp_ge (pc := 49) (tgt := 72) hx hb dX3_digest_49 (by decide) (fun c_4 => ?_) (fun c_4 => ?_)
            · have e0 : 6 - k8 = 0 := by have := (i_le (n := 6) hx8 (by decide) (by omega) (by decide)).mp c_4; omega
              have hG9 : g1 = tx_dgL 6 0 g := by rw [← hg9, e0]; rfl
              have hpl1 : tI g1 3 = nI kp := by rw [hs9.2.2.2.1]; exact hpl
              have hdr1 : txD (f_cutNum (tT g1 10) (tB g1 10) (tI g1 3) 0) kp := by rw [hs9.1, hs9.2.1, hs9.2.2.2.1]; exact hdr
              refine lv_aload_n (pc := 72) hx hb dX3_digest_72 rfl (lv_at hl 0 rfl) ?_
              refine lv_lload_n (pc := 73) hx hb dX3_digest_73 rfl (lv_at hl 2 rfl) ?_
              refine k_l (pc := 74) (k_V E hC hS hA hl.1 (c1.recv hC hW.obj rfl) rfl (c_X3_mixedWithPairs l D tk N0 sa hAD H.size g1 s8 ) kw_778 kw_780 kp_13 kw_1 kw_781 (n := 1) (by decide +kernel) rfl ⟨⟨rfl, rfl⟩, ⟨Nat.le_of_ble_eq_true rfl, Nat.le_of_ble_eq_true rfl⟩, (by dsimp only; omega), (by dsimp only; omega)⟩ rfl (Nat.le_of_ble_eq_true rfl) hW dX3_digest_74) hS (fun q z w => absurd w (Nat.not_le.mpr z)) hn (fun r_5 H locs hR hz hk hS => ?_)
              have er_5 := hR
              have hW := hW.new hk
              have f1 := f1.kept (hk _ f1.lt (Nat.not_le.mpr f1.lt))
              have hB := hB.kept (hk _ hB.lt (Nat.not_le.mpr hB.lt))
              refine lv_lstore_n (pc := 77) (lv' := [(2, .long r_5), (0, .ref (ad 15)), (1, .ref qf1), (4, .int w9)]) hx hb dX3_digest_77 rfl hl (by decide) rfl (fun ls hl => ?_)
              refine lv_iconst (pc := 78) (v := 0) hx hb dX3_digest_78 (by decide) ?_
              refine lv_istore (pc := 79) (lv' := [(4, .int 0), (2, .long r_5), (0, .ref (ad 15)), (1, .ref qf1)]) hx hb dX3_digest_79 hl (by decide) rfl (fun ls hl => ?_)
              have loop_81 : ∀ (n : Nat) (k7 : Nat)(s7 : Int64) (u9 : Int32), (tC g1 0).toNatClampNeg - k7 < n → k7 ≤ (tC g1 0).toNatClampNeg → u9 = nI k7 → ∀ (H : Heap) (locs : List Loc) (ls : Array Slot), va_S (cwA ad s.heap.size) s.heap H locs → CW D tk ad g1 H → SBo D qf1 v9 m9 (nI n9) H → BA D tk v9 c9 H → lv_has ls 5 [(0, .ref (ad 15)), (1, .ref qf1), (2, .long s7), (4, .int u9)] → W p l e ({ frames := 9, cells := 2986, slots := 5988, locals := 209 } : Room) s m args below meth c H locs (2 + (c9 - 16)) (20 + 2 * (c9 - 16)) Q (F0 m 81 ls []) := by
                intro n
                induction n with
                | zero =>
                  intro k7 s7 u9 hf7 hk7 hx7 H locs ls hS hW f1 hB hl
                  omega
                | succ n ih_81 =>
                  intro k7 s7 u9 hf7 hk7 hx7 H locs ls hS hW f1 hB hl
                  refine lv_iload (pc := 81) hx hb dX3_digest_81 (lv_at hl 3 rfl) ?_
                  refine lv_aload_n (pc := 83) hx hb dX3_digest_83 rfl (lv_at hl 0 rfl) ?_
                  refine r_get (pc := 84) E hC hW.obj 1 (v := .ref (ad 17)) rfl rfl (by decide) uX3 (List.mem_cons_of_mem _ kw_115) (fun _ h => h) dX3_digest_84 ?_
                  refine r_getN (pc := 87) "Bestratios" E hC (hW.tm (j := 0) (by decide)) 1 (v := .int (tC g1 0)) rfl rfl (by decide) uX2 kn_69 (fun _ h => h) dX3_digest_87 ?_
                  refine lv_icmp_ge (pc := 90) (tgt := 113) hx hb dX3_digest_90 (by decide) (fun c_7 => ?_) (fun c_7 => ?_)
                  · refine lv_aload_n (pc := 113) hx hb dX3_digest_113 rfl (lv_at hl 0 rfl) ?_
                    refine lv_lload_n (pc := 114) hx hb dX3_digest_114 rfl (lv_at hl 2 rfl) ?_
                    refine lv_aload_n (pc := 115) hx hb dX3_digest_115 rfl (lv_at hl 1 rfl) ?_
                    have hZ0_ := hS.1
                    have t_hW := fun k (hk9 : k < 22) => (hW k hk9).lt
                    have t_f1 := f1.lt
                    have t_hB := hB.lt
                    obtain ⟨Q_8, eQ_8⟩ : ∃ z9 : Nat × Nat, z9 = tx_mt g1 kp (n9, c9) := ⟨_, rfl⟩
                    have e2Q_8 : (tx_mt g1 kp (n9, c9)).2 = Q_8.2 := by rw [eQ_8]
                    have e1Q_8 : (tx_mt g1 kp (n9, c9)).1 = Q_8.1 := by rw [eQ_8]
                    have hQ_8 := tx_mt_ok g1 kp (n9, c9) (by assumption)
                    rw [← eQ_8] at hQ_8; dsimp only [tx_ok] at hQ_8
                    refine k_l (pc := 116) (k_V E hC hS hA hl.1 (c1.recv hC hW.obj rfl) rfl (c_X3_mixedWithTally l D tk N0 sa hAD H.size g1 s7 qf1 v9 n9 c9 m9 (hA _ g_f1) (hA _ g_hB) (by omega) (by omega) kp hpl1 hkp hdr1) kw_782 kw_784 kp_14 kw_1 kw_785 (n := 2) (by decide +kernel) rfl ⟨⟨rfl, rfl⟩, ⟨Nat.le_of_ble_eq_true rfl, Nat.le_of_ble_eq_true rfl⟩, (by dsimp only; omega), (by dsimp only; omega)⟩ rfl (Nat.le_of_ble_eq_true rfl) ⟨hW, f1, hB⟩ dX3_digest_116) hS (inA2.to g_f1 g_hB) hn (fun r_9 H locs hR hz hk hS => ?_)
                    have hW := hW.kept (fun k hk9 => hk _ (hW k hk9).lt (inA2.not (nW_f1 k hk9) (nW_hB k hk9) (hW k hk9).lt))
                    obtain ⟨v_10, ml_10, hv_10, f1, hB⟩ := hR
                    have g_hB := hv_10.elim (fun e9 => e9 ▸ g_hB) (fun z9 => hn _ (Nat.le_trans hZ0_ z9))
                    have nW_hB : ∀ k, k < 22 → ad k ≠ v_10 := fun k hk9 => hv_10.elim (fun e9 => e9 ▸ nW_hB k hk9) (fun z9 => Nat.ne_of_lt (Nat.lt_of_lt_of_le (t_hW k hk9) z9))
                    have hv_10 := hv_10.imp_right (fun z9 => Nat.le_trans hZ0_ z9)
                    rw [← eQ_8] at f1 hB
                    refine lv_lstore_n (pc := 119) (lv' := [(2, .long r_9), (0, .ref (ad 15)), (1, .ref qf1), (4, .int u9)]) hx hb dX3_digest_119 rfl hl (by decide) rfl (fun ls hl => ?_)
                    refine lv_lload_n (pc := 120) hx hb dX3_digest_120 rfl (lv_at hl 0 rfl) ?_
                    refine lv_aload_n (pc := 121) hx hb dX3_digest_121 rfl (lv_at hl 1 rfl) ?_
                    refine k_i (pc := 122) (k_V E hC hS hA hl.1 (c1.recv hC hW.obj rfl) rfl (c_X3_isSound l D tk N0 sa hAD H.size g1  ) kw_786 kw_556 kw_557 kw_1 kw_558 (n := 0) (by decide +kernel) rfl ⟨⟨rfl, rfl⟩, ⟨Nat.le_of_ble_eq_true rfl, Nat.le_of_ble_eq_true rfl⟩, (by dsimp only; omega), (by dsimp only; omega)⟩ rfl (Nat.le_of_ble_eq_true rfl) hW dX3_digest_122) hS (fun q _ w => cwA.go hS.1 q w) hn (fun r_12 H locs hR hz hk hS => ?_)
                    obtain ⟨er_12, hW⟩ := hR
                    have f1 := f1.kept (hk _ f1.lt (cwN nW_f1 f1.lt))
                    have hB := hB.kept (hk _ hB.lt (cwN nW_hB hB.lt))
                    obtain ⟨g_14, eg_14⟩ : ∃ z, z = (f_isS g1).2 := ⟨_, rfl⟩
                    rw [← eg_14] at hW
                    refine lv_if_eq (pc := 125) (tgt := 132) hx hb dX3_digest_125 (by decide) (fun c_15 => ?_) (fun c_15 => ?_)
                    · refine lv_lconst (pc := 132) (v := 0) hx hb dX3_digest_132 (by decide) ?_
                      refine k_l (pc := 133) (k_S E hC hS hA hl.1 (c_X3_mixed l D tk N0 sa H.size r_9 0 ) kw_682 kw_683 kw_1 kw_684 (n := 2) (by decide +kernel) rfl ⟨⟨rfl, rfl⟩, ⟨Nat.le_of_ble_eq_true rfl, Nat.le_of_ble_eq_true rfl⟩, (by dsimp only; omega), (by dsimp only; omega)⟩ rfl (Nat.le_of_ble_eq_true rfl) trivial dX3_digest_133) hS (fun q z w => absurd w (Nat.not_le.mpr z)) hn (fun r_16 H locs hR hz hk hS => ?_)
                      have er_16 := hR
                      have hW := hW.new hk
                      have f1 := f1.kept (hk _ f1.lt (Nat.not_le.mpr f1.lt))
                      have hB := hB.kept (hk _ hB.lt (Nat.not_le.mpr hB.lt))
                      try rw [hQ]
                      refine r_lret (pc := 136) E hr hlk hS (by omega) (by omega) ?_ dX3_digest_136
                      exact hW.to (by rw [eg_14, hG9]; rfl)
                    · refine lv_lconst (pc := 128) (v := 1) hx hb dX3_digest_128 (by decide) ?_
                      refine lv_goto (pc := 129) (tgt := 133) hx hb dX3_digest_129 (by decide) ?_
                      refine k_l (pc := 133) (k_S E hC hS hA hl.1 (c_X3_mixed l D tk N0 sa H.size r_9 1 ) kw_682 kw_683 kw_1 kw_684 (n := 2) (by decide +kernel) rfl ⟨⟨rfl, rfl⟩, ⟨Nat.le_of_ble_eq_true rfl, Nat.le_of_ble_eq_true rfl⟩, (by dsimp only; omega), (by dsimp only; omega)⟩ rfl (Nat.le_of_ble_eq_true rfl) trivial dX3_digest_133) hS (fun q z w => absurd w (Nat.not_le.mpr z)) hn (fun r_18 H locs hR hz hk hS => ?_)
                      have er_18 := hR
                      have hW := hW.new hk
                      have f1 := f1.kept (hk _ f1.lt (Nat.not_le.mpr f1.lt))
                      have hB := hB.kept (hk _ hB.lt (Nat.not_le.mpr hB.lt))
                      try rw [hQ]
                      refine r_lret (pc := 136) E hr hlk hS (by omega) (by omega) ?_ dX3_digest_136
                      exact hW.to (by rw [eg_14, hG9]; rfl)
                  · have hlt7 := (i_mlt hx7 hk7).mp c_7
                    refine lv_lload_n (pc := 93) hx hb dX3_digest_93 rfl (lv_at hl 2 rfl) ?_
                    refine lv_aload_n (pc := 94) hx hb dX3_digest_94 rfl (lv_at hl 0 rfl) ?_
                    refine r_get (pc := 95) E hC hW.obj 1 (v := .ref (ad 17)) rfl rfl (by decide) uX3 (List.mem_cons_of_mem _ kw_115) (fun _ h => h) dX3_digest_95 ?_
                    refine lv_iload (pc := 98) hx hb dX3_digest_98 (lv_at hl 3 rfl) ?_
                    refine k_l (pc := 100) (k_V E hC hS hA hl.1 (c1.recv hC (hW.tm (j := 0) (by decide)) rfl) rfl (c_X2_at l D tk N0 sa hAD H.size g1 0 (by decide) u9 ) kw_277 kw_278 kw_279 kw_3 kw_280 (n := 1) (by decide +kernel) rfl ⟨⟨rfl, rfl⟩, ⟨Nat.le_of_ble_eq_true rfl, Nat.le_of_ble_eq_true rfl⟩, (by dsimp only; omega), (by dsimp only; omega)⟩ rfl (Nat.le_of_ble_eq_true rfl) hW dX3_digest_100) hS (fun q z w => absurd w (Nat.not_le.mpr z)) hn (fun r_20 H locs hR hz hk hS => ?_)
                    have er_20 := hR
                    have hW := hW.new hk
                    have f1 := f1.kept (hk _ f1.lt (Nat.not_le.mpr f1.lt))
                    have hB := hB.kept (hk _ hB.lt (Nat.not_le.mpr hB.lt))
                    refine k_l (pc := 103) (k_S E hC hS hA hl.1 (c_X3_mixed l D tk N0 sa H.size s7 r_20 ) kw_682 kw_683 kw_1 kw_684 (n := 2) (by decide +kernel) rfl ⟨⟨rfl, rfl⟩, ⟨Nat.le_of_ble_eq_true rfl, Nat.le_of_ble_eq_true rfl⟩, (by dsimp only; omega), (by dsimp only; omega)⟩ rfl (Nat.le_of_ble_eq_true rfl) trivial dX3_digest_103) hS (fun q z w => absurd w (Nat.not_le.mpr z)) hn (fun r_22 H locs hR hz hk hS => ?_)
                    have er_22 := hR
                    have hW := hW.new hk
                    have f1 := f1.kept (hk _ f1.lt (Nat.not_le.mpr f1.lt))
                    have hB := hB.kept (hk _ hB.lt (Nat.not_le.mpr hB.lt))
                    refine lv_lstore_n (pc := 106) (lv' := [(2, .long r_22), (0, .ref (ad 15)), (1, .ref qf1), (4, .int u9)]) hx hb dX3_digest_106 rfl hl (by decide) rfl (fun ls hl => ?_)
                    obtain ⟨x_24, ex_24⟩ : ∃ z9 : Int32, z9 = u9 + 1 := ⟨_, rfl⟩
                    refine lv_iinc (pc := 107) (v := x_24) (lv' := [(4, .int x_24), (2, .long r_22), (0, .ref (ad 15)), (1, .ref qf1)]) hx hb dX3_digest_107 hl (k := 3) rfl (by rw [ex_24]; rfl) (by decide) rfl (fun ls hl => ?_)
                    refine lv_goto (pc := 110) (tgt := 81) hx hb dX3_digest_110 (by decide) ?_
                    refine W.widen (k := 2 + (c9 - 16)) (n := 20 + 2 * (c9 - 16)) (by omega) (by omega) ?_
                    exact ih_81  (k7 + 1)  r_22 x_24 (by omega) (by omega) (i_up hx7 ex_24) _ _ _ hS hW f1 hB (lv_sub hl [2, 3, 1, 0] rfl)
              refine W.widen (k := 2 + (c9 - 16)) (n := 20 + 2 * (c9 - 16)) (by omega) (by omega) ?_
              exact loop_81 ((tC g1 0).toNatClampNeg + 1) 0  r_5 0 (by omega) (Nat.zero_le _) nI_0.symm _ _ _ hS hW f1 hB (lv_sub hl [2, 3, 1, 0] rfl)
            · have hlt8 : k8 < 6 := Nat.not_le.mp (fun z => c_4 ((i_le (n := 6) hx8 (by decide) (by omega) (by decide)).mpr z))
              have e200 : 6 - k8 = (6 - (k8 + 1)) + 1 := by omega
              rw [e200] at hg9
              have hg8 : tx_dgL (6 - (k8 + 1)) (k8 + 1) (tx_mrW g1 k8) = tx_dgL 6 0 g := hg9
              have hs8 := hs9.tr (tx_smR g1 k8)
              refine lv_aload_n (pc := 52) hx hb dX3_digest_52 rfl (lv_at hl 0 rfl) ?_
              refine lv_lload_n (pc := 53) hx hb dX3_digest_53 rfl (lv_at hl 2 rfl) ?_
              refine lv_aload_n (pc := 54) hx hb dX3_digest_54 rfl (lv_at hl 0 rfl) ?_
              refine r_get (pc := 55) E hC hW.obj 0 (v := .ref (ad 16)) rfl rfl (by decide) uX3 (List.mem_cons_of_mem _ kw_114) (fun _ h => h) dX3_digest_55 ?_
              refine lv_iload (pc := 58) hx hb dX3_digest_58 (lv_at hl 3 rfl) ?_
              refine r_aald (pc := 60) E hC hW.row (i_in hx8 hlt8 (by decide)) dX3_digest_60 ?_
              rw [show (w9).toNatClampNeg = k8 from (i_cl hx8 (by omega))]
              refine lv_aload_n (pc := 61) hx hb dX3_digest_61 rfl (lv_at hl 1 rfl) ?_
              have hZ0_ := hS.1
              have t_hW := fun k (hk9 : k < 22) => (hW k hk9).lt
              have t_f1 := f1.lt
              have t_hB := hB.lt
              obtain ⟨Q_25, eQ_25⟩ : ∃ z9 : Nat × Nat, z9 = tx_mr g1 k8 (n9, c9) := ⟨_, rfl⟩
              have e2Q_25 : (tx_mr g1 k8 (n9, c9)).2 = Q_25.2 := by rw [eQ_25]
              have e1Q_25 : (tx_mr g1 k8 (n9, c9)).1 = Q_25.1 := by rw [eQ_25]
              have hQ_25 := tx_mr_ok g1 k8 (n9, c9)
              rw [← eQ_25] at hQ_25; dsimp only [tx_ok] at hQ_25
              refine k_l (pc := 62) (k_V E hC hS hA hl.1 (c1.recv hC hW.obj rfl) rfl (c_X3_mixedWithRatio l D tk N0 sa hAD H.size g1 s8 k8 (by omega) qf1 v9 n9 c9 m9 (hA _ g_f1) (hA _ g_hB) (by omega) (by omega) (fun md => by rw [(hs8.1 : tT (tx_mrW g1 k8) = tT g), (hs8.2.1 : tB (tx_mrW g1 k8) = tB g)]; exact hdg k8 hlt8 md)) kw_686 kw_688 kp_10 kw_1 kw_689 (n := 3) (by decide +kernel) rfl ⟨⟨rfl, rfl⟩, ⟨Nat.le_of_ble_eq_true rfl, Nat.le_of_ble_eq_true rfl⟩, (by dsimp only; omega), (by dsimp only; omega)⟩ rfl (Nat.le_of_ble_eq_true rfl) ⟨hW, f1, hB⟩ dX3_digest_62) hS (inC2.to (fun q w => cwA.go hS.1 q w) g_f1 g_hB) hn (fun r_26 H locs hR hz hk hS => ?_)
              obtain ⟨⟨v_27, ml_27, hv_27, f1, hB⟩, hW⟩ := hR
              have g_hB := hv_27.elim (fun e9 => e9 ▸ g_hB) (fun z9 => hn _ (Nat.le_trans hZ0_ z9))
              have hv_27 := hv_27.imp_right (fun z9 => Nat.le_trans hZ0_ z9)
              rw [← eQ_25] at f1 hB
              obtain ⟨g_29, eg_29⟩ : ∃ z, z = tx_mrW g1 k8 := ⟨_, rfl⟩
              rw [← eg_29] at hW
              have nW_hB := cwB hC hW hB.cl
              refine lv_lstore_n (pc := 65) (lv' := [(2, .long r_26), (0, .ref (ad 15)), (1, .ref qf1), (4, .int w9)]) hx hb dX3_digest_65 rfl hl (by decide) rfl (fun ls hl => ?_)
              obtain ⟨x_30, ex_30⟩ : ∃ z9 : Int32, z9 = w9 + 1 := ⟨_, rfl⟩
              refine lv_iinc (pc := 66) (v := x_30) (lv' := [(4, .int x_30), (2, .long r_26), (0, .ref (ad 15)), (1, .ref qf1)]) hx hb dX3_digest_66 hl (k := 3) rfl (by rw [ex_30]; rfl) (by decide) rfl (fun ls hl => ?_)
              refine lv_goto (pc := 69) (tgt := 42) hx hb dX3_digest_69 (by decide) ?_
              refine W.widen (k := 2 + (Q_25.2 - 16)) (n := 20 + 2 * (Q_25.2 - 16)) (by omega) (by omega) ?_
              exact ih_42  (k8 + 1) v_27 Q_25.1 Q_25.2 ml_27 g_29  r_26 x_30 (by omega) (by omega) (i_up hx8 ex_30) (hv_27.elim (fun e9 => e9 ▸ hv9) id) (by omega) (by rw [eg_29]; exact hg8) (by rw [eg_29]; exact hs8) _ _ _ hS hW f1 hB (lv_sub hl [2, 3, 1, 0] rfl)
        refine W.widen (k := 2 + (16 - 16)) (n := 20 + 2 * (16 - 16)) (by omega) (by omega) ?_
        exact loop_42 7 0 q_hB 0 16 0 g  s9 0 (by omega) (by omega) nI_0.symm s_hB (by omega) (by rw [Nat.sub_zero]) (tx_sm.rf g) _ _ _ hS hW f1 hB (lv_sub hl [1, 2, 3, 0] rfl)
      · have hlt9 : ¬ 4 < k := fun z => c_3 ((i_lt (k := 4) (by decide) hx9 (by decide) (by omega)).mpr z)
        refine lv_lload_n (pc := 21) hx hb dX3_digest_21 rfl (lv_at hl 2 rfl) ?_
        refine lv_aload_n (pc := 22) hx hb dX3_digest_22 rfl (lv_at hl 0 rfl) ?_
        refine lv_iload (pc := 23) hx hb dX3_digest_23 (lv_at hl 3 rfl) ?_
        refine k_i (pc := 25) (k_V E hC hS hA hl.1 (c1.recv hC hW.obj rfl) rfl (c_X3_countOf l D tk N0 sa hAD H.size g y9 ) kw_674 kw_676 kp_8 kw_1 kw_677 (n := 1) (by decide +kernel) rfl ⟨⟨rfl, rfl⟩, ⟨Nat.le_of_ble_eq_true rfl, Nat.le_of_ble_eq_true rfl⟩, (by dsimp only; omega), (by dsimp only; omega)⟩ rfl (Nat.le_of_ble_eq_true rfl) hW dX3_digest_25) hS (fun q z w => absurd w (Nat.not_le.mpr z)) hn (fun r_31 H locs hR hz hk hS => ?_)
        have er_31 := hR
        have hW := hW.new hk
        have f1 := f1.kept (hk _ f1.lt (Nat.not_le.mpr f1.lt))
        have hB := hB.kept (hk _ hB.lt (Nat.not_le.mpr hB.lt))
        refine lv_i2l (pc := 28) (v := r_31.toInt64) hx hb dX3_digest_28 rfl ?_
        refine k_l (pc := 29) (k_S E hC hS hA hl.1 (c_X3_mixed l D tk N0 sa H.size s9 r_31.toInt64 ) kw_682 kw_683 kw_1 kw_684 (n := 2) (by decide +kernel) rfl ⟨⟨rfl, rfl⟩, ⟨Nat.le_of_ble_eq_true rfl, Nat.le_of_ble_eq_true rfl⟩, (by dsimp only; omega), (by dsimp only; omega)⟩ rfl (Nat.le_of_ble_eq_true rfl) trivial dX3_digest_29) hS (fun q z w => absurd w (Nat.not_le.mpr z)) hn (fun r_33 H locs hR hz hk hS => ?_)
        have er_33 := hR
        have hW := hW.new hk
        have f1 := f1.kept (hk _ f1.lt (Nat.not_le.mpr f1.lt))
        have hB := hB.kept (hk _ hB.lt (Nat.not_le.mpr hB.lt))
        refine lv_lstore_n (pc := 32) (lv' := [(2, .long r_33), (0, .ref (ad 15)), (1, .ref qf1), (4, .int y9)]) hx hb dX3_digest_32 rfl hl (by decide) rfl (fun ls hl => ?_)
        obtain ⟨x_35, ex_35⟩ : ∃ z9 : Int32, z9 = y9 + 1 := ⟨_, rfl⟩
        refine lv_iinc (pc := 33) (v := x_35) (lv' := [(4, .int x_35), (2, .long r_33), (0, .ref (ad 15)), (1, .ref qf1)]) hx hb dX3_digest_33 hl (k := 3) rfl (by rw [ex_35]; rfl) (by decide) rfl (fun ls hl => ?_)
        refine lv_goto (pc := 36) (tgt := 15) hx hb dX3_digest_36 (by decide) ?_
        refine W.widen (k := 2) (n := 20) (by omega) (by omega) ?_
        exact ih_15  (k + 1)  r_33 x_35 (by omega) (by omega) (i_up hx9 ex_35) _ _ _ hS hW f1 hB (lv_sub hl [2, 3, 1, 0] rfl)
  refine W.widen (k := 2) (n := 20) (by omega) (by omega) ?_
  exact loop_15 6 0  7846 0 (by omega) (by omega) nI_0.symm _ _ _ hS hW f1 hB (lv_sub hl [3, 2, 1, 0] rfl)
