set_option maxHeartbeats 4000000 in
set_option maxRecDepth 100000 in
/-- Bestratios.writeWay(Ljava/lang/StringBuilder;LBestratios$Fraction;)V -/
theorem c_X3_writeWay (l : Launch) (D : va_G) (tk : Nat → ClassId) (N0 : Nat) (sa : Nat → Nat) {ad : Nat → Nat} (hAD : ADok N0 ad) (sz : Nat) (g : CS) (i : Nat) (hi : i < 15) (a9 v0 n0 c0 : Nat) (ml : Int32) (ha9 : N0 ≤ a9) (hv0 : N0 ≤ v0) (hn9 : n0 ≤ c0) (hcap : c0 ≤ 100000) : Met l yX3_writeWay (wsy yX3_writeWay cX3_writeWay 7 none) ({ frames := 6, cells := (tx_wy g i (n0, c0)).2 - c0, slots := 2 * ((tx_wy g i (n0, c0)).2 - c0), locals := 135 } : Room) (cP D tk N0 sa [.ref (ad 15), .ref a9, .ref (ad i)] sz (fun H => CW D tk ad g H ∧ SBo D a9 v0 ml (nI n0) H ∧ BA D tk v0 c0 H)) (kQv (fun H => (∃ v1 ml1, (v1 = v0 ∨ sz ≤ v1) ∧ SBo D a9 v1 ml1 (nI (tx_wy g i (n0, c0)).1) H ∧ BA D tk v1 (tx_wy g i (n0, c0)).2 H) ∧ CW D tk ad (tx_wyW g i) H) (inC2 ad a9 v0 sz)) ((tx_wy g i (n0, c0)).2 - c0) (2 * ((tx_wy g i (n0, c0)).2 - c0)) (inC2 ad a9 v0 sz) := by
  refine mStart RX3 rfl (by decide +kernel) (Nat.le_of_ble_eq_true rfl) ?_
  intro p e s m args below meth c E hr hlk hnm hsz hC hF ls hl
  subst hsz
  obtain ⟨hx, hb, -⟩ := id E
  have hA : ∀ q, (inC2 ad a9 v0 s.heap.size) q → N0 ≤ q := fun q h => h.elim (cwA.ge hAD hC.2.1 q) (fun z => z.elim (fun e => e ▸ ha9) (fun e => e ▸ hv0))
  have hn : ∀ q, s.heap.size ≤ q → (inC2 ad a9 v0 s.heap.size) q := fun q h => Or.inl (Or.inr h)
  have hS : va_S (inC2 ad a9 v0 s.heap.size) s.heap s.heap [] := va_S.rf
  have hl : lv_has ls 7 [(0, .ref (ad 15)), (1, .ref a9), (2, .ref (ad i))] := hl
  obtain ⟨Q, hQ⟩ : ∃ Q, Q = MQ below (kQv (fun H => (∃ v1 ml1, (v1 = v0 ∨ s.heap.size ≤ v1) ∧ SBo D a9 v1 ml1 (nI (tx_wy g i (n0, c0)).1) H ∧ BA D tk v1 (tx_wy g i (n0, c0)).2 H) ∧ CW D tk ad (tx_wyW g i) H) (inC2 ad a9 v0 s.heap.size)) args s ((tx_wy g i (n0, c0)).2 - c0) (2 * ((tx_wy g i (n0, c0)).2 - c0)) (inC2 ad a9 v0 s.heap.size) := ⟨_, rfl⟩
  rw [← hQ]
  obtain ⟨hW, f0, hB⟩ : CW D tk ad g s.heap ∧ SBo D a9 v0 ml (nI n0) s.heap ∧ BA D tk v0 c0 s.heap := hF
  have g_f0 : (inC2 ad a9 v0 s.heap.size) a9 := Or.inr (Or.inl rfl)
  have g_hB : (inC2 ad a9 v0 s.heap.size) v0 := Or.inr (Or.inr rfl)
  have nW_f0 := cwO hC hW f0.cl
  have nW_hB := cwB hC hW hB.cl
  refine lv_aload_n (pc := 0) hx hb dX3_writeWay_0 rfl (lv_at hl 2 rfl) ?_
  refine k_i (pc := 1) (k_V E hC hS hA hl.1 (c1.recv hC (hW.fr (i := i) hi) rfl) rfl (c_X0_sign l D tk N0 sa hAD s.heap.size g i hi ) kw_613 kw_614 kw_615 kw_2 kw_616 (n := 0) (by decide +kernel) rfl ⟨⟨rfl, rfl⟩, ⟨Nat.le_of_ble_eq_true rfl, Nat.le_of_ble_eq_true rfl⟩, (by dsimp only; omega), (by dsimp only; omega)⟩ rfl (Nat.le_of_ble_eq_true rfl) hW dX3_writeWay_1) hS (fun q z w => absurd w (Nat.not_le.mpr z)) hn (fun r_1 H locs hR hz hk hS => ?_)
  have er_1 := hR
  have hW := hW.new hk
  have f0 := f0.kept (hk _ f0.lt (Nat.not_le.mpr f0.lt))
  have hB := hB.kept (hk _ hB.lt (Nat.not_le.mpr hB.lt))
  refine lv_if_gt (pc := 4) (tgt := 16) hx hb dX3_writeWay_4 (by decide) (fun c_3 => ?_) (fun c_3 => ?_)
  · refine lv_aload_n (pc := 16) hx hb dX3_writeWay_16 rfl (lv_at hl 0 rfl) ?_
    refine r_get (pc := 17) E hC hW.obj 8 (v := .ref (ad 19)) rfl rfl (by decide) uX3 (List.mem_cons_of_mem _ kw_122) (fun _ h => h) dX3_writeWay_17 ?_
    refine lv_aload_n (pc := 20) hx hb dX3_writeWay_20 rfl (lv_at hl 2 rfl) ?_
    refine k_v (pc := 21) (k_V E hC hS hA hl.1 (c1.recv hC (hW.tm (j := 1) (by decide)) rfl) rfl (c_X2_takeApart l D tk N0 sa hAD H.size g 1 (by decide) i hi ) kw_563 kw_564 kw_565 kw_3 kw_566 (n := 1) (by decide +kernel) rfl ⟨⟨rfl, rfl⟩, ⟨Nat.le_of_ble_eq_true rfl, Nat.le_of_ble_eq_true rfl⟩, (by dsimp only; omega), (by dsimp only; omega)⟩ rfl (Nat.le_of_ble_eq_true rfl) hW dX3_writeWay_21) hS (fun q _ w => Or.inl (cwA.go hS.1 q w)) hn (fun H locs hR hz hk hS => ?_)
    have hW := hR
    have f0 := f0.kept (hk _ f0.lt (cwN nW_f0 f0.lt))
    have hB := hB.kept (hk _ hB.lt (cwN nW_hB hB.lt))
    obtain ⟨g_6, eg_6⟩ : ∃ z, z = f_apart g 1 i := ⟨_, rfl⟩
    rw [← eg_6] at hW
    refine lv_aload_n (pc := 24) hx hb dX3_writeWay_24 rfl (lv_at hl 0 rfl) ?_
    refine r_get (pc := 25) E hC hW.obj 8 (v := .ref (ad 19)) rfl rfl (by decide) uX3 (List.mem_cons_of_mem _ kw_122) (fun _ h => h) dX3_writeWay_25 ?_
    refine lv_ldc2 (pc := 28) (v := (-1)) hx hb E.2.2.2.1 (E.2.2.2.2 _ (List.mem_cons_of_mem _ kw_625)) dX3_writeWay_28 ?_
    refine k_v (pc := 31) (k_V E hC hS hA hl.1 (c1.recv hC (hW.tm (j := 1) (by decide)) rfl) rfl (c_X2_addToLast l D tk N0 sa hAD H.size g_6 1 (by decide) ((-1)) ) kw_621 kw_622 kw_623 kw_3 kw_624 (n := 1) (by decide +kernel) rfl ⟨⟨rfl, rfl⟩, ⟨Nat.le_of_ble_eq_true rfl, Nat.le_of_ble_eq_true rfl⟩, (by dsimp only; omega), (by dsimp only; omega)⟩ rfl (Nat.le_of_ble_eq_true rfl) hW dX3_writeWay_31) hS (fun q _ w => Or.inl (cwA.go hS.1 q w)) hn (fun H locs hR hz hk hS => ?_)
    have hW := hR
    have f0 := f0.kept (hk _ f0.lt (cwN nW_f0 f0.lt))
    have hB := hB.kept (hk _ hB.lt (cwN nW_hB hB.lt))
    obtain ⟨g_9, eg_9⟩ : ∃ z, z = f_addTo g_6 1 ((-1)) := ⟨_, rfl⟩
    rw [← eg_9] at hW
    have hgg : g_9 = tx_wyg g i := by rw [eg_9, eg_6]; rfl
    have hc9 : ¬ f_cmp (tT g i) 0 ≤ 0 := by rw [← er_1]; exact Int32.not_le.mpr c_3
    have hK : (tC g_9 1).toNatClampNeg ≤ 64 := by rw [hgg]; exact tx_wyc g i
    have hw1 : tx_wy g i (n0, c0) = tx_wyL g_9 (tC g_9 1).toNatClampNeg 0 (n0, c0) := by rw [tx_wy, if_neg hc9, hgg]
    refine lv_iconst (pc := 34) (v := 0) hx hb dX3_writeWay_34 (by decide) ?_
    refine lv_istore_n (pc := 35) (lv' := [(3, .int 0), (0, .ref (ad 15)), (1, .ref a9), (2, .ref (ad i))]) hx hb dX3_writeWay_35 rfl hl (by decide) rfl (fun ls hl => ?_)
    have loop_36 : ∀ (n : Nat) (k : Nat) (v9 : Nat) (n9 : Nat) (c9 : Nat)(y9 : Int32), (tC g_9 1).toNatClampNeg - k < n → k ≤ (tC g_9 1).toNatClampNeg → y9 = nI k → v9 = v0 ∨ s.heap.size ≤ v9 → n9 ≤ c9 ∧ c0 ≤ c9 ∧ n9 ≤ n0 + 23 * k ∧ c9 ≤ max c0 (2 * n9) → tx_wyL g_9 ((tC g_9 1).toNatClampNeg - k) k (n9, c9) = tx_wy g i (n0, c0) → ∀ (H : Heap) (locs : List Loc) (ls : Array Slot), va_S (inC2 ad a9 v0 s.heap.size) s.heap H locs → CW D tk ad g_9 H → SBo D a9 v9 ml (nI n9) H → BA D tk v9 c9 H → lv_has ls 7 [(0, .ref (ad 15)), (1, .ref a9), (2, .ref (ad i)), (3, .int y9)] → W p l e ({ frames := 6, cells := (tx_wy g i (n0, c0)).2 - c0, slots := 2 * ((tx_wy g i (n0, c0)).2 - c0), locals := 135 } : Room) s m args below meth c H locs (c9 - c0) (2 * (c9 - c0)) Q (F0 m 36 ls []) := by
      intro n
      induction n with
      | zero =>
        intro k v9 n9 c9 y9 hf9 hk9 hx9 hv9 hb9 hg9 H locs ls hS hW f0 hB hl
        omega
      | succ n ih_36 =>
        intro k v9 n9 c9 y9 hf9 hk9 hx9 hv9 hb9 hg9 H locs ls hS hW f0 hB hl
        have g_hB := hv9.elim (fun e9 => e9 ▸ g_hB) (fun z9 => hn _ z9)
        have nW_hB := cwB hC hW hB.cl
        refine lv_iload_n (pc := 36) hx hb dX3_writeWay_36 rfl (lv_at hl 3 rfl) ?_
        refine lv_aload_n (pc := 37) hx hb dX3_writeWay_37 rfl (lv_at hl 0 rfl) ?_
        refine r_get (pc := 38) E hC hW.obj 8 (v := .ref (ad 19)) rfl rfl (by decide) uX3 (List.mem_cons_of_mem _ kw_122) (fun _ h => h) dX3_writeWay_38 ?_
        refine r_getN (pc := 41) "Bestratios" E hC (hW.tm (j := 1) (by decide)) 1 (v := .int (tC g_9 1)) rfl rfl (by decide) uX2 kn_69 (fun _ h => h) dX3_writeWay_41 ?_
        refine lv_icmp_ge (pc := 44) (tgt := 114) hx hb dX3_writeWay_44 (by decide) (fun c_10 => ?_) (fun c_10 => ?_)
        · have e0 := (i_mle hx9 hk9).mp c_10
          have hR9 : tx_wy g i (n0, c0) = (n9, c9) := by rw [← hg9, e0]; rfl
          have hR2 : (tx_wy g i (n0, c0)).2 = c9 := by rw [hR9]
          try rw [hQ]
          refine r_vret (pc := 114) E hr hlk hS (by omega) (by omega) ?_ dX3_writeWay_114
          rw [hR9]
          exact ⟨⟨_, _, hv9, f0, hB⟩, hW.to (by rw [tx_wyW, if_neg hc9]; exact hgg)⟩
        · have hlt := (i_mlt hx9 hk9).mp c_10
          have hm8 := tx_wyL_m g_9 ((tC g_9 1).toNatClampNeg - k) k (n9, c9)
          rw [hg9] at hm8
          dsimp only at hm8
          have e200 : (tC g_9 1).toNatClampNeg - k = ((tC g_9 1).toNatClampNeg - (k + 1)) + 1 := by omega
          rw [e200] at hg9
          have hg8 : tx_wyL g_9 ((tC g_9 1).toNatClampNeg - (k + 1)) (k + 1) (tx_wyS g_9 k (n9, c9)) = tx_wy g i (n0, c0) := hg9
          refine lv_aload_n (pc := 47) hx hb dX3_writeWay_47 rfl (lv_at hl 0 rfl) ?_
          refine r_get (pc := 48) E hC hW.obj 8 (v := .ref (ad 19)) rfl rfl (by decide) uX3 (List.mem_cons_of_mem _ kw_122) (fun _ h => h) dX3_writeWay_48 ?_
          refine lv_iload_n (pc := 51) hx hb dX3_writeWay_51 rfl (lv_at hl 3 rfl) ?_
          refine k_l (pc := 52) (k_V E hC hS hA hl.1 (c1.recv hC (hW.tm (j := 1) (by decide)) rfl) rfl (c_X2_at l D tk N0 sa hAD H.size g_9 1 (by decide) y9 ) kw_277 kw_278 kw_279 kw_3 kw_280 (n := 1) (by decide +kernel) rfl ⟨⟨rfl, rfl⟩, ⟨Nat.le_of_ble_eq_true rfl, Nat.le_of_ble_eq_true rfl⟩, (by dsimp only; omega), (by dsimp only; omega)⟩ rfl (Nat.le_of_ble_eq_true rfl) hW dX3_writeWay_52) hS (fun q z w => absurd w (Nat.not_le.mpr z)) hn (fun r_11 H locs hR hz hk hS => ?_)
          have er_11 := hR
          have hW := hW.new hk
          have f0 := f0.kept (hk _ f0.lt (Nat.not_le.mpr f0.lt))
          have hB := hB.kept (hk _ hB.lt (Nat.not_le.mpr hB.lt))
          refine lv_lstore (pc := 55) (lv' := [(4, .long r_11), (0, .ref (ad 15)), (1, .ref a9), (2, .ref (ad i)), (3, .int y9)]) hx hb dX3_writeWay_55 hl (by decide) rfl (fun ls hl => ?_)
          refine lv_lload (pc := 57) hx hb dX3_writeWay_57 (lv_at hl 0 rfl) ?_
          refine lv_lconst (pc := 59) (v := 0) hx hb dX3_writeWay_59 (by decide) ?_
          refine r_lcle (pc := 60) (tgt := 108) E dX3_writeWay_60 dX3_writeWay_61 (by decide) (fun c_13 => ?_) (fun c_13 => ?_)
          · obtain ⟨x_14, ex_14⟩ : ∃ z9 : Int32, z9 = y9 + 1 := ⟨_, rfl⟩
            refine lv_iinc (pc := 108) (v := x_14) (lv' := [(3, .int x_14), (4, .long r_11), (0, .ref (ad 15)), (1, .ref a9), (2, .ref (ad i))]) hx hb dX3_writeWay_108 hl (k := 4) rfl (by rw [ex_14]; rfl) (by decide) rfl (fun ls hl => ?_)
            refine lv_goto (pc := 111) (tgt := 36) hx hb dX3_writeWay_111 (by decide) ?_
            refine W.widen (k := c9 - c0) (n := 2 * (c9 - c0)) (by omega) (by omega) ?_
            exact ih_36  (k + 1) v9 n9 c9  x_14 (by omega) (by omega) (i_up hx9 ex_14) hv9 (by omega) (by rw [← hg8, tx_wyS, ← hx9, ← er_11, if_pos c_13]) _ _ _ hS hW f0 hB (lv_sub hl [2, 3, 4, 0] rfl)
          · have hd9 := dgI_le r_11.toInt32
            have hT8 : tx_wyS g_9 k (n9, c9) = tx_ap (tx_ap (if n9 = 0 then (n9, c9) else tx_ap (n9, c9) 1) 1) (dgI r_11.toInt32) := by rw [tx_wyS, ← hx9, ← er_11, if_neg c_13]
            refine lv_aload_n (pc := 64) hx hb dX3_writeWay_64 rfl (lv_at hl 2 rfl) ?_
            refine k_i (pc := 65) (k_V E hC hS hA hl.1 (c1.recv hC f0 rfl) rfl (c_J4_length_8abf5 l D tk N0 sa H.size a9 v9 c9 ml (nI n9)) kw_777 kw_337 kw_1820 kw_19 kw_338 (n := 0) (by decide +kernel) rfl ⟨⟨rfl, rfl⟩, ⟨Nat.le_of_ble_eq_true rfl, Nat.le_of_ble_eq_true rfl⟩, (by dsimp only; omega), (by dsimp only; omega)⟩ rfl (Nat.le_of_ble_eq_true rfl) ⟨f0, hB⟩ dX3_writeWay_65) hS (fun q z w => absurd w (Nat.not_le.mpr z)) hn (fun r_15 H locs hR hz hk hS => ?_)
            have hW := hW.new hk
            have f0 := f0.kept (hk _ f0.lt (Nat.not_le.mpr f0.lt))
            have hB := hB.kept (hk _ hB.lt (Nat.not_le.mpr hB.lt))
            rw [show r_15 = nI n9 from hR]
            refine lv_if_le (pc := 68) (tgt := 78) hx hb dX3_writeWay_68 (by decide) (fun c_16 => ?_) (fun c_16 => ?_)
            · have hn0 : n9 = 0 := by have := (i_le (n := n9) nI_0.symm rfl (by decide) (by omega)).mp c_16; omega
              have hT9 : tx_wyS g_9 k (n9, c9) = (n9 + 1 + dgI r_11.toInt32, sbC (sbC c9 (n9 + 1)) (n9 + 1 + dgI r_11.toInt32)) := by rw [hT8, if_pos hn0]; rfl
              have hz1 := tx_gb c9 (n9 + 1)
              have hz2 := tx_gb (sbC c9 (n9 + 1)) (n9 + 1 + dgI r_11.toInt32)
              have hm9 := tx_wyL_m g_9 ((tC g_9 1).toNatClampNeg - (k + 1)) (k + 1) (tx_wyS g_9 k (n9, c9))
              rw [hg8, hT9] at hm9
              dsimp only at hm9
              refine lv_iload_n (pc := 78) hx hb dX3_writeWay_78 rfl (lv_at hl 4 rfl) ?_
              refine lv_iconst (pc := 79) (v := 1) hx hb dX3_writeWay_79 (by decide) ?_
              refine lv_iand (pc := 80) hx hb dX3_writeWay_80 ?_
              refine lv_if_ne (pc := 81) (tgt := 89) hx hb dX3_writeWay_81 (by decide) (fun c_17 => ?_) (fun c_17 => ?_)
              · refine lv_bipush (pc := 89) (v := 76) hx hb dX3_writeWay_89 (by decide) ?_
                refine lv_istore (pc := 91) (lv' := [(6, .int 76), (4, .long r_11), (0, .ref (ad 15)), (1, .ref a9), (2, .ref (ad i)), (3, .int y9)]) hx hb dX3_writeWay_91 hl (by decide) rfl (fun ls hl => ?_)
                refine lv_aload_n (pc := 93) hx hb dX3_writeWay_93 rfl (lv_at hl 3 rfl) ?_
                refine lv_iload (pc := 94) hx hb dX3_writeWay_94 (lv_at hl 0 rfl) ?_
                have hZ0_ := hS.1
                have t_hW := fun k (hk9 : k < 22) => (hW k hk9).lt
                have t_f0 := f0.lt
                have t_hB := hB.lt
                refine k_r (pc := 96) (k_V E hC hS hA hl.1 (c1.recv hC f0 rfl) rfl (c_J4_append_cf468 l D tk N0 sa H.size a9 v9 c9 n9 ml 76 76 (hA _ g_f0) (hA _ g_hB) (by omega) (by omega) rfl (by decide)) kw_182 kw_183 kw_184 kw_19 kw_185 (n := 1) (by decide +kernel) rfl ⟨⟨rfl, rfl⟩, ⟨Nat.le_of_ble_eq_true rfl, Nat.le_of_ble_eq_true rfl⟩, (by dsimp only; omega), (by dsimp only; omega)⟩ rfl (Nat.le_of_ble_eq_true rfl) ⟨f0, hB⟩ dX3_writeWay_96) hS (inA2.to g_f0 g_hB) hn (fun r_18 H locs hR hz hk hS => ?_)
                have hW := hW.kept (fun k hk9 => hk _ (hW k hk9).lt (inA2.not (nW_f0 k hk9) (nW_hB k hk9) (hW k hk9).lt))
                obtain ⟨er9, hR⟩ := hR
                rw [er9]
                obtain ⟨v_19, hv_19, f0, hB⟩ := hR
                have g_hB := hv_19.elim (fun e9 => e9 ▸ g_hB) (fun z9 => hn _ (Nat.le_trans hZ0_ z9))
                have nW_hB : ∀ k, k < 22 → ad k ≠ v_19 := fun k hk9 => hv_19.elim (fun e9 => e9 ▸ nW_hB k hk9) (fun z9 => Nat.ne_of_lt (Nat.lt_of_lt_of_le (t_hW k hk9) z9))
                have hv_19 := hv_19.imp_right (fun z9 => Nat.le_trans hZ0_ z9)
                have hv_19 := hv_19.elim (fun e9 => e9 ▸ hv9) Or.inr
                refine lv_pop (pc := 99) hx hb dX3_writeWay_99 rfl ?_
                refine lv_aload_n (pc := 100) hx hb dX3_writeWay_100 rfl (lv_at hl 3 rfl) ?_
                refine lv_lload (pc := 101) hx hb dX3_writeWay_101 (lv_at hl 1 rfl) ?_
                refine lv_l2i (pc := 103) (v := r_11.toInt32) hx hb dX3_writeWay_103 rfl ?_
                have hZ0_ := hS.1
                have t_hW := fun k (hk9 : k < 22) => (hW k hk9).lt
                have t_f0 := f0.lt
                have t_hB := hB.lt
                refine k_r (pc := 104) (k_V E hC hS hA hl.1 (c1.recv hC f0 rfl) rfl (c_J4_append_bf812 l D tk N0 sa H.size a9 v_19 (sbC c9 (n9 + 1)) (n9 + 1) ml r_11.toInt32 (hA _ g_f0) (hA _ g_hB) (by omega) (by omega)) kw_281 kw_282 kw_283 kw_19 kw_284 (n := 1) (by decide +kernel) rfl ⟨⟨rfl, rfl⟩, ⟨Nat.le_of_ble_eq_true rfl, Nat.le_of_ble_eq_true rfl⟩, (by dsimp only; omega), (by dsimp only; omega)⟩ rfl (Nat.le_of_ble_eq_true rfl) ⟨f0, hB⟩ dX3_writeWay_104) hS (inA2.to g_f0 g_hB) hn (fun r_20 H locs hR hz hk hS => ?_)
                have hW := hW.kept (fun k hk9 => hk _ (hW k hk9).lt (inA2.not (nW_f0 k hk9) (nW_hB k hk9) (hW k hk9).lt))
                obtain ⟨er9, hR⟩ := hR
                rw [er9]
                obtain ⟨v_21, hv_21, f0, hB⟩ := hR
                have g_hB := hv_21.elim (fun e9 => e9 ▸ g_hB) (fun z9 => hn _ (Nat.le_trans hZ0_ z9))
                have nW_hB : ∀ k, k < 22 → ad k ≠ v_21 := fun k hk9 => hv_21.elim (fun e9 => e9 ▸ nW_hB k hk9) (fun z9 => Nat.ne_of_lt (Nat.lt_of_lt_of_le (t_hW k hk9) z9))
                have hv_21 := hv_21.imp_right (fun z9 => Nat.le_trans hZ0_ z9)
                have hv_21 := hv_21.elim (fun e9 => e9 ▸ hv_19) Or.inr
                refine lv_pop (pc := 107) hx hb dX3_writeWay_107 rfl ?_
                obtain ⟨x_22, ex_22⟩ : ∃ z9 : Int32, z9 = y9 + 1 := ⟨_, rfl⟩
                refine lv_iinc (pc := 108) (v := x_22) (lv' := [(3, .int x_22), (6, .int 76), (4, .long r_11), (0, .ref (ad 15)), (1, .ref a9), (2, .ref (ad i))]) hx hb dX3_writeWay_108 hl (k := 5) rfl (by rw [ex_22]; rfl) (by decide) rfl (fun ls hl => ?_)
                refine lv_goto (pc := 111) (tgt := 36) hx hb dX3_writeWay_111 (by decide) ?_
                refine W.widen (k := (sbC (sbC c9 (n9 + 1)) ((n9 + 1) + dgI r_11.toInt32)) - c0) (n := 2 * ((sbC (sbC c9 (n9 + 1)) ((n9 + 1) + dgI r_11.toInt32)) - c0)) (by omega) (by omega) ?_
                exact ih_36  (k + 1) v_21 (((n9 + 1) + dgI r_11.toInt32)) (sbC (sbC c9 (n9 + 1)) ((n9 + 1) + dgI r_11.toInt32))  x_22 (by omega) (by omega) (i_up hx9 ex_22) hv_21 (by omega) (by rw [← hg8, hT9]) _ _ _ hS hW f0 hB (lv_sub hl [3, 4, 5, 0] rfl)
              · refine lv_bipush (pc := 84) (v := 82) hx hb dX3_writeWay_84 (by decide) ?_
                refine lv_goto (pc := 86) (tgt := 91) hx hb dX3_writeWay_86 (by decide) ?_
                refine lv_istore (pc := 91) (lv' := [(6, .int 82), (4, .long r_11), (0, .ref (ad 15)), (1, .ref a9), (2, .ref (ad i)), (3, .int y9)]) hx hb dX3_writeWay_91 hl (by decide) rfl (fun ls hl => ?_)
                refine lv_aload_n (pc := 93) hx hb dX3_writeWay_93 rfl (lv_at hl 3 rfl) ?_
                refine lv_iload (pc := 94) hx hb dX3_writeWay_94 (lv_at hl 0 rfl) ?_
                have hZ0_ := hS.1
                have t_hW := fun k (hk9 : k < 22) => (hW k hk9).lt
                have t_f0 := f0.lt
                have t_hB := hB.lt
                refine k_r (pc := 96) (k_V E hC hS hA hl.1 (c1.recv hC f0 rfl) rfl (c_J4_append_cf468 l D tk N0 sa H.size a9 v9 c9 n9 ml 82 82 (hA _ g_f0) (hA _ g_hB) (by omega) (by omega) rfl (by decide)) kw_182 kw_183 kw_184 kw_19 kw_185 (n := 1) (by decide +kernel) rfl ⟨⟨rfl, rfl⟩, ⟨Nat.le_of_ble_eq_true rfl, Nat.le_of_ble_eq_true rfl⟩, (by dsimp only; omega), (by dsimp only; omega)⟩ rfl (Nat.le_of_ble_eq_true rfl) ⟨f0, hB⟩ dX3_writeWay_96) hS (inA2.to g_f0 g_hB) hn (fun r_23 H locs hR hz hk hS => ?_)
                have hW := hW.kept (fun k hk9 => hk _ (hW k hk9).lt (inA2.not (nW_f0 k hk9) (nW_hB k hk9) (hW k hk9).lt))
                obtain ⟨er9, hR⟩ := hR
                rw [er9]
                obtain ⟨v_24, hv_24, f0, hB⟩ := hR
                have g_hB := hv_24.elim (fun e9 => e9 ▸ g_hB) (fun z9 => hn _ (Nat.le_trans hZ0_ z9))
                have nW_hB : ∀ k, k < 22 → ad k ≠ v_24 := fun k hk9 => hv_24.elim (fun e9 => e9 ▸ nW_hB k hk9) (fun z9 => Nat.ne_of_lt (Nat.lt_of_lt_of_le (t_hW k hk9) z9))
                have hv_24 := hv_24.imp_right (fun z9 => Nat.le_trans hZ0_ z9)
                have hv_24 := hv_24.elim (fun e9 => e9 ▸ hv9) Or.inr
                refine lv_pop (pc := 99) hx hb dX3_writeWay_99 rfl ?_
                refine lv_aload_n (pc := 100) hx hb dX3_writeWay_100 rfl (lv_at hl 3 rfl) ?_
                refine lv_lload (pc := 101) hx hb dX3_writeWay_101 (lv_at hl 1 rfl) ?_
                refine lv_l2i (pc := 103) (v := r_11.toInt32) hx hb dX3_writeWay_103 rfl ?_
                have hZ0_ := hS.1
                have t_hW := fun k (hk9 : k < 22) => (hW k hk9).lt
                have t_f0 := f0.lt
                have t_hB := hB.lt
                refine k_r (pc := 104) (k_V E hC hS hA hl.1 (c1.recv hC f0 rfl) rfl (c_J4_append_bf812 l D tk N0 sa H.size a9 v_24 (sbC c9 (n9 + 1)) (n9 + 1) ml r_11.toInt32 (hA _ g_f0) (hA _ g_hB) (by omega) (by omega)) kw_281 kw_282 kw_283 kw_19 kw_284 (n := 1) (by decide +kernel) rfl ⟨⟨rfl, rfl⟩, ⟨Nat.le_of_ble_eq_true rfl, Nat.le_of_ble_eq_true rfl⟩, (by dsimp only; omega), (by dsimp only; omega)⟩ rfl (Nat.le_of_ble_eq_true rfl) ⟨f0, hB⟩ dX3_writeWay_104) hS (inA2.to g_f0 g_hB) hn (fun r_25 H locs hR hz hk hS => ?_)
                have hW := hW.kept (fun k hk9 => hk _ (hW k hk9).lt (inA2.not (nW_f0 k hk9) (nW_hB k hk9) (hW k hk9).lt))
                obtain ⟨er9, hR⟩ := hR
                rw [er9]
                obtain ⟨v_26, hv_26, f0, hB⟩ := hR
                have g_hB := hv_26.elim (fun e9 => e9 ▸ g_hB) (fun z9 => hn _ (Nat.le_trans hZ0_ z9))
                have nW_hB : ∀ k, k < 22 → ad k ≠ v_26 := fun k hk9 => hv_26.elim (fun e9 => e9 ▸ nW_hB k hk9) (fun z9 => Nat.ne_of_lt (Nat.lt_of_lt_of_le (t_hW k hk9) z9))
                have hv_26 := hv_26.imp_right (fun z9 => Nat.le_trans hZ0_ z9)
                have hv_26 := hv_26.elim (fun e9 => e9 ▸ hv_24) Or.inr
                refine lv_pop (pc := 107) hx hb dX3_writeWay_107 rfl ?_
                obtain ⟨x_27, ex_27⟩ : ∃ z9 : Int32, z9 = y9 + 1 := ⟨_, rfl⟩
                refine lv_iinc (pc := 108) (v := x_27) (lv' := [(3, .int x_27), (6, .int 82), (4, .long r_11), (0, .ref (ad 15)), (1, .ref a9), (2, .ref (ad i))]) hx hb dX3_writeWay_108 hl (k := 5) rfl (by rw [ex_27]; rfl) (by decide) rfl (fun ls hl => ?_)
                refine lv_goto (pc := 111) (tgt := 36) hx hb dX3_writeWay_111 (by decide) ?_
                refine W.widen (k := (sbC (sbC c9 (n9 + 1)) ((n9 + 1) + dgI r_11.toInt32)) - c0) (n := 2 * ((sbC (sbC c9 (n9 + 1)) ((n9 + 1) + dgI r_11.toInt32)) - c0)) (by omega) (by omega) ?_
                exact ih_36  (k + 1) v_26 (((n9 + 1) + dgI r_11.toInt32)) (sbC (sbC c9 (n9 + 1)) ((n9 + 1) + dgI r_11.toInt32))  x_27 (by omega) (by omega) (i_up hx9 ex_27) hv_26 (by omega) (by rw [← hg8, hT9]) _ _ _ hS hW f0 hB (lv_sub hl [3, 4, 5, 0] rfl)
            · have hn0 : ¬ n9 = 0 := fun z => c_16 (by rw [z]; decide)
              have hT9 : tx_wyS g_9 k (n9, c9) = (n9 + 1 + 1 + dgI r_11.toInt32, sbC (sbC (sbC c9 (n9 + 1)) (n9 + 1 + 1)) (n9 + 1 + 1 + dgI r_11.toInt32)) := by rw [hT8, if_neg hn0]; rfl
              have hz1 := tx_gb c9 (n9 + 1)
              have hz2 := tx_gb (sbC c9 (n9 + 1)) (n9 + 1 + 1)
              have hz3 := tx_gb (sbC (sbC c9 (n9 + 1)) (n9 + 1 + 1)) (n9 + 1 + 1 + dgI r_11.toInt32)
              have hm9 := tx_wyL_m g_9 ((tC g_9 1).toNatClampNeg - (k + 1)) (k + 1) (tx_wyS g_9 k (n9, c9))
              rw [hg8, hT9] at hm9
              dsimp only at hm9
              refine lv_aload_n (pc := 71) hx hb dX3_writeWay_71 rfl (lv_at hl 2 rfl) ?_
              refine lv_bipush (pc := 72) (v := 32) hx hb dX3_writeWay_72 (by decide) ?_
              have hZ0_ := hS.1
              have t_hW := fun k (hk9 : k < 22) => (hW k hk9).lt
              have t_f0 := f0.lt
              have t_hB := hB.lt
              refine k_r (pc := 74) (k_V E hC hS hA hl.1 (c1.recv hC f0 rfl) rfl (c_J4_append_cf468 l D tk N0 sa H.size a9 v9 c9 n9 ml 32 32 (hA _ g_f0) (hA _ g_hB) (by omega) (by omega) rfl (by decide)) kw_182 kw_183 kw_184 kw_19 kw_185 (n := 1) (by decide +kernel) rfl ⟨⟨rfl, rfl⟩, ⟨Nat.le_of_ble_eq_true rfl, Nat.le_of_ble_eq_true rfl⟩, (by dsimp only; omega), (by dsimp only; omega)⟩ rfl (Nat.le_of_ble_eq_true rfl) ⟨f0, hB⟩ dX3_writeWay_74) hS (inA2.to g_f0 g_hB) hn (fun r_28 H locs hR hz hk hS => ?_)
              have hW := hW.kept (fun k hk9 => hk _ (hW k hk9).lt (inA2.not (nW_f0 k hk9) (nW_hB k hk9) (hW k hk9).lt))
              obtain ⟨er9, hR⟩ := hR
              rw [er9]
              obtain ⟨v_29, hv_29, f0, hB⟩ := hR
              have g_hB := hv_29.elim (fun e9 => e9 ▸ g_hB) (fun z9 => hn _ (Nat.le_trans hZ0_ z9))
              have nW_hB : ∀ k, k < 22 → ad k ≠ v_29 := fun k hk9 => hv_29.elim (fun e9 => e9 ▸ nW_hB k hk9) (fun z9 => Nat.ne_of_lt (Nat.lt_of_lt_of_le (t_hW k hk9) z9))
              have hv_29 := hv_29.imp_right (fun z9 => Nat.le_trans hZ0_ z9)
              have hv_29 := hv_29.elim (fun e9 => e9 ▸ hv9) Or.inr
              refine lv_pop (pc := 77) hx hb dX3_writeWay_77 rfl ?_
              refine lv_iload_n (pc := 78) hx hb dX3_writeWay_78 rfl (lv_at hl 4 rfl) ?_
              refine lv_iconst (pc := 79) (v := 1) hx hb dX3_writeWay_79 (by decide) ?_
              refine lv_iand (pc := 80) hx hb dX3_writeWay_80 ?_
              refine lv_if_ne (pc := 81) (tgt := 89) hx hb dX3_writeWay_81 (by decide) (fun c_30 => ?_) (fun c_30 => ?_)
              · refine lv_bipush (pc := 89) (v := 76) hx hb dX3_writeWay_89 (by decide) ?_
                refine lv_istore (pc := 91) (lv' := [(6, .int 76), (4, .long r_11), (0, .ref (ad 15)), (1, .ref a9), (2, .ref (ad i)), (3, .int y9)]) hx hb dX3_writeWay_91 hl (by decide) rfl (fun ls hl => ?_)
                refine lv_aload_n (pc := 93) hx hb dX3_writeWay_93 rfl (lv_at hl 3 rfl) ?_
                refine lv_iload (pc := 94) hx hb dX3_writeWay_94 (lv_at hl 0 rfl) ?_
                have hZ0_ := hS.1
                have t_hW := fun k (hk9 : k < 22) => (hW k hk9).lt
                have t_f0 := f0.lt
                have t_hB := hB.lt
                refine k_r (pc := 96) (k_V E hC hS hA hl.1 (c1.recv hC f0 rfl) rfl (c_J4_append_cf468 l D tk N0 sa H.size a9 v_29 (sbC c9 (n9 + 1)) (n9 + 1) ml 76 76 (hA _ g_f0) (hA _ g_hB) (by omega) (by omega) rfl (by decide)) kw_182 kw_183 kw_184 kw_19 kw_185 (n := 1) (by decide +kernel) rfl ⟨⟨rfl, rfl⟩, ⟨Nat.le_of_ble_eq_true rfl, Nat.le_of_ble_eq_true rfl⟩, (by dsimp only; omega), (by dsimp only; omega)⟩ rfl (Nat.le_of_ble_eq_true rfl) ⟨f0, hB⟩ dX3_writeWay_96) hS (inA2.to g_f0 g_hB) hn (fun r_31 H locs hR hz hk hS => ?_)
                have hW := hW.kept (fun k hk9 => hk _ (hW k hk9).lt (inA2.not (nW_f0 k hk9) (nW_hB k hk9) (hW k hk9).lt))
                obtain ⟨er9, hR⟩ := hR
                rw [er9]
                obtain ⟨v_32, hv_32, f0, hB⟩ := hR
                have g_hB := hv_32.elim (fun e9 => e9 ▸ g_hB) (fun z9 => hn _ (Nat.le_trans hZ0_ z9))
                have nW_hB : ∀ k, k < 22 → ad k ≠ v_32 := fun k hk9 => hv_32.elim (fun e9 => e9 ▸ nW_hB k hk9) (fun z9 => Nat.ne_of_lt (Nat.lt_of_lt_of_le (t_hW k hk9) z9))
                have hv_32 := hv_32.imp_right (fun z9 => Nat.le_trans hZ0_ z9)
                have hv_32 := hv_32.elim (fun e9 => e9 ▸ hv_29) Or.inr
                refine lv_pop (pc := 99) hx hb dX3_writeWay_99 rfl ?_
                refine lv_aload_n (pc := 100) hx hb dX3_writeWay_100 rfl (lv_at hl 3 rfl) ?_
                refine lv_lload (pc := 101) hx hb dX3_writeWay_101 (lv_at hl 1 rfl) ?_
                refine lv_l2i (pc := 103) (v := r_11.toInt32) hx hb dX3_writeWay_103 rfl ?_
                have hZ0_ := hS.1
                have t_hW := fun k (hk9 : k < 22) => (hW k hk9).lt
                have t_f0 := f0.lt
                have t_hB := hB.lt
                refine k_r (pc := 104) (k_V E hC hS hA hl.1 (c1.recv hC f0 rfl) rfl (c_J4_append_bf812 l D tk N0 sa H.size a9 v_32 (sbC (sbC c9 (n9 + 1)) ((n9 + 1) + 1)) ((n9 + 1) + 1) ml r_11.toInt32 (hA _ g_f0) (hA _ g_hB) (by omega) (by omega)) kw_281 kw_282 kw_283 kw_19 kw_284 (n := 1) (by decide +kernel) rfl ⟨⟨rfl, rfl⟩, ⟨Nat.le_of_ble_eq_true rfl, Nat.le_of_ble_eq_true rfl⟩, (by dsimp only; omega), (by dsimp only; omega)⟩ rfl (Nat.le_of_ble_eq_true rfl) ⟨f0, hB⟩ dX3_writeWay_104) hS (inA2.to g_f0 g_hB) hn (fun r_33 H locs hR hz hk hS => ?_)
                have hW := hW.kept (fun k hk9 => hk _ (hW k hk9).lt (inA2.not (nW_f0 k hk9) (nW_hB k hk9) (hW k hk9).lt))
                obtain ⟨er9, hR⟩ := hR
                rw [er9]
                obtain ⟨v_34, hv_34, f0, hB⟩ := hR
                have g_hB := hv_34.elim (fun e9 => e9 ▸ g_hB) (fun z9 => hn _ (Nat.le_trans hZ0_ z9))
                have nW_hB : ∀ k, k < 22 → ad k ≠ v_34 := fun k hk9 => hv_34.elim (fun e9 => e9 ▸ nW_hB k hk9) (fun z9 => Nat.ne_of_lt (Nat.lt_of_lt_of_le (t_hW k hk9) z9))
                have hv_34 := hv_34.imp_right (fun z9 => Nat.le_trans hZ0_ z9)
                have hv_34 := hv_34.elim (fun e9 => e9 ▸ hv_32) Or.inr
                refine lv_pop (pc := 107) hx hb dX3_writeWay_107 rfl ?_
                obtain ⟨x_35, ex_35⟩ : ∃ z9 : Int32, z9 = y9 + 1 := ⟨_, rfl⟩
                refine lv_iinc (pc := 108) (v := x_35) (lv' := [(3, .int x_35), (6, .int 76), (4, .long r_11), (0, .ref (ad 15)), (1, .ref a9), (2, .ref (ad i))]) hx hb dX3_writeWay_108 hl (k := 5) rfl (by rw [ex_35]; rfl) (by decide) rfl (fun ls hl => ?_)
                refine lv_goto (pc := 111) (tgt := 36) hx hb dX3_writeWay_111 (by decide) ?_
                refine W.widen (k := (sbC (sbC (sbC c9 (n9 + 1)) ((n9 + 1) + 1)) (((n9 + 1) + 1) + dgI r_11.toInt32)) - c0) (n := 2 * ((sbC (sbC (sbC c9 (n9 + 1)) ((n9 + 1) + 1)) (((n9 + 1) + 1) + dgI r_11.toInt32)) - c0)) (by omega) (by omega) ?_
                exact ih_36  (k + 1) v_34 ((((n9 + 1) + 1) + dgI r_11.toInt32)) (sbC (sbC (sbC c9 (n9 + 1)) ((n9 + 1) + 1)) (((n9 + 1) + 1) + dgI r_11.toInt32))  x_35 (by omega) (by omega) (i_up hx9 ex_35) hv_34 (by omega) (by rw [← hg8, hT9]) _ _ _ hS hW f0 hB (lv_sub hl [3, 4, 5, 0] rfl)
              · refine lv_bipush (pc := 84) (v := 82) hx hb dX3_writeWay_84 (by decide) ?_
                refine lv_goto (pc := 86) (tgt := 91) hx hb dX3_writeWay_86 (by decide) ?_
                refine lv_istore (pc := 91) (lv' := [(6, .int 82), (4, .long r_11), (0, .ref (ad 15)), (1, .ref a9), (2, .ref (ad i)), (3, .int y9)]) hx hb dX3_writeWay_91 hl (by decide) rfl (fun ls hl => ?_)
                refine lv_aload_n (pc := 93) hx hb dX3_writeWay_93 rfl (lv_at hl 3 rfl) ?_
                refine lv_iload (pc := 94) hx hb dX3_writeWay_94 (lv_at hl 0 rfl) ?_
                have hZ0_ := hS.1
                have t_hW := fun k (hk9 : k < 22) => (hW k hk9).lt
                have t_f0 := f0.lt
                have t_hB := hB.lt
                refine k_r (pc := 96) (k_V E hC hS hA hl.1 (c1.recv hC f0 rfl) rfl (c_J4_append_cf468 l D tk N0 sa H.size a9 v_29 (sbC c9 (n9 + 1)) (n9 + 1) ml 82 82 (hA _ g_f0) (hA _ g_hB) (by omega) (by omega) rfl (by decide)) kw_182 kw_183 kw_184 kw_19 kw_185 (n := 1) (by decide +kernel) rfl ⟨⟨rfl, rfl⟩, ⟨Nat.le_of_ble_eq_true rfl, Nat.le_of_ble_eq_true rfl⟩, (by dsimp only; omega), (by dsimp only; omega)⟩ rfl (Nat.le_of_ble_eq_true rfl) ⟨f0, hB⟩ dX3_writeWay_96) hS (inA2.to g_f0 g_hB) hn (fun r_36 H locs hR hz hk hS => ?_)
                have hW := hW.kept (fun k hk9 => hk _ (hW k hk9).lt (inA2.not (nW_f0 k hk9) (nW_hB k hk9) (hW k hk9).lt))
                obtain ⟨er9, hR⟩ := hR
                rw [er9]
                obtain ⟨v_37, hv_37, f0, hB⟩ := hR
                have g_hB := hv_37.elim (fun e9 => e9 ▸ g_hB) (fun z9 => hn _ (Nat.le_trans hZ0_ z9))
                have nW_hB : ∀ k, k < 22 → ad k ≠ v_37 := fun k hk9 => hv_37.elim (fun e9 => e9 ▸ nW_hB k hk9) (fun z9 => Nat.ne_of_lt (Nat.lt_of_lt_of_le (t_hW k hk9) z9))
                have hv_37 := hv_37.imp_right (fun z9 => Nat.le_trans hZ0_ z9)
                have hv_37 := hv_37.elim (fun e9 => e9 ▸ hv_29) Or.inr
                refine lv_pop (pc := 99) hx hb dX3_writeWay_99 rfl ?_
                refine lv_aload_n (pc := 100) hx hb dX3_writeWay_100 rfl (lv_at hl 3 rfl) ?_
                refine lv_lload (pc := 101) hx hb dX3_writeWay_101 (lv_at hl 1 rfl) ?_
                refine lv_l2i (pc := 103) (v := r_11.toInt32) hx hb dX3_writeWay_103 rfl ?_
                have hZ0_ := hS.1
                have t_hW := fun k (hk9 : k < 22) => (hW k hk9).lt
                have t_f0 := f0.lt
                have t_hB := hB.lt
                refine k_r (pc := 104) (k_V E hC hS hA hl.1 (c1.recv hC f0 rfl) rfl (c_J4_append_bf812 l D tk N0 sa H.size a9 v_37 (sbC (sbC c9 (n9 + 1)) ((n9 + 1) + 1)) ((n9 + 1) + 1) ml r_11.toInt32 (hA _ g_f0) (hA _ g_hB) (by omega) (by omega)) kw_281 kw_282 kw_283 kw_19 kw_284 (n := 1) (by decide +kernel) rfl ⟨⟨rfl, rfl⟩, ⟨Nat.le_of_ble_eq_true rfl, Nat.le_of_ble_eq_true rfl⟩, (by dsimp only; omega), (by dsimp only; omega)⟩ rfl (Nat.le_of_ble_eq_true rfl) ⟨f0, hB⟩ dX3_writeWay_104) hS (inA2.to g_f0 g_hB) hn (fun r_38 H locs hR hz hk hS => ?_)
                have hW := hW.kept (fun k hk9 => hk _ (hW k hk9).lt (inA2.not (nW_f0 k hk9) (nW_hB k hk9) (hW k hk9).lt))
                obtain ⟨er9, hR⟩ := hR
                rw [er9]
                obtain ⟨v_39, hv_39, f0, hB⟩ := hR
                have g_hB := hv_39.elim (fun e9 => e9 ▸ g_hB) (fun z9 => hn _ (Nat.le_trans hZ0_ z9))
                have nW_hB : ∀ k, k < 22 → ad k ≠ v_39 := fun k hk9 => hv_39.elim (fun e9 => e9 ▸ nW_hB k hk9) (fun z9 => Nat.ne_of_lt (Nat.lt_of_lt_of_le (t_hW k hk9) z9))
                have hv_39 := hv_39.imp_right (fun z9 => Nat.le_trans hZ0_ z9)
                have hv_39 := hv_39.elim (fun e9 => e9 ▸ hv_37) Or.inr
                refine lv_pop (pc := 107) hx hb dX3_writeWay_107 rfl ?_
                obtain ⟨x_40, ex_40⟩ : ∃ z9 : Int32, z9 = y9 + 1 := ⟨_, rfl⟩
                refine lv_iinc (pc := 108) (v := x_40) (lv' := [(3, .int x_40), (6, .int 82), (4, .long r_11), (0, .ref (ad 15)), (1, .ref a9), (2, .ref (ad i))]) hx hb dX3_writeWay_108 hl (k := 5) rfl (by rw [ex_40]; rfl) (by decide) rfl (fun ls hl => ?_)
                refine lv_goto (pc := 111) (tgt := 36) hx hb dX3_writeWay_111 (by decide) ?_
                refine W.widen (k := (sbC (sbC (sbC c9 (n9 + 1)) ((n9 + 1) + 1)) (((n9 + 1) + 1) + dgI r_11.toInt32)) - c0) (n := 2 * ((sbC (sbC (sbC c9 (n9 + 1)) ((n9 + 1) + 1)) (((n9 + 1) + 1) + dgI r_11.toInt32)) - c0)) (by omega) (by omega) ?_
                exact ih_36  (k + 1) v_39 ((((n9 + 1) + 1) + dgI r_11.toInt32)) (sbC (sbC (sbC c9 (n9 + 1)) ((n9 + 1) + 1)) (((n9 + 1) + 1) + dgI r_11.toInt32))  x_40 (by omega) (by omega) (i_up hx9 ex_40) hv_39 (by omega) (by rw [← hg8, hT9]) _ _ _ hS hW f0 hB (lv_sub hl [3, 4, 5, 0] rfl)
    refine W.widen (k := c0 - c0) (n := 2 * (c0 - c0)) (by omega) (by omega) ?_
    exact loop_36 65 0 v0 n0 c0  0 (by omega) (Nat.zero_le _) nI_0.symm (Or.inl rfl) (by omega) (by rw [Nat.sub_zero]; exact hw1.symm) _ _ _ hS hW f0 hB (lv_sub hl [1, 2, 3, 0] rfl)
  · have hc9 : f_cmp (tT g i) 0 ≤ 0 := by rw [← er_1]; exact Int32.not_lt.mp c_3
    have hR9 : tx_wy g i (n0, c0) = (n0 + 1, sbC c0 (n0 + 1)) := by rw [tx_wy, if_pos hc9]; rfl
    have hR2 : (tx_wy g i (n0, c0)).2 = sbC c0 (n0 + 1) := by rw [hR9]
    have hz1 := tx_gb c0 (n0 + 1)
    refine lv_aload_n (pc := 7) hx hb dX3_writeWay_7 rfl (lv_at hl 1 rfl) ?_
    refine r_ldcwS (pc := 8) E hC 0 _ rfl rfl rfl dX3_writeWay_8 ?_
    have k41 : SX D tk (sa (10 + 0)) 1 H := hC.str hS hA 0 _ rfl (by decide)
    have hZ0_ := hS.1
    have t_hW := fun k (hk9 : k < 22) => (hW k hk9).lt
    have t_f0 := f0.lt
    have t_hB := hB.lt
    have t_k41 := k41.lt
    refine k_r (pc := 11) (k_V E hC hS hA hl.1 (c1.recv hC f0 rfl) rfl (c_J4_append_15ec4 l D tk N0 sa H.size a9 v0 c0 n0 (sa (10 + 0)) 1 ml (hA _ g_f0) (hA _ g_hB) (by omega) (by omega) (by decide)) kw_776 kw_399 kw_400 kw_19 kw_401 (n := 1) (by decide +kernel) rfl ⟨⟨rfl, rfl⟩, ⟨Nat.le_of_ble_eq_true rfl, Nat.le_of_ble_eq_true rfl⟩, (by dsimp only; omega), (by dsimp only; omega)⟩ rfl (Nat.le_of_ble_eq_true rfl) ⟨f0, hB, k41⟩ dX3_writeWay_11) hS (inA2.to g_f0 g_hB) hn (fun r_42 H locs hR hz hk hS => ?_)
    have hW := hW.kept (fun k hk9 => hk _ (hW k hk9).lt (inA2.not (nW_f0 k hk9) (nW_hB k hk9) (hW k hk9).lt))
    obtain ⟨er9, hR⟩ := hR
    rw [er9]
    obtain ⟨v_43, hv_43, f0, hB⟩ := hR
    have g_hB := hv_43.elim (fun e9 => e9 ▸ g_hB) (fun z9 => hn _ (Nat.le_trans hZ0_ z9))
    have nW_hB : ∀ k, k < 22 → ad k ≠ v_43 := fun k hk9 => hv_43.elim (fun e9 => e9 ▸ nW_hB k hk9) (fun z9 => Nat.ne_of_lt (Nat.lt_of_lt_of_le (t_hW k hk9) z9))
    have hv_43 := hv_43.imp_right (fun z9 => Nat.le_trans hZ0_ z9)
    refine lv_pop (pc := 14) hx hb dX3_writeWay_14 rfl ?_
    try rw [hQ]
    refine r_vret (pc := 15) E hr hlk hS (by omega) (by omega) ?_ dX3_writeWay_15
    rw [hR9]
    exact ⟨⟨_, _, hv_43, f0, hB⟩, hW.to (by rw [tx_wyW, if_pos hc9])⟩
