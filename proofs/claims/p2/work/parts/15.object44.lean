set_option maxHeartbeats 4000000 in
set_option maxRecDepth 100000 in
/-- Bestratios.next(II)I -/
theorem c_X3_next (l : Launch) (hlst : l.stackTraces = false) (D : va_G) (tk : Nat → ClassId) (N0 : Nat) (sa : Nat → Nat) {ad : Nat → Nat} (hAD : ADok N0 ad) (sz : Nat) (g : CS) (r_ : Int32) (mm : Int32) : vx_Met l yX3_next (wsy yX3_next cX3_next 5 (some .int)) ({ frames := 7, cells := 2, slots := 12, locals := 112 } : Room) (cP D tk N0 sa [.ref (ad 15), .int r_, .int mm] sz (fun H => CW D tk ad g H)) (kQi (fun r H => xo (bR r_) (2 * bW mm 1 50) = 0 ∧ r = f_nextR g (nn r_) mm ∧ CW D tk ad (f_nextW g (nn r_) mm) H) (cwA ad sz)) (kX (fun E => (E = "java/lang/IndexOutOfBoundsException" ∧ xo (bR r_) (2 * bW mm 1 50) = 1) ∨ (E = "java/lang/IllegalArgumentException" ∧ xo (bR r_) (2 * bW mm 1 50) = 2)) sz) (2) (12) (cwA ad sz) := by
  refine mStartX RX3 rfl (by decide +kernel) (Nat.le_of_ble_eq_true rfl) ?_
  intro p e s m args below meth c E hr hlk htb hsz hC hF ls hl
  subst hsz
  obtain ⟨hx, hb, -⟩ := id E
  have hA : ∀ q, (cwA ad s.heap.size) q → N0 ≤ q := cwA.ge hAD hC.2.1
  have hn : ∀ q, s.heap.size ≤ q → (cwA ad s.heap.size) q := fun q h => Or.inr h
  have hS : va_S (cwA ad s.heap.size) s.heap s.heap [] := va_S.rf
  have hU : ∀ q, q < s.heap.size → s.heap[q]? = s.heap[q]? := fun _ _ => rfl
  have hl : lv_has ls 5 [(0, .ref (ad 15)), (1, .int r_), (2, .int mm)] := hl
  obtain ⟨Q, hQ⟩ : ∃ Q, Q = vx_MQ below (kQi (fun r H => xo (bR r_) (2 * bW mm 1 50) = 0 ∧ r = f_nextR g (nn r_) mm ∧ CW D tk ad (f_nextW g (nn r_) mm) H) (cwA ad s.heap.size)) (kX (fun E => (E = "java/lang/IndexOutOfBoundsException" ∧ xo (bR r_) (2 * bW mm 1 50) = 1) ∨ (E = "java/lang/IllegalArgumentException" ∧ xo (bR r_) (2 * bW mm 1 50) = 2)) s.heap.size) args s (2) (12) (cwA ad s.heap.size) := ⟨_, rfl⟩
  rw [← hQ]
  have hW : CW D tk ad g s.heap := hF
  refine lv_aload_n (pc := 0) hx hb dX3_next_0 rfl (lv_at hl 0 rfl) ?_
  refine lv_iload_n (pc := 1) hx hb dX3_next_1 rfl (lv_at hl 1 rfl) ?_
  try rw [hQ]
  have hZ := hS.1
  refine kx_r (pc := 2) (kx_V E hC hS hA hl.1 (c1.recv hC hW.obj rfl) rfl (c_X3_ratioAt l hlst D tk N0 sa hAD s.heap.size g r_ ) kw_809 kw_811 kp_15 kw_1 kw_812 (n := 1) (by decide +kernel) rfl ⟨⟨rfl, rfl⟩, ⟨by decide, by decide⟩, by decide, by decide⟩ rfl (Nat.le_of_ble_eq_true rfl) hW dX3_next_2) hS (fun q z w => absurd w (Nat.not_le.mpr z)) hn hlk htb hU (fun E9 h9 => by rcases h9 with ⟨rfl, h9⟩ <;> first | (simp [h9]; done) | (simp [xo, h9]; done)) ⟨by decide, by decide⟩ (fun r_1 H locs hR hz hk hS => ?_)
  have hU := fun q (hq : q < s.heap.size) => (hk q (Nat.lt_of_lt_of_le hq hZ) (Nat.not_le.mpr (Nat.lt_of_lt_of_le hq hZ))).trans (hU q hq)
  obtain ⟨ek_2, er_1⟩ := hR
  have hW := hW.new hk
  have hi_3 : nn r_ < 15 := Nat.lt_of_lt_of_le (bR_lt ek_2) (by decide)
  subst er_1
  refine lv_astore_n (pc := 5) (lv' := [(3, .ref (ad (nn r_))), (0, .ref (ad 15)), (1, .int r_), (2, .int mm)]) hx hb dX3_next_5 rfl hl (by decide) rfl (fun ls hl => ?_)
  refine lv_iload_n (pc := 6) hx hb dX3_next_6 rfl (lv_at hl 3 rfl) ?_
  refine lv_iconst (pc := 7) (v := 1) hx hb dX3_next_7 (by decide) ?_
  refine lv_bipush (pc := 8) (v := 50) hx hb dX3_next_8 (by decide) ?_
  try rw [hQ]
  have hZ := hS.1
  refine kx_v (pc := 10) (kx_S E hC hS hA hl.1 (c_X3_requireWithin l hlst D tk N0 sa H.size mm 1 50 ) kw_851 kw_852 kw_1 kw_853 (n := 3) (by decide +kernel) rfl ⟨⟨rfl, rfl⟩, ⟨by decide, by decide⟩, by decide, by decide⟩ rfl (Nat.le_of_ble_eq_true rfl) trivial dX3_next_10) hS (fun q z w => absurd w (Nat.not_le.mpr z)) hn hlk htb hU (fun E9 h9 => by rcases h9 with ⟨rfl, h9⟩ <;> first | (simp [h9]; done) | (simp [xo, h9, ek_2]; done)) ⟨by decide, by decide⟩ (fun H locs hR hz hk hS => ?_)
  have hU := fun q (hq : q < s.heap.size) => (hk q (Nat.lt_of_lt_of_le hq hZ) (Nat.not_le.mpr (Nat.lt_of_lt_of_le hq hZ))).trans (hU q hq)
  have ek_5 := hR
  have hW := hW.new hk
  refine lv_aload_n (pc := 13) hx hb dX3_next_13 rfl (lv_at hl 0 rfl) ?_
  have hZ := hS.1
  refine k_i (pc := 14) (k_V E hC hS hA hl.1 (c1.recv hC (hW.fr (i := (nn r_)) hi_3) rfl) rfl (c_X0_sign l D tk N0 sa hAD H.size g ((nn r_)) hi_3 ) kw_613 kw_614 kw_615 kw_2 kw_616 (n := 0) (by decide +kernel) rfl ⟨⟨rfl, rfl⟩, ⟨by decide, by decide⟩, by decide, by decide⟩ rfl (Nat.le_of_ble_eq_true rfl) hW dX3_next_14) hS (fun q z w => absurd w (Nat.not_le.mpr z)) hn (fun r_6 H locs hR hz hk hS => ?_)
  have hU := fun q (hq : q < s.heap.size) => (hk q (Nat.lt_of_lt_of_le hq hZ) (Nat.not_le.mpr (Nat.lt_of_lt_of_le hq hZ))).trans (hU q hq)
  have er_6 := hR
  have hW := hW.new hk
  refine lv_if_gt (pc := 17) (tgt := 25) hx hb dX3_next_17 (by decide) (fun c_8 => ?_) (fun c_8 => ?_)
  · refine lv_aload_n (pc := 25) hx hb dX3_next_25 rfl (lv_at hl 1 rfl) ?_
    refine r_get (pc := 26) E hC hW.obj 5 (v := .ref (ad 6)) rfl rfl (by decide) uX3 (List.mem_cons_of_mem _ kw_119) (fun _ h => h) dX3_next_26 ?_
    refine lv_aload_n (pc := 29) hx hb dX3_next_29 rfl (lv_at hl 0 rfl) ?_
    refine k_v (pc := 30) (k_V E hC hS hA hl.1 (c1.recv hC (hW.fr (i := 6) (by decide)) rfl) rfl (c_X0_assign l D tk N0 sa hAD H.size g 6 (by decide) ((nn r_)) hi_3 ) kw_627 kw_628 kw_629 kw_2 kw_630 (n := 1) (by decide +kernel) rfl ⟨⟨rfl, rfl⟩, ⟨by decide, by decide⟩, by decide, by decide⟩ rfl (Nat.le_of_ble_eq_true rfl) hW dX3_next_30) hS (fun q _ w => cwA.go hS.1 q w) hn (fun H locs hR hz hk hS => ?_)
    have hW := hR
    obtain ⟨g_11, eg_11⟩ : ∃ z, z = f_assign g 6 ((nn r_)) := ⟨_, rfl⟩
    rw [← eg_11] at hW
    refine lv_iconst (pc := 33) (v := 0) hx hb dX3_next_33 (by decide) ?_
    refine lv_istore (pc := 34) (lv' := [(4, .int 0), (3, .ref (ad (nn r_))), (0, .ref (ad 15)), (1, .int r_), (2, .int mm)]) hx hb dX3_next_34 hl (by decide) rfl (fun ls hl => ?_)
    have loop_36 : ∀ (n : Nat) (k : Nat)(g1 : CS) (y9 : Int32), mm.toNatClampNeg - k < n → k ≤ mm.toNatClampNeg → y9 = nI k → nxL (mm.toNatClampNeg - k) g1 = nxL mm.toNatClampNeg (f_assign g 6 (nn r_)) → ∀ (H : Heap) (locs : List Loc) (ls : Array Slot), va_S (cwA ad s.heap.size) s.heap H locs → CW D tk ad g1 H → lv_has ls 5 [(0, .ref (ad 15)), (1, .int r_), (2, .int mm), (3, .ref (ad (nn r_))), (4, .int y9)] → W p l e ({ frames := 7, cells := 2, slots := 12, locals := 112 } : Room) s m args below meth c H locs (0 + 1 + 1 + 0 + 0) (0 + 6 + 6 + 0 + 0) Q (F0 m 36 ls []) := by
      intro n
      induction n with
      | zero =>
        intro k g1 y9 hf9 hk9 hx9 hg9 H locs ls hS hW hl
        omega
      | succ n ih_36 =>
        intro k g1 y9 hf9 hk9 hx9 hg9 H locs ls hS hW hl
        refine lv_iload (pc := 36) hx hb dX3_next_36 (lv_at hl 4 rfl) ?_
        refine lv_iload_n (pc := 38) hx hb dX3_next_38 rfl (lv_at hl 2 rfl) ?_
        refine lv_icmp_ge (pc := 39) (tgt := 74) hx hb dX3_next_39 (by decide) (fun c_12 => ?_) (fun c_12 => ?_)
        · refine lv_aload_n (pc := 74) hx hb dX3_next_74 rfl (lv_at hl 0 rfl) ?_
          refine lv_aload_n (pc := 75) hx hb dX3_next_75 rfl (lv_at hl 3 rfl) ?_
          refine k_i (pc := 76) (k_V E hC hS hA hl.1 (c1.recv hC hW.obj rfl) rfl (c_X3_settle l D tk N0 sa hAD H.size g1 ((nn r_)) hi_3 ) kw_830 kw_832 kp_16 kw_1 kw_833 (n := 1) (by decide +kernel) rfl ⟨⟨rfl, rfl⟩, ⟨by decide, by decide⟩, by decide, by decide⟩ rfl (Nat.le_of_ble_eq_true rfl) hW dX3_next_76) hS (fun q _ w => cwA.go hS.1 q w) hn (fun r_13 H locs hR hz hk hS => ?_)
          obtain ⟨er_13, hW⟩ := hR
          obtain ⟨g_15, eg_15⟩ : ∃ z, z = f_setW g1 ((nn r_)) := ⟨_, rfl⟩
          rw [← eg_15] at hW
          try rw [hQ]
          refine vx_ret ?_
          refine r_iret (pc := 79) E hr hlk hS (by decide) (by decide) ?_ dX3_next_79
          have e0 := (i_mle hx9 hk9).mp c_12
          rw [e0] at hg9
          subst er_6
          exact ⟨(by simp [xo, ek_2, ek_5]), (by subst eg_15 er_13; simp [f_nextR, c_8, ← hg9, nxL, f_nxR]), hW.to (by subst eg_15 er_13; simp [f_nextW, c_8, ← hg9, nxL, f_nxW])⟩
        · refine lv_aload_n (pc := 42) hx hb dX3_next_42 rfl (lv_at hl 0 rfl) ?_
          refine r_get (pc := 43) E hC hW.obj 5 (v := .ref (ad 6)) rfl rfl (by decide) uX3 (List.mem_cons_of_mem _ kw_119) (fun _ h => h) dX3_next_43 ?_
          refine lv_aload_n (pc := 46) hx hb dX3_next_46 rfl (lv_at hl 0 rfl) ?_
          refine r_get (pc := 47) E hC hW.obj 5 (v := .ref (ad 6)) rfl rfl (by decide) uX3 (List.mem_cons_of_mem _ kw_119) (fun _ h => h) dX3_next_47 ?_
          refine k_v (pc := 50) (k_V E hC hS hA hl.1 (c1.recv hC (hW.fr (i := 6) (by decide)) rfl) rfl (c_X0_becomeFollower l D tk N0 sa hAD H.size g1 6 (by decide) 6 (by decide) ) kw_635 kw_636 kw_637 kw_2 kw_638 (n := 1) (by decide +kernel) rfl ⟨⟨rfl, rfl⟩, ⟨by decide, by decide⟩, by decide, by decide⟩ rfl (Nat.le_of_ble_eq_true rfl) hW dX3_next_50) hS (fun q _ w => cwA.go hS.1 q w) hn (fun H locs hR hz hk hS => ?_)
          have hW := hR
          obtain ⟨g_18, eg_18⟩ : ∃ z, z = f_foll g1 6 6 := ⟨_, rfl⟩
          rw [← eg_18] at hW
          refine lv_aload_n (pc := 53) hx hb dX3_next_53 rfl (lv_at hl 0 rfl) ?_
          refine r_get (pc := 54) E hC hW.obj 5 (v := .ref (ad 6)) rfl rfl (by decide) uX3 (List.mem_cons_of_mem _ kw_119) (fun _ h => h) dX3_next_54 ?_
          refine k_i (pc := 57) (k_V E hC hS hA hl.1 (c1.recv hC (hW.fr (i := 6) (by decide)) rfl) rfl (c_X0_isFitting l D tk N0 sa hAD H.size g_18 6 (by decide) ) kw_834 kw_835 kw_836 kw_2 kw_837 (n := 0) (by decide +kernel) rfl ⟨⟨rfl, rfl⟩, ⟨by decide, by decide⟩, by decide, by decide⟩ rfl (Nat.le_of_ble_eq_true rfl) hW dX3_next_57) hS (fun q z w => absurd w (Nat.not_le.mpr z)) hn (fun r_19 H locs hR hz hk hS => ?_)
          have er_19 := hR
          have hW := hW.new hk
          refine lv_if_ne (pc := 60) (tgt := 68) hx hb dX3_next_60 (by decide) (fun c_21 => ?_) (fun c_21 => ?_)
          · obtain ⟨x_22, ex_22⟩ : ∃ z9 : Int32, z9 = y9 + 1 := ⟨_, rfl⟩
            refine lv_iinc (pc := 68) (v := x_22) (lv' := [(4, .int x_22), (0, .ref (ad 15)), (1, .int r_), (2, .int mm), (3, .ref (ad (nn r_)))]) hx hb dX3_next_68 hl (k := 4) rfl (by rw [ex_22]; rfl) (by decide) rfl (fun ls hl => ?_)
            refine lv_goto (pc := 71) (tgt := 36) hx hb dX3_next_71 (by decide) ?_
            have hlt := (i_mlt hx9 hk9).mp c_12
            have e200 : mm.toNatClampNeg - k = (mm.toNatClampNeg - (k + 1)) + 1 := by omega
            rw [e200] at hg9
            exact ih_36  (k + 1) g_18  x_22 (by omega) (by omega) (i_up hx9 ex_22) (by rw [← hg9]; subst eg_18 er_19; simp [nxL, c_21]) _ _ _ hS hW (lv_sub hl [1, 2, 3, 4, 0] rfl)
          · refine lv_aload_n (pc := 63) hx hb dX3_next_63 rfl (lv_at hl 0 rfl) ?_
            refine k_i (pc := 64) (k_V E hC hS hA hl.1 (c1.recv hC hW.obj rfl) rfl (c_X3_refuse l D tk N0 sa hAD H.size g_18  ) kw_840 kw_842 kp_17 kw_1 kw_843 (n := 0) (by decide +kernel) rfl ⟨⟨rfl, rfl⟩, ⟨by decide, by decide⟩, by decide, by decide⟩ rfl (Nat.le_of_ble_eq_true rfl) hW dX3_next_64) hS (fun q _ w => cwA.go hS.1 q w) hn (fun r_23 H locs hR hz hk hS => ?_)
            obtain ⟨er_23, hW⟩ := hR
            obtain ⟨g_25, eg_25⟩ : ∃ z, z = f_refW g_18 := ⟨_, rfl⟩
            rw [← eg_25] at hW
            try rw [hQ]
            refine vx_ret ?_
            refine r_iret (pc := 67) E hr hlk hS (by decide) (by decide) ?_ dX3_next_67
            have hlt := (i_mlt hx9 hk9).mp c_12
            have e200 : mm.toNatClampNeg - k = (mm.toNatClampNeg - (k + 1)) + 1 := by omega
            rw [e200] at hg9
            subst er_6
            exact ⟨(by simp [xo, ek_2, ek_5]), (by subst eg_18 er_19 eg_25 er_23; simp [f_nextR, c_8, ← hg9, nxL, c_21, f_nxR]), hW.to (by subst eg_18 er_19 eg_25 er_23; simp [f_nextW, c_8, ← hg9, nxL, c_21, f_nxW])⟩
    try rw [← hQ]
    exact loop_36 (mm.toNatClampNeg + 1) 0 g_11  0 (by omega) (Nat.zero_le _) nI_0.symm (by rw [eg_11]; rfl) _ _ _ hS hW (lv_sub hl [2, 3, 4, 1, 0] rfl)
  · refine lv_aload_n (pc := 20) hx hb dX3_next_20 rfl (lv_at hl 1 rfl) ?_
    refine k_i (pc := 21) (k_V E hC hS hA hl.1 (c1.recv hC hW.obj rfl) rfl (c_X3_refuse l D tk N0 sa hAD H.size g  ) kw_840 kw_842 kp_17 kw_1 kw_843 (n := 0) (by decide +kernel) rfl ⟨⟨rfl, rfl⟩, ⟨by decide, by decide⟩, by decide, by decide⟩ rfl (Nat.le_of_ble_eq_true rfl) hW dX3_next_21) hS (fun q _ w => cwA.go hS.1 q w) hn (fun r_26 H locs hR hz hk hS => ?_)
    obtain ⟨er_26, hW⟩ := hR
    obtain ⟨g_28, eg_28⟩ : ∃ z, z = f_refW g := ⟨_, rfl⟩
    rw [← eg_28] at hW
    try rw [hQ]
    refine vx_ret ?_
    refine r_iret (pc := 24) E hr hlk hS (by decide) (by decide) ?_ dX3_next_24
    exact ⟨(by simp [xo, ek_2, ek_5]), (by subst er_6 eg_28 er_26; simp [f_nextR, c_8]), hW.to (by subst er_6 eg_28 er_26; simp [f_nextW, c_8])⟩
