set_option maxHeartbeats 4000000 in
set_option maxRecDepth 100000 in
/-- Bestratios.up(I)I -/
theorem c_X3_up (l : Launch) (hlst : l.stackTraces = false) (D : va_G) (tk : Nat → ClassId) (N0 : Nat) (sa : Nat → Nat) {ad : Nat → Nat} (hAD : ADok N0 ad) (sz : Nat) (g : CS) (r_ : Int32) : vx_Met l yX3_up (wsy yX3_up cX3_up 3 (some .int)) ({ frames := 7, cells := 1, slots := 6, locals := 125 } : Room) (cP D tk N0 sa [.ref (ad 15), .int r_] sz (fun H => CW D tk ad g H)) (kQi (fun r H => bR r_ = 0 ∧ r = f_upR g (nn r_) ∧ CW D tk ad (f_upX g (nn r_)) H) (cwA ad sz)) (kX (fun E => (E = "java/lang/IndexOutOfBoundsException" ∧ bR r_ = 1)) sz) (1) (6) (cwA ad sz) := by
  refine mStartX RX3 rfl (by decide +kernel) (Nat.le_of_ble_eq_true rfl) ?_
  intro p e s m args below meth c E hr hlk htb hsz hC hF ls hl
  subst hsz
  obtain ⟨hx, hb, -⟩ := id E
  have hA : ∀ q, (cwA ad s.heap.size) q → N0 ≤ q := cwA.ge hAD hC.2.1
  have hn : ∀ q, s.heap.size ≤ q → (cwA ad s.heap.size) q := fun q h => Or.inr h
  have hS : va_S (cwA ad s.heap.size) s.heap s.heap [] := va_S.rf
  have hU : ∀ q, q < s.heap.size → s.heap[q]? = s.heap[q]? := fun _ _ => rfl
  have hl : lv_has ls 3 [(0, .ref (ad 15)), (1, .int r_)] := hl
  have hW : CW D tk ad g s.heap := hF
  refine lv_aload_n (pc := 0) hx hb dX3_up_0 rfl (lv_at hl 0 rfl) ?_
  refine lv_iload_n (pc := 1) hx hb dX3_up_1 rfl (lv_at hl 1 rfl) ?_
  have hZ := hS.1
  refine kx_r (pc := 2) (kx_V E hC hS hA hl.1 (c1.recv hC hW.obj rfl) rfl (c_X3_ratioAt l hlst D tk N0 sa hAD s.heap.size g r_ ) kw_809 kw_811 kp_15 kw_1 kw_812 (n := 1) (by decide +kernel) rfl ⟨⟨rfl, rfl⟩, ⟨by decide, by decide⟩, by decide, by decide⟩ rfl (Nat.le_of_ble_eq_true rfl) hW dX3_up_2) hS (fun q z w => absurd w (Nat.not_le.mpr z)) hn hlk htb hU (fun E9 h9 => by rcases h9 with ⟨rfl, h9⟩ <;> first | (simp [h9]; done) | (simp [xo, h9]; done)) ⟨by decide, by decide⟩ (fun r_1 H locs hR hz hk hS => ?_)
  have hU := fun q (hq : q < s.heap.size) => (hk q (Nat.lt_of_lt_of_le hq hZ) (Nat.not_le.mpr (Nat.lt_of_lt_of_le hq hZ))).trans (hU q hq)
  obtain ⟨ek_2, er_1⟩ := hR
  have hW := hW.new hk
  have hi_3 : nn r_ < 15 := Nat.lt_of_lt_of_le (bR_lt ek_2) (by decide)
  subst er_1
  refine lv_astore_n (pc := 5) (lv' := [(2, .ref (ad (nn r_))), (0, .ref (ad 15)), (1, .int r_)]) hx hb dX3_up_5 rfl hl (by decide) rfl (fun ls hl => ?_)
  refine lv_aload_n (pc := 6) hx hb dX3_up_6 rfl (lv_at hl 0 rfl) ?_
  have hZ := hS.1
  refine k_i (pc := 7) (k_V E hC hS hA hl.1 (c1.recv hC (hW.fr (i := (nn r_)) hi_3) rfl) rfl (c_X0_sign l D tk N0 sa hAD H.size g ((nn r_)) hi_3 ) kw_613 kw_614 kw_615 kw_2 kw_616 (n := 0) (by decide +kernel) rfl ⟨⟨rfl, rfl⟩, ⟨by decide, by decide⟩, by decide, by decide⟩ rfl (Nat.le_of_ble_eq_true rfl) hW dX3_up_7) hS (fun q z w => absurd w (Nat.not_le.mpr z)) hn (fun r_4 H locs hR hz hk hS => ?_)
  have hU := fun q (hq : q < s.heap.size) => (hk q (Nat.lt_of_lt_of_le hq hZ) (Nat.not_le.mpr (Nat.lt_of_lt_of_le hq hZ))).trans (hU q hq)
  have er_4 := hR
  have hW := hW.new hk
  refine lv_if_le (pc := 10) (tgt := 20) hx hb dX3_up_10 (by decide) (fun c_6 => ?_) (fun c_6 => ?_)
  · refine lv_aload_n (pc := 20) hx hb dX3_up_20 rfl (lv_at hl 1 rfl) ?_
    refine k_i (pc := 21) (k_V E hC hS hA hl.1 (c1.recv hC hW.obj rfl) rfl (c_X3_refuse l D tk N0 sa hAD H.size g  ) kw_840 kw_842 kp_17 kw_1 kw_843 (n := 0) (by decide +kernel) rfl ⟨⟨rfl, rfl⟩, ⟨by decide, by decide⟩, by decide, by decide⟩ rfl (Nat.le_of_ble_eq_true rfl) hW dX3_up_21) hS (fun q _ w => cwA.go hS.1 q w) hn (fun r_7 H locs hR hz hk hS => ?_)
    obtain ⟨er_7, hW⟩ := hR
    obtain ⟨g_9, eg_9⟩ : ∃ z, z = f_refW g := ⟨_, rfl⟩
    rw [← eg_9] at hW
    refine vx_ret ?_
    refine r_iret (pc := 24) E hr hlk hS (by decide) (by decide) ?_ dX3_up_24
    exact ⟨ek_2, er_7.trans (by unfold f_upR; rw [if_pos (show f_cmp (tT g (nn r_)) 0 ≤ 0 from (by rw [← er_4]; exact c_6))]), hW.to (eg_9.trans (by unfold f_upX; rw [if_pos (show f_cmp (tT g (nn r_)) 0 ≤ 0 from (by rw [← er_4]; exact c_6))]))⟩
  · refine lv_aload_n (pc := 13) hx hb dX3_up_13 rfl (lv_at hl 0 rfl) ?_
    have hZ := hS.1
    refine k_i (pc := 14) (k_V E hC hS hA hl.1 (c1.recv hC (hW.fr (i := (nn r_)) hi_3) rfl) rfl (c_X0_isOne l D tk N0 sa hAD H.size g ((nn r_)) hi_3 ) kw_1078 kw_1079 kw_1080 kw_2 kw_1081 (n := 0) (by decide +kernel) rfl ⟨⟨rfl, rfl⟩, ⟨by decide, by decide⟩, by decide, by decide⟩ rfl (Nat.le_of_ble_eq_true rfl) hW dX3_up_14) hS (fun q z w => absurd w (Nat.not_le.mpr z)) hn (fun r_10 H locs hR hz hk hS => ?_)
    have hU := fun q (hq : q < s.heap.size) => (hk q (Nat.lt_of_lt_of_le hq hZ) (Nat.not_le.mpr (Nat.lt_of_lt_of_le hq hZ))).trans (hU q hq)
    have er_10 := hR
    have hW := hW.new hk
    refine lv_if_eq (pc := 17) (tgt := 25) hx hb dX3_up_17 (by decide) (fun c_12 => ?_) (fun c_12 => ?_)
    · refine lv_aload_n (pc := 25) hx hb dX3_up_25 rfl (lv_at hl 1 rfl) ?_
      refine lv_aload_n (pc := 26) hx hb dX3_up_26 rfl (lv_at hl 0 rfl) ?_
      refine k_i (pc := 27) (k_V E hC hS hA hl.1 (c1.recv hC hW.obj rfl) rfl (c_X3_stepUp l D tk N0 sa hAD H.size g ((nn r_)) hi_3 ) kw_631 kw_633 kp_6 kw_1 kw_634 (n := 1) (by decide +kernel) rfl ⟨⟨rfl, rfl⟩, ⟨by decide, by decide⟩, by decide, by decide⟩ rfl (Nat.le_of_ble_eq_true rfl) hW dX3_up_27) hS (fun q _ w => cwA.go hS.1 q w) hn (fun r_13 H locs hR hz hk hS => ?_)
      obtain ⟨er_13, hW⟩ := hR
      obtain ⟨g_15, eg_15⟩ : ∃ z, z = f_stUW g ((nn r_)) := ⟨_, rfl⟩
      rw [← eg_15] at hW
      refine lv_if_eq (pc := 30) (tgt := 41) hx hb dX3_up_30 (by decide) (fun c_16 => ?_) (fun c_16 => ?_)
      · refine lv_aload_n (pc := 41) hx hb dX3_up_41 rfl (lv_at hl 1 rfl) ?_
        refine k_i (pc := 42) (k_V E hC hS hA hl.1 (c1.recv hC hW.obj rfl) rfl (c_X3_refuse l D tk N0 sa hAD H.size g_15  ) kw_840 kw_842 kp_17 kw_1 kw_843 (n := 0) (by decide +kernel) rfl ⟨⟨rfl, rfl⟩, ⟨by decide, by decide⟩, by decide, by decide⟩ rfl (Nat.le_of_ble_eq_true rfl) hW dX3_up_42) hS (fun q _ w => cwA.go hS.1 q w) hn (fun r_17 H locs hR hz hk hS => ?_)
        obtain ⟨er_17, hW⟩ := hR
        obtain ⟨g_19, eg_19⟩ : ∃ z, z = f_refW g_15 := ⟨_, rfl⟩
        rw [← eg_19] at hW
        refine vx_ret ?_
        refine r_iret (pc := 45) E hr hlk hS (by decide) (by decide) ?_ dX3_up_45
        exact ⟨ek_2, er_17.trans (by unfold f_upR; rw [if_neg (show ¬ f_cmp (tT g (nn r_)) 0 ≤ 0 from (fun z9 => c_6 (by rw [er_4]; exact z9))), if_pos (show f_one (tT g (nn r_)) (tB g (nn r_)) = 0 from (by rw [← er_10]; exact c_12)), if_pos (show f_stUR g (nn r_) = 0 from (by rw [← er_13]; exact c_16))]), hW.to (eg_19.trans (by rw [eg_15]; unfold f_upX; rw [if_neg (show ¬ f_cmp (tT g (nn r_)) 0 ≤ 0 from (fun z9 => c_6 (by rw [er_4]; exact z9))), if_pos (show f_one (tT g (nn r_)) (tB g (nn r_)) = 0 from (by rw [← er_10]; exact c_12)), if_pos (show f_stUR g (nn r_) = 0 from (by rw [← er_13]; exact c_16))]))⟩
      · refine lv_aload_n (pc := 33) hx hb dX3_up_33 rfl (lv_at hl 1 rfl) ?_
        refine lv_aload_n (pc := 34) hx hb dX3_up_34 rfl (lv_at hl 0 rfl) ?_
        refine k_i (pc := 35) (k_V E hC hS hA hl.1 (c1.recv hC hW.obj rfl) rfl (c_X3_settle l D tk N0 sa hAD H.size g_15 ((nn r_)) hi_3 ) kw_830 kw_832 kp_16 kw_1 kw_833 (n := 1) (by decide +kernel) rfl ⟨⟨rfl, rfl⟩, ⟨by decide, by decide⟩, by decide, by decide⟩ rfl (Nat.le_of_ble_eq_true rfl) hW dX3_up_35) hS (fun q _ w => cwA.go hS.1 q w) hn (fun r_20 H locs hR hz hk hS => ?_)
        obtain ⟨er_20, hW⟩ := hR
        obtain ⟨g_22, eg_22⟩ : ∃ z, z = f_setW g_15 ((nn r_)) := ⟨_, rfl⟩
        rw [← eg_22] at hW
        refine lv_goto (pc := 38) (tgt := 45) hx hb dX3_up_38 (by decide) ?_
        refine vx_ret ?_
        refine r_iret (pc := 45) E hr hlk hS (by decide) (by decide) ?_ dX3_up_45
        exact ⟨ek_2, er_20.trans (by rw [eg_15]; unfold f_upR; rw [if_neg (show ¬ f_cmp (tT g (nn r_)) 0 ≤ 0 from (fun z9 => c_6 (by rw [er_4]; exact z9))), if_pos (show f_one (tT g (nn r_)) (tB g (nn r_)) = 0 from (by rw [← er_10]; exact c_12)), if_neg (show ¬ f_stUR g (nn r_) = 0 from (fun z9 => c_16 (by rw [er_13]; exact z9)))]), hW.to (eg_22.trans (by rw [eg_15]; unfold f_upX; rw [if_neg (show ¬ f_cmp (tT g (nn r_)) 0 ≤ 0 from (fun z9 => c_6 (by rw [er_4]; exact z9))), if_pos (show f_one (tT g (nn r_)) (tB g (nn r_)) = 0 from (by rw [← er_10]; exact c_12)), if_neg (show ¬ f_stUR g (nn r_) = 0 from (fun z9 => c_16 (by rw [er_13]; exact z9)))]))⟩
    · refine lv_aload_n (pc := 20) hx hb dX3_up_20 rfl (lv_at hl 1 rfl) ?_
      refine k_i (pc := 21) (k_V E hC hS hA hl.1 (c1.recv hC hW.obj rfl) rfl (c_X3_refuse l D tk N0 sa hAD H.size g  ) kw_840 kw_842 kp_17 kw_1 kw_843 (n := 0) (by decide +kernel) rfl ⟨⟨rfl, rfl⟩, ⟨by decide, by decide⟩, by decide, by decide⟩ rfl (Nat.le_of_ble_eq_true rfl) hW dX3_up_21) hS (fun q _ w => cwA.go hS.1 q w) hn (fun r_23 H locs hR hz hk hS => ?_)
      obtain ⟨er_23, hW⟩ := hR
      obtain ⟨g_25, eg_25⟩ : ∃ z, z = f_refW g := ⟨_, rfl⟩
      rw [← eg_25] at hW
      refine vx_ret ?_
      refine r_iret (pc := 24) E hr hlk hS (by decide) (by decide) ?_ dX3_up_24
      exact ⟨ek_2, er_23.trans (by unfold f_upR; rw [if_neg (show ¬ f_cmp (tT g (nn r_)) 0 ≤ 0 from (fun z9 => c_6 (by rw [er_4]; exact z9))), if_neg (show ¬ f_one (tT g (nn r_)) (tB g (nn r_)) = 0 from (fun z9 => c_12 (by rw [er_10]; exact z9)))]), hW.to (eg_25.trans (by unfold f_upX; rw [if_neg (show ¬ f_cmp (tT g (nn r_)) 0 ≤ 0 from (fun z9 => c_6 (by rw [er_4]; exact z9))), if_neg (show ¬ f_one (tT g (nn r_)) (tB g (nn r_)) = 0 from (fun z9 => c_12 (by rw [er_10]; exact z9)))]))⟩
