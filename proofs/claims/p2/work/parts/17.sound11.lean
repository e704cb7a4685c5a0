set_option maxHeartbeats 4000000 in
set_option maxRecDepth 100000 in
/-- Bestratios.isTreeSound(LBestratios$Fraction;)Z -/
theorem c_X3_isTreeSound (l : Launch) (D : va_G) (tk : Nat → ClassId) (N0 : Nat) (sa : Nat → Nat) {ad : Nat → Nat} (hAD : ADok N0 ad) (sz : Nat) (g : CS) (i : Nat) (hi : i < 15) : Met l yX3_isTreeSound (wsy yX3_isTreeSound cX3_isTreeSound 3 (some .boolean)) ({ frames := 5, cells := 0, slots := 0, locals := 127 } : Room) (cP D tk N0 sa [.ref (ad 15), .ref (ad i)] sz (fun H => CW D tk ad g H)) (kQi (fun r H => r = (f_tree g i).1 ∧ CW D tk ad ((f_tree g i).2) H) (cwA ad sz)) (0) (0) (cwA ad sz) := by
  refine mStart RX3 rfl (by decide +kernel) (Nat.le_of_ble_eq_true rfl) ?_
  intro p e s m args below meth c E hr hlk hnm hsz hC hF ls hl
  subst hsz
  obtain ⟨hx, hb, -⟩ := id E
  have hA : ∀ q, (cwA ad s.heap.size) q → N0 ≤ q := cwA.ge hAD hC.2.1
  have hn : ∀ q, s.heap.size ≤ q → (cwA ad s.heap.size) q := fun q h => Or.inr h
  have hS : va_S (cwA ad s.heap.size) s.heap s.heap [] := va_S.rf
  have hl : lv_has ls 3 [(0, .ref (ad 15)), (1, .ref (ad i))] := hl
  have hW : CW D tk ad g s.heap := hF
  refine lv_aload_n (pc := 0) hx hb dX3_isTreeSound_0 rfl (lv_at hl 1 rfl) ?_
  refine k_i (pc := 1) (k_V E hC hS hA hl.1 (c1.recv hC (hW.fr (i := i) hi) rfl) rfl (c_X0_sign l D tk N0 sa hAD s.heap.size g i hi ) kw_613 kw_614 kw_615 kw_2 kw_616 (n := 0) (by decide +kernel) rfl ⟨⟨rfl, rfl⟩, ⟨by decide, by decide⟩, by decide, by decide⟩ rfl (Nat.le_of_ble_eq_true rfl) hW dX3_isTreeSound_1) hS (fun q z w => absurd w (Nat.not_le.mpr z)) hn (fun r_1 H locs hR hz hk hS => ?_)
  have er_1 := hR
  have hW := hW.new hk
  refine lv_if_gt (pc := 4) (tgt := 9) hx hb dX3_isTreeSound_4 (by decide) (fun c_3 => ?_) (fun c_3 => ?_)
  · refine lv_iconst (pc := 9) (v := 0) hx hb dX3_isTreeSound_9 (by decide) ?_
    refine lv_istore_n (pc := 10) (lv' := [(2, .int 0), (0, .ref (ad 15)), (1, .ref (ad i))]) hx hb dX3_isTreeSound_10 rfl hl (by decide) rfl (fun ls hl => ?_)
    refine lv_iload_n (pc := 11) hx hb dX3_isTreeSound_11 rfl (lv_at hl 0 rfl) ?_
    refine lv_iconst (pc := 12) (v := 1) hx hb dX3_isTreeSound_12 (by decide) ?_
    refine lv_icmp_gt (pc := 13) (tgt := 77) hx hb dX3_isTreeSound_13 (by decide) (fun c_4 => ?_) (fun c_4 => ?_)
    · exact absurd c_4 (by decide)
    refine lv_aload_n (pc := 16) hx hb dX3_isTreeSound_16 rfl (lv_at hl 1 rfl) ?_
    refine lv_aload_n (pc := 17) hx hb dX3_isTreeSound_17 rfl (lv_at hl 2 rfl) ?_
    refine lv_iload_n (pc := 18) hx hb dX3_isTreeSound_18 rfl (lv_at hl 0 rfl) ?_
    refine lv_iconst (pc := 19) (v := 1) hx hb dX3_isTreeSound_19 (by decide) ?_
    refine lv_icmp_ne (pc := 20) (tgt := 27) hx hb dX3_isTreeSound_20 (by decide) (fun c_5 => ?_) (fun c_5 => ?_)
    rotate_left
    · exact absurd c_5 (by decide)
    refine lv_iconst (pc := 27) (v := 0) hx hb dX3_isTreeSound_27 (by decide) ?_
    refine k_i (pc := 28) (k_V E hC hS hA hl.1 (c1.recv hC hW.obj rfl) rfl (c_X3_stepDown l D tk N0 sa hAD H.size g i hi 0 ) kw_617 kw_619 kp_5 kw_1 kw_620 (n := 2) (by decide +kernel) rfl ⟨⟨rfl, rfl⟩, ⟨by decide, by decide⟩, by decide, by decide⟩ rfl (Nat.le_of_ble_eq_true rfl) hW dX3_isTreeSound_28) hS (fun q _ w => cwA.go hS.1 q w) hn (fun r_6 H locs hR hz hk hS => ?_)
    obtain ⟨er_6, hW⟩ := hR
    obtain ⟨g_8, eg_8⟩ : ∃ z, z = f_stDW g i 0 := ⟨_, rfl⟩
    rw [← eg_8] at hW
    refine lv_if_ne (pc := 31) (tgt := 36) hx hb dX3_isTreeSound_31 (by decide) (fun c_9 => ?_) (fun c_9 => ?_)
    · refine lv_aload_n (pc := 36) hx hb dX3_isTreeSound_36 rfl (lv_at hl 1 rfl) ?_
      refine r_get (pc := 37) E hC hW.obj 6 (v := .ref (ad 7)) rfl rfl (by decide) uX3 (List.mem_cons_of_mem _ kw_120) (fun _ h => h) dX3_isTreeSound_37 ?_
      refine lv_aload_n (pc := 40) hx hb dX3_isTreeSound_40 rfl (lv_at hl 1 rfl) ?_
      refine r_get (pc := 41) E hC hW.obj 5 (v := .ref (ad 6)) rfl rfl (by decide) uX3 (List.mem_cons_of_mem _ kw_119) (fun _ h => h) dX3_isTreeSound_41 ?_
      refine k_v (pc := 44) (k_V E hC hS hA hl.1 (c1.recv hC (hW.fr (i := 7) (by decide)) rfl) rfl (c_X0_assign l D tk N0 sa hAD H.size g_8 7 (by decide) 6 (by decide) ) kw_627 kw_628 kw_629 kw_2 kw_630 (n := 1) (by decide +kernel) rfl ⟨⟨rfl, rfl⟩, ⟨by decide, by decide⟩, by decide, by decide⟩ rfl (Nat.le_of_ble_eq_true rfl) hW dX3_isTreeSound_44) hS (fun q _ w => cwA.go hS.1 q w) hn (fun H locs hR hz hk hS => ?_)
      have hW := hR
      obtain ⟨g_12, eg_12⟩ : ∃ z, z = f_assign g_8 7 6 := ⟨_, rfl⟩
      rw [← eg_12] at hW
      refine lv_aload_n (pc := 47) hx hb dX3_isTreeSound_47 rfl (lv_at hl 1 rfl) ?_
      refine lv_aload_n (pc := 48) hx hb dX3_isTreeSound_48 rfl (lv_at hl 1 rfl) ?_
      refine r_get (pc := 49) E hC hW.obj 6 (v := .ref (ad 7)) rfl rfl (by decide) uX3 (List.mem_cons_of_mem _ kw_120) (fun _ h => h) dX3_isTreeSound_49 ?_
      refine k_i (pc := 52) (k_V E hC hS hA hl.1 (c1.recv hC hW.obj rfl) rfl (c_X3_stepUp l D tk N0 sa hAD H.size g_12 7 (by decide) ) kw_631 kw_633 kp_6 kw_1 kw_634 (n := 1) (by decide +kernel) rfl ⟨⟨rfl, rfl⟩, ⟨by decide, by decide⟩, by decide, by decide⟩ rfl (Nat.le_of_ble_eq_true rfl) hW dX3_isTreeSound_52) hS (fun q _ w => cwA.go hS.1 q w) hn (fun r_13 H locs hR hz hk hS => ?_)
      obtain ⟨er_13, hW⟩ := hR
      obtain ⟨g_15, eg_15⟩ : ∃ z, z = f_stUW g_12 7 := ⟨_, rfl⟩
      rw [← eg_15] at hW
      refine lv_if_eq (pc := 55) (tgt := 69) hx hb dX3_isTreeSound_55 (by decide) (fun c_16 => ?_) (fun c_16 => ?_)
      · refine lv_iconst (pc := 69) (v := 0) hx hb dX3_isTreeSound_69 (by decide) ?_
        refine r_zret (pc := 70) E hr hlk hS (by decide) (by decide) rfl ?_ dX3_isTreeSound_70
        have ht0 : f_ts1 g i 0 = (0, g_15) := by rw [f_ts1, ← er_6, if_neg c_9, ← eg_8, ← eg_12, ← er_13, if_pos c_16, ← eg_15]
        have ht : f_tree g i = (0, g_15) := by rw [f_tree, ← er_1, if_pos c_3, ht0, if_pos rfl]
        exact ⟨(by rw [ht]), hW.to (by rw [ht])⟩
      · refine lv_aload_n (pc := 58) hx hb dX3_isTreeSound_58 rfl (lv_at hl 1 rfl) ?_
        refine r_get (pc := 59) E hC hW.obj 5 (v := .ref (ad 6)) rfl rfl (by decide) uX3 (List.mem_cons_of_mem _ kw_119) (fun _ h => h) dX3_isTreeSound_59 ?_
        refine lv_aload_n (pc := 62) hx hb dX3_isTreeSound_62 rfl (lv_at hl 2 rfl) ?_
        refine k_i (pc := 63) (k_V E hC hS hA hl.1 (c1.recv hC (hW.fr (i := 6) (by decide)) rfl) rfl (c_X0_isSameAs l D tk N0 sa hAD H.size g_15 6 (by decide) i hi ) kw_580 kw_581 kw_582 kw_2 kw_583 (n := 1) (by decide +kernel) rfl ⟨⟨rfl, rfl⟩, ⟨by decide, by decide⟩, by decide, by decide⟩ rfl (Nat.le_of_ble_eq_true rfl) hW dX3_isTreeSound_63) hS (fun q z w => absurd w (Nat.not_le.mpr z)) hn (fun r_17 H locs hR hz hk hS => ?_)
        have er_17 := hR
        have hW := hW.new hk
        refine lv_if_ne (pc := 66) (tgt := 71) hx hb dX3_isTreeSound_66 (by decide) (fun c_19 => ?_) (fun c_19 => ?_)
        · have ht0 : f_ts1 g i 0 = (1, g_15) := by rw [f_ts1, ← er_6, if_neg c_9, ← eg_8, ← eg_12, ← er_13, if_neg c_16, ← eg_15, f_sameF, ← er_17, if_neg c_19]
          refine lv_iinc (pc := 71) (v := 1) (lv' := [(2, .int 1), (0, .ref (ad 15)), (1, .ref (ad i))]) hx hb dX3_isTreeSound_71 hl (k := 0) rfl (by decide) (by decide) rfl (fun ls hl => ?_)
          refine lv_goto (pc := 74) (tgt := 11) hx hb dX3_isTreeSound_74 (by decide) ?_
          refine lv_iload_n (pc := 11) hx hb dX3_isTreeSound_11 rfl (lv_at hl 0 rfl) ?_
          refine lv_iconst (pc := 12) (v := 1) hx hb dX3_isTreeSound_12 (by decide) ?_
          refine lv_icmp_gt (pc := 13) (tgt := 77) hx hb dX3_isTreeSound_13 (by decide) (fun c_20 => ?_) (fun c_20 => ?_)
          · exact absurd c_20 (by decide)
          refine lv_aload_n (pc := 16) hx hb dX3_isTreeSound_16 rfl (lv_at hl 1 rfl) ?_
          refine lv_aload_n (pc := 17) hx hb dX3_isTreeSound_17 rfl (lv_at hl 2 rfl) ?_
          refine lv_iload_n (pc := 18) hx hb dX3_isTreeSound_18 rfl (lv_at hl 0 rfl) ?_
          refine lv_iconst (pc := 19) (v := 1) hx hb dX3_isTreeSound_19 (by decide) ?_
          refine lv_icmp_ne (pc := 20) (tgt := 27) hx hb dX3_isTreeSound_20 (by decide) (fun c_21 => ?_) (fun c_21 => ?_)
          · exact absurd (by decide) c_21
          refine lv_iconst (pc := 23) (v := 1) hx hb dX3_isTreeSound_23 (by decide) ?_
          refine lv_goto (pc := 24) (tgt := 28) hx hb dX3_isTreeSound_24 (by decide) ?_
          refine k_i (pc := 28) (k_V E hC hS hA hl.1 (c1.recv hC hW.obj rfl) rfl (c_X3_stepDown l D tk N0 sa hAD H.size g_15 i hi 1 ) kw_617 kw_619 kp_5 kw_1 kw_620 (n := 2) (by decide +kernel) rfl ⟨⟨rfl, rfl⟩, ⟨by decide, by decide⟩, by decide, by decide⟩ rfl (Nat.le_of_ble_eq_true rfl) hW dX3_isTreeSound_28) hS (fun q _ w => cwA.go hS.1 q w) hn (fun r_22 H locs hR hz hk hS => ?_)
          obtain ⟨er_22, hW⟩ := hR
          obtain ⟨g_24, eg_24⟩ : ∃ z, z = f_stDW g_15 i 1 := ⟨_, rfl⟩
          rw [← eg_24] at hW
          refine lv_if_ne (pc := 31) (tgt := 36) hx hb dX3_isTreeSound_31 (by decide) (fun c_25 => ?_) (fun c_25 => ?_)
          · refine lv_aload_n (pc := 36) hx hb dX3_isTreeSound_36 rfl (lv_at hl 1 rfl) ?_
            refine r_get (pc := 37) E hC hW.obj 6 (v := .ref (ad 7)) rfl rfl (by decide) uX3 (List.mem_cons_of_mem _ kw_120) (fun _ h => h) dX3_isTreeSound_37 ?_
            refine lv_aload_n (pc := 40) hx hb dX3_isTreeSound_40 rfl (lv_at hl 1 rfl) ?_
            refine r_get (pc := 41) E hC hW.obj 5 (v := .ref (ad 6)) rfl rfl (by decide) uX3 (List.mem_cons_of_mem _ kw_119) (fun _ h => h) dX3_isTreeSound_41 ?_
            refine k_v (pc := 44) (k_V E hC hS hA hl.1 (c1.recv hC (hW.fr (i := 7) (by decide)) rfl) rfl (c_X0_assign l D tk N0 sa hAD H.size g_24 7 (by decide) 6 (by decide) ) kw_627 kw_628 kw_629 kw_2 kw_630 (n := 1) (by decide +kernel) rfl ⟨⟨rfl, rfl⟩, ⟨by decide, by decide⟩, by decide, by decide⟩ rfl (Nat.le_of_ble_eq_true rfl) hW dX3_isTreeSound_44) hS (fun q _ w => cwA.go hS.1 q w) hn (fun H locs hR hz hk hS => ?_)
            have hW := hR
            obtain ⟨g_28, eg_28⟩ : ∃ z, z = f_assign g_24 7 6 := ⟨_, rfl⟩
            rw [← eg_28] at hW
            refine lv_aload_n (pc := 47) hx hb dX3_isTreeSound_47 rfl (lv_at hl 1 rfl) ?_
            refine lv_aload_n (pc := 48) hx hb dX3_isTreeSound_48 rfl (lv_at hl 1 rfl) ?_
            refine r_get (pc := 49) E hC hW.obj 6 (v := .ref (ad 7)) rfl rfl (by decide) uX3 (List.mem_cons_of_mem _ kw_120) (fun _ h => h) dX3_isTreeSound_49 ?_
            refine k_i (pc := 52) (k_V E hC hS hA hl.1 (c1.recv hC hW.obj rfl) rfl (c_X3_stepUp l D tk N0 sa hAD H.size g_28 7 (by decide) ) kw_631 kw_633 kp_6 kw_1 kw_634 (n := 1) (by decide +kernel) rfl ⟨⟨rfl, rfl⟩, ⟨by decide, by decide⟩, by decide, by decide⟩ rfl (Nat.le_of_ble_eq_true rfl) hW dX3_isTreeSound_52) hS (fun q _ w => cwA.go hS.1 q w) hn (fun r_29 H locs hR hz hk hS => ?_)
            obtain ⟨er_29, hW⟩ := hR
            obtain ⟨g_31, eg_31⟩ : ∃ z, z = f_stUW g_28 7 := ⟨_, rfl⟩
            rw [← eg_31] at hW
            refine lv_if_eq (pc := 55) (tgt := 69) hx hb dX3_isTreeSound_55 (by decide) (fun c_32 => ?_) (fun c_32 => ?_)
            · refine lv_iconst (pc := 69) (v := 0) hx hb dX3_isTreeSound_69 (by decide) ?_
              refine r_zret (pc := 70) E hr hlk hS (by decide) (by decide) rfl ?_ dX3_isTreeSound_70
              have ht1 : f_ts1 g_15 i 1 = (0, g_31) := by rw [f_ts1, ← er_22, if_neg c_25, ← eg_24, ← eg_28, ← er_29, if_pos c_32, ← eg_31]
              have ht : f_tree g i = (0, g_31) := by rw [f_tree, ← er_1, if_pos c_3, ht0, if_neg (show ¬ (1 : Int32) = 0 by decide), ht1, if_pos rfl]
              exact ⟨(by rw [ht]), hW.to (by rw [ht])⟩
            · refine lv_aload_n (pc := 58) hx hb dX3_isTreeSound_58 rfl (lv_at hl 1 rfl) ?_
              refine r_get (pc := 59) E hC hW.obj 5 (v := .ref (ad 6)) rfl rfl (by decide) uX3 (List.mem_cons_of_mem _ kw_119) (fun _ h => h) dX3_isTreeSound_59 ?_
              refine lv_aload_n (pc := 62) hx hb dX3_isTreeSound_62 rfl (lv_at hl 2 rfl) ?_
              refine k_i (pc := 63) (k_V E hC hS hA hl.1 (c1.recv hC (hW.fr (i := 6) (by decide)) rfl) rfl (c_X0_isSameAs l D tk N0 sa hAD H.size g_31 6 (by decide) i hi ) kw_580 kw_581 kw_582 kw_2 kw_583 (n := 1) (by decide +kernel) rfl ⟨⟨rfl, rfl⟩, ⟨by decide, by decide⟩, by decide, by decide⟩ rfl (Nat.le_of_ble_eq_true rfl) hW dX3_isTreeSound_63) hS (fun q z w => absurd w (Nat.not_le.mpr z)) hn (fun r_33 H locs hR hz hk hS => ?_)
              have er_33 := hR
              have hW := hW.new hk
              refine lv_if_ne (pc := 66) (tgt := 71) hx hb dX3_isTreeSound_66 (by decide) (fun c_35 => ?_) (fun c_35 => ?_)
              · have ht1 : f_ts1 g_15 i 1 = (1, g_31) := by rw [f_ts1, ← er_22, if_neg c_25, ← eg_24, ← eg_28, ← er_29, if_neg c_32, ← eg_31, f_sameF, ← er_33, if_neg c_35]
                refine lv_iinc (pc := 71) (v := 2) (lv' := [(2, .int 2), (0, .ref (ad 15)), (1, .ref (ad i))]) hx hb dX3_isTreeSound_71 hl (k := 0) rfl (by decide) (by decide) rfl (fun ls hl => ?_)
                refine lv_goto (pc := 74) (tgt := 11) hx hb dX3_isTreeSound_74 (by decide) ?_
                refine lv_iload_n (pc := 11) hx hb dX3_isTreeSound_11 rfl (lv_at hl 0 rfl) ?_
                refine lv_iconst (pc := 12) (v := 1) hx hb dX3_isTreeSound_12 (by decide) ?_
                refine lv_icmp_gt (pc := 13) (tgt := 77) hx hb dX3_isTreeSound_13 (by decide) (fun c_36 => ?_) (fun c_36 => ?_)
                rotate_left
                · exact absurd (by decide) c_36
                refine lv_aload_n (pc := 77) hx hb dX3_isTreeSound_77 rfl (lv_at hl 1 rfl) ?_
                refine r_get (pc := 78) E hC hW.obj 6 (v := .ref (ad 7)) rfl rfl (by decide) uX3 (List.mem_cons_of_mem _ kw_120) (fun _ h => h) dX3_isTreeSound_78 ?_
                refine lv_aload_n (pc := 81) hx hb dX3_isTreeSound_81 rfl (lv_at hl 2 rfl) ?_
                refine k_v (pc := 82) (k_V E hC hS hA hl.1 (c1.recv hC (hW.fr (i := 7) (by decide)) rfl) rfl (c_X0_becomeFollower l D tk N0 sa hAD H.size g_31 7 (by decide) i hi ) kw_635 kw_636 kw_637 kw_2 kw_638 (n := 1) (by decide +kernel) rfl ⟨⟨rfl, rfl⟩, ⟨by decide, by decide⟩, by decide, by decide⟩ rfl (Nat.le_of_ble_eq_true rfl) hW dX3_isTreeSound_82) hS (fun q _ w => cwA.go hS.1 q w) hn (fun H locs hR hz hk hS => ?_)
                have hW := hR
                obtain ⟨g_39, eg_39⟩ : ∃ z, z = f_foll g_31 7 i := ⟨_, rfl⟩
                rw [← eg_39] at hW
                refine lv_aload_n (pc := 85) hx hb dX3_isTreeSound_85 rfl (lv_at hl 1 rfl) ?_
                refine r_get (pc := 86) E hC hW.obj 5 (v := .ref (ad 6)) rfl rfl (by decide) uX3 (List.mem_cons_of_mem _ kw_119) (fun _ h => h) dX3_isTreeSound_86 ?_
                refine lv_aload_n (pc := 89) hx hb dX3_isTreeSound_89 rfl (lv_at hl 1 rfl) ?_
                refine r_get (pc := 90) E hC hW.obj 6 (v := .ref (ad 7)) rfl rfl (by decide) uX3 (List.mem_cons_of_mem _ kw_120) (fun _ h => h) dX3_isTreeSound_90 ?_
                refine k_v (pc := 93) (k_V E hC hS hA hl.1 (c1.recv hC (hW.fr (i := 6) (by decide)) rfl) rfl (c_X0_becomeForerunner l D tk N0 sa hAD H.size g_39 6 (by decide) 7 (by decide) ) kw_643 kw_644 kw_645 kw_2 kw_646 (n := 1) (by decide +kernel) rfl ⟨⟨rfl, rfl⟩, ⟨by decide, by decide⟩, by decide, by decide⟩ rfl (Nat.le_of_ble_eq_true rfl) hW dX3_isTreeSound_93) hS (fun q _ w => cwA.go hS.1 q w) hn (fun H locs hR hz hk hS => ?_)
                have hW := hR
                obtain ⟨g_42, eg_42⟩ : ∃ z, z = f_fore g_39 6 7 := ⟨_, rfl⟩
                rw [← eg_42] at hW
                refine lv_aload_n (pc := 96) hx hb dX3_isTreeSound_96 rfl (lv_at hl 1 rfl) ?_
                refine r_get (pc := 97) E hC hW.obj 5 (v := .ref (ad 6)) rfl rfl (by decide) uX3 (List.mem_cons_of_mem _ kw_119) (fun _ h => h) dX3_isTreeSound_97 ?_
                refine lv_aload_n (pc := 100) hx hb dX3_isTreeSound_100 rfl (lv_at hl 2 rfl) ?_
                refine k_i (pc := 101) (k_V E hC hS hA hl.1 (c1.recv hC (hW.fr (i := 6) (by decide)) rfl) rfl (c_X0_isSameAs l D tk N0 sa hAD H.size g_42 6 (by decide) i hi ) kw_580 kw_581 kw_582 kw_2 kw_583 (n := 1) (by decide +kernel) rfl ⟨⟨rfl, rfl⟩, ⟨by decide, by decide⟩, by decide, by decide⟩ rfl (Nat.le_of_ble_eq_true rfl) hW dX3_isTreeSound_101) hS (fun q z w => absurd w (Nat.not_le.mpr z)) hn (fun r_43 H locs hR hz hk hS => ?_)
                have er_43 := hR
                have hW := hW.new hk
                refine r_zret (pc := 104) E hr hlk hS (by decide) (by decide) (zb (by rw [er_43]; exact f_same_b _ _ _ _)) ?_ dX3_isTreeSound_104
                have ht : f_tree g i = (r_43, g_42) := by rw [f_tree, ← er_1, if_pos c_3, ht0, if_neg (show ¬ (1 : Int32) = 0 by decide), ht1, if_neg (show ¬ (1 : Int32) = 0 by decide), f_ts2, ← eg_39, ← eg_42, f_sameF, ← er_43]
                exact ⟨(by rw [ht]), hW.to (by rw [ht])⟩
              · refine lv_iconst (pc := 69) (v := 0) hx hb dX3_isTreeSound_69 (by decide) ?_
                refine r_zret (pc := 70) E hr hlk hS (by decide) (by decide) rfl ?_ dX3_isTreeSound_70
                have ht1 : f_ts1 g_15 i 1 = (0, g_31) := by rw [f_ts1, ← er_22, if_neg c_25, ← eg_24, ← eg_28, ← er_29, if_neg c_32, ← eg_31, f_sameF, ← er_33, if_pos c_35]
                have ht : f_tree g i = (0, g_31) := by rw [f_tree, ← er_1, if_pos c_3, ht0, if_neg (show ¬ (1 : Int32) = 0 by decide), ht1, if_pos rfl]
                exact ⟨(by rw [ht]), hW.to (by rw [ht])⟩
          · refine lv_iconst (pc := 34) (v := 0) hx hb dX3_isTreeSound_34 (by decide) ?_
            refine r_zret (pc := 35) E hr hlk hS (by decide) (by decide) rfl ?_ dX3_isTreeSound_35
            have ht1 : f_ts1 g_15 i 1 = (0, g_24) := by rw [f_ts1, ← er_22, if_pos c_25, ← eg_24]
            have ht : f_tree g i = (0, g_24) := by rw [f_tree, ← er_1, if_pos c_3, ht0, if_neg (show ¬ (1 : Int32) = 0 by decide), ht1, if_pos rfl]
            exact ⟨(by rw [ht]), hW.to (by rw [ht])⟩
        · refine lv_iconst (pc := 69) (v := 0) hx hb dX3_isTreeSound_69 (by decide) ?_
          refine r_zret (pc := 70) E hr hlk hS (by decide) (by decide) rfl ?_ dX3_isTreeSound_70
          have ht0 : f_ts1 g i 0 = (0, g_15) := by rw [f_ts1, ← er_6, if_neg c_9, ← eg_8, ← eg_12, ← er_13, if_neg c_16, ← eg_15, f_sameF, ← er_17, if_pos c_19]
          have ht : f_tree g i = (0, g_15) := by rw [f_tree, ← er_1, if_pos c_3, ht0, if_pos rfl]
          exact ⟨(by rw [ht]), hW.to (by rw [ht])⟩
    · refine lv_iconst (pc := 34) (v := 0) hx hb dX3_isTreeSound_34 (by decide) ?_
      refine r_zret (pc := 35) E hr hlk hS (by decide) (by decide) rfl ?_ dX3_isTreeSound_35
      have ht0 : f_ts1 g i 0 = (0, g_8) := by rw [f_ts1, ← er_6, if_pos c_9, ← eg_8]
      have ht : f_tree g i = (0, g_8) := by rw [f_tree, ← er_1, if_pos c_3, ht0, if_pos rfl]
      exact ⟨(by rw [ht]), hW.to (by rw [ht])⟩
  · refine lv_iconst (pc := 7) (v := 1) hx hb dX3_isTreeSound_7 (by decide) ?_
    refine r_zret (pc := 8) E hr hlk hS (by decide) (by decide) rfl ?_ dX3_isTreeSound_8
    have ht : f_tree g i = (1, g) := by rw [f_tree, ← er_1, if_neg c_3]
    exact ⟨(by rw [ht]), hW.to (by rw [ht])⟩
