/-! ===== the law's loop ===== -/
theorem lw_cmp {i L : Nat} (hL : L ≤ 320) (hi : i ≤ 320) (h : ¬ Int32.ofNat L - 5 < nI i) : i + 5 ≤ L := by
  have h1 := Int32.le_iff_toInt_le.mp (Int32.not_lt.mp h)
  have e1 : (Int32.ofNat L).toInt = (L : Int) := nI_toInt (by omega)
  have e2 : (nI i).toInt = (i : Int) := nI_toInt (by omega)
  have e5 : (5 : Int32).toInt = 5 := by decide
  rw [Int32.toInt_sub, e1, e2, e5] at h1
  simp only [Int.bmod] at h1
  split at h1 <;> omega
set_option maxHeartbeats 4000000 in
theorem law_loop {p : Program} {l : Launch} {e : Env} {s : State} {m : MethodId} {below : List Frame} {meth : Method} {c : Code} {D : va_G} {tk : Nat → ClassId} {sa ad : Nat → Nat} {b L uo mo M0 : Nat} {xs : Nat → Int32} {w0 : Cond} (hlst : l.stackTraces = false) (E : CallFix p m c cL_law 7 s #[.ref b] (w0 :: GW) "BestratiosLaw") (hr : meth.sig.returnType = ret) (hlk : meth.locks = false) (hC : Ctx D tk s.heap.size sa s) (hN : NCx s) (hX : va_X b L xs s s.heap) (hbl : b < s.heap.size) (hAD : ADok s.heap.size ad) (huo : s.heap.size ≤ uo) (hM0 : s.heap.size ≤ M0) (had : ∀ k, k < 22 → ad k < M0) (hL : L ≤ 320) :
    ∀ (n i : Nat), 320 < n + i → i ≤ 320 → ∀ (H : Heap) (locs : List Loc) (ls : Array Slot), M0 ≤ H.size → va_S (NA s.heap.size) s.heap H locs → LR D tk sa ad uo mo (PL M0 uo) H → lv_has ls 7 [(0, .ref b), (1, .ref (ad 15)), (2, .ref mo), (3, .ref uo), (4, .int (nI i))] → W p l e room_1 s m #[Value.ref b] below meth c H locs (40 + 1400 * i) (300 + 20200 * i) (lw_Z below #[Value.ref b] s) (F0 m 27 ls []) := by
  obtain ⟨hx, hb, -⟩ := id E
  have hbA : ¬ NA s.heap.size b := Nat.not_le.mpr hbl
  intro n
  induction n with
  | zero => intro i hn hi; omega
  | succ n ih =>
    intro i hn hi H locs ls hz0 hS hB hl
    refine lv_iload (pc := 27) hx hb dL_law_27 (lv_at hl 4 rfl) ?_
    refine lv_aload_n (pc := 29) hx hb dL_law_29 rfl (lv_at hl 0 rfl) ?_
    refine va_slen (pc := 30) hx hb hX hbl hbA hS dL_law_30 ?_
    refine lv_iconst (pc := 31) (v := 5) hx hb dL_law_31 (by decide) ?_
    refine lv_isub (pc := 32) hx hb dL_law_32 ?_
    refine lv_icmp_gt (pc := 33) (tgt := 1819) hx hb dL_law_33 (by decide) (fun h => ?_) (fun h => ?_)
    · refine lv_iconst (pc := 1819) (v := 1) hx hb dL_law_1819 (by decide) ?_
      refine W.widen (k := 846963) (n := 6560590) (by omega) (by omega) ?_
      refine va_forget hS.2.2 ?_
      exact lw_ret hx hb hr hlk dL_law_1820
    · have hi5 := lw_cmp hL hi h
      refine lv_aload_n (pc := 36) hx hb dL_law_36 rfl (lv_at hl 0 rfl) ?_
      refine lv_iload (pc := 37) hx hb dL_law_37 (lv_at hl 4 rfl) ?_
      refine va_sld (pc := 39) hx hb hX hbl hbA hS (vp_in_nI (by omega) (by omega)) dL_law_39 ?_
      refine lv_bipush (pc := 40) (v := 63) hx hb dL_law_40 (by decide) ?_
      refine lv_iand (pc := 42) hx hb dL_law_42 ?_
      refine law_sw hlst E hr hC hN hX hbl hAD huo hM0 had hL hi5 (by omega) (by omega) hz0 hS hB hl (fun H1 locs1 ls1 hz1 hS1 hB1 hl1 => ?_)
      refine lv_iinc (pc := 1813) (v := nI (i + 5)) (lv' := [(4, .int (nI (i + 5))), (0, .ref b), (1, .ref (ad 15)), (2, .ref mo), (3, .ref uo)]) hx hb dL_law_1813 hl1 (k := 4) rfl (by rw [show Int32.ofInt 5 = nI 5 by decide]; exact nI_add i 5) (by decide) rfl (fun ls hl => ?_)
      refine lv_goto (pc := 1816) (tgt := 27) hx hb dL_law_1816 (by decide) ?_
      refine W.widen (k := 40 + 1400 * (i + 5)) (n := 300 + 20200 * (i + 5)) (by omega) (by omega) ?_
      exact ih (i + 5) (by omega) (by omega) _ _ _ hz1 hS1 hB1 (lv_sub hl [1, 2, 3, 4, 0] rfl)
theorem MI.mono {D : va_G} {tk : Nat → ClassId} {sa : Nat → Nat} {P P1 : Nat → Prop} {mo : Nat} {tt bb : Nat → Int64} {eT eB oT oB : Int64} {pk : Nat} {ca rf : Int32} {vs : Nat → Value} {kn : Int32} {n9 : Nat} {th : Int32} {H : Heap} (h : MI D tk sa P mo tt bb eT eB oT oB pk ca rf vs kn n9 th H) (hp : ∀ q, q < H.size → P q → P1 q) : MI D tk sa P1 mo tt bb eT eB oT oB pk ca rf vs kn n9 th H := by
  obtain ⟨ra, rl, ex, ro, rt, fo, fj, fk, fe, fr, fw, ⟨hPm, hPa, hPl, hPe, hPr, hPk⟩, hM⟩ := h
  have hw : RW D tk sa P1 rl n9 vs H ∧ rl < H.size := by
    rcases fw with ⟨h0, md, h1⟩ | ⟨md, b, cap, f, hb, h1, h2, h3⟩
    · exact ⟨Or.inl ⟨h0, md, h1⟩, h1.lt⟩
    · exact ⟨Or.inr ⟨md, b, cap, f, hp _ h2.lt hb, h1, h2, h3⟩, h1.lt⟩
  exact ⟨ra, rl, ex, ro, rt, fo, fj, fk, fe, fr, hw.1, ⟨hp _ fo.lt hPm, hp _ fj.lt hPa, hp _ hw.2 hPl, hp _ fe.lt hPe, hp _ fr.lt hPr, fun k hk => hp _ (fk k hk).lt (hPk k hk)⟩, hM⟩
