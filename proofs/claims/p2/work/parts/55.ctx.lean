/-! ===== what every method is given, at the law's start ===== -/
set_option maxHeartbeats 4000000 in
theorem ctx_start {s : State} {args : Array Value} (hts : ∀ w ∈ lw_tbl, w.before args s = true) (hgv : (Jvm.Cond.and given_1 narrow_1).before args s = true) : ∃ (D : va_G) (tk : Nat → ClassId) (sa : Nat → Nat), Ctx D tk s.heap.size sa s ∧ NCx s := by
  have hs : ∀ c ∈ flatC (Jvm.Cond.and given_1 narrow_1), c.before args s = true := flat_of_before _ hgv
  have hA := st_na (s := s)
  obtain ⟨D, hD⟩ := st_cls hts
  obtain ⟨st, hst⟩ := st_strs hts hs
  obtain ⟨k0, a0, b0⟩ := st_pr (t := .long) (hts _ (tb_w 75 (by decide +kernel)))
  obtain ⟨k1, a1, b1⟩ := st_pr (t := .byte) (hts _ (tb_w 181 (by decide +kernel)))
  obtain ⟨k2, a2, b2⟩ := st_ob (C := "Bestratios$Fraction") (hts _ (tb_w 44 (by decide +kernel)))
  obtain ⟨k3, a3, b3⟩ := st_ar (t := .long) (hts _ (tb_w 1169 (by decide +kernel)))
  obtain ⟨k4, a4, b4⟩ := st_ob (C := "java/lang/Object") (hts _ (tb_w 1479 (by decide +kernel)))
  obtain ⟨k5, a5, b5⟩ := st_pr (t := .int) (hts _ (tb_w 1795 (by decide +kernel)))
  obtain ⟨p0, e0, t0⟩ := st_pow hs
  obtain ⟨p1, e1, t1⟩ := st_al hs
  obtain ⟨p2, e2, t2⟩ := st_ones hs
  obtain ⟨p3, e3, t3⟩ := st_tens hs
  obtain ⟨lc, p4, h4, e4, t4⟩ := st_lc hs
  obtain ⟨ic, p5, h5, e5, t5⟩ := st_ic hs
  obtain ⟨p6, m6⟩ := va_Mi.of (args := args) (s := s) (C := "[Ljava/lang/Object;") (fl_i hs 306 (by decide +kernel))
  have hby : ∀ j : Nat, ∃ c : ClassId, j < 16 → ∃ cell : Cell, s.heap[(st j).2]? = some cell ∧ cell.vm.isStatics = false ∧ cell.cls = c ∧ s.isArrayOf cell .byte ∧ ¬ NA s.heap.size (st j).2 := by
    intro j
    by_cases hj : j < 16
    · obtain ⟨q, hq⟩ : ∃ q, strK[j]? = some q := ⟨strK[j]'hj, List.getElem?_eq_getElem hj⟩
      obtain ⟨-, -, -, -, cell, h1, h2, h3, h4, h5, h6, h7⟩ := hst j q hq
      exact ⟨cell.cls, fun _ => ⟨cell, h1, st_no h2.1, rfl, h2, h7⟩⟩
    · exact ⟨0, fun h => absurd h hj⟩
  obtain ⟨cb, hcb⟩ := Classical.axiomOfChoice hby
  obtain ⟨sa, s1, s2, s3⟩ := st_sa (fun n => ([p0, p1, p2, p3, p4, p5, p6, 0, 0, 0] : List Nat).getD n 0) st lc ic
  obtain ⟨tk, q1, q2⟩ : ∃ tk : Nat → ClassId, (∀ n, n < 6 → tk n = ([k0, k1, k2, k3, k4, k5] : List ClassId).getD n 0) ∧ ∀ j, j < 16 → tk (40 + j) = cb j :=
    ⟨fun n => if n < 6 then ([k0, k1, k2, k3, k4, k5] : List ClassId).getD n 0 else cb (n - 40), fun n hn => if_pos hn, fun j _ => by
      dsimp only
      rw [if_neg (by omega), Nat.add_sub_cancel_left]⟩
  have w0 : sa 0 = p0 := s1 0 (by decide)
  have w1 : sa 1 = p1 := s1 1 (by decide)
  have w2 : sa 2 = p2 := s1 2 (by decide)
  have w3 : sa 3 = p3 := s1 3 (by decide)
  have w4 : sa 4 = p4 := s1 4 (by decide)
  have w5 : sa 5 = p5 := s1 5 (by decide)
  have w6 : sa 6 = p6 := s1 6 (by decide)
  have v0 : tk 0 = k0 := q1 0 (by decide)
  have v1 : tk 1 = k1 := q1 1 (by decide)
  have v2 : tk 2 = k2 := q1 2 (by decide)
  have v3 : tk 3 = k3 := q1 3 (by decide)
  have v4 : tk 4 = k4 := q1 4 (by decide)
  have v5 : tk 5 = k5 := q1 5 (by decide)
  have hK : va_K D vwCl (tyG tk) s := ⟨hD, fun k q hk => by
    match k, hk with
    | 0, hk =>
      cases hk
      show ArrOfT s (tk 0) (.long) ∧ va_RA s (tk 0) (.long)
      rw [v0]
      exact ⟨a0, b0⟩
    | 1, hk =>
      cases hk
      show ArrOfT s (tk 1) (.byte) ∧ va_RA s (tk 1) (.byte)
      rw [v1]
      exact ⟨a1, b1⟩
    | 2, hk =>
      cases hk
      show ArrOfT s (tk 2) (.object "Bestratios$Fraction") ∧ va_RA s (tk 2) (.object "Bestratios$Fraction")
      rw [v2]
      exact ⟨a2, b2⟩
    | 3, hk =>
      cases hk
      show ArrOfT s (tk 3) (.array .long) ∧ va_RA s (tk 3) (.array .long)
      rw [v3]
      exact ⟨a3, b3⟩
    | 4, hk =>
      cases hk
      show ArrOfT s (tk 4) (.object "java/lang/Object") ∧ va_RA s (tk 4) (.object "java/lang/Object")
      rw [v4]
      exact ⟨a4, b4⟩
    | 5, hk =>
      cases hk
      show ArrOfT s (tk 5) (.int) ∧ va_RA s (tk 5) (.int)
      rw [v5]
      exact ⟨a5, b5⟩
    | k + 6, hk => simp [tyG] at hk⟩
  have hSG : SG s.heap.size sa s s.heap := ⟨⟨(by rw [w0]; exact va_Zref (hts _ (tb_w 536 (by decide +kernel))) (hts _ (tb_w 1 (by decide +kernel))) e0 hA), by rw [w0]; exact t0⟩, vx_Zqof (hts _ (tb_w 378 (by decide +kernel))) (hts _ (tb_w 11 (by decide +kernel))) (fl_i hs 215 (by decide +kernel)) hA, vx_Zqof (hts _ (tb_w 380 (by decide +kernel))) (hts _ (tb_w 11 (by decide +kernel))) (fl_i hs 216 (by decide +kernel)) hA⟩
  have hNw : ∀ w ∈ tables_1, isNest w = true → va_Nw w s := fun w hw hn => va_Nw.of (by cases w <;> first | rfl | (simp [isNest] at hn)) (hts w (List.mem_append_right _ hw))
  have hSK : SK s.heap.size sa s s.heap := fun j q hj => by
    have hj16 : j < 16 := (List.getElem?_eq_some_iff.mp hj).1
    unfold SK1
    rw [(s2 j hj16).1, (s2 j hj16).2]
    exact hst j q hj
  have hXT : XT tk s.heap.size sa s s.heap := ⟨by rw [w6]; exact m6, va_Zqof (hts _ (tb_w 252 (by decide +kernel))) (hts _ (tb_w 26 (by decide +kernel))) (fl_i hs 5 (by decide +kernel)) hA, fun j hj => by
    rw [(s2 j hj).2, q2 j hj]
    exact hcb j hj, va_Fw.of (hts _ (tb_w 1512 (by decide +kernel))) (hts _ (tb_w 1511 (by decide +kernel))) (hts _ (tb_w 1517 (by decide +kernel))) (hts _ (tb_w 1515 (by decide +kernel))) (hts _ (tb_w 1513 (by decide +kernel))), va_Fw.of (hts _ (tb_w 1522 (by decide +kernel))) (hts _ (tb_w 1521 (by decide +kernel))) (hts _ (tb_w 1526 (by decide +kernel))) (hts _ (tb_w 1524 (by decide +kernel))) (hts _ (tb_w 1513 (by decide +kernel)))⟩
  have hXS : XS tk s.heap.size sa s s.heap := ⟨va_Zof (hts _ (tb_w 159 (by decide +kernel))) (hts _ (tb_w 20 (by decide +kernel))) (va_eqi (fl_i hs 4 (by decide +kernel))) hA, ⟨(by rw [w1]; exact va_Zref (hts _ (tb_w 1183 (by decide +kernel))) (hts _ (tb_w 8 (by decide +kernel))) e1 hA), by rw [w1]; exact t1⟩, ⟨(by rw [w2]; exact va_Zref (hts _ (tb_w 295 (by decide +kernel))) (hts _ (tb_w 22 (by decide +kernel))) e2 hA), by rw [w2]; exact t2⟩, ⟨(by rw [w3]; exact va_Zref (hts _ (tb_w 297 (by decide +kernel))) (hts _ (tb_w 22 (by decide +kernel))) e3 hA), by rw [w3]; exact t3⟩, ⟨(by rw [w4]; exact va_Zref (hts _ (tb_w 1420 (by decide +kernel))) (hts _ (tb_w 28 (by decide +kernel))) e4 hA), by rw [w4]; exact st_T t4 (fun j hj => by (try dsimp only); rw [(s3 j hj).1])⟩, ⟨fun k hk => by (try dsimp only); rw [(s3 k hk).1]; exact h4.1 k hk, fun k hk => by (try dsimp only); rw [(s3 k hk).1]; exact h4.2 k hk⟩, ⟨(by rw [w5]; exact va_Zref (hts _ (tb_w 1582 (by decide +kernel))) (hts _ (tb_w 32 (by decide +kernel))) e5 hA), by rw [w5]; exact st_T t5 (fun j hj => by (try dsimp only); rw [(s3 j hj).2])⟩, ⟨fun k hk => by (try dsimp only); rw [(s3 k hk).2]; exact h5.1 k hk, fun k hk => by (try dsimp only); rw [(s3 k hk).2]; exact h5.2 k hk⟩, va_Zof (hts _ (tb_w 1580 (by decide +kernel))) (hts _ (tb_w 32 (by decide +kernel))) (va_eqi (fl_i hs 238 (by decide +kernel))) hA, hXT⟩
  exact ⟨D, tk, sa, ⟨hK, Nat.le_refl _, hSG, hNw, hSK, fun t ht => ao_vm rfl (hts _ (List.mem_append_right _ ht)), hXS⟩, va_Nc.of (args := args) (fl_i hs 250 (by decide +kernel)), va_Nc.of (args := args) (fl_i hs 269 (by decide +kernel))⟩
