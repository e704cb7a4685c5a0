/-! ===== the statics at the start ===== -/
section ST2
variable {s : State} {args : Array Value}
theorem st_na : ∀ a : Nat, a < s.heap.size → ¬ NA s.heap.size a := fun a h => Nat.not_le.mpr h
theorem st_pow (hs : ∀ c ∈ flatC (Jvm.Cond.and given_1 narrow_1), c.before args s = true) : ∃ t : Nat, (Term.static "Bestratios" "POWERS_OF_TEN" "[J").eval args s none [] s = some (.ref t) ∧ va_T .long t 10 (fun j => .long (p10 j)) (NA s.heap.size) s s.heap :=
  va_Tof (tm := (.static "Bestratios" "POWERS_OF_TEN" "[J")) (by decide) (fl_i hs 218 (by decide +kernel)) (va_eqt (z := Int32.ofNat 10) (fl_i hs 219 (by decide +kernel))) (fun j hj => va_eqtl (fl_r hs (i0 := 220) (n := 10) (f := fun j => Cond.eq (.elem (.static "Bestratios" "POWERS_OF_TEN" "[J") (.int (Int32.ofNat j))) (.long (p10 j))) (by decide +kernel) j hj)) st_na
theorem st_ones (hs : ∀ c ∈ flatC (Jvm.Cond.and given_1 narrow_1), c.before args s = true) : ∃ t : Nat, (Term.static "java/lang/Integer" "DigitOnes" "[B").eval args s none [] s = some (.ref t) ∧ va_T .byte t 100 (fun j => .int (Int32.ofNat (48 + j % 10))) (NA s.heap.size) s s.heap :=
  va_Tof (tm := (.static "java/lang/Integer" "DigitOnes" "[B")) (by decide) (fl_i hs 10 (by decide +kernel)) (va_eqt (z := Int32.ofNat 100) (fl_i hs 11 (by decide +kernel))) (fun j hj => va_eqt (fl_r hs (i0 := 12) (n := 100) (f := fun j => Cond.eq (.elem (.static "java/lang/Integer" "DigitOnes" "[B") (.int (Int32.ofNat j))) (.int (Int32.ofNat (48 + j % 10)))) (by decide +kernel) j hj)) st_na
theorem st_tens (hs : ∀ c ∈ flatC (Jvm.Cond.and given_1 narrow_1), c.before args s = true) : ∃ t : Nat, (Term.static "java/lang/Integer" "DigitTens" "[B").eval args s none [] s = some (.ref t) ∧ va_T .byte t 100 (fun j => .int (Int32.ofNat (48 + j / 10))) (NA s.heap.size) s s.heap :=
  va_Tof (tm := (.static "java/lang/Integer" "DigitTens" "[B")) (by decide) (fl_i hs 113 (by decide +kernel)) (va_eqt (z := Int32.ofNat 100) (fl_i hs 114 (by decide +kernel))) (fun j hj => va_eqt (fl_r hs (i0 := 115) (n := 100) (f := fun j => Cond.eq (.elem (.static "java/lang/Integer" "DigitTens" "[B") (.int (Int32.ofNat j))) (.int (Int32.ofNat (48 + j / 10)))) (by decide +kernel) j hj)) st_na
theorem st_al (hs : ∀ c ∈ flatC (Jvm.Cond.and given_1 narrow_1), c.before args s = true) : ∃ t : Nat, (Term.static "java/util/ArrayList" "DEFAULTCAPACITY_EMPTY_ELEMENTDATA" "[Ljava/lang/Object;").eval args s none [] s = some (.ref t) ∧ va_T (.object "java/lang/Object") t 0 (fun _ => .null) (NA s.heap.size) s s.heap :=
  va_Tof (tm := .static "java/util/ArrayList" "DEFAULTCAPACITY_EMPTY_ELEMENTDATA" "[Ljava/lang/Object;") (by decide) (fl_i hs 231 (by decide +kernel)) (va_eqt (z := Int32.ofNat 0) (fl_i hs 233 (by decide +kernel))) (fun j hj => absurd hj (Nat.not_lt_zero j)) st_na
theorem st_i2 : ∀ k : Nat, k < 256 → (Int32.ofNat k - 128).toInt64 = Int64.ofNat k - 128 := by
  have hall : ∀ i : Fin 256, (Int32.ofNat i.val - 128).toInt64 = Int64.ofNat i.val - 128 := by decide +kernel
  exact fun k hk => hall ⟨k, hk⟩
theorem st_lc (hs : ∀ c ∈ flatC (Jvm.Cond.and given_1 narrow_1), c.before args s = true) : ∃ (ad : Nat → Nat) (t : Nat), bxC s.heap.size "java/lang/Long" "J" (fun j => .long (Int64.ofNat j - 128)) ad s s.heap ∧ (Term.static "java/lang/Long$LongCache" "cache" "[Ljava/lang/Long;").eval args s none [] s = some (.ref t) ∧ va_T (.object "java/lang/Long") t 256 (fun j => .ref (ad j)) (NA s.heap.size) s s.heap := by
  have hlen : (Term.length (.static "java/lang/Long$LongCache" "cache" "[Ljava/lang/Long;")).eval args s none [] s = some (.int (Int32.ofNat 256)) := va_eqt (z := Int32.ofNat 256) (fl_i hs 236 (by decide +kernel))
  obtain ⟨ad, h1, h2⟩ := st_box (E := "java/lang/Long") (d := "J") (u := .op1 .i2l (.sub (.index 0) (.int 128))) (v := fun j => .long (Int64.ofNat j - 128)) (st := (.static "java/lang/Long$LongCache" "cache" "[Ljava/lang/Long;")) rfl hlen (fl_i hs 237 (by decide +kernel)) (fun k hk => by rw [← st_i2 k hk]; rfl)
  obtain ⟨t, e, h3⟩ := va_Tof (tm := (.static "java/lang/Long$LongCache" "cache" "[Ljava/lang/Long;")) (ty := .object "java/lang/Long") (N := 256) (f := fun j => .ref (ad j)) (A := NA s.heap.size) (by decide) (fl_i hs 235 (by decide +kernel)) hlen h2 st_na
  exact ⟨ad, t, h1, e, h3⟩
theorem st_ic (hs : ∀ c ∈ flatC (Jvm.Cond.and given_1 narrow_1), c.before args s = true) : ∃ (ad : Nat → Nat) (t : Nat), bxC s.heap.size "java/lang/Integer" "I" (fun j => .int (Int32.ofNat j - 128)) ad s s.heap ∧ (Term.static "java/lang/Integer$IntegerCache" "cache" "[Ljava/lang/Integer;").eval args s none [] s = some (.ref t) ∧ va_T (.object "java/lang/Integer") t 256 (fun j => .ref (ad j)) (NA s.heap.size) s s.heap := by
  have hlen : (Term.length (.static "java/lang/Integer$IntegerCache" "cache" "[Ljava/lang/Integer;")).eval args s none [] s = some (.int (Int32.ofNat 256)) := va_eqt (z := Int32.ofNat 256) (fl_i hs 241 (by decide +kernel))
  obtain ⟨ad, h1, h2⟩ := st_box (E := "java/lang/Integer") (d := "I") (u := .sub (.index 0) (.int 128)) (v := fun j => .int (Int32.ofNat j - 128)) (st := (.static "java/lang/Integer$IntegerCache" "cache" "[Ljava/lang/Integer;")) rfl hlen (fl_i hs 242 (by decide +kernel)) (fun k hk => rfl)
  obtain ⟨t, e, h3⟩ := va_Tof (tm := (.static "java/lang/Integer$IntegerCache" "cache" "[Ljava/lang/Integer;")) (ty := .object "java/lang/Integer") (N := 256) (f := fun j => .ref (ad j)) (A := NA s.heap.size) (by decide) (fl_i hs 240 (by decide +kernel)) hlen h2 st_na
  exact ⟨ad, t, h1, e, h3⟩
theorem st_no {cell : Cell} (h : ∀ k, cell.vm ≠ .statics k) : cell.vm.isStatics = false := by
  cases hv : cell.vm with
  | statics k => exact absurd hv (h k)
  | _ => rfl
end ST2
/-! ===== what every method is given, at the law's start ===== -/
set_option maxHeartbeats 4000000 in
theorem ctx_start {s : State} {args : Array Value} (hts : ∀ w ∈ lw_tbl, w.before args s = true) (hgv : (Jvm.Cond.and given_1 narrow_1).before args s = true) : ∃ (D : va_G) (tk : Nat → ClassId) (sa : Nat → Nat), Ctx D tk s.heap.size sa s ∧ NCx s := by
  have hs : ∀ c ∈ flatC (Jvm.Cond.and given_1 narrow_1), c.before args s = true := flat_of_before _ hgv
  have hA := st_na (s := s)
  obtain ⟨D, hD⟩ := st_cls hts
  obtain ⟨st, hst⟩ := st_strs hts hs
  obtain ⟨k0, a0, b0⟩ := st_pr (t := .long) (hts _ (tb_w 75 (by decide +kernel)))
  obtain ⟨k1, a1, b1⟩ := st_pr (t := .byte) (hts _ (tb_w 181 (by decide +kernel)))
  obtain ⟨k2, a2, b2⟩ := st_ob (C := "Bestratios$Fraction") (hts _ (tb_w 44 (by decide +kernel)))
  obtain ⟨k3, a3, b3⟩ := st_ar (t := .long) (hts _ (tb_w 1169 (by decide +kernel)))
  obtain ⟨k4, a4, b4⟩ := st_ob (C := "java/lang/Object") (hts _ (tb_w 1479 (by decide +kernel)))
  obtain ⟨k5, a5, b5⟩ := st_pr (t := .int) (hts _ (tb_w 1795 (by decide +kernel)))
  obtain ⟨p0, e0, t0⟩ := st_pow hs
  obtain ⟨p1, e1, t1⟩ := st_al hs
  obtain ⟨p2, e2, t2⟩ := st_ones hs
  obtain ⟨p3, e3, t3⟩ := st_tens hs
  obtain ⟨lc, p4, h4, e4, t4⟩ := st_lc hs
  obtain ⟨ic, p5, h5, e5, t5⟩ := st_ic hs
  obtain ⟨p6, m6⟩ := va_Mi.of (args := args) (s := s) (C := "[Ljava/lang/Object;") (fl_i hs 306 (by decide +kernel))
  have hby : ∀ j : Nat, ∃ c : ClassId, j < 16 → ∃ cell : Cell, s.heap[(st j).2]? = some cell ∧ cell.vm.isStatics = false ∧ cell.cls = c ∧ s.isArrayOf cell .byte ∧ ¬ NA s.heap.size (st j).2 := by
    intro j
    by_cases hj : j < 16
    · obtain ⟨q, hq⟩ : ∃ q, strK[j]? = some q := ⟨strK[j]'hj, List.getElem?_eq_getElem hj⟩
      obtain ⟨-, -, -, -, cell, h1, h2, h3, h4, h5, h6, h7⟩ := hst j q hq
      exact ⟨cell.cls, fun _ => ⟨cell, h1, st_no h2.1, rfl, h2, h7⟩⟩
    · exact ⟨0, fun h => absurd h hj⟩
  obtain ⟨cb, hcb⟩ := Classical.axiomOfChoice hby
  obtain ⟨sa, s1, s2, s3⟩ := st_sa (fun n => ([p0, p1, p2, p3, p4, p5, p6, 0, 0, 0] : List Nat).getD n 0) st lc ic
  obtain ⟨tk, q1, q2⟩ : ∃ tk : Nat → ClassId, (∀ n, n < 6 → tk n = ([k0, k1, k2, k3, k4, k5] : List ClassId).getD n 0) ∧ ∀ j, j < 16 → tk (40 + j) = cb j :=
    ⟨fun n => if n < 6 then ([k0, k1, k2, k3, k4, k5] : List ClassId).getD n 0 else cb (n - 40), fun n hn => if_pos hn, fun j _ => by
      dsimp only
      rw [if_neg (by omega), Nat.add_sub_cancel_left]⟩
  have w0 : sa 0 = p0 := s1 0 (by decide)
  have w1 : sa 1 = p1 := s1 1 (by decide)
  have w2 : sa 2 = p2 := s1 2 (by decide)
  have w3 : sa 3 = p3 := s1 3 (by decide)
  have w4 : sa 4 = p4 := s1 4 (by decide)
  have w5 : sa 5 = p5 := s1 5 (by decide)
  have w6 : sa 6 = p6 := s1 6 (by decide)
  have v0 : tk 0 = k0 := q1 0 (by decide)
  have v1 : tk 1 = k1 := q1 1 (by decide)
  have v2 : tk 2 = k2 := q1 2 (by decide)
  have v3 : tk 3 = k3 := q1 3 (by decide)
  have v4 : tk 4 = k4 := q1 4 (by decide)
  have v5 : tk 5 = k5 := q1 5 (by decide)
  have hK : va_K D vwCl (tyG tk) s := ⟨hD, fun k q hk => by
    match k, hk with
    | 0, hk =>
      cases hk
      show ArrOfT s (tk 0) (.long) ∧ va_RA s (tk 0) (.long)
      rw [v0]
      exact ⟨a0, b0⟩
    | 1, hk =>
      cases hk
      show ArrOfT s (tk 1) (.byte) ∧ va_RA s (tk 1) (.byte)
      rw [v1]
      exact ⟨a1, b1⟩
    | 2, hk =>
      cases hk
      show ArrOfT s (tk 2) (.object "Bestratios$Fraction") ∧ va_RA s (tk 2) (.object "Bestratios$Fraction")
      rw [v2]
      exact ⟨a2, b2⟩
    | 3, hk =>
      cases hk
      show ArrOfT s (tk 3) (.array .long) ∧ va_RA s (tk 3) (.array .long)
      rw [v3]
      exact ⟨a3, b3⟩
    | 4, hk =>
      cases hk
      show ArrOfT s (tk 4) (.object "java/lang/Object") ∧ va_RA s (tk 4) (.object "java/lang/Object")
      rw [v4]
      exact ⟨a4, b4⟩
    | 5, hk =>
      cases hk
      show ArrOfT s (tk 5) (.int) ∧ va_RA s (tk 5) (.int)
      rw [v5]
      exact ⟨a5, b5⟩
    | k + 6, hk => simp [tyG] at hk⟩
  have hSG : SG s.heap.size sa s s.heap := ⟨⟨(by rw [w0]; exact va_Zref (hts _ (tb_w 536 (by decide +kernel))) (hts _ (tb_w 1 (by decide +kernel))) e0 hA), by rw [w0]; exact t0⟩, vx_Zqof (hts _ (tb_w 378 (by decide +kernel))) (hts _ (tb_w 11 (by decide +kernel))) (fl_i hs 215 (by decide +kernel)) hA, vx_Zqof (hts _ (tb_w 380 (by decide +kernel))) (hts _ (tb_w 11 (by decide +kernel))) (fl_i hs 216 (by decide +kernel)) hA⟩
  have hNw : ∀ w ∈ tables_1, isNest w = true → va_Nw w s := fun w hw hn => va_Nw.of (by cases w <;> first | rfl | (simp [isNest] at hn)) (hts w (List.mem_append_right _ hw))
  have hSK : SK s.heap.size sa s s.heap := fun j q hj => by
    have hj16 : j < 16 := (List.getElem?_eq_some_iff.mp hj).1
    unfold SK1
    rw [(s2 j hj16).1, (s2 j hj16).2]
    exact hst j q hj
  have hXT : XT tk s.heap.size sa s s.heap := ⟨by rw [w6]; exact m6, va_Zqof (hts _ (tb_w 252 (by decide +kernel))) (hts _ (tb_w 26 (by decide +kernel))) (fl_i hs 5 (by decide +kernel)) hA, fun j hj => by
    rw [(s2 j hj).2, q2 j hj]
    exact hcb j hj, va_Fw.of (hts _ (tb_w 1512 (by decide +kernel))) (hts _ (tb_w 1511 (by decide +kernel))) (hts _ (tb_w 1517 (by decide +kernel))) (hts _ (tb_w 1515 (by decide +kernel))) (hts _ (tb_w 1513 (by decide +kernel))), va_Fw.of (hts _ (tb_w 1522 (by decide +kernel))) (hts _ (tb_w 1521 (by decide +kernel))) (hts _ (tb_w 1526 (by decide +kernel))) (hts _ (tb_w 1524 (by decide +kernel))) (hts _ (tb_w 1513 (by decide +kernel)))⟩
  have hXS : XS tk s.heap.size sa s s.heap := ⟨va_Zof (hts _ (tb_w 159 (by decide +kernel))) (hts _ (tb_w 20 (by decide +kernel))) (va_eqi (fl_i hs 4 (by decide +kernel))) hA, ⟨(by rw [w1]; exact va_Zref (hts _ (tb_w 1183 (by decide +kernel))) (hts _ (tb_w 8 (by decide +kernel))) e1 hA), by rw [w1]; exact t1⟩, ⟨(by rw [w2]; exact va_Zref (hts _ (tb_w 295 (by decide +kernel))) (hts _ (tb_w 22 (by decide +kernel))) e2 hA), by rw [w2]; exact t2⟩, ⟨(by rw [w3]; exact va_Zref (hts _ (tb_w 297 (by decide +kernel))) (hts _ (tb_w 22 (by decide +kernel))) e3 hA), by rw [w3]; exact t3⟩, ⟨(by rw [w4]; exact va_Zref (hts _ (tb_w 1420 (by decide +kernel))) (hts _ (tb_w 28 (by decide +kernel))) e4 hA), by rw [w4]; exact st_T t4 (fun j hj => by (try dsimp only); rw [(s3 j hj).1])⟩, ⟨fun k hk => by (try dsimp only); rw [(s3 k hk).1]; exact h4.1 k hk, fun k hk => by (try dsimp only); rw [(s3 k hk).1]; exact h4.2 k hk⟩, ⟨(by rw [w5]; exact va_Zref (hts _ (tb_w 1582 (by decide +kernel))) (hts _ (tb_w 32 (by decide +kernel))) e5 hA), by rw [w5]; exact st_T t5 (fun j hj => by (try dsimp only); rw [(s3 j hj).2])⟩, ⟨fun k hk => by (try dsimp only); rw [(s3 k hk).2]; exact h5.1 k hk, fun k hk => by (try dsimp only); rw [(s3 k hk).2]; exact h5.2 k hk⟩, va_Zof (hts _ (tb_w 1580 (by decide +kernel))) (hts _ (tb_w 32 (by decide +kernel))) (va_eqi (fl_i hs 238 (by decide +kernel))) hA, hXT⟩
  exact ⟨D, tk, sa, ⟨hK, Nat.le_refl _, hSG, hNw, hSK, fun t ht => ao_vm rfl (hts _ (List.mem_append_right _ ht)), hXS⟩, va_Nc.of (args := args) (fl_i hs 250 (by decide +kernel)), va_Nc.of (args := args) (fl_i hs 269 (by decide +kernel))⟩
/-! THE CLAIM OUT OF ONE WALK OF THE LAW'S BODY. Your part is whole_start (and what it stands on); all else here is the same for every law, but numbers. -/
def R_law : String := "BestratiosLaw"
def lw_P (b : Addr) (xs : List Int32) (args : Array Value) (s : State) : Prop := args = #[.ref b] ∧ s.IntsAt b xs ∧ xs.length ≤ 320 ∧ (Jvm.Cond.and given_1 narrow_1).before args s = true
def lw_Q (_ : Array Value) (s : State) (o : Outcome) (t : State) : Prop := o = .returned (some (.int 1)) ∧ Framed s o t [] 844753 6567222
def lw_Z (below : List Frame) (a : Array Value) (s : State) : State → Prop := fun t => ∃ o, t.status = .running ∧ Ended t below o ∧ lw_Q a s o t
/-- the law's own end, with 1 on the stack, nothing written that was there before, its room as the claim has it -/
theorem lw_ret {p : Program} {l : Launch} {e : Env} {s : State} {m : MethodId} {below : List Frame} {meth : Method} {c : Code} {b : Nat} (hx : p.tables.exec = Jvm.exec) (hb : c.code = code) (hr : meth.sig.returnType = ret) (hlocks : meth.locks = false) {pc : Nat} {H : Heap} {ls : Array Slot} (hdg : decode code pc = .ok (.ireturn, 1)) : W p l e room_1 s m #[Value.ref b] below meth c H [] 844753 6567222 (lw_Z below #[Value.ref b] s) (F0 m pc ls [.int 1]) := by
  intro T hT X
  obtain ⟨fs, hret, hrun, hended, hW, hframe⟩ := X.leave (v := some (.int 1)) (hlocks := hlocks) (fun h => by rw [hr] at h; cases h)
  have hmeth' : T.vm.method? m = some meth := X.method'
  refine ⟨T.setFrames fs, ?_, .returned (some (.int 1)), hrun, hended, rfl, ⟨_, rfl⟩, hW, hframe⟩
  jvm_step X.here [X.here.top, hx, hb, hdg, hmeth', hr, ret, narrow_b1]
  (try refine ⟨rfl, ?_⟩); (try refine ⟨rfl, ?_⟩)
  first | (intro acts; rw [hret _ acts rfl rfl rfl]) | rw [hret _ _ rfl rfl rfl]
  exact Steps.refl _
/-- what holds at the law's entry: the machine, the code, the tables' words (any of lw_tbl by 'hts w (by decide +kernel)'), the script of L ints xs at the cell b, what the Statement gives of the start (any of its parts by flat_of_before) -/
def lw_At (p : Program) (s : State) (m : MethodId) (meth : Method) (c : Code) (b L : Nat) (xs : Nat → Int32) : Prop :=
  p.tables.exec = Jvm.exec ∧ c.code = code ∧ meth.sig.returnType = ret ∧ c.maxLocals = 7 ∧ s.vm.findClass R_law = some m.cls ∧ (∀ w ∈ lw_tbl, w.before #[Value.ref b] s = true) ∧ va_X b L xs s s.heap ∧ b < s.heap.size ∧ meth.locks = false ∧ (Jvm.Cond.and given_1 narrow_1).before #[Value.ref b] s = true
/-! ===== the law's switch ===== -/
set_option maxHeartbeats 4000000 in
set_option maxRecDepth 100000 in
theorem law_sw {x : Int32} {p : Program} {l : Launch} {e : Env} {s : State} {m : MethodId} {below : List Frame} {meth : Method} {c : Code} {Q : State → Prop} {D : va_G} {tk : Nat → ClassId} {sa ad : Nat → Nat} {b L uo mo M0 : Nat} {xs : Nat → Int32} {w0 : Cond} (hlst : l.stackTraces = false) (E : CallFix p m c cL_law 7 s #[.ref b] (w0 :: GW) "BestratiosLaw") (hr : meth.sig.returnType = some .boolean) (hC : Ctx D tk s.heap.size sa s) (hN : NCx s) (hX : va_X b L xs s s.heap) (hbl : b < s.heap.size) (hAD : ADok s.heap.size ad) (huo : s.heap.size ≤ uo) (hM0 : s.heap.size ≤ M0) (had : ∀ k, k < 22 → ad k < M0) (hL : L ≤ 320) {i : Nat} (hi : i + 5 ≤ L) {cells slots : Nat} {H : Heap} {locs : List Loc} {ls : Array Slot} (hc9 : cells + 7000 ≤ 844753) (hs9 : slots + 101000 ≤ 6567222) (hz0 : M0 ≤ H.size) (hS : va_S (NA s.heap.size) s.heap H locs) (hB : LR D tk sa ad uo mo (PL M0 uo) H) (hl : lv_has ls 7 [(0, .ref b), (1, .ref (ad 15)), (2, .ref mo), (3, .ref uo), (4, .int (nI i))])
    (K : ∀ (H1 : Heap) (locs1 : List Loc) (ls1 : Array Slot), M0 ≤ H1.size → va_S (NA s.heap.size) s.heap H1 locs1 → LR D tk sa ad uo mo (PL M0 uo) H1 → lv_has ls1 7 [(0, .ref b), (1, .ref (ad 15)), (2, .ref mo), (3, .ref uo), (4, .int (nI i))] → W p l e room_1 s m #[.ref b] below meth c H1 locs1 (cells + 7000) (slots + 101000) Q (F0 m 1813 ls1 [])) : W p l e room_1 s m #[.ref b] below meth c H locs cells slots Q (F0 m 43 ls [.int x]) := by
  obtain ⟨hx, hb, -⟩ := id E
  by_cases hx0 : x.toInt < 0 ∨ 42 < x.toInt
  · refine lv_tableOut (pc := 43) (tgt := 1813) hx hb dL_law_43 hx0 (by decide) ?_
    exact W.widen (by omega) (by omega) (K _ _ _ hz0 hS hB hl)
  · obtain ⟨k, hk, ek⟩ : ∃ k : Nat, k < 43 ∧ x.toInt = (k : Int) := ⟨x.toInt.toNat, by omega, by omega⟩
    match k, hk, ek with
    | 0, _, ek => exact lv_tableIn (pc := 43) (off := 185) (tgt := 228) hx hb dL_law_43 (by rw [ek]; decide) (by rw [ek]; decide) (by rw [ek]; rfl) (by decide) (lc_0 hlst E hr hC hN hX hbl hAD huo hM0 had hL hi hc9 hs9 hz0 hS hB hl K)
    | 1, _, ek => exact lv_tableIn (pc := 43) (off := 237) (tgt := 280) hx hb dL_law_43 (by rw [ek]; decide) (by rw [ek]; decide) (by rw [ek]; rfl) (by decide) (lc_1 hlst E hr hC hN hX hbl hAD huo hM0 had hL hi hc9 hs9 hz0 hS hB hl K)
    | 2, _, ek => exact lv_tableIn (pc := 43) (off := 289) (tgt := 332) hx hb dL_law_43 (by rw [ek]; decide) (by rw [ek]; decide) (by rw [ek]; rfl) (by decide) (lc_2 hlst E hr hC hN hX hbl hAD huo hM0 had hL hi hc9 hs9 hz0 hS hB hl K)
    | 3, _, ek => exact lv_tableIn (pc := 43) (off := 358) (tgt := 401) hx hb dL_law_43 (by rw [ek]; decide) (by rw [ek]; decide) (by rw [ek]; rfl) (by decide) (lc_3 hlst E hr hC hN hX hbl hAD huo hM0 had hL hi hc9 hs9 hz0 hS hB hl K)
    | 4, _, ek => exact lv_tableIn (pc := 43) (off := 398) (tgt := 441) hx hb dL_law_43 (by rw [ek]; decide) (by rw [ek]; decide) (by rw [ek]; rfl) (by decide) (lc_4 hlst E hr hC hN hX hbl hAD huo hM0 had hL hi hc9 hs9 hz0 hS hB hl K)
    | 5, _, ek => exact lv_tableIn (pc := 43) (off := 450) (tgt := 493) hx hb dL_law_43 (by rw [ek]; decide) (by rw [ek]; decide) (by rw [ek]; rfl) (by decide) (lc_5 hlst E hr hC hN hX hbl hAD huo hM0 had hL hi hc9 hs9 hz0 hS hB hl K)
    | 6, _, ek => exact lv_tableIn (pc := 43) (off := 502) (tgt := 545) hx hb dL_law_43 (by rw [ek]; decide) (by rw [ek]; decide) (by rw [ek]; rfl) (by decide) (lc_6 hlst E hr hC hN hX hbl hAD huo hM0 had hL hi hc9 hs9 hz0 hS hB hl K)
    | 7, _, ek => exact lv_tableIn (pc := 43) (off := 554) (tgt := 597) hx hb dL_law_43 (by rw [ek]; decide) (by rw [ek]; decide) (by rw [ek]; rfl) (by decide) (lc_7 hlst E hr hC hN hX hbl hAD huo hM0 had hL hi hc9 hs9 hz0 hS hB hl K)
    | 8, _, ek => exact lv_tableIn (pc := 43) (off := 606) (tgt := 649) hx hb dL_law_43 (by rw [ek]; decide) (by rw [ek]; decide) (by rw [ek]; rfl) (by decide) (lc_8 hlst E hr hC hN hX hbl hAD huo hM0 had hL hi hc9 hs9 hz0 hS hB hl K)
    | 9, _, ek => exact lv_tableIn (pc := 43) (off := 634) (tgt := 677) hx hb dL_law_43 (by rw [ek]; decide) (by rw [ek]; decide) (by rw [ek]; rfl) (by decide) (lc_9 hlst E hr hC hN hX hbl hAD huo hM0 had hL hi hc9 hs9 hz0 hS hB hl K)
    | 10, _, ek => exact lv_tableIn (pc := 43) (off := 662) (tgt := 705) hx hb dL_law_43 (by rw [ek]; decide) (by rw [ek]; decide) (by rw [ek]; rfl) (by decide) (lc_10 hlst E hr hC hN hX hbl hAD huo hM0 had hL hi hc9 hs9 hz0 hS hB hl K)
    | 11, _, ek => exact lv_tableIn (pc := 43) (off := 702) (tgt := 745) hx hb dL_law_43 (by rw [ek]; decide) (by rw [ek]; decide) (by rw [ek]; rfl) (by decide) (lc_11 hlst E hr hC hN hX hbl hAD huo hM0 had hL hi hc9 hs9 hz0 hS hB hl K)
    | 12, _, ek => exact lv_tableIn (pc := 43) (off := 754) (tgt := 797) hx hb dL_law_43 (by rw [ek]; decide) (by rw [ek]; decide) (by rw [ek]; rfl) (by decide) (lc_12 hlst E hr hC hN hX hbl hAD huo hM0 had hL hi hc9 hs9 hz0 hS hB hl K)
    | 13, _, ek => exact lv_tableIn (pc := 43) (off := 782) (tgt := 825) hx hb dL_law_43 (by rw [ek]; decide) (by rw [ek]; decide) (by rw [ek]; rfl) (by decide) (lc_13 hlst E hr hC hN hX hbl hAD huo hM0 had hL hi hc9 hs9 hz0 hS hB hl K)
    | 14, _, ek => exact lv_tableIn (pc := 43) (off := 822) (tgt := 865) hx hb dL_law_43 (by rw [ek]; decide) (by rw [ek]; decide) (by rw [ek]; rfl) (by decide) (lc_14 hlst E hr hC hN hX hbl hAD huo hM0 had hL hi hc9 hs9 hz0 hS hB hl K)
    | 15, _, ek => exact lv_tableIn (pc := 43) (off := 862) (tgt := 905) hx hb dL_law_43 (by rw [ek]; decide) (by rw [ek]; decide) (by rw [ek]; rfl) (by decide) (lc_15 hlst E hr hC hN hX hbl hAD huo hM0 had hL hi hc9 hs9 hz0 hS hB hl K)
    | 16, _, ek => exact lv_tableIn (pc := 43) (off := 902) (tgt := 945) hx hb dL_law_43 (by rw [ek]; decide) (by rw [ek]; decide) (by rw [ek]; rfl) (by decide) (lc_16 hlst E hr hC hN hX hbl hAD huo hM0 had hL hi hc9 hs9 hz0 hS hB hl K)
    | 17, _, ek => exact lv_tableIn (pc := 43) (off := 930) (tgt := 973) hx hb dL_law_43 (by rw [ek]; decide) (by rw [ek]; decide) (by rw [ek]; rfl) (by decide) (lc_17 hlst E hr hC hN hX hbl hAD huo hM0 had hL hi hc9 hs9 hz0 hS hB hl K)
    | 18, _, ek => exact lv_tableIn (pc := 43) (off := 970) (tgt := 1013) hx hb dL_law_43 (by rw [ek]; decide) (by rw [ek]; decide) (by rw [ek]; rfl) (by decide) (lc_18 hlst E hr hC hN hX hbl hAD huo hM0 had hL hi hc9 hs9 hz0 hS hB hl K)
    | 19, _, ek => exact lv_tableIn (pc := 43) (off := 1022) (tgt := 1065) hx hb dL_law_43 (by rw [ek]; decide) (by rw [ek]; decide) (by rw [ek]; rfl) (by decide) (lc_19 hlst E hr hC hN hX hbl hAD huo hM0 had hL hi hc9 hs9 hz0 hS hB hl K)
    | 20, _, ek => exact lv_tableIn (pc := 43) (off := 1050) (tgt := 1093) hx hb dL_law_43 (by rw [ek]; decide) (by rw [ek]; decide) (by rw [ek]; rfl) (by decide) (lc_20 hlst E hr hC hN hX hbl hAD huo hM0 had hL hi hc9 hs9 hz0 hS hB hl K)
    | 21, _, ek => exact lv_tableIn (pc := 43) (off := 1078) (tgt := 1121) hx hb dL_law_43 (by rw [ek]; decide) (by rw [ek]; decide) (by rw [ek]; rfl) (by decide) (lc_21 hlst E hr hC hN hX hbl hAD huo hM0 had hL hi hc9 hs9 hz0 hS hB hl K)
    | 22, _, ek => exact lv_tableIn (pc := 43) (off := 1091) (tgt := 1134) hx hb dL_law_43 (by rw [ek]; decide) (by rw [ek]; decide) (by rw [ek]; rfl) (by decide) (lc_22 hlst E hr hC hN hX hbl hAD huo hM0 had hL hi hc9 hs9 hz0 hS hB hl K)
    | 23, _, ek => exact lv_tableIn (pc := 43) (off := 1119) (tgt := 1162) hx hb dL_law_43 (by rw [ek]; decide) (by rw [ek]; decide) (by rw [ek]; rfl) (by decide) (lc_23 hlst E hr hC hN hX hbl hAD huo hM0 had hL hi hc9 hs9 hz0 hS hB hl K)
    | 24, _, ek => exact lv_tableIn (pc := 43) (off := 1171) (tgt := 1214) hx hb dL_law_43 (by rw [ek]; decide) (by rw [ek]; decide) (by rw [ek]; rfl) (by decide) (lc_24 hlst E hr hC hN hX hbl hAD huo hM0 had hL hi hc9 hs9 hz0 hS hB hl K)
    | 25, _, ek => exact lv_tableIn (pc := 43) (off := 1223) (tgt := 1266) hx hb dL_law_43 (by rw [ek]; decide) (by rw [ek]; decide) (by rw [ek]; rfl) (by decide) (lc_25 hlst E hr hC hN hX hbl hAD huo hM0 had hL hi hc9 hs9 hz0 hS hB hl K)
    | 26, _, ek => exact lv_tableIn (pc := 43) (off := 1275) (tgt := 1318) hx hb dL_law_43 (by rw [ek]; decide) (by rw [ek]; decide) (by rw [ek]; rfl) (by decide) (lc_26 hlst E hr hC hN hX hbl hAD huo hM0 had hL hi hc9 hs9 hz0 hS hB hl K)
    | 27, _, ek => exact lv_tableIn (pc := 43) (off := 1303) (tgt := 1346) hx hb dL_law_43 (by rw [ek]; decide) (by rw [ek]; decide) (by rw [ek]; rfl) (by decide) (lc_27 hlst E hr hC hN hX hbl hAD huo hM0 had hL hi hc9 hs9 hz0 hS hB hl K)
    | 28, _, ek => exact lv_tableIn (pc := 43) (off := 1359) (tgt := 1402) hx hb dL_law_43 (by rw [ek]; decide) (by rw [ek]; decide) (by rw [ek]; rfl) (by decide) (lc_28 hlst E hr hC hN hX hbl hAD huo hM0 had hL hi hc9 hs9 hz0 hS hB hl K)
    | 29, _, ek => exact lv_tableIn (pc := 43) (off := 1387) (tgt := 1430) hx hb dL_law_43 (by rw [ek]; decide) (by rw [ek]; decide) (by rw [ek]; rfl) (by decide) (lc_29 hlst E hr hC hN hX hbl hAD huo hM0 had hL hi hc9 hs9 hz0 hS hB hl K)
    | 30, _, ek => exact lv_tableIn (pc := 43) (off := 1415) (tgt := 1458) hx hb dL_law_43 (by rw [ek]; decide) (by rw [ek]; decide) (by rw [ek]; rfl) (by decide) (lc_30 hlst E hr hC hN hX hbl hAD huo hM0 had hL hi hc9 hs9 hz0 hS hB hl K)
    | 31, _, ek => exact lv_tableIn (pc := 43) (off := 1455) (tgt := 1498) hx hb dL_law_43 (by rw [ek]; decide) (by rw [ek]; decide) (by rw [ek]; rfl) (by decide) (lc_31 hlst E hr hC hN hX hbl hAD huo hM0 had hL hi hc9 hs9 hz0 hS hB hl K)
    | 32, _, ek => exact lv_tableIn (pc := 43) (off := 1483) (tgt := 1526) hx hb dL_law_43 (by rw [ek]; decide) (by rw [ek]; decide) (by rw [ek]; rfl) (by decide) (lc_32 hlst E hr hC hN hX hbl hAD huo hM0 had hL hi hc9 hs9 hz0 hS hB hl K)
    | 33, _, ek => exact lv_tableIn (pc := 43) (off := 1535) (tgt := 1578) hx hb dL_law_43 (by rw [ek]; decide) (by rw [ek]; decide) (by rw [ek]; rfl) (by decide) (lc_33 hlst E hr hC hN hX hbl hAD huo hM0 had hL hi hc9 hs9 hz0 hS hB hl K)
    | 34, _, ek => exact lv_tableIn (pc := 43) (off := 1599) (tgt := 1642) hx hb dL_law_43 (by rw [ek]; decide) (by rw [ek]; decide) (by rw [ek]; rfl) (by decide) (lc_34 hlst E hr hC hN hX hbl hAD huo hM0 had hL hi hc9 hs9 hz0 hS hB hl K)
    | 35, _, ek => exact lv_tableIn (pc := 43) (off := 1651) (tgt := 1694) hx hb dL_law_43 (by rw [ek]; decide) (by rw [ek]; decide) (by rw [ek]; rfl) (by decide) (lc_35 hlst E hr hC hN hX hbl hAD huo hM0 had hL hi hc9 hs9 hz0 hS hB hl K)
    | 36, _, ek => exact lv_tableIn (pc := 43) (off := 1664) (tgt := 1707) hx hb dL_law_43 (by rw [ek]; decide) (by rw [ek]; decide) (by rw [ek]; rfl) (by decide) (lc_36 hlst E hr hC hN hX hbl hAD huo hM0 had hL hi hc9 hs9 hz0 hS hB hl K)
    | 37, _, ek => exact lv_tableIn (pc := 43) (off := 1677) (tgt := 1720) hx hb dL_law_43 (by rw [ek]; decide) (by rw [ek]; decide) (by rw [ek]; rfl) (by decide) (lc_37 hlst E hr hC hN hX hbl hAD huo hM0 had hL hi hc9 hs9 hz0 hS hB hl K)
    | 38, _, ek => exact lv_tableIn (pc := 43) (off := 1690) (tgt := 1733) hx hb dL_law_43 (by rw [ek]; decide) (by rw [ek]; decide) (by rw [ek]; rfl) (by decide) (lc_38 hlst E hr hC hN hX hbl hAD huo hM0 had hL hi hc9 hs9 hz0 hS hB hl K)
    | 39, _, ek => exact lv_tableIn (pc := 43) (off := 1703) (tgt := 1746) hx hb dL_law_43 (by rw [ek]; decide) (by rw [ek]; decide) (by rw [ek]; rfl) (by decide) (lc_39 hlst E hr hC hN hX hbl hAD huo hM0 had hL hi hc9 hs9 hz0 hS hB hl K)
    | 40, _, ek => exact lv_tableIn (pc := 43) (off := 1716) (tgt := 1759) hx hb dL_law_43 (by rw [ek]; decide) (by rw [ek]; decide) (by rw [ek]; rfl) (by decide) (lc_40 hlst E hr hC hN hX hbl hAD huo hM0 had hL hi hc9 hs9 hz0 hS hB hl K)
    | 41, _, ek => exact lv_tableIn (pc := 43) (off := 1744) (tgt := 1787) hx hb dL_law_43 (by rw [ek]; decide) (by rw [ek]; decide) (by rw [ek]; rfl) (by decide) (lc_41 hlst E hr hC hN hX hbl hAD huo hM0 had hL hi hc9 hs9 hz0 hS hB hl K)
    | 42, _, ek => exact lv_tableIn (pc := 43) (off := 1757) (tgt := 1800) hx hb dL_law_43 (by rw [ek]; decide) (by rw [ek]; decide) (by rw [ek]; rfl) (by decide) (lc_42 hlst E hr hC hN hX hbl hAD huo hM0 had hL hi hc9 hs9 hz0 hS hB hl K)
    | k + 43, hk, _ => exact absurd hk (by omega)
/-! ===== the law's loop ===== -/
theorem lw_cmp {i L : Nat} (hL : L ≤ 320) (hi : i ≤ 320) (h : ¬ Int32.ofNat L - 5 < nI i) : i + 5 ≤ L := by
  have h1 := Int32.le_iff_toInt_le.mp (Int32.not_lt.mp h)
  have e1 : (Int32.ofNat L).toInt = (L : Int) := nI_toInt (by omega)
  have e2 : (nI i).toInt = (i : Int) := nI_toInt (by omega)
  have e5 : (5 : Int32).toInt = 5 := by decide
  rw [Int32.toInt_sub, e1, e2, e5] at h1
  simp only [Int.bmod] at h1
  split at h1 <;> omega
set_option maxHeartbeats 4000000 in
theorem law_loop {p : Program} {l : Launch} {e : Env} {s : State} {m : MethodId} {below : List Frame} {meth : Method} {c : Code} {D : va_G} {tk : Nat → ClassId} {sa ad : Nat → Nat} {b L uo mo M0 : Nat} {xs : Nat → Int32} {w0 : Cond} (hlst : l.stackTraces = false) (E : CallFix p m c cL_law 7 s #[.ref b] (w0 :: GW) "BestratiosLaw") (hr : meth.sig.returnType = ret) (hlk : meth.locks = false) (hC : Ctx D tk s.heap.size sa s) (hN : NCx s) (hX : va_X b L xs s s.heap) (hbl : b < s.heap.size) (hAD : ADok s.heap.size ad) (huo : s.heap.size ≤ uo) (hM0 : s.heap.size ≤ M0) (had : ∀ k, k < 22 → ad k < M0) (hL : L ≤ 320) :
    ∀ (n i : Nat), 320 < n + i → i ≤ 320 → ∀ (H : Heap) (locs : List Loc) (ls : Array Slot), M0 ≤ H.size → va_S (NA s.heap.size) s.heap H locs → LR D tk sa ad uo mo (PL M0 uo) H → lv_has ls 7 [(0, .ref b), (1, .ref (ad 15)), (2, .ref mo), (3, .ref uo), (4, .int (nI i))] → W p l e room_1 s m #[Value.ref b] below meth c H locs (40 + 1400 * i) (300 + 20200 * i) (lw_Z below #[Value.ref b] s) (F0 m 27 ls []) := by
  obtain ⟨hx, hb, -⟩ := id E
  have hbA : ¬ NA s.heap.size b := Nat.not_le.mpr hbl
  intro n
  induction n with
  | zero => intro i hn hi; omega
  | succ n ih =>
    intro i hn hi H locs ls hz0 hS hB hl
    refine lv_iload (pc := 27) hx hb dL_law_27 (lv_at hl 4 rfl) ?_
    refine lv_aload_n (pc := 29) hx hb dL_law_29 rfl (lv_at hl 0 rfl) ?_
    refine va_slen (pc := 30) hx hb hX hbl hbA hS dL_law_30 ?_
    refine lv_iconst (pc := 31) (v := 5) hx hb dL_law_31 (by decide) ?_
    refine lv_isub (pc := 32) hx hb dL_law_32 ?_
    refine lv_icmp_gt (pc := 33) (tgt := 1819) hx hb dL_law_33 (by decide) (fun h => ?_) (fun h => ?_)
    · refine lv_iconst (pc := 1819) (v := 1) hx hb dL_law_1819 (by decide) ?_
      refine W.widen (k := 844753) (n := 6567222) (by omega) (by omega) ?_
      refine va_forget hS.2.2 ?_
      exact lw_ret hx hb hr hlk dL_law_1820
    · have hi5 := lw_cmp hL hi h
      refine lv_aload_n (pc := 36) hx hb dL_law_36 rfl (lv_at hl 0 rfl) ?_
      refine lv_iload (pc := 37) hx hb dL_law_37 (lv_at hl 4 rfl) ?_
      refine va_sld (pc := 39) hx hb hX hbl hbA hS (vp_in_nI (by omega) (by omega)) dL_law_39 ?_
      refine lv_bipush (pc := 40) (v := 63) hx hb dL_law_40 (by decide) ?_
      refine lv_iand (pc := 42) hx hb dL_law_42 ?_
      refine law_sw hlst E hr hC hN hX hbl hAD huo hM0 had hL hi5 (by omega) (by omega) hz0 hS hB hl (fun H1 locs1 ls1 hz1 hS1 hB1 hl1 => ?_)
      refine lv_iinc (pc := 1813) (v := nI (i + 5)) (lv' := [(4, .int (nI (i + 5))), (0, .ref b), (1, .ref (ad 15)), (2, .ref mo), (3, .ref uo)]) hx hb dL_law_1813 hl1 (k := 4) rfl (by rw [show Int32.ofInt 5 = nI 5 by decide]; exact nI_add i 5) (by decide) rfl (fun ls hl => ?_)
      refine lv_goto (pc := 1816) (tgt := 27) hx hb dL_law_1816 (by decide) ?_
      refine W.widen (k := 40 + 1400 * (i + 5)) (n := 300 + 20200 * (i + 5)) (by omega) (by omega) ?_
      exact ih (i + 5) (by omega) (by omega) _ _ _ hz1 hS1 hB1 (lv_sub hl [1, 2, 3, 4, 0] rfl)
theorem MI.mono {D : va_G} {tk : Nat → ClassId} {sa : Nat → Nat} {P P1 : Nat → Prop} {mo : Nat} {tt bb : Nat → Int64} {eT eB oT oB : Int64} {pk : Nat} {ca rf : Int32} {vs : Nat → Value} {kn : Int32} {n9 : Nat} {th : Int32} {H : Heap} (h : MI D tk sa P mo tt bb eT eB oT oB pk ca rf vs kn n9 th H) (hp : ∀ q, q < H.size → P q → P1 q) : MI D tk sa P1 mo tt bb eT eB oT oB pk ca rf vs kn n9 th H := by
  obtain ⟨ra, rl, ex, ro, rt, fo, fj, fk, fe, fr, fw, ⟨hPm, hPa, hPl, hPe, hPr, hPk⟩, hM⟩ := h
  have hw : RW D tk sa P1 rl n9 vs H ∧ rl < H.size := by
    rcases fw with ⟨h0, md, h1⟩ | ⟨md, b, cap, f, hb, h1, h2, h3⟩
    · exact ⟨Or.inl ⟨h0, md, h1⟩, h1.lt⟩
    · exact ⟨Or.inr ⟨md, b, cap, f, hp _ h2.lt hb, h1, h2, h3⟩, h1.lt⟩
  exact ⟨ra, rl, ex, ro, rt, fo, fj, fk, fe, fr, hw.1, ⟨hp _ fo.lt hPm, hp _ fj.lt hPa, hp _ hw.2 hPl, hp _ fe.lt hPe, hp _ fr.lt hPr, fun k hk => hp _ (fk k hk).lt (hPk k hk)⟩, hM⟩
