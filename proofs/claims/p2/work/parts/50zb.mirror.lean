/-! ===== the TALLY, the class's start, and what the law's calls are given ===== -/
theorem q_becN {g : CS} {i k : Nat} (h : k ≠ i) (t b : Int64) : tT (f_become g i t b) k = tT g k ∧ tB (f_become g i t b) k = tB g k := by
  unfold f_become
  by_cases c : b = 0
  · rw [if_pos c]
    exact ⟨rfl, rfl⟩
  · rw [if_neg c]
    exact ⟨va_up_ne (tT g) _ h, va_up_ne (tB g) _ h⟩
theorem lzs11 : lzs 11 := ⟨by decide, by decide, by decide⟩
theorem lzs12 : lzs 12 := ⟨by decide, by decide, by decide⟩
theorem lzs13 : lzs 13 := ⟨by decide, by decide, by decide⟩
theorem lzs14 : lzs 14 := ⟨by decide, by decide, by decide⟩
theorem q_nx2 {r : Int32} {t b u v : Int64} (er : r = f_next t b u v) (h : ¬ r = 0) : r = 1 := by
  unfold f_next at er
  split at er
  · exact er
  · split at er
    · exact er
    · exact absurd er h
section RV16
variable {g g1 : CS} {kn : Int32} {tt bb : Nat → Int64} {eT eB oT oB : Int64} {pk : Nat} {ca rf : Int32} {vs : Nat → Value} {n9 : Nat}
theorem q_sum7 {t b u v : Int64} (h : m_F t b) (k : u.toInt.natAbs ≤ 10000000000002) (hv : 1 ≤ v.toInt ∧ v.toInt ≤ 1000000000) (hsm : u.toInt.natAbs ≤ 1000000000 ∨ (b.toInt ≤ 10000 ∧ v.toInt ≤ 10000)) {y : Int64} (hy : y.toInt = u.toInt * b.toInt) (g : CS) (i : Nat) :
    tT (f_gather g i t b u v) i = m_loT (t * v + y) (b * v) ∧ tB (f_gather g i t b u v) i = m_loB (t * v + y) (b * v) ∧ L64 (m_loT (t * v + y) (b * v)) (m_loB (t * v + y) (b * v)) := by
  obtain ⟨x1, x2, x3, x4⟩ := q_gat (u := u) h k hv hsm hy
  have hl := (q_lo x3 (by omega) (m_ne0 x4)).1
  rw [x1, x2] at hl
  unfold f_gather
  obtain ⟨y1, y2⟩ := q_bec6 x3 (by omega) (m_ne0 x4) g i
  exact ⟨y1.trans x1, y2.trans x2, hl⟩
theorem q_one (x : Int64) : (1 : Int32).toInt64 * x = x := by
  rw [show (1 : Int32).toInt64 = 1 by decide, Int64.one_mul]
/-- EXACT's sum and ROUNDED's -/
theorem q_tk1 (h : RV g kn tt bb eT eB oT oB pk ca rf vs n9) (hD : m_D4 oB) {i : Nat} (hi : i < 6) {kp : Nat} (hk : kp ≤ 4) {md : Int32} (hmd : md = 0 ∨ md = 1 ∨ md = 2 ∨ md = 3 ∨ md = 4) :
    lz g (f_tk1 g i (nI kp) md) ∧ tT (f_tk1 g i (nI kp) md) 12 = (m_TLe eT eB (tt i) (bb i)).1 ∧ tB (f_tk1 g i (nI kp) md) 12 = (m_TLe eT eB (tt i) (bb i)).2 ∧ L64 (m_TLe eT eB (tt i) (bb i)).1 (m_TLe eT eB (tt i) (bb i)).2 ∧ tT (f_tk1 g i (nI kp) md) 13 = (m_TLo oT oB (tt i) (bb i) (nI kp) md).1 ∧ tB (f_tk1 g i (nI kp) md) 13 = (m_TLo oT oB (tt i) (bb i) (nI kp) md).2 ∧ L64 (m_TLo oT oB (tt i) (bb i) (nI kp) md).1 (m_TLo oT oB (tt i) (bb i) (nI kp) md).2 := by
  obtain ⟨a1, a2, a3, a4⟩ := h.1 i hi
  obtain ⟨b1, b2, b3, b4⟩ := h.2.1
  obtain ⟨c1, c2, c3, c4⟩ := h.2.2.1
  -- EXACT
  have hS : f_sum g 12 9 i = f_gather g 12 eT eB (tt i) (bb i) := by
    unfold f_sum
    rw [a1, a2, b1, b2]
  have hy : ((1 : Int32).toInt64 * (tt i * eB)).toInt = (tt i).toInt * eB.toInt := by
    rw [q_one]
    exact q_prod a3 b3
  obtain ⟨s1, s2, s3⟩ := q_sum7 (u := tt i) b3 (by have := a3.1; omega) ⟨a3.2.1, a3.2.2⟩ (Or.inl a3.1) hy g 12
  obtain ⟨S, hSd⟩ : ∃ S, S = f_sum g 12 9 i := ⟨_, rfl⟩
  have hz : lz g S := by rw [hSd]; exact lz_sum g lzs12 9 i
  rw [← hS, ← hSd] at s1 s2
  have e1 : tT S 10 = oT := ((hz.1 10 (Or.inr (Or.inr rfl))).1).trans c1
  have e2 : tB S 10 = oB := ((hz.1 10 (Or.inr (Or.inr rfl))).2).trans c2
  have e3 : tT S i = tt i := ((hz.1 i (Or.inl hi)).1).trans a1
  have e4 : tB S i = bb i := ((hz.1 i (Or.inl hi)).2).trans a2
  -- ROUNDED
  have hp := m_powD hk
  have hcutE := (q_cutI (T := tt i) (B := bb i) (k := kp) (by omega) hmd (by
    have := Nat.mul_le_mul a3.1 (show (m_pow (nI kp)).toInt.natAbs ≤ 10000 by omega)
    omega) a3.2.1 (by have := a3.2.2; omega)).2
  have hcb := m_cut4B a3 (pl := nI kp) rfl hk md
  have hG : f_tk1 g i (nI kp) md = f_gather S 13 oT oB (m_cut (tt i) (bb i) (nI kp) md) (m_pow (nI kp)) := by
    unfold f_tk1
    rw [← hSd, e1, e2, e3, e4, hcutE, q_pow (show kp ≤ 9 by omega)]
  obtain ⟨Q, hQ⟩ : ∃ Q, Q = m_cut (tt i) (bb i) (nI kp) md := ⟨_, rfl⟩
  obtain ⟨p, hpd⟩ : ∃ p, p = m_pow (nI kp) := ⟨_, rfl⟩
  rw [← hQ] at hcb
  rw [← hQ, ← hpd] at hG
  rw [← hpd] at hp
  have ho : oB.toInt.natAbs ≤ 10000 := Nat.le_of_dvd (by decide) hD
  obtain ⟨g1m, g2m⟩ := m_mulB (x := Q) (y := oB) (B := 10000000000002) (C := 10000) hcb ho (by decide)
  obtain ⟨r1, r2, r3⟩ := q_sum7 (t := oT) (b := oB) (u := Q) (v := p) c3 hcb ⟨hp.1, by omega⟩ (Or.inr ⟨by omega, by omega⟩) (y := Q * oB) g1m S 13
  obtain ⟨l1, l2⟩ := q_lo (t := Q) (b := p) (by omega) (by omega) (m_ne0 hp.1)
  obtain ⟨w1, w2, w3, w4, -⟩ := m_addP hcb hpd hk
  obtain ⟨u, hu⟩ : ∃ u, u = m_loT Q p := ⟨_, rfl⟩
  obtain ⟨v, hv⟩ : ∃ v, v = m_loB Q p := ⟨_, rfl⟩
  rw [← hu, ← hv] at l2
  rw [← hv] at w2 w3
  rw [← hu] at w4
  obtain ⟨x1, x1b⟩ := m_mulB (x := oT) (y := p) (B := 1000000000) (C := 10000) c3.1 (by omega) (by decide)
  obtain ⟨x2, x2b⟩ := m_mulB (x := oT) (y := v) (B := 1000000000) (C := 10000) c3.1 (by omega) (by decide)
  obtain ⟨x3, x3b⟩ := m_mulB (x := u) (y := oB) (B := 10000000000002) (C := 10000) w4 ho (by decide)
  obtain ⟨x4, x4b⟩ := m_mulB (x := oB) (y := p) (B := 10000) (C := 10000) ho (by omega) (by decide)
  obtain ⟨x5, x5b⟩ := m_mulB (x := oB) (y := v) (B := 10000) (C := 10000) ho (by omega) (by decide)
  obtain ⟨y1, y1b⟩ := m_addB (x := oT * p) (y := Q * oB) (B := 1000000000 * 10000) (C := 10000000000002 * 10000) x1b g2m (by decide)
  obtain ⟨y2, y2b⟩ := m_addB (x := oT * v) (y := u * oB) (B := 1000000000 * 10000) (C := 10000000000002 * 10000) x2b x3b (by decide)
  have p1 : 1 * 1 ≤ oB.toInt * p.toInt := Int.mul_le_mul c3.2.1 hp.1 (by decide) (Int.le_trans (by decide) c3.2.1)
  have p2 : 1 * 1 ≤ oB.toInt * v.toInt := Int.mul_le_mul c3.2.1 w2 (by decide) (Int.le_trans (by decide) c3.2.1)
  have hval : (oT * p + Q * oB).toInt * (oB * v).toInt = (oT * v + u * oB).toInt * (oB * p).toInt := by
    rw [y1, y2, x1, x2, x3, x4, x5, g1m]
    have k1 : oT.toInt * p.toInt * (oB.toInt * v.toInt) = oT.toInt * v.toInt * (oB.toInt * p.toInt) := by grind
    have k2 : Q.toInt * oB.toInt * (oB.toInt * v.toInt) = u.toInt * oB.toInt * (oB.toInt * p.toInt) := by
      have k3 : Q.toInt * oB.toInt * (oB.toInt * v.toInt) = (Q.toInt * v.toInt) * (oB.toInt * oB.toInt) := by grind
      have k4 : u.toInt * oB.toInt * (oB.toInt * p.toInt) = (u.toInt * p.toInt) * (oB.toInt * oB.toInt) := by grind
      rw [k3, k4, l2]
    rw [Int.add_mul, Int.add_mul, k1, k2]
  obtain ⟨z1, z2⟩ := q_loS (t := oT * p + Q * oB) (b := oB * p) (u := oT * v + u * oB) (v := oB * v) (by omega) (by omega) (m_ne0 (by rw [x4]; omega)) (by omega) (by omega) (m_ne0 (by rw [x5]; omega)) hval
  have hO : m_TLo oT oB (tt i) (bb i) (nI kp) md = (m_loT (oT * v + u * oB) (oB * v), m_loB (oT * v + u * oB) (oB * v)) := by
    unfold m_TLo m_TLc m_TLe
    dsimp only
    rw [← hQ, ← hpd, ← hu, ← hv, q_one]
  rw [hO, hG]
  dsimp only
  have hz13 : lz S (f_gather S 13 oT oB Q p) := lz_gat S lzs13 _ _ _ _
  have k12 : tT (f_gather S 13 oT oB Q p) 12 = tT S 12 ∧ tB (f_gather S 13 oT oB Q p) 12 = tB S 12 := q_becN (by decide) _ _
  refine ⟨hz.tr hz13, k12.1.trans s1, k12.2.trans s2, s3, r1.trans z1, r2.trans z2, ?_⟩
  rw [z1, z2] at r3
  exact r3
/-- it counts -/
theorem s_tk3 (h : RV g kn tt bb eT eB oT oB pk ca rf vs n9) {E1 E2 R1 R2 : Int64} (e1 : tT g 12 = E1) (e2 : tB g 12 = E2) (r1 : tT g 13 = R1) (r2 : tB g 13 = R2) (hE : m_F E1 E2) (hEL : L64 E1 E2) (hR : m_F R1 R2) (hRL : L64 R1 R2) {kp pk1 : Nat} (hm : f_max (nI pk) (nI kp) = nI pk1) (h4 : pk1 ≤ 4) :
    tI (f_tk3 g (nI kp)) 2 = ca + 1 ∧ RV (f_tk3 g (nI kp)) kn tt bb E1 E2 R1 R2 pk1 (ca + 1) rf vs n9 := by
  obtain ⟨h1, h2, h3, ⟨a1, a2, a3, a4, a5⟩, h5⟩ := h
  have hI : tI (f_tk3 g (nI kp)) = va_up (va_up (tI g) 3 (nI pk1)) 2 (ca + 1) := by
    show va_up (va_up (tI g) 3 (f_max (tI g 3) (nI kp))) 2 (va_up (tI g) 3 (f_max (tI g 3) (nI kp)) 2 + 1) = _
    rw [va_up_ne (tI g) _ (show (2 : Nat) ≠ 3 by decide), a4, a3, hm]
  have hT : tT (f_tk3 g (nI kp)) = va_up (va_up (va_up (tT g) 9 E1) 10 R1) 11 (tT g 14) := by
    show va_up (va_up (va_up (tT g) 9 (tT g 12)) 10 (va_up (tT g) 9 (tT g 12) 13)) 11 (va_up (va_up (tT g) 9 (tT g 12)) 10 (va_up (tT g) 9 (tT g 12) 13) 14) = _
    rw [va_up_ne (tT g) _ (show (13 : Nat) ≠ 9 by decide), va_up_ne (va_up (tT g) 9 (tT g 12)) _ (show (14 : Nat) ≠ 10 by decide), va_up_ne (tT g) _ (show (14 : Nat) ≠ 9 by decide), e1, r1]
  have hB : tB (f_tk3 g (nI kp)) = va_up (va_up (va_up (tB g) 9 E2) 10 R2) 11 (tB g 14) := by
    show va_up (va_up (va_up (tB g) 9 (tB g 12)) 10 (va_up (tB g) 9 (tB g 12) 13)) 11 (va_up (va_up (tB g) 9 (tB g 12)) 10 (va_up (tB g) 9 (tB g 12) 13) 14) = _
    rw [va_up_ne (tB g) _ (show (13 : Nat) ≠ 9 by decide), va_up_ne (va_up (tB g) 9 (tB g 12)) _ (show (14 : Nat) ≠ 10 by decide), va_up_ne (tB g) _ (show (14 : Nat) ≠ 9 by decide), e2, r2]
  refine ⟨by rw [hI]; exact va_up_self _ _ _, fun k hk => ?_, ?_, ?_, ?_, h5⟩
  · rw [hT, hB, va_up_ne _ _ (show k ≠ 11 by omega), va_up_ne _ _ (show k ≠ 10 by omega), va_up_ne _ _ (show k ≠ 9 by omega), va_up_ne _ _ (show k ≠ 11 by omega), va_up_ne _ _ (show k ≠ 10 by omega), va_up_ne _ _ (show k ≠ 9 by omega)]
    exact h1 k hk
  · rw [hT, hB, va_up_ne _ _ (show (9 : Nat) ≠ 11 by decide), va_up_ne _ _ (show (9 : Nat) ≠ 10 by decide), va_up_self, va_up_ne _ _ (show (9 : Nat) ≠ 11 by decide), va_up_ne _ _ (show (9 : Nat) ≠ 10 by decide), va_up_self]
    exact ⟨rfl, rfl, hE, hEL⟩
  · rw [hT, hB, va_up_ne _ _ (show (10 : Nat) ≠ 11 by decide), va_up_self, va_up_ne _ _ (show (10 : Nat) ≠ 11 by decide), va_up_self]
    exact ⟨rfl, rfl, hR, hRL⟩
  · rw [hI, va_up_ne _ _ (show (0 : Nat) ≠ 2 by decide), va_up_ne _ _ (show (0 : Nat) ≠ 3 by decide), va_up_ne _ _ (show (1 : Nat) ≠ 2 by decide), va_up_ne _ _ (show (1 : Nat) ≠ 3 by decide), va_up_self, va_up_ne _ _ (show (3 : Nat) ≠ 2 by decide), va_up_self]
    exact ⟨a1, a2, rfl, rfl, h4⟩
theorem s_tal (h : RV g kn tt bb eT eB oT oB pk ca rf vs n9) (hD : m_D4 oB) {i : Nat} (hi : i < 6) {kp : Nat} (hk : kp ≤ 4) {md : Int32} (hmd : md = 0 ∨ md = 1 ∨ md = 2 ∨ md = 3 ∨ md = 4) :
    (m_TLf (m_TLe eT eB (tt i) (bb i)) (m_TLo oT oB (tt i) (bb i) (nI kp) md) → ∀ pk1 : Nat, f_max (nI pk) (nI kp) = nI pk1 → pk1 ≤ 4 → f_talR g i (nI kp) md = ca + 1 ∧ RV (f_talW g i (nI kp) md) kn tt bb (m_TLe eT eB (tt i) (bb i)).1 (m_TLe eT eB (tt i) (bb i)).2 (m_TLo oT oB (tt i) (bb i) (nI kp) md).1 (m_TLo oT oB (tt i) (bb i) (nI kp) md).2 pk1 (ca + 1) rf vs n9) ∧
    (¬ m_TLf (m_TLe eT eB (tt i) (bb i)) (m_TLo oT oB (tt i) (bb i) (nI kp) md) → f_talR g i (nI kp) md = -9 ∧ RV (f_talW g i (nI kp) md) kn tt bb eT eB oT oB pk ca (rf + 1) vs n9) := by
  obtain ⟨z, e1, e2, e3, r1, r2, r3⟩ := q_tk1 h hD hi hk hmd
  obtain ⟨G, hG⟩ : ∃ G, G = f_tk1 g i (nI kp) md := ⟨_, rfl⟩
  obtain ⟨E, hE⟩ : ∃ E, E = m_TLe eT eB (tt i) (bb i) := ⟨_, rfl⟩
  obtain ⟨R, hR⟩ : ∃ R, R = m_TLo oT oB (tt i) (bb i) (nI kp) md := ⟨_, rfl⟩
  rw [← hG] at z e1 e2 r1 r2
  rw [← hE] at e1 e2 e3 ⊢
  rw [← hR] at r1 r2 r3 ⊢
  have hd : ¬ m_fit E.1 E.2 = 0 → ¬ m_fit R.1 R.2 = 0 → tT (f_dif G 14 12 13) 14 = (m_df E R).1 ∧ tB (f_dif G 14 12 13) 14 = (m_df E R).2 := by
    intro f1 f2
    have hF1 := q_fitF f1 e3
    have hF2 := q_fitF f2 r3
    obtain ⟨n1, n2⟩ := m_negB hF2.1 (by decide)
    have hy : ((-1 : Int32).toInt64 * (R.1 * E.2)).toInt = (-R.1).toInt * E.2.toInt := by
      obtain ⟨w1, w2⟩ := m_mulB (x := R.1) (y := E.2) (B := 1000000000) (C := 1000000000) hF2.1 (by have := hF1.2; omega) (by decide)
      rw [(m_mulB (x := (-1 : Int32).toInt64) (y := R.1 * E.2) (B := 1) (C := 1000000000 * 1000000000) (by decide) w2 (by decide)).1, w1, n1, show (-1 : Int32).toInt64.toInt = -1 by decide, Int.neg_mul, Int.neg_mul, Int.one_mul]
    have h7 := q_sum7 (u := -R.1) hF1 (by omega) ⟨hF2.2.1, hF2.2.2⟩ (Or.inl n2) hy G 14
    unfold f_dif
    rw [e1, e2, r1, r2]
    exact ⟨h7.1, h7.2.1⟩
  -- what comes of it
  have hno : ¬ m_TLf E R → f_tk2R G = 0 ∧ lz g (f_tk2W G (nI kp)) := by
    intro f
    unfold f_tk2R f_tk2W
    rw [e1, e2, r1, r2]
    by_cases f1 : m_fit E.1 E.2 = 0
    · rw [if_pos (show f_fit E.1 E.2 = 0 from f1), if_pos (show f_fit E.1 E.2 = 0 from f1)]
      exact ⟨rfl, z⟩
    · rw [if_neg (show ¬ f_fit E.1 E.2 = 0 from f1), if_neg (show ¬ f_fit E.1 E.2 = 0 from f1)]
      by_cases f2 : m_fit R.1 R.2 = 0
      · rw [if_pos (show f_fit R.1 R.2 = 0 from f2), if_pos (show f_fit R.1 R.2 = 0 from f2)]
        exact ⟨rfl, z⟩
      · rw [if_neg (show ¬ f_fit R.1 R.2 = 0 from f2), if_neg (show ¬ f_fit R.1 R.2 = 0 from f2), (hd f1 f2).1, (hd f1 f2).2]
        have f3 : m_fit (m_df E R).1 (m_df E R).2 = 0 := Decidable.byContradiction fun f3 => f ⟨f1, f2, f3⟩
        rw [if_pos (show f_fit (m_df E R).1 (m_df E R).2 = 0 from f3), if_pos (show f_fit (m_df E R).1 (m_df E R).2 = 0 from f3)]
        exact ⟨rfl, z.tr (lz_dif G lzs14 12 13)⟩
  have hyes : m_TLf E R → f_tk2R G = 1 ∧ f_tk2W G (nI kp) = f_tk3 (f_dif G 14 12 13) (nI kp) := by
    rintro ⟨f1, f2, f3⟩
    unfold f_tk2R f_tk2W
    rw [e1, e2, r1, r2, if_neg (show ¬ f_fit E.1 E.2 = 0 from f1), if_neg (show ¬ f_fit E.1 E.2 = 0 from f1), if_neg (show ¬ f_fit R.1 R.2 = 0 from f2), if_neg (show ¬ f_fit R.1 R.2 = 0 from f2), (hd f1 f2).1, (hd f1 f2).2, if_neg (show ¬ f_fit (m_df E R).1 (m_df E R).2 = 0 from f3), if_neg (show ¬ f_fit (m_df E R).1 (m_df E R).2 = 0 from f3)]
    exact ⟨rfl, rfl⟩
  unfold f_talR f_talW
  rw [← hG]
  constructor
  · intro f pk1 hm h4
    obtain ⟨y1, y2⟩ := hyes f
    rw [y1, y2, if_neg (show ¬ (1 : Int32) = 0 by decide), if_neg (show ¬ (1 : Int32) = 0 by decide)]
    obtain ⟨f1, f2, -⟩ := f
    have k12 : tT (f_dif G 14 12 13) 12 = tT G 12 ∧ tB (f_dif G 14 12 13) 12 = tB G 12 := q_becN (by decide) _ _
    have k13 : tT (f_dif G 14 12 13) 13 = tT G 13 ∧ tB (f_dif G 14 12 13) 13 = tB G 13 := q_becN (by decide) _ _
    exact s_tk3 (h.lzv (z.tr (lz_dif G lzs14 12 13))) (k12.1.trans e1) (k12.2.trans e2) (k13.1.trans r1) (k13.2.trans r2) (q_fitF f1 e3) e3 (q_fitF f2 r3) r3 hm h4
  · intro f
    obtain ⟨y1, y2⟩ := hno f
    rw [y1, if_pos rfl, if_pos rfl]
    exact ⟨rfl, (h.lzv y2).ref⟩
/-- wipe -/
theorem q_l01 : L64 (m_loT 0 1) (m_loB 0 1) := (q_lo (t := 0) (b := 1) (by decide) (by decide) (by decide)).1
theorem s_clr (h : RV g kn tt bb eT eB oT oB pk ca rf vs n9) : RV (f_clr g) kn tt bb (m_loT 0 1) (m_loB 0 1) (m_loT 0 1) (m_loB 0 1) 0 0 rf vs n9 := by
  obtain ⟨h1, h2, h3, ⟨a1, a2, a3, a4, a5⟩, h5⟩ := h
  obtain ⟨ga, hga⟩ : ∃ z, z = f_become g 9 0 1 := ⟨_, rfl⟩
  obtain ⟨gb, hgb⟩ : ∃ z, z = f_become ga 10 0 1 := ⟨_, rfl⟩
  obtain ⟨gc, hgc⟩ : ∃ z, z = f_become gb 11 0 1 := ⟨_, rfl⟩
  have e : f_clr g = uI (uI gc 2 0) 3 0 := by
    unfold f_clr
    rw [← hga, ← hgb, ← hgc]
  have ka : ∀ k, k ≠ 9 → tT ga k = tT g k ∧ tB ga k = tB g k := fun k hk => by rw [hga]; exact q_becN hk _ _
  have kb : ∀ k, k ≠ 10 → tT gb k = tT ga k ∧ tB gb k = tB ga k := fun k hk => by rw [hgb]; exact q_becN hk _ _
  have kc : ∀ k, k ≠ 11 → tT gc k = tT gb k ∧ tB gc k = tB gb k := fun k hk => by rw [hgc]; exact q_becN hk _ _
  have va : tT ga 9 = m_loT 0 1 ∧ tB ga 9 = m_loB 0 1 := by rw [hga]; exact q_bec6 (by decide) (by decide) (by decide) g 9
  have vb : tT gb 10 = m_loT 0 1 ∧ tB gb 10 = m_loB 0 1 := by rw [hgb]; exact q_bec6 (by decide) (by decide) (by decide) ga 10
  have hne : ∀ (g : CS) (i : Nat), f_become g i 0 1 = uB (uT g i (f_floorOf 0 (f_dv 0 1))) i (f_floorOf 1 (f_dv 0 1)) := fun g i => if_neg (by decide)
  have hr : tC gc = tC g ∧ tV gc = tV g ∧ tI gc = tI g := by
    rw [hgc, hne, hgb, hne, hga, hne]
    exact ⟨rfl, rfl, rfl⟩
  have hI : tI (uI (uI gc 2 0) 3 0) = va_up (va_up (tI g) 2 0) 3 0 := by
    show va_up (va_up (tI gc) 2 0) 3 0 = _
    rw [hr.2.2]
  rw [e]
  refine ⟨fun k hk => ?_, ?_, ?_, ?_, ?_⟩
  · show tT gc k = _ ∧ tB gc k = _ ∧ _
    rw [(kc k (by omega)).1, (kc k (by omega)).2, (kb k (by omega)).1, (kb k (by omega)).2, (ka k (by omega)).1, (ka k (by omega)).2]
    exact h1 k hk
  · show tT gc 9 = _ ∧ tB gc 9 = _ ∧ _
    rw [(kc 9 (by decide)).1, (kc 9 (by decide)).2, (kb 9 (by decide)).1, (kb 9 (by decide)).2, va.1, va.2]
    exact ⟨rfl, rfl, m_F01, q_l01⟩
  · show tT gc 10 = _ ∧ tB gc 10 = _ ∧ _
    rw [(kc 10 (by decide)).1, (kc 10 (by decide)).2, vb.1, vb.2]
    exact ⟨rfl, rfl, m_F01, q_l01⟩
  · rw [hI, va_up_ne _ _ (show (0 : Nat) ≠ 3 by decide), va_up_ne _ _ (show (0 : Nat) ≠ 2 by decide), va_up_ne _ _ (show (1 : Nat) ≠ 3 by decide), va_up_ne _ _ (show (1 : Nat) ≠ 2 by decide), va_up_ne _ _ (show (2 : Nat) ≠ 3 by decide), va_up_self, va_up_self]
    exact ⟨a1, a2, rfl, nI_0.symm, Nat.zero_le _⟩
  · show tC gc 0 = _ ∧ _ ∧ ∀ i, i < n9 → ∃ x : Int32, vs i = .int x ∧ tV gc 0 i = _ ∧ _
    rw [hr.1, hr.2.1]
    exact h5
/-- a new object -/
theorem RV_0 : RV cs0 0 (fun _ => m_loT 0 1) (fun _ => m_loB 0 1) 0 1 0 1 0 0 0 (fun _ => .null) 0 := by
  have e1 : m_loT 0 1 = 0 := by decide +kernel
  have e2 : m_loB 0 1 = 1 := by decide +kernel
  have hL : L64 0 1 := by
    have := q_l01
    rw [e1, e2] at this
    exact this
  have hF : m_F 0 1 := by
    have := m_F01
    rw [e1, e2] at this
    exact this
  rw [e1, e2]
  exact ⟨fun _ _ => ⟨rfl, rfl, hF, hL⟩, ⟨rfl, rfl, hF, hL⟩, ⟨rfl, rfl, hF, hL⟩, ⟨rfl, rfl, rfl, nI_0.symm, Nat.zero_le _⟩, nI_0.symm, Nat.zero_le _, fun i hi => absurd hi (Nat.not_lt_zero i)⟩
/-- what the class's methods ask for -/
theorem RV.ci (h : RV g kn tt bb eT eB oT oB pk ca rf vs n9) : CI g kn := by
  obtain ⟨h1, h2, h3, ⟨a1, a2, a3, a4, a5⟩, c1, c2, c3⟩ := h
  refine ⟨fun i hi => ?_, ?_, a2, pk, a5, a4⟩
  · rcases hi with z | rfl
    · rw [(h1 i z).1]
      exact (h1 i z).2.2.1.1
    · rw [h3.1]
      exact h3.2.2.1.1
  · rw [c1]
    exact ⟨nI_le (a := 0) (Nat.zero_le _) (by omega), nI_le (b := 16) (by omega) (by decide)⟩
variable {eT1 eB1 oT1 oB1 : Int64} {pk1 xc : Nat} {ca1 rf1 rk r th x1 x2 x3 : Int32} {ox : Int64}
theorem x_tal : nI (xo (bR x1) (xo (2 * bW x2 0 4) (2 * bW x3 0 4))) = m_th (m_isNo x1) (m_or (m_not (m_isIn x2 0 4)) (m_not (m_isIn x3 0 4))) ∧ (xo (bR x1) (xo (2 * bW x2 0 4) (2 * bW x3 0 4)) = 0 ↔ m_fl (m_isNo x1) (m_or (m_not (m_isIn x2 0 4)) (m_not (m_isIn x3 0 4))) = 0) := by
  rw [xo_22]
  exact xe_1b (xo_2b (bW_2 _ _ _) (bW_2 _ _ _)) (or_xo (bW_2 _ _ _) (bW_2 _ _ _) (in_bW _ _ _) (in_bW _ _ _))
theorem l_tally (h : RV g kn tt bb eT eB oT oB pk ca rf vs n9) (hD : m_D4 oB) (h4 : pk1 ≤ 4) (hw : WR (xo (bR x1) (xo (2 * bW x2 0 4) (2 * bW x3 0 4))) (f_talW g (nn x1) x2 x3) (f_talR g (nn x1) x2 x3).toInt64 g rk g1 ox) (hm : TL (m_isNo x1) (m_or (m_not (m_isIn x2 0 4)) (m_not (m_isIn x3 0 4))) eT eB oT oB pk ca rf (tt (nn x1)) (bb (nn x1)) x2 x3 r th eT1 eB1 oT1 oB1 pk1 ca1 rf1) : th = rk ∧ (rk = 0 → ox = r.toInt64) ∧ RV g1 kn tt bb eT1 eB1 oT1 oB1 pk1 ca1 rf1 vs n9 := by
  have hx := x_tal (x1 := x1) (x2 := x2) (x3 := x3)
  obtain ⟨w1, w2, w3⟩ := id hw
  obtain ⟨m1, m2, m3⟩ := hm
  by_cases c : xo (bR x1) (xo (2 * bW x2 0 4) (2 * bW x3 0 4)) = 0
  · obtain ⟨v1, v2⟩ := w2 c
    obtain ⟨e, hk⟩ := bW_nn (n := 4) (by decide) (tx_mul0 (xo_1 (xo_2 c)))
    obtain ⟨t1, t2⟩ := s_tal h hD (bR_lt6 (xo_1 c)) hk (bW_md (tx_mul0 (xo_2 (xo_2 c))))
    rw [← e] at t1 t2
    rw [v1, v2]
    refine ⟨by rw [m1, w1, hx.1], ?_⟩
    rcases m3 (hx.2.mp c) with ⟨f, b1, b2, b3, b4, b5, b6⟩ | ⟨f, b1, b2, b3, b4, b5, b6, b7, b8⟩
    · obtain ⟨t3, t4⟩ := t1 f pk1 b4 h4
      rw [t3, b1, b5, b6, show eT1 = _ from congrArg Prod.fst b2, show eB1 = _ from congrArg Prod.snd b2, show oT1 = _ from congrArg Prod.fst b3, show oB1 = _ from congrArg Prod.snd b3]
      exact ⟨fun _ => rfl, t4⟩
    · obtain ⟨t3, t4⟩ := t2 f
      rw [t3, b1, b2, b3, b4, b5, b6, b7, b8]
      exact ⟨fun _ => rfl, t4⟩
  · obtain ⟨b2, b3, b4, b5, b6, b7, b8⟩ := m2 (fun z => c (hx.2.mpr z))
    rw [b2, b3, b4, b5, b6, b7, b8]
    exact l_ask (A := m_isNo x1) (B := m_or (m_not (m_isIn x2 0 4)) (m_not (m_isIn x3 0 4))) (x := 0) h hx (fun z => absurd z c) hw ⟨m1, fun z => absurd (hx.2.mpr z) c⟩
end RV16
theorem qu_fl {A B x r th : Int32} (h : QU A B x r th) (h0 : th = 0) : r = x := by
  obtain ⟨h1, h2⟩ := h
  apply h2
  rw [h1] at h0
  unfold m_th at h0
  unfold m_fl
  by_cases a : A = 0
  · rw [if_pos a] at h0 ⊢
    by_cases b : B = 0
    · rw [if_pos b]
    · rw [if_neg b] at h0
      exact absurd h0 (by decide)
  · rw [if_neg a] at h0
    exact absurd h0 (by decide)
theorem q_nx3 {t b u v : Int64} {r : Int32} (h : r = m_nx1 t b u v) (h0 : ¬ r = 0) : r = 1 := by
  unfold m_nx1 at h
  split at h
  · exact h
  · exact absurd h h0
theorem MI.tl {D : va_G} {tk : Nat → ClassId} {sa : Nat → Nat} {P : Nat → Prop} {mo : Nat} {tt bb : Nat → Int64} {eT eB oT oB : Int64} {pk : Nat} {ca rf : Int32} {vs : Nat → Value} {kn : Int32} {n9 : Nat} {th : Int32} {H : Heap} (h : MI D tk sa P mo tt bb eT eB oT oB pk ca rf vs kn n9 th H) : m_D4 oB ∧ pk ≤ 4 := by
  obtain ⟨ra, rl, ex, ro, rt, fo, fj, fk, fe, fr, fw, -, hF⟩ := h
  exact ⟨hF.2.2.1.2, hF.2.2.2.1⟩
