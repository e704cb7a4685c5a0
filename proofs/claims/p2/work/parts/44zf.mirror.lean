/-! ===== neighbours, side by side ===== -/
/-- fractions, held against each other in two forms -/
theorem q_lt {A B T k x y V w : Int} (hB : 0 < B) (hk : 0 < k) (hy : 0 < y) (hw : 0 < w) (h1 : A * k = T * B) (h2 : x * w = V * y) : A * y < x * B ↔ T * w < V * k := by
  have p1 : 0 < k * w := Int.mul_pos hk hw
  have p2 : 0 < B * y := Int.mul_pos hB hy
  rw [← Int.mul_lt_mul_right p1, ← Int.mul_lt_mul_right (a := B * y) (b := T * w) p2]
  have e1 : A * y * (k * w) = T * w * (B * y) := by
    have : A * y * (k * w) = (A * k) * (y * w) := by grind
    rw [this, h1]
    grind
  have e2 : x * B * (k * w) = V * k * (B * y) := by
    have : x * B * (k * w) = (x * w) * (B * k) := by grind
    rw [this, h2]
    grind
  rw [e1, e2]
theorem q_lNt {k : Nat} (hk : k < 2 ^ 31) : (lN k).toInt = (k : Int) := lN_toInt hk
/-- the ratio that a side and the class's two numbers tell -/
def q_nbI (s : Int) (x y bt bw : Int64) : Prop := L64 x y ∧ x.toInt * bw.toInt = s * bt.toInt * y.toInt ∧ 1 ≤ bw.toInt ∧ bw.toInt ≤ 200 ∧ bt.toInt.natAbs ≤ 200000000001 ∧ y.toInt ≤ 200 ∧ x.toInt.natAbs ≤ 200000000001
/-- what is tried by a bottom -/
theorem q_nbT {t b m : Int64} {s : Int} {u : Int32} (h : m_F t b) (hs : (s = 1 ∧ u = 0) ∨ (s = -1 ∧ u = 1)) (hm : m.toInt = s * t.toInt) {k : Nat} (hk : 1 ≤ k) (hk2 : k ≤ 200) :
    (m_nbT t b k u).toInt = s * (f_floorOf (m * lN k) b).toInt ∧ (f_floorOf (m * lN k) b).toInt.natAbs ≤ 200000000001 ∧ (m_nbT t b k u).toInt.natAbs ≤ 200000000001 := by
  obtain ⟨a1, a2, a3⟩ := h
  have hl := q_lNt (k := k) (by omega)
  have hm1 : m.toInt.natAbs ≤ 1000000000 := by
    rw [hm]
    rcases hs with ⟨rfl, -⟩ | ⟨rfl, -⟩ <;> omega
  obtain ⟨x1, x2⟩ := m_mulB (x := m) (y := lN k) (B := 1000000000) (C := 200) hm1 (by omega) (by decide)
  have hf := m_floorB (a := m * lN k) (b := b) (B := 1000000000 * 200) x2 (by decide) a2
  rw [q_ffl (by omega) a2]
  rcases hs with ⟨rfl, rfl⟩ | ⟨rfl, rfl⟩
  · have e : m = t := Int64.toInt_inj.mp (by omega)
    unfold m_nbT
    rw [if_pos rfl, e]
    rw [e] at hf
    omega
  · have e : m = -t := Int64.toInt_inj.mp (by rw [(m_negB a1 (by decide)).1]; omega)
    unfold m_nbT
    rw [if_neg (by decide), ← e, (m_negB hf (by decide)).1]
    omega
theorem q_nbS {t b m : Int64} {s : Int} {u : Int32} (h : m_F t b) (hs : (s = 1 ∧ u = 0) ∨ (s = -1 ∧ u = 1)) (hm : m.toInt = s * t.toInt) {k : Nat} (hk : 1 ≤ k) (hk2 : k ≤ 200) : q_nbI s (m_loT (m_nbT t b k u) (lN k)) (m_loB (m_nbT t b k u) (lN k)) (f_floorOf (m * lN k) b) (lN k) := by
  obtain ⟨e1, e2, e3⟩ := q_nbT h hs hm hk hk2
  have hl := q_lNt (k := k) (by omega)
  obtain ⟨l1, l2⟩ := q_lo (t := m_nbT t b k u) (b := lN k) (by omega) (by omega) (m_ne0 (by omega))
  obtain ⟨-, p1, p2, p3⟩ := m_loP (t := m_nbT t b k u) (b := lN k) (B := 200000000001) (C := 200) e3 (by decide) (by omega) (by omega)
  exact ⟨l1, by rw [l2, e1], by omega, by omega, e2, by omega, p3⟩
theorem q_nbL {t b m : Int64} {s : Int} {u : Int32} (h : m_F t b) (hs : (s = 1 ∧ u = 0) ∨ (s = -1 ∧ u = 1)) (hm : m.toInt = s * t.toInt) : ∀ (n k : Nat) (x y bt bw : Int64), 1 ≤ k → k + n ≤ 201 → q_nbI s x y bt bw → q_nbI s (m_nbL t b u n k x y).1 (m_nbL t b u n k x y).2 (nbL m b n k bt bw).1 (nbL m b n k bt bw).2 := by
  intro n
  induction n with
  | zero => intro k x y bt bw _ _ hi; exact hi
  | succ n ih =>
    intro k x y bt bw hk hn hi
    have hN := q_nbS h hs hm hk (show k ≤ 200 by omega)
    obtain ⟨i1, i2, i3, i4, i5, i6, i7⟩ := id hi
    obtain ⟨j1, j2, j3, j4, j5, j6, j7⟩ := id hN
    have hl := q_lNt (k := k) (by omega)
    have hy := i1.1
    have hB := j1.1
    unfold m_nbL nbL
    obtain ⟨A, hA⟩ : ∃ A, A = m_loT (m_nbT t b k u) (lN k) := ⟨_, rfl⟩
    obtain ⟨B, hBB⟩ : ∃ B, B = m_loB (m_nbT t b k u) (lN k) := ⟨_, rfl⟩
    obtain ⟨F, hF⟩ : ∃ F, F = f_floorOf (m * lN k) b := ⟨_, rfl⟩
    rw [← hA, ← hBB, ← hF] at hN j2
    rw [← hF] at j5
    rw [← hBB] at hB j6
    rw [← hA] at j7
    rw [← hA, ← hBB, ← hF]
    have z1 := (m_mulB (x := A) (y := y) (B := 200000000001) (C := 200) j7 (by omega) (by decide)).1
    have z2 := (m_mulB (x := x) (y := B) (B := 200000000001) (C := 200) i7 (by omega) (by decide)).1
    have z3 := (m_mulB (x := F) (y := bw) (B := 200000000001) (C := 200) j5 (by omega) (by decide)).1
    have z4 := (m_mulB (x := bt) (y := lN k) (B := 200000000001) (C := 200) i5 (by omega) (by decide)).1
    have o1 := q_ord1 (t := A) (b := B) (u := x) (v := y) z1 z2
    have om := q_ordm (t := A) (b := B) (u := x) (v := y) z1 z2
    have hcl := Int64.le_iff_toInt_le (x := F * bw) (y := bt * lN k)
    rw [z3, z4] at hcl
    have hX : (m_ord A B x y = if u = 0 then 1 else -1) ↔ ¬ F * bw ≤ bt * lN k := by
      rw [hcl]
      rcases hs with ⟨rfl, rfl⟩ | ⟨rfl, rfl⟩
      · rw [if_pos rfl, o1]
        have := q_lt (A := x.toInt) (B := y.toInt) (T := bt.toInt) (k := bw.toInt) (x := A.toInt) (y := B.toInt) (V := F.toInt) (w := (lN k).toInt) (by omega) (by omega) (by omega) (by omega) (by rw [i2, Int.one_mul]) (by rw [j2, Int.one_mul])
        omega
      · rw [if_neg (by decide), om]
        have := q_lt (A := A.toInt) (B := B.toInt) (T := -F.toInt) (k := (lN k).toInt) (x := x.toInt) (y := y.toInt) (V := -bt.toInt) (w := bw.toInt) (by omega) (by omega) (by omega) (by omega) (by rw [j2]; grind) (by rw [i2]; grind)
        rw [Int.neg_mul, Int.neg_mul] at this
        omega
    by_cases c : F * bw ≤ bt * lN k
    · rw [if_pos c, if_neg (fun z => (hX.mp z) c)]
      exact ih (k + 1) x y bt bw (by omega) (by omega) hi
    · rw [if_neg c, if_pos (hX.mpr c)]
      exact ih (k + 1) A B F (lN k) (by omega) (by omega) hN
/-- the neighbour itself -/
theorem q_NB {t b m : Int64} {s : Int} {u : Int32} (h : m_F t b) (hs : (s = 1 ∧ u = 0) ∨ (s = -1 ∧ u = 1)) (hm : m.toInt = s * t.toInt) {n : Nat} (h1 : 1 ≤ n) (h2 : n ≤ 200) : q_nbI s (m_NB t b n u).1 (m_NB t b n u).2 (f_nb2 m b (nI n)).1 (f_nb2 m b (nI n)).2 := by
  have h0 := q_nbS h hs hm (k := 1) (by omega) (by omega)
  have e1 : m * lN 1 = m := by rw [show lN 1 = 1 from rfl, Int64.mul_one]
  rw [e1] at h0
  unfold m_NB f_nb2
  rw [nI_toInt (by omega)]
  have h3 := q_nbL h hs hm (n - 1) 2 _ _ _ _ (by omega) (by omega) h0
  exact h3
section RV7
variable {g g1 : CS} {kn : Int32} {tt bb : Nat → Int64} {eT eB oT oB : Int64} {pk : Nat} {ca rf : Int32} {vs : Nat → Value} {n9 : Nat}
theorem q_nb {i j : Nat} {t b : Int64} (e1 : tT g j = t) (e2 : tB g j = b) (h : m_F t b) {s : Int} {u sd : Int32} (hs : (s = 1 ∧ u = 0 ∧ sd = 1) ∨ (s = -1 ∧ u = 1 ∧ sd = -1)) {n : Nat} (h1 : 1 ≤ n) (h2 : n ≤ 200) :
    tT (f_nb g i j (nI n) sd) i = (m_NB t b n u).1 ∧ tB (f_nb g i j (nI n) sd) i = (m_NB t b n u).2 ∧ L64 (m_NB t b n u).1 (m_NB t b n u).2 := by
  have hs2 : (s = 1 ∧ u = 0) ∨ (s = -1 ∧ u = 1) := by rcases hs with ⟨a, b, c⟩ | ⟨a, b, c⟩ <;> simp [a, b]
  have hsd : sd.toInt64.toInt = s := by rcases hs with ⟨rfl, -, rfl⟩ | ⟨rfl, -, rfl⟩ <;> decide
  have hs1 : s.natAbs ≤ 1 := by rcases hs with ⟨rfl, -, -⟩ | ⟨rfl, -, -⟩ <;> decide
  have hm : (sd.toInt64 * t).toInt = s * t.toInt := by
    rw [(m_mulB (x := sd.toInt64) (y := t) (B := 1) (C := 1000000000) (by rw [hsd]; exact hs1) h.1 (by decide)).1, hsd]
  obtain ⟨k1, k2, k3, k4, k5, k6, k7⟩ := q_NB h hs2 hm h1 h2
  unfold f_nb
  rw [e1, e2]
  obtain ⟨P, hP⟩ : ∃ P, P = f_nb2 (sd.toInt64 * t) b (nI n) := ⟨_, rfl⟩
  rw [← hP] at k2 k3 k4 k5 ⊢
  obtain ⟨w1, w2⟩ := m_mulB (x := sd.toInt64) (y := P.1) (B := 1) (C := 200000000001) (by rw [hsd]; exact hs1) k5 (by decide)
  obtain ⟨q1, q2⟩ := q_bec6 (t := sd.toInt64 * P.1) (b := P.2) (by omega) (by omega) (m_ne0 k3) g i
  obtain ⟨r1, r2⟩ := q_loE (t := sd.toInt64 * P.1) (b := P.2) (by omega) (by omega) (m_ne0 k3) k1 (by rw [w1, hsd, k2])
  exact ⟨q1.trans r1, q2.trans r2, k1⟩
theorem s_nb (h : RV g kn tt bb eT eB oT oB pk ca rf vs n9) {i j : Nat} (hi : i < 6) (hj : j < 6) {s : Int} {u sd : Int32} (hs : (s = 1 ∧ u = 0 ∧ sd = 1) ∨ (s = -1 ∧ u = 1 ∧ sd = -1)) {n : Nat} (h1 : 1 ≤ n) (h2 : n ≤ 200) : SMV kn tt bb eT eB oT oB pk ca rf vs n9 i (some (m_NB (tt j) (bb j) n u)) (f_setR (f_nb g 6 j (nI n) sd) i) (f_setW (f_nb g 6 j (nI n) sd) i) := by
  obtain ⟨a1, a2, a3, a4⟩ := h.1 j hj
  obtain ⟨q1, q2, q3⟩ := q_nb (i := 6) a1 a2 a3 hs h1 h2
  exact h.set (lz_nb g lzs6 j _ _) hi q1 q2 q3
theorem s_best (h : RV g kn tt bb eT eB oT oB pk ca rf vs n9) {i j : Nat} (hi : i < 6) (hj : j < 6) {n : Nat} (h1 : 1 ≤ n) (h2 : n ≤ 200) : SMV kn tt bb eT eB oT oB pk ca rf vs n9 i (some (m_BS (tt j) (bb j) n)) (f_setR (f_best g j (nI n)) i) (f_setW (f_best g j (nI n)) i) := by
  obtain ⟨a1, a2, a3, a4⟩ := h.1 j hj
  obtain ⟨q1, q2, q3⟩ := q_nb (i := 7) (s := 1) (u := 0) (sd := 1) a1 a2 a3 (Or.inl ⟨rfl, rfl, rfl⟩) h1 h2
  have l7 := lz_nb g lzs7 j (nI n) 1
  obtain ⟨g7, hg7⟩ : ∃ z, z = f_nb g 7 j (nI n) 1 := ⟨_, rfl⟩
  rw [← hg7] at q1 q2 l7
  obtain ⟨b1, b2, -, -⟩ := (h.lzv l7).1 j hj
  obtain ⟨r1, r2, r3⟩ := q_nb (g := g7) (i := 8) (s := -1) (u := 1) (sd := -1) b1 b2 a3 (Or.inr ⟨rfl, rfl, rfl⟩) h1 h2
  have l8 := l7.tr (lz_nb g7 lzs8 j (nI n) (-1))
  have q1' : tT (f_nb g7 8 j (nI n) (-1)) 7 = (m_NB (tt j) (bb j) n 0).1 := by
    rw [← q1]
    unfold f_nb f_become
    split
    · rfl
    · rfl
  have q2' : tB (f_nb g7 8 j (nI n) (-1)) 7 = (m_NB (tt j) (bb j) n 0).2 := by
    rw [← q2]
    unfold f_nb f_become
    split
    · rfl
    · rfl
  obtain ⟨g8, hg8⟩ : ∃ z, z = f_nb g7 8 j (nI n) (-1) := ⟨_, rfl⟩
  rw [← hg8] at r1 r2 q1' q2' l8
  obtain ⟨d1, d2, -, -⟩ := (h.lzv l8).1 j hj
  have eG : f_bestG g j (nI n) = g8 := by
    unfold f_bestG
    rw [← hg7, ← hg8]
  have eA : f_lbA g8 j = m_bsA (tt j) (bb j) (m_NB (tt j) (bb j) n 0) (m_NB (tt j) (bb j) n 1) := by
    unfold f_lbA m_bsA
    rw [d1, d2, q1', q2', r2]
  have eB9 : f_lbB g8 j = m_bsB (tt j) (bb j) (m_NB (tt j) (bb j) n 0) (m_NB (tt j) (bb j) n 1) := by
    unfold f_lbB m_bsB
    rw [d1, d2, r1, r2, q2']
  unfold f_best
  rw [eG]
  have hA8 : SMV kn tt bb eT eB oT oB pk ca rf vs n9 i (some (m_NB (tt j) (bb j) n 1)) (f_setR (f_assign g8 6 8) i) (f_setW (f_assign g8 6 8) i) := h.set (l8.tr (lz_asg g8 lzs6 8)) hi ((q_asT g8 6 8).trans r1) ((q_asB g8 6 8).trans r2) r3
  have hA7 : SMV kn tt bb eT eB oT oB pk ca rf vs n9 i (some (m_NB (tt j) (bb j) n 0)) (f_setR (f_assign g8 6 7) i) (f_setW (f_assign g8 6 7) i) := h.set (l8.tr (lz_asg g8 lzs6 7)) hi ((q_asT g8 6 7).trans q1') ((q_asB g8 6 7).trans q2') q3
  unfold f_lb m_BS
  rw [eA, eB9, q2', r2]
  by_cases c1 : m_bsA (tt j) (bb j) (m_NB (tt j) (bb j) n 0) (m_NB (tt j) (bb j) n 1) = m_bsB (tt j) (bb j) (m_NB (tt j) (bb j) n 0) (m_NB (tt j) (bb j) n 1)
  · have c2 : ¬ m_bsA (tt j) (bb j) (m_NB (tt j) (bb j) n 0) (m_NB (tt j) (bb j) n 1) < m_bsB (tt j) (bb j) (m_NB (tt j) (bb j) n 0) (m_NB (tt j) (bb j) n 1) := by
      rw [c1]
      exact Int64.lt_irrefl
    rw [if_pos c1, if_pos c1, if_neg c2]
    by_cases c3 : (m_NB (tt j) (bb j) n 0).2 ≤ (m_NB (tt j) (bb j) n 1).2
    · rw [if_pos c3, if_pos c3, if_neg (by decide)]
      exact hA7
    · rw [if_neg c3, if_neg c3, if_pos rfl]
      exact hA8
  · rw [if_neg c1, if_neg c1]
    by_cases c2 : m_bsA (tt j) (bb j) (m_NB (tt j) (bb j) n 0) (m_NB (tt j) (bb j) n 1) < m_bsB (tt j) (bb j) (m_NB (tt j) (bb j) n 0) (m_NB (tt j) (bb j) n 1)
    · rw [if_pos c2, if_pos c2, if_neg (by decide)]
      exact hA7
    · rw [if_neg c2, if_neg c2, if_pos rfl]
      exact hA8
end RV7
