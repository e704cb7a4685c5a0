/-! ===== the simplest one, side by side ===== -/
/-- what is cut to w lies within the row -/
theorem q_rng {T B p w : Int} {md : Int32} (hB : 0 < B) (hp : 0 < p) (h : q_cP T B p md w) : (w - 1) * B / p ≤ T ∧ T ≤ (w + 1) * B / p := by
  have b1 := q_cPb h
  have d1 := Int.emod_add_mul_ediv (T * p) B
  have d2 := Int.emod_nonneg (T * p) (show B ≠ 0 by omega)
  have d3 := Int.emod_lt_of_pos (T * p) hB
  rw [Int.mul_comm B (T * p / B)] at d1
  constructor
  · have h1 : (w - 1) * B ≤ T * p / B * B := Int.mul_le_mul_of_nonneg_right (by omega) (by omega)
    have h2 : (w - 1) * B / p ≤ T * p / p := Int.ediv_le_ediv hp (by omega)
    rw [Int.mul_ediv_cancel _ (by omega)] at h2
    exact h2
  · rw [Int.le_ediv_iff_mul_le hp]
    have h1 : (T * p / B + 1) * B ≤ (w + 1) * B := Int.mul_le_mul_of_nonneg_right (by omega) (by omega)
    rw [Int.add_mul, Int.one_mul] at h1
    omega
/-- the class's search -/
theorem q_smL {t b : Int64} {k : Nat} {md : Int32} {w : Int64} {n0 : Nat} (hn0 : n0 ≤ 100) (hno : ∀ n, 1 ≤ n → n < n0 → f_cutNum (f_floorOf (t * lN n) b) (lN n) (nI k) md ≠ w ∧ f_cutNum (f_floorOf (t * lN n) b + 1) (lN n) (nI k) md ≠ w) :
    ∀ (m n : Nat), 1 ≤ n → n ≤ n0 → n0 < n + m → (f_cutNum (f_floorOf (t * lN n0) b) (lN n0) (nI k) md = w → smL t b (nI k) md w m n = some (f_floorOf (t * lN n0) b, lN n0)) ∧ (f_cutNum (f_floorOf (t * lN n0) b) (lN n0) (nI k) md ≠ w → f_cutNum (f_floorOf (t * lN n0) b + 1) (lN n0) (nI k) md = w → smL t b (nI k) md w m n = some (f_floorOf (t * lN n0) b + 1, lN n0)) := by
  intro m
  induction m with
  | zero => intro n h1 h2 h3; omega
  | succ m ih =>
    intro n h1 h2 h3
    unfold smL
    by_cases e : n = n0
    · subst e
      refine ⟨fun z => by rw [if_pos z], fun z y => by rw [if_neg z, if_pos y]⟩
    · obtain ⟨a1, a2⟩ := hno n h1 (by omega)
      rw [if_neg a1, if_neg a2]
      exact ih (n + 1) (by omega) (by omega) (by omega)
theorem q_pow2 {k : Nat} (hk : k ≤ 2) : 1 ≤ (m_pow (nI k)).toInt ∧ (m_pow (nI k)).toInt ≤ 100 := by
  have hall : ∀ i : Fin 3, 1 ≤ (m_pow (nI i.val)).toInt ∧ (m_pow (nI i.val)).toInt ≤ 100 := by decide +kernel
  exact hall ⟨k, by omega⟩
section RV13
variable {g g1 : CS} {kn : Int32} {tt bb : Nat → Int64} {eT eB oT oB : Int64} {pk : Nat} {ca rf : Int32} {vs : Nat → Value} {n9 : Nat}
theorem s_smp (h : RV g kn tt bb eT eB oT oB pk ca rf vs n9) {i j : Nat} (hi : i < 6) (hj : j < 6) {k : Nat} (hk : k ≤ 2) {md : Int32} (hmd : md = 0 ∨ md = 1 ∨ md = 2 ∨ md = 3 ∨ md = 4) {p : Int64 × Int64} (hP : m_SMP (tt j) (bb j) k md p) : SMV kn tt bb eT eB oT oB pk ca rf vs n9 i (some p) (f_setR (f_sm g 6 j (nI k) md) i) (f_setW (f_sm g 6 j (nI k) md) i) := by
  obtain ⟨a1, a2, a3, a4⟩ := h.1 j hj
  obtain ⟨n, T, n1, n2, hT, rfl, hc, hlow, hleast⟩ := hP
  obtain ⟨b1, b2, b3⟩ := id a3
  have hpw := q_pow2 hk
  obtain ⟨P, hPd⟩ : ∃ P : Int, P = (m_pow (nI k)).toInt := ⟨_, rfl⟩
  rw [← hPd] at hpw hlow hleast
  have hln := q_lNt (k := n) (by omega)
  -- the number itself
  obtain ⟨c1, c2⟩ := q_cutI (T := tt j) (B := bb j) (k := k) (by omega) hmd (by
    rw [← hPd]
    have := Nat.mul_le_mul b1 (show P.natAbs ≤ 100 by omega)
    omega) b2 (by omega)
  obtain ⟨w, hw⟩ : ∃ w, w = m_cut (tt j) (bb j) (nI k) md := ⟨_, rfl⟩
  rw [← hPd, ← hw] at c1
  rw [← hw] at c2 hc hlow hleast
  -- any top by a small bottom
  have hcut : ∀ (m : Nat) (X : Int64), 1 ≤ m → m ≤ 100 → X.toInt.natAbs ≤ 20000000000000 → q_cP X.toInt (m : Int) P md (m_cut X (lN m) (nI k) md).toInt ∧ f_cutNum X (lN m) (nI k) md = m_cut X (lN m) (nI k) md := by
    intro m X m1 m2 hX
    have hlm := q_lNt (k := m) (by omega)
    obtain ⟨d1, d2⟩ := q_cutI (T := X) (B := lN m) (k := k) (by omega) hmd (by
      rw [← hPd]
      have := Nat.mul_le_mul hX (show P.natAbs ≤ 100 by omega)
      omega) (by omega) (by omega)
    rw [← hPd, hlm] at d1
    exact ⟨d1, d2⟩
  -- the FLOOR at a bottom
  have hfl : ∀ m : Nat, 1 ≤ m → m ≤ 100 → (f_floorOf (tt j * lN m) (bb j)).toInt = (tt j).toInt * (m : Int) / (bb j).toInt ∧ (f_floorOf (tt j * lN m) (bb j)).toInt.natAbs ≤ 100000000001 ∧ (f_floorOf (tt j * lN m) (bb j) + 1).toInt = (tt j).toInt * (m : Int) / (bb j).toInt + 1 := by
    intro m m1 m2
    have hlm := q_lNt (k := m) (by omega)
    obtain ⟨x1, x2⟩ := m_mulB (x := tt j) (y := lN m) (B := 1000000000) (C := 100) b1 (by omega) (by decide)
    have x3 := m_floorB (a := tt j * lN m) (b := bb j) (B := 1000000000 * 100) x2 (by decide) b2
    rw [q_ffl (by omega) b2]
    have x4 := q_mfl (a := tt j * lN m) (b := bb j) (by omega) b2
    rw [x1, hlm] at x4
    obtain ⟨x5, -⟩ := m_addB (x := m_floor (tt j * lN m) (bb j)) (y := 1) (B := 1000000000 * 100 + 1) (C := 1) x3 (by decide) (by decide)
    exact ⟨x4, by omega, by rw [x5, x4]; rfl⟩
  -- a hit by a bottom is in the row
  have hit : ∀ (m : Nat) (X : Int64), 1 ≤ m → m ≤ 100 → X.toInt.natAbs ≤ 20000000000000 → m_cut X (lN m) (nI k) md = w → (w.toInt - 1) * (m : Int) / P ≤ X.toInt ∧ X.toInt ≤ (w.toInt + 1) * (m : Int) / P + 1 := by
    intro m X m1 m2 hX e
    have d1 := (hcut m X m1 m2 hX).1
    rw [e] at d1
    have := q_rng (by omega) (by omega) d1
    omega
  have hno : ∀ (m : Nat) (X : Int64), 1 ≤ m → m < n → X.toInt.natAbs ≤ 20000000000000 → m_cut X (lN m) (nI k) md ≠ w := by
    intro m X m1 m2 hX e
    obtain ⟨y1, y2⟩ := hit m X m1 (by omega) hX e
    exact hlow m X m1 m2 y1 y2 e
  obtain ⟨F, hF⟩ : ∃ F, F = f_floorOf (tt j * lN n) (bb j) := ⟨_, rfl⟩
  obtain ⟨f1, f2, f3⟩ := hfl n n1 n2
  rw [← hF] at f1 f2 f3
  have hF1b : (F + 1).toInt.natAbs ≤ 20000000000000 := by omega
  have hTc := (hcut n T n1 n2 hT).1
  rw [hc] at hTc
  have dm := Int.emod_add_mul_ediv ((tt j).toInt * (n : Int)) (bb j).toInt
  have dn := Int.emod_nonneg ((tt j).toInt * (n : Int)) (show (bb j).toInt ≠ 0 by omega)
  have dp := Int.emod_lt_of_pos ((tt j).toInt * (n : Int)) (show 0 < (bb j).toInt by omega)
  rw [Int.mul_comm (bb j).toInt ((tt j).toInt * (n : Int) / (bb j).toInt)] at dm
  -- between what hits and the number all hits
  have hFle : F.toInt * (bb j).toInt ≤ (tt j).toInt * (n : Int) := by rw [f1]; omega
  have hF1ge : (tt j).toInt * (n : Int) ≤ (F + 1).toInt * (bb j).toInt := by
    rw [f3, Int.add_mul, Int.one_mul]
    omega
  have key : (F.toInt = T.toInt ∧ f_cutNum F (lN n) (nI k) md = w) ∨ ((F + 1).toInt = T.toInt ∧ f_cutNum F (lN n) (nI k) md ≠ w ∧ f_cutNum (F + 1) (lN n) (nI k) md = w) := by
    obtain ⟨u1, u2⟩ := hcut n F n1 n2 (by omega)
    obtain ⟨v1, v2⟩ := hcut n (F + 1) n1 n2 hF1b
    have hn0 : (0 : Int) < (n : Int) := by omega
    rcases Int.lt_or_le F.toInt T.toInt with z | z
    · -- above the number
      right
      have z1 : (F + 1).toInt ≤ T.toInt := by omega
      have e1 := q_cPm (by omega) hn0 (by omega) c1 v1 (by exact hF1ge)
      have e2 := q_cPm hn0 hn0 (by omega) v1 hTc (Int.mul_le_mul_of_nonneg_right z1 (by omega))
      have e3 : m_cut (F + 1) (lN n) (nI k) md = w := Int64.toInt_inj.mp (by omega)
      have e4 : (F + 1).toInt = T.toInt := by
        rcases Int.lt_or_eq_of_le z1 with y | y
        · obtain ⟨y1, y2⟩ := hit n (F + 1) n1 n2 hF1b e3
          exact absurd e3 (hleast (F + 1) y1 y)
        · exact y
      refine ⟨e4, ?_, by rw [v2]; exact e3⟩
      rw [u2]
      intro e5
      obtain ⟨y1, y2⟩ := hit n F n1 n2 (by omega) e5
      exact hleast F y1 z e5
    · left
      have e1 := q_cPm hn0 (by omega) (by omega) u1 c1 (by exact hFle)
      have e2 := q_cPm hn0 hn0 (by omega) hTc u1 (Int.mul_le_mul_of_nonneg_right z (by omega))
      have e3 : m_cut F (lN n) (nI k) md = w := Int64.toInt_inj.mp (by omega)
      refine ⟨?_, by rw [u2]; exact e3⟩
      rcases Int.lt_or_eq_of_le z with y | y
      · exfalso
        rcases Nat.eq_or_lt_of_le n1 with q | q
        · -- by the bottom 1: whole numbers
          have q1 : n = 1 := q.symm
          subst q1
          have w1 : w.toInt = T.toInt * P := by
            rcases hTc with ⟨m1, m2⟩ | ⟨m1, m2, m3⟩ | ⟨m1, m2, m3⟩
            · rw [m2]; exact Int.ediv_one _
            · rw [show ((1 : Nat) : Int) = 1 from rfl, Int.ediv_one, Int.mul_one] at m1; omega
            · rw [show ((1 : Nat) : Int) = 1 from rfl, Int.ediv_one, Int.mul_one] at m1; omega
          rw [e3] at u1
          have w2 : w.toInt = F.toInt * P := by
            rcases u1 with ⟨m1, m2⟩ | ⟨m1, m2, m3⟩ | ⟨m1, m2, m3⟩
            · rw [m2]; exact Int.ediv_one _
            · rw [show ((1 : Nat) : Int) = 1 from rfl, Int.ediv_one, Int.mul_one] at m1; omega
            · rw [show ((1 : Nat) : Int) = 1 from rfl, Int.ediv_one, Int.mul_one] at m1; omega
          have := Int.mul_lt_mul_of_pos_right y (show 0 < P by omega)
          omega
        · -- a smaller bottom would do
          obtain ⟨m, rfl⟩ : ∃ m, n = m + 1 := ⟨n - 1, by omega⟩
          have hq := Int.emod_add_mul_ediv T.toInt ((m + 1 : Nat) : Int)
          have hq1 := Int.emod_nonneg T.toInt (show ((m + 1 : Nat) : Int) ≠ 0 by omega)
          have hq2 := Int.emod_lt_of_pos T.toInt (show 0 < ((m + 1 : Nat) : Int) by omega)
          obtain ⟨Q, hQ⟩ : ∃ Q, Q = T.toInt / ((m + 1 : Nat) : Int) := ⟨_, rfl⟩
          rw [← hQ] at hq
          have hcast : ((m + 1 : Nat) : Int) = (m : Int) + 1 := by omega
          rw [hcast] at hq hq1 hq2 hQ hTc u1
          have hQb : Q.natAbs ≤ 20000000000000 := by
            rw [hQ, ← hcast]
            have := Int.natAbs_ediv_le_natAbs T.toInt ((m + 1 : Nat) : Int)
            omega
          obtain ⟨x1, -⟩ := m_subB (x := T) (y := Int64.ofInt Q) (B := 20000000000000) (C := 20000000000000) hT (by rw [Int64.toInt_ofInt_of_le (by omega) (by omega)]; exact hQb) (by decide)
          rw [Int64.toInt_ofInt_of_le (by omega) (by omega)] at x1
          obtain ⟨X, hX⟩ : ∃ X, X = T - Int64.ofInt Q := ⟨_, rfl⟩
          rw [← hX] at x1
          have hXm : X.toInt * ((m : Int) + 1) = T.toInt * (m : Int) + T.toInt % ((m : Int) + 1) := by
            rw [x1]
            have : (T.toInt - Q) * ((m : Int) + 1) = T.toInt * (m : Int) + T.toInt - ((m : Int) + 1) * Q := by grind
            omega
          have hXb : X.toInt.natAbs ≤ 20000000000000 := by
            have h5 : (X.toInt * ((m : Int) + 1)).natAbs = X.toInt.natAbs * (m + 1) := by rw [Int.natAbs_mul]; congr 1
            have h6 : (T.toInt * (m : Int)).natAbs = T.toInt.natAbs * m := by rw [Int.natAbs_mul]; congr 1
            rcases Int.le_total 0 T.toInt with s | s
            · have s1 : 0 ≤ Q := by rw [hQ]; exact Int.ediv_nonneg s (by omega)
              have s2 : 0 ≤ X.toInt := by
                rcases Int.lt_or_le X.toInt 0 with s3 | s3
                · have s4 := Int.mul_lt_mul_of_pos_right s3 (show 0 < (m : Int) + 1 by omega)
                  have s5 : 0 ≤ T.toInt * (m : Int) := Int.mul_nonneg s (by omega)
                  rw [Int.zero_mul] at s4
                  omega
                · exact s3
              omega
            · have s1 : Q ≤ 0 := by
                rcases Int.lt_or_le 0 Q with s3 | s3
                · have s4 := Int.mul_lt_mul_of_pos_left s3 (show 0 < (m : Int) + 1 by omega)
                  rw [Int.mul_zero] at s4
                  omega
                · exact s3
              have s2 : X.toInt ≤ 0 := by
                rcases Int.lt_or_le 0 X.toInt with s3 | s3
                · -- X is at most 0, since T is
                  have s6 : X.toInt * ((m : Int) + 1) < (m : Int) + 1 := by
                    rw [hXm]
                    have : T.toInt * (m : Int) ≤ 0 := by
                      have := Int.mul_le_mul_of_nonneg_right s (show 0 ≤ (m : Int) by omega)
                      rw [Int.zero_mul] at this
                      exact this
                    omega
                  have s7 := Int.mul_le_mul_of_nonneg_right (show 1 ≤ X.toInt by omega) (show 0 ≤ (m : Int) + 1 by omega)
                  rw [Int.one_mul] at s7
                  omega
                · exact s3
              omega
          have hm1 : 1 ≤ m := by omega
          obtain ⟨v3, -⟩ := hcut m X hm1 (by omega) hXb
          have g1 := q_cPm (T := T.toInt) (B := (m : Int) + 1) (T2 := X.toInt) (B2 := (m : Int)) (by omega) (by omega) (by omega) hTc v3 (by rw [hXm]; omega)
          rw [e3] at u1
          have g2 := q_cPm (T := X.toInt) (B := (m : Int)) (T2 := F.toInt) (B2 := (m : Int) + 1) (by omega) (by omega) (by omega) v3 u1 (by
            rw [hXm]
            have s1 := Int.mul_le_mul_of_nonneg_right (show T.toInt + 1 ≤ F.toInt by omega) (show 0 ≤ (m : Int) by omega)
            rw [Int.add_mul, Int.one_mul] at s1
            omega)
          exact hno m X hm1 (by omega) hXb (Int64.toInt_inj.mp (by omega))
      · exact y.symm
  have hnoC : ∀ m, 1 ≤ m → m < n → f_cutNum (f_floorOf (tt j * lN m) (bb j)) (lN m) (nI k) md ≠ w ∧ f_cutNum (f_floorOf (tt j * lN m) (bb j) + 1) (lN m) (nI k) md ≠ w := by
    intro m m1 m2
    obtain ⟨q1, q2, q3⟩ := hfl m m1 (by omega)
    have r1 := (hcut m (f_floorOf (tt j * lN m) (bb j)) m1 (by omega) (by omega)).2
    have r2 := (hcut m (f_floorOf (tt j * lN m) (bb j) + 1) m1 (by omega) (by omega)).2
    rw [r1, r2]
    exact ⟨hno m _ m1 m2 (by omega), hno m _ m1 m2 (by omega)⟩
  -- n is at most 10 ^ k: the number cut, told by that bottom, is cut to itself
  have hnP : (n : Int) ≤ P := by
    rcases Int.lt_or_le P (n : Int) with z | z
    · exfalso
      obtain ⟨m, hm⟩ : ∃ m : Nat, (m : Int) = P := ⟨P.toNat, by omega⟩
      have hwb : w.toInt.natAbs ≤ 20000000000000 := by
        have y1 := q_cPb c1
        have y2 := Nat.mul_le_mul b1 (show P.natAbs ≤ 100 by omega)
        rw [← Int.natAbs_mul] at y2
        have y3 := Int.natAbs_ediv_le_natAbs ((tt j).toInt * P) (bb j).toInt
        omega
      have v4 := (hcut m w (by omega) (by omega) hwb).1
      refine hno m w (by omega) (by omega) hwb (Int64.toInt_inj.mp ?_)
      have v5 : q_cP w.toInt (m : Int) P md w.toInt := by
        left
        rw [hm, Int.mul_ediv_cancel _ (by omega)]
        exact ⟨by omega, rfl⟩
      exact q_cP1 v4 v5
    · exact z
  obtain ⟨s1, s2⟩ := q_smL (t := tt j) (b := bb j) (k := k) (md := md) (w := w) (n0 := n) n2 hnoC P.toNat 1 (by omega) n1 (by omega)
  rw [← hF] at s1 s2
  have hO : f_smO g j (nI k) md = some (T, lN n) := by
    unfold f_smO
    rw [a1, a2, c2, q_pow (by omega), ← hPd]
    rcases key with ⟨k1, k2⟩ | ⟨k1, k2, k3⟩
    · rw [s1 k2, Int64.toInt_inj.mp k1]
    · rw [s2 k2 k3, Int64.toInt_inj.mp k1]
  unfold f_sm
  rw [hO]
  dsimp only
  exact h.bec (lz_rf g) hi (by omega) (by omega) (m_ne0 (by omega)) rfl rfl
end RV13
