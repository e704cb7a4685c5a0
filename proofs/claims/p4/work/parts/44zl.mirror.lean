/-! ===== the simplest one, side by side ===== -/
/-- what is cut to w lies within the row -/
theorem q_rng {T B p w : Int} {md : Int32} (hB : 0 < B) (hp : 0 < p) (h : q_cP T B p md w) : (w - 1) * B / p ≤ T ∧ T ≤ (w + 1) * B / p := by
  have b1 := q_cPb h
  have d1 := Int.emod_add_mul_ediv (T * p) B
  have d2 := Int.emod_nonneg (T * p) (show B ≠ 0 by omega)
  have d3 := Int.emod_lt_of_pos (T * p) hB
  rw [Int.mul_comm B (T * p / B)] at d1
  constructor
  · have h1 : (w - 1) * B ≤ T * p / B * B := Int.mul_le_mul_of_nonneg_right (by omega) (by omega)
    have h2 : (w - 1) * B / p ≤ T * p / p := Int.ediv_le_ediv hp (by omega)
    rw [Int.mul_ediv_cancel _ (by omega)] at h2
    exact h2
  · rw [Int.le_ediv_iff_mul_le hp]
    have h1 : (T * p / B + 1) * B ≤ (w + 1) * B := Int.mul_le_mul_of_nonneg_right (by omega) (by omega)
    rw [Int.add_mul, Int.one_mul] at h1
    omega
/-- the class's search -/
theorem q_smL {t b : Int64} {k : Nat} {md : Int32} {w : Int64} {n0 : Nat} (hn0 : n0 ≤ 100) (hno : ∀ n, 1 ≤ n → n < n0 → f_cutNum (f_floorOf (t * lN n) b) (lN n) (nI k) md ≠ w ∧ f_cutNum (f_floorOf (t * lN n) b + 1) (lN n) (nI k) md ≠ w) :
    ∀ (m n : Nat), 1 ≤ n → n ≤ n0 → n0 < n + m → (f_cutNum (f_floorOf (t * lN n0) b) (lN n0) (nI k) md = w → smL t b (nI k) md w m n = some (f_floorOf (t * lN n0) b, lN n0)) ∧ (f_cutNum (f_floorOf (t * lN n0) b) (lN n0) (nI k) md ≠ w → f_cutNum (f_floorOf (t * lN n0) b + 1) (lN n0) (nI k) md = w → smL t b (nI k) md w m n = some (f_floorOf (t * lN n0) b + 1, lN n0)) := by
  intro m
  induction m with
  | zero => intro n h1 h2 h3; omega
  | succ m ih =>
    intro n h1 h2 h3
    unfold smL
    by_cases e : n = n0
    · subst e
      refine ⟨fun z => by rw [if_pos z], fun z y => by rw [if_neg z, if_pos y]⟩
    · obtain ⟨a1, a2⟩ := hno n h1 (by omega)
      rw [if_neg a1, if_neg a2]
      exact ih (n + 1) (by omega) (by omega) (by omega)
theorem q_pow2 {k : Nat} (hk : k ≤ 2) : 1 ≤ (m_pow (nI k)).toInt ∧ (m_pow (nI k)).toInt ≤ 100 := by
  have hall : ∀ i : Fin 3, 1 ≤ (m_pow (nI i.val)).toInt ∧ (m_pow (nI i.val)).toInt ≤ 100 := by decide +kernel
  exact hall ⟨k, by omega⟩
section RV13
variable {g g1 : CS} {kn : Int32} {tt bb : Nat → Int64} {eT eB oT oB : Int64} {pk : Nat} {ca rf : Int32} {vs : Nat → Value} {n9 : Nat}
theorem s_smp (h : RV g kn tt bb eT eB oT oB pk ca rf vs n9) {i j : Nat} (hi : i < 6) (hj : j < 6) {k : Nat} (hk : k ≤ 2) {md : Int32} (hmd : md = 0 ∨ md = 1 ∨ md = 2 ∨ md = 3 ∨ md = 4) {p : Int64 × Int64} (hP : m_SMP (tt j) (bb j) k md p) : SMV kn tt bb eT eB oT oB pk ca rf vs n9 i (some p) (f_setR (f_sm g 6 j (nI k) md) i) (f_setW (f_sm g 6 j (nI k) md) i) := by
  obtain ⟨a1, a2, a3, a4⟩ := h.1 j hj
  obtain ⟨n, T, n1, n2, hT, rfl, hc, hlow, hleast⟩ := hP
  obtain ⟨b1, b2, b3⟩ := id a3
  have hpw := q_pow2 hk
  obtain ⟨P, hPd⟩ : ∃ P : Int, P = (m_pow (nI k)).toInt := ⟨_, rfl⟩
  rw [← hPd] at hpw hlow hleast
  have hln := q_lNt (k := n) (by omega)
  -- the number itself
  obtain ⟨c1, c2⟩ := q_cutI (T := tt j) (B := bb j) (k := k) (by omega) hmd (by
    rw [← hPd]
    have := Nat.mul_le_mul b1 (show P.natAbs ≤ 100 by omega)
    omega) b2 (by omega)
  obtain ⟨w, hw⟩ : ∃ w, w = m_cut (tt j) (bb j) (nI k) md := ⟨_, rfl⟩
  rw [← hPd, ← hw] at c1
  rw [← hw] at c2 hc hlow hleast
  -- any top by a small bottom
  have hcut : ∀ (m : Nat) (X : Int64), 1 ≤ m → m ≤ 100 → X.toInt.natAbs ≤ 20000000000000 → q_cP X.toInt (m : Int) P md (m_cut X (lN m) (nI k) md).toInt ∧ f_cutNum X (lN m) (nI k) md = m_cut X (lN m) (nI k) md := by
    intro m X m1 m2 hX
    have hlm := q_lNt (k := m) (by omega)
    obtain ⟨d1, d2⟩ := q_cutI (T := X) (B := lN m) (k := k) (by omega) hmd (by
      rw [← hPd]
      have := Nat.mul_le_mul hX (show P.natAbs ≤ 100 by omega)
      omega) (by omega) (by omega)
    rw [← hPd, hlm] at d1
    exact ⟨d1, d2⟩
  -- the FLOOR at a bottom
  have hfl : ∀ m : Nat, 1 ≤ m → m ≤ 100 → (f_floorOf (tt j * lN m) (bb j)).toInt = (tt j).toInt * (m : Int) / (bb j).toInt ∧ (f_floorOf (tt j * lN m) (bb j)).toInt.natAbs ≤ 100000000001 ∧ (f_floorOf (tt j * lN m) (bb j) + 1).toInt = (tt j).toInt * (m : Int) / (bb j).toInt + 1 := by
    intro m m1 m2
    have hlm := q_lNt (k := m) (by omega)
    obtain ⟨x1, x2⟩ := m_mulB (x := tt j) (y := lN m) (B := 1000000000) (C := 100) b1 (by omega) (by decide)
    have x3 := m_floorB (a := tt j * lN m) (b := bb j) (B := 1000000000 * 100) x2 (by decide) b2
    rw [q_ffl (by omega) b2]
    have x4 := q_mfl (a := tt j * lN m) (b := bb j) (by omega) b2
    rw [x1, hlm] at x4
    obtain ⟨x5, -⟩ := m_addB (x := m_floor (tt j * lN m) (bb j)) (y := 1) (B := 1000000000 * 100 + 1) (C := 1) x3 (by decide) (by decide)
    exact ⟨x4, by omega, by rw [x5, x4]; rfl⟩
  -- a hit by a bottom is in the row
  have hit : ∀ (m : Nat) (X : Int64), 1 ≤ m → m ≤ 100 → X.toInt.natAbs ≤ 20000000000000 → m_cut X (lN m) (nI k) md = w → (w.toInt - 1) * (m : Int) / P ≤ X.toInt ∧ X.toInt ≤ (w.toInt + 1) * (m : Int) / P + 1 := by
    intro m X m1 m2 hX e
    have d1 := (hcut m X m1 m2 hX).1
    rw [e] at d1
    have := q_rng (by omega) (by omega) d1
    omega
  have hno : ∀ (m : Nat) (X : Int64), 1 ≤ m → m < n → X.toInt.natAbs ≤ 20000000000000 → m_cut X (lN m) (nI k) md ≠ w := by
    intro m X m1 m2 hX e
    obtain ⟨y1, y2⟩ := hit m X m1 (by omega) hX e
    exact hlow m X m1 m2 y1 y2 e
  obtain ⟨F, hF⟩ : ∃ F, F = f_floorOf (tt j * lN n) (bb j) := ⟨_, rfl⟩
  obtain ⟨f1, f2, f3⟩ := hfl n n1 n2
  rw [← hF] at f1 f2 f3
  have hF1b : (F + 1).toInt.natAbs ≤ 20000000000000 := by omega
  have hTc := (hcut n T n1 n2 hT).1
  rw [hc] at hTc
  have dm := Int.emod_add_mul_ediv ((tt j).toInt * (n : Int)) (bb j).toInt
  have dn := Int.emod_nonneg ((tt j).toInt * (n : Int)) (show (bb j).toInt ≠ 0 by omega)
  have dp := Int.emod_lt_of_pos ((tt j).toInt * (n : Int)) (show 0 < (bb j).toInt by omega)
  rw [Int.mul_comm (bb j).toInt ((tt j).toInt * (n : Int) / (bb j).toInt)] at dm
  -- between what hits and the number all hits
  have hFle : F.toInt * (bb j).toInt ≤ (tt j).toInt * (n : Int) := by rw [f1]; omega
  have hF1ge : (tt j).toInt * (n : Int) ≤ (F + 1).toInt * (bb j).toInt := by
    rw [f3, Int.add_mul, Int.one_mul]
    omega
  have key : (F.toInt = T.toInt ∧ f_cutNum F (lN n) (nI k) md = w) ∨ ((F + 1).toInt = T.toInt ∧ f_cutNum F (lN n) (nI k) md ≠ w ∧ f_cutNum (F + 1) (lN n) (nI k) md = w) := by
    obtain ⟨u1, u2⟩ := hcut n F n1 n2 (by omega)
    obtain ⟨v1, v2⟩ := hcut n (F + 1) n1 n2 hF1b
    have hn0 : (0 : Int) < (n : Int) := by omega
    rcases Int.lt_or_le F.toInt T.toInt with z | z
    · -- above the number
      right
      have z1 : (F + 1).toInt ≤ T.toInt := by omega
      have e1 := q_cPm (by omega) hn0 (by omega) c1 v1 (by exact hF1ge)
      have e2 := q_cPm hn0 hn0 (by omega) v1 hTc (Int.mul_le_mul_of_nonneg_right z1 (by omega))
      have e3 : m_cut (F + 1) (lN n) (nI k) md = w := Int64.toInt_inj.mp (by omega)
      have e4 : (F + 1).toInt = T.toInt := by
        rcases Int.lt_or_eq_of_le z1 with y | y
        · obtain ⟨y1, y2⟩ := hit n (F + 1) n1 n2 hF1b e3
          exact absurd e3 (hleast (F + 1) y1 y)
        · exact y
      refine ⟨e4, ?_, by rw [v2]; exact e3⟩
      rw [u2]
      intro e5
      obtain ⟨y1, y2⟩ := hit n F n1 n2 (by omega) e5
      exact hleast F y1 z e5
    · left
      have e1 := q_cPm hn0 (by omega) (by omega) u1 c1 (by exact hFle)
      have e2 := q_cPm hn0 hn0 (by omega) hTc u1 (Int.mul_le_mul_of_nonneg_right z (by omega))
      have e3 : m_cut F (lN n) (nI k) md = w := Int64.toInt_inj.mp (by omega)
      refine ⟨?_, by rw [u2]; exact e3⟩
      rcases Int.lt_or_eq_of_le z with y | y
      · exfalso
        rcases Nat.eq_or_lt_of_le n1 with q | q
        · -- by the bottom 1: whole numbers
          have q1 : n = 1 := q.symm
          subst q1
          have w1 : w.toInt = T.toInt * P := by
            rcases hTc with ⟨m1, m2⟩ | ⟨m1, m2, m3⟩ | ⟨m1, m2, m3⟩
            · rw [m2]; exact Int.ediv_one _
            · rw [show ((1 : Nat) : Int) = 1 from rfl, Int.ediv_one, Int.mul_one] at m1; omega
            · rw [show ((1 : Nat) : Int) = 1 from rfl, Int.ediv_one, Int.mul_one] at m1; omega
          rw [e3] at u1
          have w2 : w.toInt = F.toInt * P := by
            rcases u1 with ⟨m1, m2⟩ | ⟨m1, m2, m3⟩ | ⟨m1, m2, m3⟩
            · rw [m2]; exact Int.ediv_one _
            · rw [show ((1 : Nat) : Int) = 1 from rfl, Int.ediv_one, Int.mul_one] at m1; omega
            · rw [show ((1 : Nat) : Int) = 1 from rfl, Int.ediv_one, Int.mul_one] at m1; omega
          have := Int.mul_lt_mul_of_pos_right y (show 0 < P by omega)
          omega
        · -- a smaller bottom would do
          obtain ⟨m, rfl⟩ : ∃ m, n = m + 1 := ⟨n - 1, by omega⟩
          have hq := Int.emod_add_mul_ediv T.toInt ((m + 1 : Nat) : Int)
          have hq1 := Int.emod_nonneg T.toInt (show ((m + 1 : Nat) : Int) ≠ 0 by omega)
          have hq2 := Int.emod_lt_of_pos T.toInt (show 0 < ((m + 1 : Nat) : Int) by omega)
          obtain ⟨Q, hQ⟩ : ∃ Q, Q = T.toInt / ((m + 1 : Nat) : Int) := ⟨_, rfl⟩
          rw [← hQ] at hq
          have hcast : ((m + 1 : Nat) : Int) = (m : Int) + 1 := by omega
          rw [hcast] at hq hq1 hq2 hQ hTc u1
          have hQb : Q.natAbs ≤ 20000000000000 := by
            rw [hQ, ← hcast]
            have := Int.natAbs_ediv_le_natAbs T.toInt ((m + 1 : Nat) : Int)
            omega
          obtain ⟨x1, -⟩ := m_subB (x := T) (y := Int64.ofInt Q) (B := 20000000000000) (C := 20000000000000) hT (by rw [Int64.toInt_ofInt_of_le (by omega) (by omega)]; exact hQb) (by decide)
          rw [Int64.toInt_ofInt_of_le (by omega) (by omega)] at x1
          obtain ⟨X, hX⟩ : ∃ X, X = T - Int64.ofInt Q := ⟨_, rfl⟩
          rw [← hX] at x1
          have hXm : X.toInt * ((m : Int) + 1) = T.toInt * (m : Int) + T.toInt % ((m : Int) + 1) := by
            rw [x1]
            have : (T.toInt - Q) * ((m : Int) + 1) = T.toInt * (m : Int) + T.toInt - ((m : Int) + 1) * Q := by grind
            omega
          have hXb : X.toInt.natAbs ≤ 20000000000000 := by
            have h5 : (X.toInt * ((m : Int) + 1)).natAbs = X.toInt.natAbs * (m + 1) := by rw [Int.natAbs_mul]; congr 1
            have h6 : (T.toInt * (m : Int)).natAbs = T.toInt.natAbs * m := by rw [Int.natAbs_mul]; congr 1
            rcases Int.le_total 0 T.toInt with s | s
            · have s1 : 0 ≤ Q := by rw [hQ]; exact Int.ediv_nonneg s (by omega)
              have s2 : 0 ≤ X.toInt := by
                rcases Int.lt_or_le X.toInt 0 with s3 | s3
                · have s4 := Int.mul_lt_mul_of_pos_right s3 (show 0 < (m : Int) + 1 by omega)
                  have s5 : 0 ≤ T.toInt * (m : Int) := Int.mul_nonneg s (by omega)
                  rw [Int.zero_mul] at s4
                  omega
                · exact s3
              omega
            · have s1 : Q ≤ 0 := by
                rcases Int.lt_or_le 0 Q with s3 | s3
                · have s4 := Int.mul_lt_mul_of_pos_left s3 (show 0 < (m : Int) + 1 by omega)
                  rw [Int.mul_zero] at s4
                  omega
                · exact s3
              have s2 : X.toInt ≤ 0 := by
                rcases Int.lt_or_le 0 X.toInt with s3 | s3
                · -- X is at most 0, since T is
                  have s6 : X.toInt * ((m : Int) + 1) < (m : Int) + 1 := by
                    rw [hXm]
                    have : T.toInt * (m : Int) ≤ 0 := by
                      have := Int.mul_le_mul_of_nonneg_right s (show 0 ≤ (m : Int) by omega)
                      rw [Int.zero_mul] at this
                      exact this
                    omega
                  have s7 := Int.mul_le_mul_of_nonneg_right (show 1 ≤ X.toInt by omega) (show 0 ≤ (m : Int) + 1 by omega)
                  rw [Int.one_mul] at s7
                  omega
                · exact s3
              omega
          have hm1 : 1 ≤ m := by omega
          obtain ⟨v3, -⟩ := hcut m X hm1 (by omega) hXb
          have g1 := q_cPm (T := T.toInt) (B := (m : Int) + 1) (T2 := X.toInt) (B2 := (m : Int)) (by omega) (by omega) (by omega) hTc v3 (by rw [hXm]; omega)
          rw [e3] at u1
          have g2 := q_cPm (T := X.toInt) (B := (m : Int)) (T2 := F.toInt) (B2 := (m : Int) + 1) (by omega) (by omega) (by omega) v3 u1 (by
            rw [hXm]
            have s1 := Int.mul_le_mul_of_nonneg_right (show T.toInt + 1 ≤ F.toInt by omega) (show 0 ≤ (m : Int) by omega)
            rw [Int.add_mul, Int.one_mul] at s1
            omega)
          exact hno m X hm1 (by omega) hXb (Int64.toInt_inj.mp (by omega))
      · exact y.symm
  have hnoC : ∀ m, 1 ≤ m → m < n → f_cutNum (f_floorOf (tt j * lN m) (bb j)) (lN m) (nI k) md ≠ w ∧ f_cutNum (f_floorOf (tt j * lN m) (bb j) + 1) (lN m) (nI k) md ≠ w := by
    intro m m1 m2
    obtain ⟨q1, q2, q3⟩ := hfl m m1 (by omega)
    have r1 := (hcut m (f_floorOf (tt j * lN m) (bb j)) m1 (by omega) (by omega)).2
    have r2 := (hcut m (f_floorOf (tt j * lN m) (bb j) + 1) m1 (by omega) (by omega)).2
    rw [r1, r2]
    exact ⟨hno m _ m1 m2 (by omega), hno m _ m1 m2 (by omega)⟩
  -- n is at most 10 ^ k: the number cut, told by that bottom, is cut to itself
  have hnP : (n : Int) ≤ P := by
    rcases Int.lt_or_le P (n : Int) with z | z
    · exfalso
      obtain ⟨m, hm⟩ : ∃ m : Nat, (m : Int) = P := ⟨P.toNat, by omega⟩
      have hwb : w.toInt.natAbs ≤ 20000000000000 := by
        have y1 := q_cPb c1
        have y2 := Nat.mul_le_mul b1 (show P.natAbs ≤ 100 by omega)
        rw [← Int.natAbs_mul] at y2
        have y3 := Int.natAbs_ediv_le_natAbs ((tt j).toInt * P) (bb j).toInt
        omega
      have v4 := (hcut m w (by omega) (by omega) hwb).1
      refine hno m w (by omega) (by omega) hwb (Int64.toInt_inj.mp ?_)
      have v5 : q_cP w.toInt (m : Int) P md w.toInt := by
        left
        rw [hm, Int.mul_ediv_cancel _ (by omega)]
        exact ⟨by omega, rfl⟩
      exact q_cP1 v4 v5
    · exact z
  obtain ⟨s1, s2⟩ := q_smL (t := tt j) (b := bb j) (k := k) (md := md) (w := w) (n0 := n) n2 hnoC P.toNat 1 (by omega) n1 (by omega)
  rw [← hF] at s1 s2
  have hO : f_smO g j (nI k) md = some (T, lN n) := by
    unfold f_smO
    rw [a1, a2, c2, q_pow (by omega), ← hPd]
    rcases key with ⟨k1, k2⟩ | ⟨k1, k2, k3⟩
    · rw [s1 k2, Int64.toInt_inj.mp k1]
    · rw [s2 k2 k3, Int64.toInt_inj.mp k1]
  unfold f_sm
  rw [hO]
  dsimp only
  exact h.bec (lz_rf g) hi (by omega) (by omega) (m_ne0 (by omega)) rfl rfl
end RV13
/-! ===== the ROW, the TALLY, the house ===== -/
section RV14
variable {g g1 : CS} {kn : Int32} {tt bb : Nat → Int64} {eT eB oT oB : Int64} {pk : Nat} {ca rf : Int32} {vs : Nat → Value} {n9 : Nat}
theorem q_fdN {j c : Nat} (hc : tC g j = nI c) (hc2 : c ≤ 64) {i : Nat} (h1 : (tV g j i).toInt < 1) : ∀ (n : Nat), n < c → 1 ≤ i → i ≤ n → ∀ t b : Int64, foldL g j n t b = none := by
  intro n
  induction n with
  | zero => intro _ h2 h3; omega
  | succ n ih =>
    intro hn h2 h3 t b
    unfold foldL
    rw [q_at hc hc2 hn]
    by_cases e : i = n + 1
    · rw [← e, if_pos (q_lt1.mpr h1)]
    · split
      · rfl
      · split
        · rfl
        · exact ih (by omega) h2 (by omega) _ _
theorem s_fold (h : RV g kn tt bb eT eB oT oB pk ca rf vs n9) {i : Nat} (hi : i < 6) {o : Option (Int64 × Int64)} (ho : m_FO n9 vs o) : SMV kn tt bb eT eB oT oB pk ca rf vs n9 i o (f_fsR g 0 i) (f_fsW g 0 i) := by
  obtain ⟨c1, c2, c3⟩ := h.2.2.2.2
  have hv : ∀ k, k < n9 → tV g 0 k = m_rw vs k ∧ (m_rw vs k).toInt.natAbs ≤ 99999 := by
    intro k hk
    obtain ⟨x, x1, x2, x3⟩ := c3 k hk
    rw [q_rw x1]
    exact ⟨x2, by rw [Int32.toInt_toInt64]; exact x3⟩
  have hno : f_fold g 0 = none → SMV kn tt bb eT eB oT oB pk ca rf vs n9 i none (f_fsR g 0 i) (f_fsW g 0 i) := by
    intro e
    unfold f_fsR f_fsW f_foldR f_foldW
    rw [e]
    dsimp only
    rw [if_pos rfl, if_pos rfl]
    exact h.no (lz_rf g) i
  rcases ho with ⟨e, rfl⟩ | ⟨e, ⟨k, k1, k2, k3⟩, rfl⟩ | ⟨e, k1, rfl⟩
  · refine hno ?_
    unfold f_fold
    rw [c1, e, if_neg (by decide)]
  · refine hno ?_
    have e1 : nI n9 - 1 = nI (n9 - 1) := by
      obtain ⟨d, rfl⟩ : ∃ d, n9 = d + 1 := ⟨n9 - 1, by omega⟩
      rw [nI_pred]
      rfl
    unfold f_fold
    rw [c1, if_pos (show (1 : Int32) ≤ nI n9 from (nI_leI (a := 1) (by decide) (by omega)).mpr (by omega)), e1, nI_clamp (by omega)]
    exact q_fdN c1 (by omega) (by rw [(hv k k2).1]; exact k3) (n9 - 1) (by omega) k1 (by omega) _ _
  · exact h.fold (lz_rf g) hi c1 (by omega) (by omega) (fun k hk => (hv k hk).1) k1 (fun k hk => by have := (hv k hk).2; omega)
/-- say -/
theorem s_say (h : RV g kn tt bb eT eB oT oB pk ca rf vs n9) (hn : n9 < 16) {x : Int32} (hx : x.toInt.natAbs ≤ 99999) : tC (f_addLast g 0 x.toInt64) 0 = nI (n9 + 1) ∧ RV (f_addLast g 0 x.toInt64) kn tt bb eT eB oT oB pk ca rf (va_up vs n9 (.int x)) (n9 + 1) := by
  obtain ⟨h1, h2, h3, h4, c1, c2, c3⟩ := h
  rw [q_add c1 (by omega)]
  refine ⟨tC_uC _ _ _, h1, h2, h3, h4, tC_uC _ _ _, by omega, fun i hi => ?_⟩
  show ∃ y : Int32, va_up vs n9 (.int x) i = .int y ∧ tV (uV g 0 n9 x.toInt64) 0 i = y.toInt64 ∧ _
  rw [q_uV]
  by_cases e : i = n9
  · rw [e, va_up_self, va_up_self]
    exact ⟨x, rfl, rfl, hx⟩
  · rw [va_up_ne _ _ e, va_up_ne _ _ e]
    exact c3 i (by omega)
theorem s_uns (h : RV g kn tt bb eT eB oT oB pk ca rf vs n9) {k : Nat} (hk : k ≤ 16) : tC (f_uns g (nI k)) 0 = nI (n9 - k) ∧ RV (f_uns g (nI k)) kn tt bb eT eB oT oB pk ca rf vs (n9 - k) := by
  obtain ⟨h1, h2, h3, h4, c1, c2, c3⟩ := h
  have hset : ∀ m : Nat, m < n9 → f_keep g 0 (nI m) = uC g 0 (nI m) := by
    intro m hm
    unfold f_keep
    rw [if_neg (nI_pos (by omega)), c1, if_neg (fun z => absurd ((nI_leI (by omega) (by omega)).mp z) (by omega))]
  have hsame : ∀ m : Nat, n9 ≤ m → m ≤ 100 → f_keep g 0 (nI m) = g := by
    intro m hm hm2
    unfold f_keep
    rw [if_neg (nI_pos (by omega)), c1, if_pos ((nI_leI (by omega) (by omega)).mpr hm)]
  have hres : f_uns g (nI k) = f_keep g 0 (nI (n9 - k)) := by
    unfold f_uns
    rw [c1]
    by_cases c : n9 ≤ k
    · rw [if_pos ((nI_leI (by omega) (by omega)).mpr c), show n9 - k = 0 by omega]
      rfl
    · rw [if_neg (fun z => c ((nI_leI (by omega) (by omega)).mp z))]
      congr 1
      apply Int32.toInt_inj.mp
      rw [Int32.toInt_sub, nI_toInt (by omega), nI_toInt (by omega), nI_toInt (by omega)]
      simp only [Int.bmod]
      split <;> omega
  rw [hres]
  rcases Nat.lt_or_ge (n9 - k) n9 with z | z
  · rw [hset _ z]
    exact ⟨tC_uC _ _ _, h1, h2, h3, h4, tC_uC _ _ _, by omega, fun i hi => c3 i (by omega)⟩
  · have e : n9 - k = n9 := by omega
    rw [e, hsame n9 (Nat.le_refl _) (by omega)]
    exact ⟨c1, h1, h2, h3, h4, c1, c2, c3⟩
/-- knock -/
theorem s_kno (h : RV g kn tt bb eT eB oT oB pk ca rf vs n9) : RV (uI g 1 (tI g 1 + 1)) (kn + 1) tt bb eT eB oT oB pk ca rf vs n9 := by
  obtain ⟨h1, h2, h3, ⟨a1, a2, a3, a4, a5⟩, h5⟩ := h
  refine ⟨h1, h2, h3, ⟨?_, ?_, ?_, ?_, a5⟩, h5⟩
  · show va_up (tI g) 1 (tI g 1 + 1) 0 = _
    rw [va_up_ne _ _ (by decide), a1]
  · show va_up (tI g) 1 (tI g 1 + 1) 1 = _
    rw [va_up_self, a2]
  · show va_up (tI g) 1 (tI g 1 + 1) 2 = _
    rw [va_up_ne _ _ (by decide), a3]
  · show va_up (tI g) 1 (tI g 1 + 1) 3 = _
    rw [va_up_ne _ _ (by decide), a4]
theorem q_sum6 {t b u v : Int64} (h : m_F t b) (k : u.toInt.natAbs ≤ 10000000000002) (hv : 1 ≤ v.toInt ∧ v.toInt ≤ 1000000000) (hsm : u.toInt.natAbs ≤ 1000000000 ∨ (b.toInt ≤ 10000 ∧ v.toInt ≤ 10000)) {y : Int64} (hy : y.toInt = u.toInt * b.toInt) (i : Nat) :
    tT (f_gather g i t b u v) i = m_loT (t * v + y) (b * v) ∧ tB (f_gather g i t b u v) i = m_loB (t * v + y) (b * v) := by
  obtain ⟨x1, x2, x3, x4⟩ := q_gat (u := u) h k hv hsm hy
  unfold f_gather
  obtain ⟨y1, y2⟩ := q_bec6 x3 (by omega) (m_ne0 x4) g i
  exact ⟨y1.trans x1, y2.trans x2⟩
end RV14
set_option maxHeartbeats 4000000 in
set_option maxRecDepth 100000 in
/-- BestratiosModel.become(I[J)I -/
theorem c_X5_become_N (l : Launch) (D : va_G) (tk : Nat → ClassId) (N0 : Nat) (sa : Nat → Nat)  (sz : Nat) (P : Nat → Prop) (hPN : ∀ q, P q → N0 ≤ q) (hPs : ∀ q, sz ≤ q → P q) (mo n9 : Nat) (kn th : Int32) (tt bb : Nat → Int64) (eT eB oT oB : Int64) (pk : Nat) (ca rf : Int32) (vs : Nat → Value) (x : Int32) (k_x : Nat) (hx_x : x = nI k_x) (hk_x : k_x < 6) : Met l yX5_become (wsy yX5_become cX5_become 4 (some .int)) ({ frames := 1, cells := 0, slots := 0, locals := 20 } : Room) (cP D tk N0 sa [.ref mo, .int x, .null] sz (fun H => MI D tk sa P mo tt bb eT eB oT oB pk ca rf vs kn n9 th H)) (kQi (fun r H => ∃ tt1 bb1 rf1, MI D tk sa P mo tt1 bb1 eT eB oT oB pk ca rf1 vs kn n9 th H ∧ BE tt bb rf k_x none r tt1 bb1 rf1) (P)) (0) (0) (P) := by
  refine mStart RX5 rfl (by decide +kernel) (Nat.le_of_ble_eq_true rfl) ?_
  intro p e s m args below meth c E hr hlk hnm hsz hC hF ls hl
  subst hsz
  obtain ⟨hx, hb, -⟩ := id E
  have hA : ∀ q, (P) q → N0 ≤ q := hPN
  have hn : ∀ q, s.heap.size ≤ q → (P) q := hPs
  have hS : va_S (P) s.heap s.heap [] := va_S.rf
  have hl : lv_has ls 4 [(0, .ref mo), (1, .int x), (2, .null)] := hl
  have hM : MI D tk sa P mo tt bb eT eB oT oB pk ca rf vs kn n9 th s.heap := hF
  obtain ⟨ra, rl, ex, ro, rt, fo, fj, fk, fe, fr, fw, ⟨hPm, hPa, hPl, hPe, hPr, hPk⟩, hFk, hFe, hFr, hpk, hn9⟩ := hM
  have g_fo := hPm
  have g_fj := hPa
  refine lv_aload_nN (pc := 0) hx hb dX5_become_0 rfl (lv_at hl 2 rfl) ?_
  have hZ0_ := hS.1
  have t_fo := fo.lt
  have t_fj := fj.lt
  have t_fk := fun k (hk9 : k < 6) => (fk k hk9).lt
  have t_fe := fe.lt
  have t_fr := fr.lt
  refine k_i (pc := 1) (k_S E hC hS hA hl.1 (c_X5_isFit_N l D tk N0 sa s.heap.size  ) kw_1259 kw_1260 kw_5 kw_1261 (n := 1) (by decide +kernel) rfl ⟨⟨rfl, rfl⟩, ⟨Nat.le_of_ble_eq_true rfl, Nat.le_of_ble_eq_true rfl⟩, (by dsimp only; omega), (by dsimp only; omega)⟩ rfl (Nat.le_of_ble_eq_true rfl) trivial dX5_become_1) hS (fun q z w => absurd w (Nat.not_le.mpr z)) hn (fun r_1 H locs hR hz hk hS => ?_)
  have fw := fw.new hk
  have fo := fo.kept (hk _ fo.lt (Nat.not_le.mpr fo.lt))
  have fj := fj.kept (hk _ fj.lt (Nat.not_le.mpr fj.lt))
  have fk := fk.new hk
  have fe := fe.kept (hk _ fe.lt (Nat.not_le.mpr fe.lt))
  have fr := fr.kept (hk _ fr.lt (Nat.not_le.mpr fr.lt))
  rw [show r_1 = 0 from hR]
  refine lv_if_ne (pc := 4) (tgt := 12) hx hb dX5_become_4 (by decide) (fun c_2 => ?_) (fun c_2 => ?_)
  · exact absurd (by decide) c_2
  refine lv_aload_n (pc := 7) hx hb dX5_become_7 rfl (lv_at hl 0 rfl) ?_
  have hZ0_ := hS.1
  have t_fo := fo.lt
  have t_fj := fj.lt
  have t_fk := fun k (hk9 : k < 6) => (fk k hk9).lt
  have t_fe := fe.lt
  have t_fr := fr.lt
  refine k_i (pc := 8) (k_V E hC hS hA hl.1 (c1.recv hC fo rfl) rfl (c_X5_no l D tk N0 sa H.size P hPN (fun q h9 => hPs q (Nat.le_trans hS.1 h9)) mo n9 kn th tt bb eT eB oT oB pk ca rf vs  ) kw_1264 kw_1266 kp_22 kw_5 kw_1267 (n := 0) (by decide +kernel) rfl ⟨⟨rfl, rfl⟩, ⟨Nat.le_of_ble_eq_true rfl, Nat.le_of_ble_eq_true rfl⟩, (by dsimp only; omega), (by dsimp only; omega)⟩ rfl (Nat.le_of_ble_eq_true rfl) ⟨_, _, _, _, _, fo, fj, fk, fe, fr, fw, ⟨hPm, hPa, hPl, hPe, hPr, hPk⟩, hFk, hFe, hFr, hpk, hn9⟩ dX5_become_8) hS (fun q _ h => h) hn (fun r_3 H locs hR hz hk hS => ?_)
  obtain ⟨er_3, hM⟩ := hR
  obtain ⟨ra, rl, ex, ro, rt, fo, fj, fk, fe, fr, fw, ⟨hPm, hPa, hPl, hPe, hPr, hPk⟩, hFk, hFe, hFr, hpk, hn9⟩ := hM
  have g_fo := hPm
  have g_fj := hPa
  refine r_iret (pc := 11) E hr hlk hS (by omega) (by omega) ?_ dX5_become_11
  exact ⟨_, _, _, ⟨_, _, _, _, _, fo, fj, fk, fe, fr, fw, ⟨hPm, hPa, hPl, hPe, hPr, hPk⟩, hFk, hFe, hFr, hpk, hn9⟩, ⟨er_3, rfl, rfl, rfl⟩⟩
set_option maxHeartbeats 4000000 in
set_option maxRecDepth 100000 in
/-- BestratiosModel.put(III)I -/
theorem c_X5_put (l : Launch) (D : va_G) (tk : Nat → ClassId) (N0 : Nat) (sa : Nat → Nat)  (sz : Nat) (P : Nat → Prop) (hPN : ∀ q, P q → N0 ≤ q) (hPs : ∀ q, sz ≤ q → P q) (mo n9 : Nat) (kn th : Int32) (tt bb : Nat → Int64) (eT eB oT oB : Int64) (pk : Nat) (ca rf : Int32) (vs : Nat → Value) (x1 : Int32) (x2 : Int32) (x3 : Int32) : Met l yX5_put (wsy yX5_put cX5_put 4 (some .int)) ({ frames := 3, cells := 1, slots := 2, locals := 77 } : Room) (cP D tk N0 sa [.ref mo, .int x1, .int x2, .int x3] sz (fun H => MI D tk sa P mo tt bb eT eB oT oB pk ca rf vs kn n9 th H)) (kQi (fun r H => ∃ th1 tt1 bb1 rf1, MI D tk sa P mo tt1 bb1 eT eB oT oB pk ca rf1 vs kn n9 th1 H ∧ AC (m_isNo x1) (m_is0 x3) tt bb rf (nn x1) (LO x2.toInt64 x3.toInt64) r th1 tt1 bb1 rf1) (P)) (1) (2) (P) := by
  refine mStart RX5 rfl (by decide +kernel) (Nat.le_of_ble_eq_true rfl) ?_
  intro p e s m args below meth c E hr hlk hnm hsz hC hF ls hl
  subst hsz
  obtain ⟨hx, hb, -⟩ := id E
  have hA : ∀ q, (P) q → N0 ≤ q := hPN
  have hn : ∀ q, s.heap.size ≤ q → (P) q := hPs
  have hS : va_S (P) s.heap s.heap [] := va_S.rf
  have hl : lv_has ls 4 [(0, .ref mo), (1, .int x1), (2, .int x2), (3, .int x3)] := hl
  have hM : MI D tk sa P mo tt bb eT eB oT oB pk ca rf vs kn n9 th s.heap := hF
  obtain ⟨ra, rl, ex, ro, rt, fo, fj, fk, fe, fr, fw, ⟨hPm, hPa, hPl, hPe, hPr, hPk⟩, hFk, hFe, hFr, hpk, hn9⟩ := hM
  have g_fo := hPm
  have g_fj := hPa
  refine lv_aload_n (pc := 0) hx hb dX5_put_0 rfl (lv_at hl 0 rfl) ?_
  refine lv_iload_n (pc := 1) hx hb dX5_put_1 rfl (lv_at hl 1 rfl) ?_
  refine k_i (pc := 2) (k_S E hC hS hA hl.1 (c_X5_isNo l D tk N0 sa s.heap.size x1 ) kw_1245 kw_1246 kw_5 kw_1247 (n := 1) (by decide +kernel) rfl ⟨⟨rfl, rfl⟩, ⟨Nat.le_of_ble_eq_true rfl, Nat.le_of_ble_eq_true rfl⟩, (by dsimp only; omega), (by dsimp only; omega)⟩ rfl (Nat.le_of_ble_eq_true rfl) trivial dX5_put_2) hS (fun q z w => absurd w (Nat.not_le.mpr z)) hn (fun r_1 H locs hR hz hk hS => ?_)
  have er_1 := hR
  have fw := fw.new hk
  have fo := fo.kept (hk _ fo.lt (Nat.not_le.mpr fo.lt))
  have fj := fj.kept (hk _ fj.lt (Nat.not_le.mpr fj.lt))
  have fk := fk.new hk
  have fe := fe.kept (hk _ fe.lt (Nat.not_le.mpr fe.lt))
  have fr := fr.kept (hk _ fr.lt (Nat.not_le.mpr fr.lt))
  refine lv_iload_n (pc := 5) hx hb dX5_put_5 rfl (lv_at hl 3 rfl) ?_
  refine lv_if_ne (pc := 6) (tgt := 13) hx hb dX5_put_6 (by decide) (fun c_3 => ?_) (fun c_3 => ?_)
  · refine lv_iconst (pc := 13) (v := 0) hx hb dX5_put_13 (by decide) ?_
    have hZ0_ := hS.1
    have t_fo := fo.lt
    have t_fj := fj.lt
    have t_fk := fun k (hk9 : k < 6) => (fk k hk9).lt
    have t_fe := fe.lt
    have t_fr := fr.lt
    refine k_i (pc := 14) (k_V E hC hS hA hl.1 (c1.recv hC fo rfl) rfl (c_X5_fails l D tk N0 sa H.size P hPN (fun q h9 => hPs q (Nat.le_trans hS.1 h9)) mo n9 kn th tt bb eT eB oT oB pk ca rf vs r_1 0 ) kw_1251 kw_1253 kp_20 kw_5 kw_1254 (n := 2) (by decide +kernel) rfl ⟨⟨rfl, rfl⟩, ⟨Nat.le_of_ble_eq_true rfl, Nat.le_of_ble_eq_true rfl⟩, (by dsimp only; omega), (by dsimp only; omega)⟩ rfl (Nat.le_of_ble_eq_true rfl) ⟨_, _, _, _, _, fo, fj, fk, fe, fr, fw, ⟨hPm, hPa, hPl, hPe, hPr, hPk⟩, hFk, hFe, hFr, hpk, hn9⟩ dX5_put_14) hS (fun q _ h => h) hn (fun r_4 H locs hR hz hk hS => ?_)
    obtain ⟨er_4, hM⟩ := hR
    obtain ⟨ra, rl, ex, ro, rt, fo, fj, fk, fe, fr, fw, ⟨hPm, hPa, hPl, hPe, hPr, hPk⟩, hFk, hFe, hFr, hpk, hn9⟩ := hM
    have g_fo := hPm
    have g_fj := hPa
    refine lv_if_eq (pc := 17) (tgt := 24) hx hb dX5_put_17 (by decide) (fun c_5 => ?_) (fun c_5 => ?_)
    · refine lv_aload_n (pc := 24) hx hb dX5_put_24 rfl (lv_at hl 0 rfl) ?_
      refine lv_iload_n (pc := 25) hx hb dX5_put_25 rfl (lv_at hl 1 rfl) ?_
      refine lv_iload_n (pc := 26) hx hb dX5_put_26 rfl (lv_at hl 2 rfl) ?_
      refine lv_i2l (pc := 27) (v := x2.toInt64) hx hb dX5_put_27 rfl ?_
      refine lv_iload_n (pc := 28) hx hb dX5_put_28 rfl (lv_at hl 3 rfl) ?_
      refine lv_i2l (pc := 29) (v := x3.toInt64) hx hb dX5_put_29 rfl ?_
      have hP9 := m_lo32 (t := x2) (b := x3) c_3
      have hZ0_ := hS.1
      have t_fo := fo.lt
      have t_fj := fj.lt
      have t_fk := fun k (hk9 : k < 6) => (fk k hk9).lt
      have t_fe := fe.lt
      have t_fr := fr.lt
      refine k_r (pc := 30) (k_S E hC hS hA hl.1 (c_X5_lowest l D tk N0 sa H.size x2.toInt64 x3.toInt64 hP9.1) kw_1199 kw_1200 kw_5 kw_1201 (n := 2) (by decide +kernel) rfl ⟨⟨rfl, rfl⟩, ⟨Nat.le_of_ble_eq_true rfl, Nat.le_of_ble_eq_true rfl⟩, (by dsimp only; omega), (by dsimp only; omega)⟩ rfl (Nat.le_of_ble_eq_true rfl) trivial dX5_put_30) hS (fun q z w => absurd w (Nat.not_le.mpr z)) hn (fun r_6 H locs hR hz hk hS => ?_)
      have fw := fw.new hk
      have fo := fo.kept (hk _ fo.lt (Nat.not_le.mpr fo.lt))
      have fj := fj.kept (hk _ fj.lt (Nat.not_le.mpr fj.lt))
      have fk := fk.new hk
      have fe := fe.kept (hk _ fe.lt (Nat.not_le.mpr fe.lt))
      have fr := fr.kept (hk _ fr.lt (Nat.not_le.mpr fr.lt))
      obtain ⟨z9_, f7⟩ := hR
      have s_f7 : s.heap.size ≤ r_6 := Nat.le_trans hZ0_ z9_
      have g_f7 := hn _ s_f7
      have l_fo_f7 : mo < r_6 := Nat.lt_of_lt_of_le t_fo z9_
      have l_fj_f7 : ra < r_6 := Nat.lt_of_lt_of_le t_fj z9_
      have nW_f7 : ∀ k, k < 6 → rt k ≠ r_6 := fun k hk9 => Nat.ne_of_lt (Nat.lt_of_lt_of_le (t_fk k hk9) z9_)
      have l_fe_f7 : ex < r_6 := Nat.lt_of_lt_of_le t_fe z9_
      have l_fr_f7 : ro < r_6 := Nat.lt_of_lt_of_le t_fr z9_
      have hZ0_ := hS.1
      have t_fo := fo.lt
      have t_fj := fj.lt
      have t_fk := fun k (hk9 : k < 6) => (fk k hk9).lt
      have t_fe := fe.lt
      have t_fr := fr.lt
      have t_f7 := f7.lt
      obtain ⟨hx_8, hk_8⟩ := m_noN (er_1.symm.trans (m_fl0 (er_4.symm.trans c_5)).1)
      refine k_i (pc := 33) (k_V E hC hS hA hl.1 (c1.recv hC fo rfl) rfl (c_X5_become l D tk N0 sa H.size P hPN (fun q h9 => hPs q (Nat.le_trans hS.1 h9)) mo n9 kn ((m_th r_1 0)) tt bb eT eB oT oB pk ca rf vs x1 (nn x1) hx_8 hk_8 r_6 (m_loT x2.toInt64 x3.toInt64) (m_loB x2.toInt64 x3.toInt64) (hPs _ s_f7) hP9.2) kw_1255 kw_1257 kp_21 kw_5 kw_1258 (n := 2) (by decide +kernel) rfl ⟨⟨rfl, rfl⟩, ⟨Nat.le_of_ble_eq_true rfl, Nat.le_of_ble_eq_true rfl⟩, (by dsimp only; omega), (by dsimp only; omega)⟩ rfl (Nat.le_of_ble_eq_true rfl) ⟨⟨_, _, _, _, _, fo, fj, fk, fe, fr, fw, ⟨hPm, hPa, hPl, hPe, hPr, hPk⟩, hFk, hFe, hFr, hpk, hn9⟩, f7⟩ dX5_put_33) hS (fun q _ h => h) hn (fun r_9 H locs hR hz hk hS => ?_)
      obtain ⟨tt_10, bb_10, rf_10, hM, hBE_10⟩ := hR
      obtain ⟨ra, rl, ex, ro, rt, fo, fj, fk, fe, fr, fw, ⟨hPm, hPa, hPl, hPe, hPr, hPk⟩, hFk, hFe, hFr, hpk, hn9⟩ := hM
      have g_fo := hPm
      have g_fj := hPa
      refine r_iret (pc := 36) E hr hlk hS (by omega) (by omega) ?_ dX5_put_36
      exact ⟨_, _, _, _, ⟨_, _, _, _, _, fo, fj, fk, fe, fr, fw, ⟨hPm, hPa, hPl, hPe, hPr, hPk⟩, hFk, hFe, hFr, hpk, hn9⟩, AC.ok (by subst er_1 er_4; first | rfl | (simp [m_or, m_not, m_is0, m_lt0, m_fl, c_3, c_5]; done)) (by subst er_1 er_4; first | rfl | (simp [m_or, m_not, m_is0, m_lt0, m_fl, c_3, c_5]; done)) (er_4.symm.trans c_5) (hBE_10.cast (by subst er_1 er_4; first | rfl | (simp [LO, c_3, c_5]; done)))⟩
    · refine lv_iconst (pc := 20) (v := 0) hx hb dX5_put_20 (by decide) ?_
      refine lv_goto (pc := 21) (tgt := 36) hx hb dX5_put_21 (by decide) ?_
      refine r_iret (pc := 36) E hr hlk hS (by omega) (by omega) ?_ dX5_put_36
      exact ⟨_, _, _, _, ⟨_, _, _, _, _, fo, fj, fk, fe, fr, fw, ⟨hPm, hPa, hPl, hPe, hPr, hPk⟩, hFk, hFe, hFr, hpk, hn9⟩, AC.fail (by subst er_1 er_4; first | rfl | (simp [m_or, m_not, m_is0, m_lt0, m_fl, c_3, c_5]; done)) (by subst er_1 er_4; first | rfl | (simp [m_or, m_not, m_is0, m_lt0, m_fl, c_3, c_5]; done)) (fun z9 => c_5 (er_4.trans z9))⟩
  · refine lv_iconst (pc := 9) (v := 1) hx hb dX5_put_9 (by decide) ?_
    refine lv_goto (pc := 10) (tgt := 14) hx hb dX5_put_10 (by decide) ?_
    have hZ0_ := hS.1
    have t_fo := fo.lt
    have t_fj := fj.lt
    have t_fk := fun k (hk9 : k < 6) => (fk k hk9).lt
    have t_fe := fe.lt
    have t_fr := fr.lt
    refine k_i (pc := 14) (k_V E hC hS hA hl.1 (c1.recv hC fo rfl) rfl (c_X5_fails l D tk N0 sa H.size P hPN (fun q h9 => hPs q (Nat.le_trans hS.1 h9)) mo n9 kn th tt bb eT eB oT oB pk ca rf vs r_1 1 ) kw_1251 kw_1253 kp_20 kw_5 kw_1254 (n := 2) (by decide +kernel) rfl ⟨⟨rfl, rfl⟩, ⟨Nat.le_of_ble_eq_true rfl, Nat.le_of_ble_eq_true rfl⟩, (by dsimp only; omega), (by dsimp only; omega)⟩ rfl (Nat.le_of_ble_eq_true rfl) ⟨_, _, _, _, _, fo, fj, fk, fe, fr, fw, ⟨hPm, hPa, hPl, hPe, hPr, hPk⟩, hFk, hFe, hFr, hpk, hn9⟩ dX5_put_14) hS (fun q _ h => h) hn (fun r_11 H locs hR hz hk hS => ?_)
    obtain ⟨er_11, hM⟩ := hR
    obtain ⟨ra, rl, ex, ro, rt, fo, fj, fk, fe, fr, fw, ⟨hPm, hPa, hPl, hPe, hPr, hPk⟩, hFk, hFe, hFr, hpk, hn9⟩ := hM
    have g_fo := hPm
    have g_fj := hPa
    have ef_r_11 : r_11 = 1 := er_11.trans (m_fl1 _)
    rw [ef_r_11]
    refine lv_if_eq (pc := 17) (tgt := 24) hx hb dX5_put_17 (by decide) (fun c_12 => ?_) (fun c_12 => ?_)
    · exact absurd c_12 (by decide)
    refine lv_iconst (pc := 20) (v := 0) hx hb dX5_put_20 (by decide) ?_
    refine lv_goto (pc := 21) (tgt := 36) hx hb dX5_put_21 (by decide) ?_
    refine r_iret (pc := 36) E hr hlk hS (by omega) (by omega) ?_ dX5_put_36
    exact ⟨_, _, _, _, ⟨_, _, _, _, _, fo, fj, fk, fe, fr, fw, ⟨hPm, hPa, hPl, hPe, hPr, hPk⟩, hFk, hFe, hFr, hpk, hn9⟩, AC.fail (by subst er_1; first | rfl | (simp [m_or, m_not, m_is0, m_lt0, m_fl, c_3]; done)) (by subst er_1; first | rfl | (simp [m_or, m_not, m_is0, m_lt0, m_fl, c_3]; done)) (fun z9 => absurd (ef_r_11.symm.trans (er_11.trans z9)) (by decide))⟩
set_option maxHeartbeats 4000000 in
set_option maxRecDepth 100000 in
/-- BestratiosModel.putDecimal(III)I -/
theorem c_X5_putDecimal (l : Launch) (D : va_G) (tk : Nat → ClassId) (N0 : Nat) (sa : Nat → Nat)  (sz : Nat) (P : Nat → Prop) (hPN : ∀ q, P q → N0 ≤ q) (hPs : ∀ q, sz ≤ q → P q) (mo n9 : Nat) (kn th : Int32) (tt bb : Nat → Int64) (eT eB oT oB : Int64) (pk : Nat) (ca rf : Int32) (vs : Nat → Value) (x1 : Int32) (x2 : Int32) (x3 : Int32) : Met l yX5_putDecimal (wsy yX5_putDecimal cX5_putDecimal 4 (some .int)) ({ frames := 3, cells := 1, slots := 2, locals := 77 } : Room) (cP D tk N0 sa [.ref mo, .int x1, .int x2, .int x3] sz (fun H => MI D tk sa P mo tt bb eT eB oT oB pk ca rf vs kn n9 th H)) (kQi (fun r H => ∃ th1 tt1 bb1 rf1, MI D tk sa P mo tt1 bb1 eT eB oT oB pk ca rf1 vs kn n9 th1 H ∧ AC (m_isNo x1) (m_not (m_isIn x3 0 9)) tt bb rf (nn x1) (LO x2.toInt64 (m_pow x3)) r th1 tt1 bb1 rf1) (P)) (1) (2) (P) := by
  refine mStart RX5 rfl (by decide +kernel) (Nat.le_of_ble_eq_true rfl) ?_
  intro p e s m args below meth c E hr hlk hnm hsz hC hF ls hl
  subst hsz
  obtain ⟨hx, hb, -⟩ := id E
  have hA : ∀ q, (P) q → N0 ≤ q := hPN
  have hn : ∀ q, s.heap.size ≤ q → (P) q := hPs
  have hS : va_S (P) s.heap s.heap [] := va_S.rf
  have hl : lv_has ls 4 [(0, .ref mo), (1, .int x1), (2, .int x2), (3, .int x3)] := hl
  have hM : MI D tk sa P mo tt bb eT eB oT oB pk ca rf vs kn n9 th s.heap := hF
  obtain ⟨ra, rl, ex, ro, rt, fo, fj, fk, fe, fr, fw, ⟨hPm, hPa, hPl, hPe, hPr, hPk⟩, hFk, hFe, hFr, hpk, hn9⟩ := hM
  have g_fo := hPm
  have g_fj := hPa
  refine lv_aload_n (pc := 0) hx hb dX5_putDecimal_0 rfl (lv_at hl 0 rfl) ?_
  refine lv_iload_n (pc := 1) hx hb dX5_putDecimal_1 rfl (lv_at hl 1 rfl) ?_
  refine k_i (pc := 2) (k_S E hC hS hA hl.1 (c_X5_isNo l D tk N0 sa s.heap.size x1 ) kw_1245 kw_1246 kw_5 kw_1247 (n := 1) (by decide +kernel) rfl ⟨⟨rfl, rfl⟩, ⟨Nat.le_of_ble_eq_true rfl, Nat.le_of_ble_eq_true rfl⟩, (by dsimp only; omega), (by dsimp only; omega)⟩ rfl (Nat.le_of_ble_eq_true rfl) trivial dX5_putDecimal_2) hS (fun q z w => absurd w (Nat.not_le.mpr z)) hn (fun r_1 H locs hR hz hk hS => ?_)
  have er_1 := hR
  have fw := fw.new hk
  have fo := fo.kept (hk _ fo.lt (Nat.not_le.mpr fo.lt))
  have fj := fj.kept (hk _ fj.lt (Nat.not_le.mpr fj.lt))
  have fk := fk.new hk
  have fe := fe.kept (hk _ fe.lt (Nat.not_le.mpr fe.lt))
  have fr := fr.kept (hk _ fr.lt (Nat.not_le.mpr fr.lt))
  refine lv_iload_n (pc := 5) hx hb dX5_putDecimal_5 rfl (lv_at hl 3 rfl) ?_
  refine lv_iconst (pc := 6) (v := 0) hx hb dX5_putDecimal_6 (by decide) ?_
  refine lv_bipush (pc := 7) (v := 9) hx hb dX5_putDecimal_7 (by decide) ?_
  refine k_i (pc := 9) (k_S E hC hS hA hl.1 (c_X5_isIn l D tk N0 sa H.size x3 0 9 ) kw_1248 kw_1249 kw_5 kw_1250 (n := 3) (by decide +kernel) rfl ⟨⟨rfl, rfl⟩, ⟨Nat.le_of_ble_eq_true rfl, Nat.le_of_ble_eq_true rfl⟩, (by dsimp only; omega), (by dsimp only; omega)⟩ rfl (Nat.le_of_ble_eq_true rfl) trivial dX5_putDecimal_9) hS (fun q z w => absurd w (Nat.not_le.mpr z)) hn (fun r_3 H locs hR hz hk hS => ?_)
  have er_3 := hR
  have fw := fw.new hk
  have fo := fo.kept (hk _ fo.lt (Nat.not_le.mpr fo.lt))
  have fj := fj.kept (hk _ fj.lt (Nat.not_le.mpr fj.lt))
  have fk := fk.new hk
  have fe := fe.kept (hk _ fe.lt (Nat.not_le.mpr fe.lt))
  have fr := fr.kept (hk _ fr.lt (Nat.not_le.mpr fr.lt))
  refine lv_if_ne (pc := 12) (tgt := 19) hx hb dX5_putDecimal_12 (by decide) (fun c_5 => ?_) (fun c_5 => ?_)
  · refine lv_iconst (pc := 19) (v := 0) hx hb dX5_putDecimal_19 (by decide) ?_
    have hZ0_ := hS.1
    have t_fo := fo.lt
    have t_fj := fj.lt
    have t_fk := fun k (hk9 : k < 6) => (fk k hk9).lt
    have t_fe := fe.lt
    have t_fr := fr.lt
    refine k_i (pc := 20) (k_V E hC hS hA hl.1 (c1.recv hC fo rfl) rfl (c_X5_fails l D tk N0 sa H.size P hPN (fun q h9 => hPs q (Nat.le_trans hS.1 h9)) mo n9 kn th tt bb eT eB oT oB pk ca rf vs r_1 0 ) kw_1251 kw_1253 kp_20 kw_5 kw_1254 (n := 2) (by decide +kernel) rfl ⟨⟨rfl, rfl⟩, ⟨Nat.le_of_ble_eq_true rfl, Nat.le_of_ble_eq_true rfl⟩, (by dsimp only; omega), (by dsimp only; omega)⟩ rfl (Nat.le_of_ble_eq_true rfl) ⟨_, _, _, _, _, fo, fj, fk, fe, fr, fw, ⟨hPm, hPa, hPl, hPe, hPr, hPk⟩, hFk, hFe, hFr, hpk, hn9⟩ dX5_putDecimal_20) hS (fun q _ h => h) hn (fun r_6 H locs hR hz hk hS => ?_)
    obtain ⟨er_6, hM⟩ := hR
    obtain ⟨ra, rl, ex, ro, rt, fo, fj, fk, fe, fr, fw, ⟨hPm, hPa, hPl, hPe, hPr, hPk⟩, hFk, hFe, hFr, hpk, hn9⟩ := hM
    have g_fo := hPm
    have g_fj := hPa
    refine lv_if_eq (pc := 23) (tgt := 30) hx hb dX5_putDecimal_23 (by decide) (fun c_7 => ?_) (fun c_7 => ?_)
    · refine lv_aload_n (pc := 30) hx hb dX5_putDecimal_30 rfl (lv_at hl 0 rfl) ?_
      refine lv_iload_n (pc := 31) hx hb dX5_putDecimal_31 rfl (lv_at hl 1 rfl) ?_
      refine lv_iload_n (pc := 32) hx hb dX5_putDecimal_32 rfl (lv_at hl 2 rfl) ?_
      refine lv_i2l (pc := 33) (v := x2.toInt64) hx hb dX5_putDecimal_33 rfl ?_
      refine lv_iload_n (pc := 34) hx hb dX5_putDecimal_34 rfl (lv_at hl 3 rfl) ?_
      refine k_l (pc := 35) (k_S E hC hS hA hl.1 (c_X5_power l D tk N0 sa H.size x3 ) kw_1278 kw_1279 kw_5 kw_1280 (n := 1) (by decide +kernel) rfl ⟨⟨rfl, rfl⟩, ⟨Nat.le_of_ble_eq_true rfl, Nat.le_of_ble_eq_true rfl⟩, (by dsimp only; omega), (by dsimp only; omega)⟩ rfl (Nat.le_of_ble_eq_true rfl) trivial dX5_putDecimal_35) hS (fun q z w => absurd w (Nat.not_le.mpr z)) hn (fun r_8 H locs hR hz hk hS => ?_)
      have er_8 := hR
      have fw := fw.new hk
      have fo := fo.kept (hk _ fo.lt (Nat.not_le.mpr fo.lt))
      have fj := fj.kept (hk _ fj.lt (Nat.not_le.mpr fj.lt))
      have fk := fk.new hk
      have fe := fe.kept (hk _ fe.lt (Nat.not_le.mpr fe.lt))
      have fr := fr.kept (hk _ fr.lt (Nat.not_le.mpr fr.lt))
      obtain ⟨kp, hkp1, hkp2⟩ := m_in (x := x3) (hi_ := 9) (by decide) (fun z9 => c_5 (er_3.trans z9))
      have hpw := m_powB hkp2
      rw [← hkp1, ← er_8] at hpw
      have hP9 := m_loP (t := x2.toInt64) (b := r_8) (B := 2147483648) (C := 1000000000) (m_i32 x2) (by decide) hpw.1 (by omega)
      have hZ0_ := hS.1
      have t_fo := fo.lt
      have t_fj := fj.lt
      have t_fk := fun k (hk9 : k < 6) => (fk k hk9).lt
      have t_fe := fe.lt
      have t_fr := fr.lt
      refine k_r (pc := 38) (k_S E hC hS hA hl.1 (c_X5_lowest l D tk N0 sa H.size x2.toInt64 r_8 hP9.1) kw_1199 kw_1200 kw_5 kw_1201 (n := 2) (by decide +kernel) rfl ⟨⟨rfl, rfl⟩, ⟨Nat.le_of_ble_eq_true rfl, Nat.le_of_ble_eq_true rfl⟩, (by dsimp only; omega), (by dsimp only; omega)⟩ rfl (Nat.le_of_ble_eq_true rfl) trivial dX5_putDecimal_38) hS (fun q z w => absurd w (Nat.not_le.mpr z)) hn (fun r_10 H locs hR hz hk hS => ?_)
      have fw := fw.new hk
      have fo := fo.kept (hk _ fo.lt (Nat.not_le.mpr fo.lt))
      have fj := fj.kept (hk _ fj.lt (Nat.not_le.mpr fj.lt))
      have fk := fk.new hk
      have fe := fe.kept (hk _ fe.lt (Nat.not_le.mpr fe.lt))
      have fr := fr.kept (hk _ fr.lt (Nat.not_le.mpr fr.lt))
      obtain ⟨z9_, f11⟩ := hR
      have s_f11 : s.heap.size ≤ r_10 := Nat.le_trans hZ0_ z9_
      have g_f11 := hn _ s_f11
      have l_fo_f11 : mo < r_10 := Nat.lt_of_lt_of_le t_fo z9_
      have l_fj_f11 : ra < r_10 := Nat.lt_of_lt_of_le t_fj z9_
      have nW_f11 : ∀ k, k < 6 → rt k ≠ r_10 := fun k hk9 => Nat.ne_of_lt (Nat.lt_of_lt_of_le (t_fk k hk9) z9_)
      have l_fe_f11 : ex < r_10 := Nat.lt_of_lt_of_le t_fe z9_
      have l_fr_f11 : ro < r_10 := Nat.lt_of_lt_of_le t_fr z9_
      have hZ0_ := hS.1
      have t_fo := fo.lt
      have t_fj := fj.lt
      have t_fk := fun k (hk9 : k < 6) => (fk k hk9).lt
      have t_fe := fe.lt
      have t_fr := fr.lt
      have t_f11 := f11.lt
      obtain ⟨hx_12, hk_12⟩ := m_noN (er_1.symm.trans (m_fl0 (er_6.symm.trans c_7)).1)
      refine k_i (pc := 41) (k_V E hC hS hA hl.1 (c1.recv hC fo rfl) rfl (c_X5_become l D tk N0 sa H.size P hPN (fun q h9 => hPs q (Nat.le_trans hS.1 h9)) mo n9 kn ((m_th r_1 0)) tt bb eT eB oT oB pk ca rf vs x1 (nn x1) hx_12 hk_12 r_10 (m_loT x2.toInt64 r_8) (m_loB x2.toInt64 r_8) (hPs _ s_f11) hP9.2.1) kw_1255 kw_1257 kp_21 kw_5 kw_1258 (n := 2) (by decide +kernel) rfl ⟨⟨rfl, rfl⟩, ⟨Nat.le_of_ble_eq_true rfl, Nat.le_of_ble_eq_true rfl⟩, (by dsimp only; omega), (by dsimp only; omega)⟩ rfl (Nat.le_of_ble_eq_true rfl) ⟨⟨_, _, _, _, _, fo, fj, fk, fe, fr, fw, ⟨hPm, hPa, hPl, hPe, hPr, hPk⟩, hFk, hFe, hFr, hpk, hn9⟩, f11⟩ dX5_putDecimal_41) hS (fun q _ h => h) hn (fun r_13 H locs hR hz hk hS => ?_)
      obtain ⟨tt_14, bb_14, rf_14, hM, hBE_14⟩ := hR
      obtain ⟨ra, rl, ex, ro, rt, fo, fj, fk, fe, fr, fw, ⟨hPm, hPa, hPl, hPe, hPr, hPk⟩, hFk, hFe, hFr, hpk, hn9⟩ := hM
      have g_fo := hPm
      have g_fj := hPa
      refine r_iret (pc := 44) E hr hlk hS (by omega) (by omega) ?_ dX5_putDecimal_44
      exact ⟨_, _, _, _, ⟨_, _, _, _, _, fo, fj, fk, fe, fr, fw, ⟨hPm, hPa, hPl, hPe, hPr, hPk⟩, hFk, hFe, hFr, hpk, hn9⟩, AC.ok (by subst er_1 er_3 er_6 er_8; first | rfl | (simp [m_or, m_not, m_is0, m_lt0, m_fl, c_5, c_7]; done)) (by subst er_1 er_3 er_6 er_8; first | rfl | (simp [m_or, m_not, m_is0, m_lt0, m_fl, c_5, c_7]; done)) (er_6.symm.trans c_7) (hBE_14.cast (by subst er_1 er_3 er_6 er_8; first | rfl | (simp [LO, c_5, c_7]; done)))⟩
    · refine lv_iconst (pc := 26) (v := 0) hx hb dX5_putDecimal_26 (by decide) ?_
      refine lv_goto (pc := 27) (tgt := 44) hx hb dX5_putDecimal_27 (by decide) ?_
      refine r_iret (pc := 44) E hr hlk hS (by omega) (by omega) ?_ dX5_putDecimal_44
      exact ⟨_, _, _, _, ⟨_, _, _, _, _, fo, fj, fk, fe, fr, fw, ⟨hPm, hPa, hPl, hPe, hPr, hPk⟩, hFk, hFe, hFr, hpk, hn9⟩, AC.fail (by subst er_1 er_3 er_6; first | rfl | (simp [m_or, m_not, m_is0, m_lt0, m_fl, c_5, c_7]; done)) (by subst er_1 er_3 er_6; first | rfl | (simp [m_or, m_not, m_is0, m_lt0, m_fl, c_5, c_7]; done)) (fun z9 => c_7 (er_6.trans z9))⟩
  · refine lv_iconst (pc := 15) (v := 1) hx hb dX5_putDecimal_15 (by decide) ?_
    refine lv_goto (pc := 16) (tgt := 20) hx hb dX5_putDecimal_16 (by decide) ?_
    have hZ0_ := hS.1
    have t_fo := fo.lt
    have t_fj := fj.lt
    have t_fk := fun k (hk9 : k < 6) => (fk k hk9).lt
    have t_fe := fe.lt
    have t_fr := fr.lt
    refine k_i (pc := 20) (k_V E hC hS hA hl.1 (c1.recv hC fo rfl) rfl (c_X5_fails l D tk N0 sa H.size P hPN (fun q h9 => hPs q (Nat.le_trans hS.1 h9)) mo n9 kn th tt bb eT eB oT oB pk ca rf vs r_1 1 ) kw_1251 kw_1253 kp_20 kw_5 kw_1254 (n := 2) (by decide +kernel) rfl ⟨⟨rfl, rfl⟩, ⟨Nat.le_of_ble_eq_true rfl, Nat.le_of_ble_eq_true rfl⟩, (by dsimp only; omega), (by dsimp only; omega)⟩ rfl (Nat.le_of_ble_eq_true rfl) ⟨_, _, _, _, _, fo, fj, fk, fe, fr, fw, ⟨hPm, hPa, hPl, hPe, hPr, hPk⟩, hFk, hFe, hFr, hpk, hn9⟩ dX5_putDecimal_20) hS (fun q _ h => h) hn (fun r_15 H locs hR hz hk hS => ?_)
    obtain ⟨er_15, hM⟩ := hR
    obtain ⟨ra, rl, ex, ro, rt, fo, fj, fk, fe, fr, fw, ⟨hPm, hPa, hPl, hPe, hPr, hPk⟩, hFk, hFe, hFr, hpk, hn9⟩ := hM
    have g_fo := hPm
    have g_fj := hPa
    have ef_r_15 : r_15 = 1 := er_15.trans (m_fl1 _)
    rw [ef_r_15]
    refine lv_if_eq (pc := 23) (tgt := 30) hx hb dX5_putDecimal_23 (by decide) (fun c_16 => ?_) (fun c_16 => ?_)
    · exact absurd c_16 (by decide)
    refine lv_iconst (pc := 26) (v := 0) hx hb dX5_putDecimal_26 (by decide) ?_
    refine lv_goto (pc := 27) (tgt := 44) hx hb dX5_putDecimal_27 (by decide) ?_
    refine r_iret (pc := 44) E hr hlk hS (by omega) (by omega) ?_ dX5_putDecimal_44
    exact ⟨_, _, _, _, ⟨_, _, _, _, _, fo, fj, fk, fe, fr, fw, ⟨hPm, hPa, hPl, hPe, hPr, hPk⟩, hFk, hFe, hFr, hpk, hn9⟩, AC.fail (by subst er_1 er_3; first | rfl | (simp [m_or, m_not, m_is0, m_lt0, m_fl, c_5]; done)) (by subst er_1 er_3; first | rfl | (simp [m_or, m_not, m_is0, m_lt0, m_fl, c_5]; done)) (fun z9 => absurd (ef_r_15.symm.trans (er_15.trans z9)) (by decide))⟩
set_option maxHeartbeats 4000000 in
set_option maxRecDepth 100000 in
/-- BestratiosModel.copy(II)I -/
theorem c_X5_copy (l : Launch) (D : va_G) (tk : Nat → ClassId) (N0 : Nat) (sa : Nat → Nat)  (sz : Nat) (P : Nat → Prop) (hPN : ∀ q, P q → N0 ≤ q) (hPs : ∀ q, sz ≤ q → P q) (mo n9 : Nat) (kn th : Int32) (tt bb : Nat → Int64) (eT eB oT oB : Int64) (pk : Nat) (ca rf : Int32) (vs : Nat → Value) (x1 : Int32) (x2 : Int32) : Met l yX5_copy (wsy yX5_copy cX5_copy 3 (some .int)) ({ frames := 3, cells := 0, slots := 0, locals := 68 } : Room) (cP D tk N0 sa [.ref mo, .int x1, .int x2] sz (fun H => MI D tk sa P mo tt bb eT eB oT oB pk ca rf vs kn n9 th H)) (kQi (fun r H => ∃ th1 tt1 bb1 rf1, MI D tk sa P mo tt1 bb1 eT eB oT oB pk ca rf1 vs kn n9 th1 H ∧ AC (m_areNo x1 x2) 0 tt bb rf (nn x1) (some (tt (nn x2), bb (nn x2))) r th1 tt1 bb1 rf1) (P)) (0) (0) (P) := by
  refine mStart RX5 rfl (by decide +kernel) (Nat.le_of_ble_eq_true rfl) ?_
  intro p e s m args below meth c E hr hlk hnm hsz hC hF ls hl
  subst hsz
  obtain ⟨hx, hb, -⟩ := id E
  have hA : ∀ q, (P) q → N0 ≤ q := hPN
  have hn : ∀ q, s.heap.size ≤ q → (P) q := hPs
  have hS : va_S (P) s.heap s.heap [] := va_S.rf
  have hl : lv_has ls 3 [(0, .ref mo), (1, .int x1), (2, .int x2)] := hl
  have hM : MI D tk sa P mo tt bb eT eB oT oB pk ca rf vs kn n9 th s.heap := hF
  obtain ⟨ra, rl, ex, ro, rt, fo, fj, fk, fe, fr, fw, ⟨hPm, hPa, hPl, hPe, hPr, hPk⟩, hFk, hFe, hFr, hpk, hn9⟩ := hM
  have g_fo := hPm
  have g_fj := hPa
  refine lv_aload_n (pc := 0) hx hb dX5_copy_0 rfl (lv_at hl 0 rfl) ?_
  refine lv_iload_n (pc := 1) hx hb dX5_copy_1 rfl (lv_at hl 1 rfl) ?_
  refine lv_iload_n (pc := 2) hx hb dX5_copy_2 rfl (lv_at hl 2 rfl) ?_
  refine k_i (pc := 3) (k_S E hC hS hA hl.1 (c_X5_areNo l D tk N0 sa s.heap.size x1 x2 ) kw_1286 kw_1287 kw_5 kw_1288 (n := 2) (by decide +kernel) rfl ⟨⟨rfl, rfl⟩, ⟨Nat.le_of_ble_eq_true rfl, Nat.le_of_ble_eq_true rfl⟩, (by dsimp only; omega), (by dsimp only; omega)⟩ rfl (Nat.le_of_ble_eq_true rfl) trivial dX5_copy_3) hS (fun q z w => absurd w (Nat.not_le.mpr z)) hn (fun r_1 H locs hR hz hk hS => ?_)
  have er_1 := hR
  have fw := fw.new hk
  have fo := fo.kept (hk _ fo.lt (Nat.not_le.mpr fo.lt))
  have fj := fj.kept (hk _ fj.lt (Nat.not_le.mpr fj.lt))
  have fk := fk.new hk
  have fe := fe.kept (hk _ fe.lt (Nat.not_le.mpr fe.lt))
  have fr := fr.kept (hk _ fr.lt (Nat.not_le.mpr fr.lt))
  refine lv_iconst (pc := 6) (v := 0) hx hb dX5_copy_6 (by decide) ?_
  have hZ0_ := hS.1
  have t_fo := fo.lt
  have t_fj := fj.lt
  have t_fk := fun k (hk9 : k < 6) => (fk k hk9).lt
  have t_fe := fe.lt
  have t_fr := fr.lt
  refine k_i (pc := 7) (k_V E hC hS hA hl.1 (c1.recv hC fo rfl) rfl (c_X5_fails l D tk N0 sa H.size P hPN (fun q h9 => hPs q (Nat.le_trans hS.1 h9)) mo n9 kn th tt bb eT eB oT oB pk ca rf vs r_1 0 ) kw_1251 kw_1253 kp_20 kw_5 kw_1254 (n := 2) (by decide +kernel) rfl ⟨⟨rfl, rfl⟩, ⟨Nat.le_of_ble_eq_true rfl, Nat.le_of_ble_eq_true rfl⟩, (by dsimp only; omega), (by dsimp only; omega)⟩ rfl (Nat.le_of_ble_eq_true rfl) ⟨_, _, _, _, _, fo, fj, fk, fe, fr, fw, ⟨hPm, hPa, hPl, hPe, hPr, hPk⟩, hFk, hFe, hFr, hpk, hn9⟩ dX5_copy_7) hS (fun q _ h => h) hn (fun r_3 H locs hR hz hk hS => ?_)
  obtain ⟨er_3, hM⟩ := hR
  obtain ⟨ra, rl, ex, ro, rt, fo, fj, fk, fe, fr, fw, ⟨hPm, hPa, hPl, hPe, hPr, hPk⟩, hFk, hFe, hFr, hpk, hn9⟩ := hM
  have g_fo := hPm
  have g_fj := hPa
  refine lv_if_eq (pc := 10) (tgt := 17) hx hb dX5_copy_10 (by decide) (fun c_4 => ?_) (fun c_4 => ?_)
  · refine lv_aload_n (pc := 17) hx hb dX5_copy_17 rfl (lv_at hl 0 rfl) ?_
    refine lv_iload_n (pc := 18) hx hb dX5_copy_18 rfl (lv_at hl 1 rfl) ?_
    refine lv_aload_n (pc := 19) hx hb dX5_copy_19 rfl (lv_at hl 0 rfl) ?_
    refine r_get (pc := 20) E hC fo 0 (v := .ref ra) rfl rfl (by decide) uX5 (List.mem_cons_of_mem _ kw_1209) (fun _ h => h) dX5_copy_20 ?_
    refine lv_iload_n (pc := 23) hx hb dX5_copy_23 rfl (lv_at hl 2 rfl) ?_
    obtain ⟨hx_5, hk_5⟩ := m_noN (m_ano (er_1.symm.trans (m_fl0 (er_3.symm.trans c_4)).1)).2
    refine r_aaldJ (pc := 24) E hC fj (nn x2) hx_5 hk_5 (by decide) rfl dX5_copy_24 ?_
    have fL6 := fk (nn x2) hk_5
    have mF_fL6 := hFk (nn x2) hk_5
    have Pq_fL6 := hPk (nn x2) hk_5
    have hZ0_ := hS.1
    have t_fo := fo.lt
    have t_fj := fj.lt
    have t_fk := fun k (hk9 : k < 6) => (fk k hk9).lt
    have t_fe := fe.lt
    have t_fr := fr.lt
    have t_fL6 := fL6.lt
    obtain ⟨hx_7, hk_7⟩ := m_noN (m_ano (er_1.symm.trans (m_fl0 (er_3.symm.trans c_4)).1)).1
    refine k_i (pc := 25) (k_V E hC hS hA hl.1 (c1.recv hC fo rfl) rfl (c_X5_become l D tk N0 sa H.size P hPN (fun q h9 => hPs q (Nat.le_trans hS.1 h9)) mo n9 kn ((m_th r_1 0)) tt bb eT eB oT oB pk ca rf vs x1 (nn x1) hx_7 hk_7 (rt (nn x2)) (tt (nn x2)) (bb (nn x2)) Pq_fL6 mF_fL6.2.1) kw_1255 kw_1257 kp_21 kw_5 kw_1258 (n := 2) (by decide +kernel) rfl ⟨⟨rfl, rfl⟩, ⟨Nat.le_of_ble_eq_true rfl, Nat.le_of_ble_eq_true rfl⟩, (by dsimp only; omega), (by dsimp only; omega)⟩ rfl (Nat.le_of_ble_eq_true rfl) ⟨⟨_, _, _, _, _, fo, fj, fk, fe, fr, fw, ⟨hPm, hPa, hPl, hPe, hPr, hPk⟩, hFk, hFe, hFr, hpk, hn9⟩, fL6⟩ dX5_copy_25) hS (fun q _ h => h) hn (fun r_8 H locs hR hz hk hS => ?_)
    obtain ⟨tt_9, bb_9, rf_9, hM, hBE_9⟩ := hR
    obtain ⟨ra, rl, ex, ro, rt, fo, fj, fk, fe, fr, fw, ⟨hPm, hPa, hPl, hPe, hPr, hPk⟩, hFk, hFe, hFr, hpk, hn9⟩ := hM
    have g_fo := hPm
    have g_fj := hPa
    refine r_iret (pc := 28) E hr hlk hS (by omega) (by omega) ?_ dX5_copy_28
    exact ⟨_, _, _, _, ⟨_, _, _, _, _, fo, fj, fk, fe, fr, fw, ⟨hPm, hPa, hPl, hPe, hPr, hPk⟩, hFk, hFe, hFr, hpk, hn9⟩, AC.ok (by subst er_1 er_3; first | rfl | (simp [m_or, m_not, m_is0, m_lt0, m_fl, c_4]; done)) (by subst er_1 er_3; first | rfl | (simp [m_or, m_not, m_is0, m_lt0, m_fl, c_4]; done)) (er_3.symm.trans c_4) (hBE_9.cast (by subst er_1 er_3; first | rfl | (simp [LO, c_4]; done)))⟩
  · refine lv_iconst (pc := 13) (v := 0) hx hb dX5_copy_13 (by decide) ?_
    refine lv_goto (pc := 14) (tgt := 28) hx hb dX5_copy_14 (by decide) ?_
    refine r_iret (pc := 28) E hr hlk hS (by omega) (by omega) ?_ dX5_copy_28
    exact ⟨_, _, _, _, ⟨_, _, _, _, _, fo, fj, fk, fe, fr, fw, ⟨hPm, hPa, hPl, hPe, hPr, hPk⟩, hFk, hFe, hFr, hpk, hn9⟩, AC.fail (by subst er_1 er_3; first | rfl | (simp [m_or, m_not, m_is0, m_lt0, m_fl, c_4]; done)) (by subst er_1 er_3; first | rfl | (simp [m_or, m_not, m_is0, m_lt0, m_fl, c_4]; done)) (fun z9 => c_4 (er_3.trans z9))⟩
set_option maxHeartbeats 4000000 in
set_option maxRecDepth 100000 in
/-- BestratiosModel.swap(II)I -/
theorem c_X5_swap (l : Launch) (D : va_G) (tk : Nat → ClassId) (N0 : Nat) (sa : Nat → Nat)  (sz : Nat) (P : Nat → Prop) (hPN : ∀ q, P q → N0 ≤ q) (hPs : ∀ q, sz ≤ q → P q) (mo n9 : Nat) (kn th : Int32) (tt bb : Nat → Int64) (eT eB oT oB : Int64) (pk : Nat) (ca rf : Int32) (vs : Nat → Value) (x1 : Int32) (x2 : Int32) : Met l yX5_swap (wsy yX5_swap cX5_swap 4 (some .int)) ({ frames := 3, cells := 0, slots := 0, locals := 63 } : Room) (cP D tk N0 sa [.ref mo, .int x1, .int x2] sz (fun H => MI D tk sa P mo tt bb eT eB oT oB pk ca rf vs kn n9 th H)) (kQi (fun r H => ∃ th1 tt1 bb1, MI D tk sa P mo tt1 bb1 eT eB oT oB pk ca rf vs kn n9 th1 H ∧ SW (m_areNo x1 x2) 0 tt bb (nn x1) (nn x2) r th1 tt1 bb1) (P)) (0) (0) (P) := by
  refine mStart RX5 rfl (by decide +kernel) (Nat.le_of_ble_eq_true rfl) ?_
  intro p e s m args below meth c E hr hlk hnm hsz hC hF ls hl
  subst hsz
  obtain ⟨hx, hb, -⟩ := id E
  have hA : ∀ q, (P) q → N0 ≤ q := hPN
  have hn : ∀ q, s.heap.size ≤ q → (P) q := hPs
  have hS : va_S (P) s.heap s.heap [] := va_S.rf
  have hl : lv_has ls 4 [(0, .ref mo), (1, .int x1), (2, .int x2)] := hl
  have hM : MI D tk sa P mo tt bb eT eB oT oB pk ca rf vs kn n9 th s.heap := hF
  obtain ⟨ra, rl, ex, ro, rt, fo, fj, fk, fe, fr, fw, ⟨hPm, hPa, hPl, hPe, hPr, hPk⟩, hFk, hFe, hFr, hpk, hn9⟩ := hM
  have g_fo := hPm
  have g_fj := hPa
  refine lv_aload_n (pc := 0) hx hb dX5_swap_0 rfl (lv_at hl 0 rfl) ?_
  refine lv_iload_n (pc := 1) hx hb dX5_swap_1 rfl (lv_at hl 1 rfl) ?_
  refine lv_iload_n (pc := 2) hx hb dX5_swap_2 rfl (lv_at hl 2 rfl) ?_
  refine k_i (pc := 3) (k_S E hC hS hA hl.1 (c_X5_areNo l D tk N0 sa s.heap.size x1 x2 ) kw_1286 kw_1287 kw_5 kw_1288 (n := 2) (by decide +kernel) rfl ⟨⟨rfl, rfl⟩, ⟨Nat.le_of_ble_eq_true rfl, Nat.le_of_ble_eq_true rfl⟩, (by dsimp only; omega), (by dsimp only; omega)⟩ rfl (Nat.le_of_ble_eq_true rfl) trivial dX5_swap_3) hS (fun q z w => absurd w (Nat.not_le.mpr z)) hn (fun r_1 H locs hR hz hk hS => ?_)
  have er_1 := hR
  have fw := fw.new hk
  have fo := fo.kept (hk _ fo.lt (Nat.not_le.mpr fo.lt))
  have fj := fj.kept (hk _ fj.lt (Nat.not_le.mpr fj.lt))
  have fk := fk.new hk
  have fe := fe.kept (hk _ fe.lt (Nat.not_le.mpr fe.lt))
  have fr := fr.kept (hk _ fr.lt (Nat.not_le.mpr fr.lt))
  refine lv_iconst (pc := 6) (v := 0) hx hb dX5_swap_6 (by decide) ?_
  have hZ0_ := hS.1
  have t_fo := fo.lt
  have t_fj := fj.lt
  have t_fk := fun k (hk9 : k < 6) => (fk k hk9).lt
  have t_fe := fe.lt
  have t_fr := fr.lt
  refine k_i (pc := 7) (k_V E hC hS hA hl.1 (c1.recv hC fo rfl) rfl (c_X5_fails l D tk N0 sa H.size P hPN (fun q h9 => hPs q (Nat.le_trans hS.1 h9)) mo n9 kn th tt bb eT eB oT oB pk ca rf vs r_1 0 ) kw_1251 kw_1253 kp_20 kw_5 kw_1254 (n := 2) (by decide +kernel) rfl ⟨⟨rfl, rfl⟩, ⟨Nat.le_of_ble_eq_true rfl, Nat.le_of_ble_eq_true rfl⟩, (by dsimp only; omega), (by dsimp only; omega)⟩ rfl (Nat.le_of_ble_eq_true rfl) ⟨_, _, _, _, _, fo, fj, fk, fe, fr, fw, ⟨hPm, hPa, hPl, hPe, hPr, hPk⟩, hFk, hFe, hFr, hpk, hn9⟩ dX5_swap_7) hS (fun q _ h => h) hn (fun r_3 H locs hR hz hk hS => ?_)
  obtain ⟨er_3, hM⟩ := hR
  obtain ⟨ra, rl, ex, ro, rt, fo, fj, fk, fe, fr, fw, ⟨hPm, hPa, hPl, hPe, hPr, hPk⟩, hFk, hFe, hFr, hpk, hn9⟩ := hM
  have g_fo := hPm
  have g_fj := hPa
  refine lv_if_eq (pc := 10) (tgt := 15) hx hb dX5_swap_10 (by decide) (fun c_4 => ?_) (fun c_4 => ?_)
  · refine lv_aload_n (pc := 15) hx hb dX5_swap_15 rfl (lv_at hl 0 rfl) ?_
    refine r_get (pc := 16) E hC fo 0 (v := .ref ra) rfl rfl (by decide) uX5 (List.mem_cons_of_mem _ kw_1209) (fun _ h => h) dX5_swap_16 ?_
    refine lv_iload_n (pc := 19) hx hb dX5_swap_19 rfl (lv_at hl 1 rfl) ?_
    obtain ⟨hx_5, hk_5⟩ := m_noN (m_ano (er_1.symm.trans (m_fl0 (er_3.symm.trans c_4)).1)).1
    refine r_aaldJ (pc := 20) E hC fj (nn x1) hx_5 hk_5 (by decide) rfl dX5_swap_20 ?_
    have fL6 := fk (nn x1) hk_5
    have mF_fL6 := hFk (nn x1) hk_5
    have Pq_fL6 := hPk (nn x1) hk_5
    refine lv_astore_n (pc := 21) (lv' := [(3, .ref (rt (nn x1))), (0, .ref mo), (1, .int x1), (2, .int x2)]) hx hb dX5_swap_21 rfl hl (by decide) rfl (fun ls hl => ?_)
    refine lv_aload_n (pc := 22) hx hb dX5_swap_22 rfl (lv_at hl 1 rfl) ?_
    refine r_get (pc := 23) E hC fo 0 (v := .ref ra) rfl rfl (by decide) uX5 (List.mem_cons_of_mem _ kw_1209) (fun _ h => h) dX5_swap_23 ?_
    refine lv_iload_n (pc := 26) hx hb dX5_swap_26 rfl (lv_at hl 2 rfl) ?_
    refine lv_aload_n (pc := 27) hx hb dX5_swap_27 rfl (lv_at hl 1 rfl) ?_
    refine r_get (pc := 28) E hC fo 0 (v := .ref ra) rfl rfl (by decide) uX5 (List.mem_cons_of_mem _ kw_1209) (fun _ h => h) dX5_swap_28 ?_
    refine lv_iload_n (pc := 31) hx hb dX5_swap_31 rfl (lv_at hl 3 rfl) ?_
    obtain ⟨hx_7, hk_7⟩ := m_noN (m_ano (er_1.symm.trans (m_fl0 (er_3.symm.trans c_4)).1)).2
    refine r_aaldJ (pc := 32) E hC fj (nn x2) hx_7 hk_7 (by decide) rfl dX5_swap_32 ?_
    have fL8 := fk (nn x2) hk_7
    have mF_fL8 := hFk (nn x2) hk_7
    have Pq_fL8 := hPk (nn x2) hk_7
    refine r_aastJ (pc := 33) E hC fj fL8 hS g_fj (nn x1) hx_5 hk_5 (by decide) dX5_swap_33 (fun H locs n_ ho hz hS => ?_)
    have fw := fw.put ho (fun q9 h9 => clA.ne h9 fj.cla (hC.oa 7 3 rfl rfl)) (fun q9 h9 => clA.ne h9 fj.cla (hC.aa 4 3 rfl rfl (by dsimp only; decide))) (fun q9 h9 => clA.ne h9 fj.cla (hC.cea (Or.inr rfl) 3 rfl))
    have nW_fj : ∀ k, k < 6 → rt k ≠ ra := fun k hk9 => clA.ne (fk k hk9).cla fj.cla (hC.aa 0 3 rfl rfl (by dsimp only; decide))
    have fo := fo.kept (ho _ (clA.ne fo.cl fj.cla (hC.oa 13 3 rfl rfl)))
    have fk := fk.kept (fun k hk9 => ho _ (nW_fj k hk9))
    have fe := fe.kept (ho _ (clA.ne fe.cla fj.cla (hC.aa 0 3 rfl rfl (by dsimp only; decide))))
    have fr := fr.kept (ho _ (clA.ne fr.cla fj.cla (hC.aa 0 3 rfl rfl (by dsimp only; decide))))
    have fL6 := fL6.kept (ho _ (clA.ne fL6.cla fj.cla (hC.aa 0 3 rfl rfl (by dsimp only; decide))))
    have fL8 := fL8.kept (ho _ (clA.ne fL8.cla fj.cla (hC.aa 0 3 rfl rfl (by dsimp only; decide))))
    have fk := fk.upd fL8 (nn x1)
    have fj := n_.upJ
    have hPk := m_upP hPk Pq_fL8 (nn x1)
    have hFk := m_upF hFk mF_fL8 (nn x1)
    refine lv_aload_n (pc := 34) hx hb dX5_swap_34 rfl (lv_at hl 1 rfl) ?_
    refine r_get (pc := 35) E hC fo 0 (v := .ref ra) rfl rfl (by decide) uX5 (List.mem_cons_of_mem _ kw_1209) (fun _ h => h) dX5_swap_35 ?_
    refine lv_iload_n (pc := 38) hx hb dX5_swap_38 rfl (lv_at hl 3 rfl) ?_
    refine lv_aload_n (pc := 39) hx hb dX5_swap_39 rfl (lv_at hl 0 rfl) ?_
    refine r_aastJ (pc := 40) E hC fj fL6 hS g_fj (nn x2) hx_7 hk_7 (by decide) dX5_swap_40 (fun H locs n_ ho hz hS => ?_)
    have fw := fw.put ho (fun q9 h9 => clA.ne h9 fj.cla (hC.oa 7 3 rfl rfl)) (fun q9 h9 => clA.ne h9 fj.cla (hC.aa 4 3 rfl rfl (by dsimp only; decide))) (fun q9 h9 => clA.ne h9 fj.cla (hC.cea (Or.inr rfl) 3 rfl))
    have nW_fj : ∀ k, k < 6 → (va_up rt (nn x1) (rt (nn x2))) k ≠ ra := fun k hk9 => clA.ne (fk k hk9).cla fj.cla (hC.aa 0 3 rfl rfl (by dsimp only; decide))
    have fo := fo.kept (ho _ (clA.ne fo.cl fj.cla (hC.oa 13 3 rfl rfl)))
    have fk := fk.kept (fun k hk9 => ho _ (nW_fj k hk9))
    have fe := fe.kept (ho _ (clA.ne fe.cla fj.cla (hC.aa 0 3 rfl rfl (by dsimp only; decide))))
    have fr := fr.kept (ho _ (clA.ne fr.cla fj.cla (hC.aa 0 3 rfl rfl (by dsimp only; decide))))
    have fL6 := fL6.kept (ho _ (clA.ne fL6.cla fj.cla (hC.aa 0 3 rfl rfl (by dsimp only; decide))))
    have fL8 := fL8.kept (ho _ (clA.ne fL8.cla fj.cla (hC.aa 0 3 rfl rfl (by dsimp only; decide))))
    have fk := fk.upd fL6 (nn x2)
    have fj := n_.upJ
    have hPk := m_upP hPk Pq_fL6 (nn x2)
    have hFk := m_upF hFk mF_fL6 (nn x2)
    refine lv_aload_n (pc := 41) hx hb dX5_swap_41 rfl (lv_at hl 1 rfl) ?_
    refine r_get (pc := 42) E hC fo 0 (v := .ref ra) rfl rfl (by decide) uX5 (List.mem_cons_of_mem _ kw_1209) (fun _ h => h) dX5_swap_42 ?_
    refine lv_iload_n (pc := 45) hx hb dX5_swap_45 rfl (lv_at hl 2 rfl) ?_
    refine r_aaldJ (pc := 46) E hC fj (nn x1) hx_5 hk_5 (by decide) rfl dX5_swap_46 ?_
    have fL9 := fk (nn x1) hk_5
    have mF_fL9 := hFk (nn x1) hk_5
    have Pq_fL9 := hPk (nn x1) hk_5
    refine lv_aload_n (pc := 47) hx hb dX5_swap_47 rfl (lv_at hl 0 rfl) ?_
    have hZ0_ := hS.1
    have t_fo := fo.lt
    have t_fj := fj.lt
    have t_fk := fun k (hk9 : k < 6) => (fk k hk9).lt
    have t_fe := fe.lt
    have t_fr := fr.lt
    have t_fL6 := fL6.lt
    have t_fL8 := fL8.lt
    have t_fL9 := fL9.lt
    refine k_i (pc := 48) (k_S E hC hS hA hl.1 (c_X5_order l D tk N0 sa H.size (((va_up ((va_up rt (nn x1) (rt (nn x2)))) (nn x2) (rt (nn x1)))) (nn x1)) ((va_up (va_up tt (nn x1) (tt (nn x2))) (nn x2) (tt (nn x1))) (nn x1)) ((va_up (va_up bb (nn x1) (bb (nn x2))) (nn x2) (bb (nn x1))) (nn x1)) (rt (nn x1)) (tt (nn x1)) (bb (nn x1)) ) kw_1268 kw_1269 kw_5 kw_1270 (n := 2) (by decide +kernel) rfl ⟨⟨rfl, rfl⟩, ⟨Nat.le_of_ble_eq_true rfl, Nat.le_of_ble_eq_true rfl⟩, (by dsimp only; omega), (by dsimp only; omega)⟩ rfl (Nat.le_of_ble_eq_true rfl) ⟨fL9, fL6⟩ dX5_swap_48) hS (fun q z w => absurd w (Nat.not_le.mpr z)) hn (fun r_10 H locs hR hz hk hS => ?_)
    have fw := fw.new hk
    have fo := fo.kept (hk _ fo.lt (Nat.not_le.mpr fo.lt))
    have fj := fj.kept (hk _ fj.lt (Nat.not_le.mpr fj.lt))
    have fk := fk.new hk
    have fe := fe.kept (hk _ fe.lt (Nat.not_le.mpr fe.lt))
    have fr := fr.kept (hk _ fr.lt (Nat.not_le.mpr fr.lt))
    have fL6 := fL6.kept (hk _ fL6.lt (Nat.not_le.mpr fL6.lt))
    have fL8 := fL8.kept (hk _ fL8.lt (Nat.not_le.mpr fL8.lt))
    have fL9 := fL9.kept (hk _ fL9.lt (Nat.not_le.mpr fL9.lt))
    have er_10 := hR
    refine lv_if_eq (pc := 51) (tgt := 58) hx hb dX5_swap_51 (by decide) (fun c_11 => ?_) (fun c_11 => ?_)
    · refine lv_iconst (pc := 58) (v := 0) hx hb dX5_swap_58 (by decide) ?_
      refine k_i (pc := 59) (k_S E hC hS hA hl.1 (c_X5_bit l D tk N0 sa H.size 0 ) kw_1271 kw_1272 kw_5 kw_1273 (n := 1) (by decide +kernel) rfl ⟨⟨rfl, rfl⟩, ⟨Nat.le_of_ble_eq_true rfl, Nat.le_of_ble_eq_true rfl⟩, (by dsimp only; omega), (by dsimp only; omega)⟩ rfl (Nat.le_of_ble_eq_true rfl) trivial dX5_swap_59) hS (fun q z w => absurd w (Nat.not_le.mpr z)) hn (fun r_12 H locs hR hz hk hS => ?_)
      have er_12 := hR
      have fw := fw.new hk
      have fo := fo.kept (hk _ fo.lt (Nat.not_le.mpr fo.lt))
      have fj := fj.kept (hk _ fj.lt (Nat.not_le.mpr fj.lt))
      have fk := fk.new hk
      have fe := fe.kept (hk _ fe.lt (Nat.not_le.mpr fe.lt))
      have fr := fr.kept (hk _ fr.lt (Nat.not_le.mpr fr.lt))
      have fL6 := fL6.kept (hk _ fL6.lt (Nat.not_le.mpr fL6.lt))
      have fL8 := fL8.kept (hk _ fL8.lt (Nat.not_le.mpr fL8.lt))
      have fL9 := fL9.kept (hk _ fL9.lt (Nat.not_le.mpr fL9.lt))
      refine r_iret (pc := 62) E hr hlk hS (by omega) (by omega) ?_ dX5_swap_62
      exact ⟨_, _, _, ⟨_, _, _, _, _, fo, fj, fk, fe, fr, fw, ⟨hPm, hPa, hPl, hPe, hPr, hPk⟩, hFk, hFe, hFr, hpk, hn9⟩, SW.ok (by subst er_1 er_3 er_10 er_12; first | rfl | (simp [m_or, m_not, m_is0, m_lt0, m_fl, c_4, c_11]; done)) rfl (er_3.symm.trans c_4) (by subst er_1 er_3 er_10 er_12; first | rfl | (simp [m_bit, m_sw, c_4, c_11]; done))⟩
    · refine lv_iconst (pc := 54) (v := 1) hx hb dX5_swap_54 (by decide) ?_
      refine lv_goto (pc := 55) (tgt := 59) hx hb dX5_swap_55 (by decide) ?_
      refine k_i (pc := 59) (k_S E hC hS hA hl.1 (c_X5_bit l D tk N0 sa H.size 1 ) kw_1271 kw_1272 kw_5 kw_1273 (n := 1) (by decide +kernel) rfl ⟨⟨rfl, rfl⟩, ⟨Nat.le_of_ble_eq_true rfl, Nat.le_of_ble_eq_true rfl⟩, (by dsimp only; omega), (by dsimp only; omega)⟩ rfl (Nat.le_of_ble_eq_true rfl) trivial dX5_swap_59) hS (fun q z w => absurd w (Nat.not_le.mpr z)) hn (fun r_14 H locs hR hz hk hS => ?_)
      have er_14 := hR
      have fw := fw.new hk
      have fo := fo.kept (hk _ fo.lt (Nat.not_le.mpr fo.lt))
      have fj := fj.kept (hk _ fj.lt (Nat.not_le.mpr fj.lt))
      have fk := fk.new hk
      have fe := fe.kept (hk _ fe.lt (Nat.not_le.mpr fe.lt))
      have fr := fr.kept (hk _ fr.lt (Nat.not_le.mpr fr.lt))
      have fL6 := fL6.kept (hk _ fL6.lt (Nat.not_le.mpr fL6.lt))
      have fL8 := fL8.kept (hk _ fL8.lt (Nat.not_le.mpr fL8.lt))
      have fL9 := fL9.kept (hk _ fL9.lt (Nat.not_le.mpr fL9.lt))
      refine r_iret (pc := 62) E hr hlk hS (by omega) (by omega) ?_ dX5_swap_62
      exact ⟨_, _, _, ⟨_, _, _, _, _, fo, fj, fk, fe, fr, fw, ⟨hPm, hPa, hPl, hPe, hPr, hPk⟩, hFk, hFe, hFr, hpk, hn9⟩, SW.ok (by subst er_1 er_3 er_10 er_14; first | rfl | (simp [m_or, m_not, m_is0, m_lt0, m_fl, c_4, c_11]; done)) rfl (er_3.symm.trans c_4) (by subst er_1 er_3 er_10 er_14; first | rfl | (simp [m_bit, m_sw, c_4, c_11]; done))⟩
  · refine lv_iconst (pc := 13) (v := 0) hx hb dX5_swap_13 (by decide) ?_
    refine r_iret (pc := 14) E hr hlk hS (by omega) (by omega) ?_ dX5_swap_14
    exact ⟨_, _, _, ⟨_, _, _, _, _, fo, fj, fk, fe, fr, fw, ⟨hPm, hPa, hPl, hPe, hPr, hPk⟩, hFk, hFe, hFr, hpk, hn9⟩, SW.fail (by subst er_1 er_3; first | rfl | (simp [m_or, m_not, m_is0, m_lt0, m_fl, c_4]; done)) rfl (fun z9 => c_4 (er_3.trans z9))⟩
set_option maxHeartbeats 4000000 in
set_option maxRecDepth 100000 in
/-- BestratiosModel.plus(III)I -/
theorem c_X5_plus (l : Launch) (D : va_G) (tk : Nat → ClassId) (N0 : Nat) (sa : Nat → Nat)  (sz : Nat) (P : Nat → Prop) (hPN : ∀ q, P q → N0 ≤ q) (hPs : ∀ q, sz ≤ q → P q) (mo n9 : Nat) (kn th : Int32) (tt bb : Nat → Int64) (eT eB oT oB : Int64) (pk : Nat) (ca rf : Int32) (vs : Nat → Value) (x1 : Int32) (x2 : Int32) (x3 : Int32) : Met l yX5_plus (wsy yX5_plus cX5_plus 4 (some .int)) ({ frames := 4, cells := 1, slots := 2, locals := 99 } : Room) (cP D tk N0 sa [.ref mo, .int x1, .int x2, .int x3] sz (fun H => MI D tk sa P mo tt bb eT eB oT oB pk ca rf vs kn n9 th H)) (kQi (fun r H => ∃ th1 tt1 bb1 rf1, MI D tk sa P mo tt1 bb1 eT eB oT oB pk ca rf1 vs kn n9 th1 H ∧ AC (m_or (m_isNo x1) (m_areNo x2 x3)) 0 tt bb rf (nn x1) (LO (tt (nn x2) * bb (nn x3) + (1 : Int32).toInt64 * (tt (nn x3) * bb (nn x2))) (bb (nn x2) * bb (nn x3))) r th1 tt1 bb1 rf1) (P)) (1) (2) (P) := by
  refine mStart RX5 rfl (by decide +kernel) (Nat.le_of_ble_eq_true rfl) ?_
  intro p e s m args below meth c E hr hlk hnm hsz hC hF ls hl
  subst hsz
  obtain ⟨hx, hb, -⟩ := id E
  have hA : ∀ q, (P) q → N0 ≤ q := hPN
  have hn : ∀ q, s.heap.size ≤ q → (P) q := hPs
  have hS : va_S (P) s.heap s.heap [] := va_S.rf
  have hl : lv_has ls 4 [(0, .ref mo), (1, .int x1), (2, .int x2), (3, .int x3)] := hl
  have hM : MI D tk sa P mo tt bb eT eB oT oB pk ca rf vs kn n9 th s.heap := hF
  obtain ⟨ra, rl, ex, ro, rt, fo, fj, fk, fe, fr, fw, ⟨hPm, hPa, hPl, hPe, hPr, hPk⟩, hFk, hFe, hFr, hpk, hn9⟩ := hM
  have g_fo := hPm
  have g_fj := hPa
  refine lv_aload_n (pc := 0) hx hb dX5_plus_0 rfl (lv_at hl 0 rfl) ?_
  refine lv_iload_n (pc := 1) hx hb dX5_plus_1 rfl (lv_at hl 1 rfl) ?_
  refine k_i (pc := 2) (k_S E hC hS hA hl.1 (c_X5_isNo l D tk N0 sa s.heap.size x1 ) kw_1245 kw_1246 kw_5 kw_1247 (n := 1) (by decide +kernel) rfl ⟨⟨rfl, rfl⟩, ⟨Nat.le_of_ble_eq_true rfl, Nat.le_of_ble_eq_true rfl⟩, (by dsimp only; omega), (by dsimp only; omega)⟩ rfl (Nat.le_of_ble_eq_true rfl) trivial dX5_plus_2) hS (fun q z w => absurd w (Nat.not_le.mpr z)) hn (fun r_1 H locs hR hz hk hS => ?_)
  have er_1 := hR
  have fw := fw.new hk
  have fo := fo.kept (hk _ fo.lt (Nat.not_le.mpr fo.lt))
  have fj := fj.kept (hk _ fj.lt (Nat.not_le.mpr fj.lt))
  have fk := fk.new hk
  have fe := fe.kept (hk _ fe.lt (Nat.not_le.mpr fe.lt))
  have fr := fr.kept (hk _ fr.lt (Nat.not_le.mpr fr.lt))
  refine lv_if_ne (pc := 5) (tgt := 16) hx hb dX5_plus_5 (by decide) (fun c_3 => ?_) (fun c_3 => ?_)
  · refine lv_iconst (pc := 16) (v := 1) hx hb dX5_plus_16 (by decide) ?_
    refine lv_goto (pc := 17) (tgt := 21) hx hb dX5_plus_17 (by decide) ?_
    refine lv_iconst (pc := 21) (v := 0) hx hb dX5_plus_21 (by decide) ?_
    have hZ0_ := hS.1
    have t_fo := fo.lt
    have t_fj := fj.lt
    have t_fk := fun k (hk9 : k < 6) => (fk k hk9).lt
    have t_fe := fe.lt
    have t_fr := fr.lt
    refine k_i (pc := 22) (k_V E hC hS hA hl.1 (c1.recv hC fo rfl) rfl (c_X5_fails l D tk N0 sa H.size P hPN (fun q h9 => hPs q (Nat.le_trans hS.1 h9)) mo n9 kn th tt bb eT eB oT oB pk ca rf vs 1 0 ) kw_1251 kw_1253 kp_20 kw_5 kw_1254 (n := 2) (by decide +kernel) rfl ⟨⟨rfl, rfl⟩, ⟨Nat.le_of_ble_eq_true rfl, Nat.le_of_ble_eq_true rfl⟩, (by dsimp only; omega), (by dsimp only; omega)⟩ rfl (Nat.le_of_ble_eq_true rfl) ⟨_, _, _, _, _, fo, fj, fk, fe, fr, fw, ⟨hPm, hPa, hPl, hPe, hPr, hPk⟩, hFk, hFe, hFr, hpk, hn9⟩ dX5_plus_22) hS (fun q _ h => h) hn (fun r_4 H locs hR hz hk hS => ?_)
    obtain ⟨er_4, hM⟩ := hR
    obtain ⟨ra, rl, ex, ro, rt, fo, fj, fk, fe, fr, fw, ⟨hPm, hPa, hPl, hPe, hPr, hPk⟩, hFk, hFe, hFr, hpk, hn9⟩ := hM
    have g_fo := hPm
    have g_fj := hPa
    have ef_r_4 : r_4 = 1 := er_4.trans (if_neg (by decide))
    rw [ef_r_4]
    refine lv_if_eq (pc := 25) (tgt := 32) hx hb dX5_plus_25 (by decide) (fun c_5 => ?_) (fun c_5 => ?_)
    · exact absurd c_5 (by decide)
    refine lv_iconst (pc := 28) (v := 0) hx hb dX5_plus_28 (by decide) ?_
    refine lv_goto (pc := 29) (tgt := 53) hx hb dX5_plus_29 (by decide) ?_
    refine r_iret (pc := 53) E hr hlk hS (by omega) (by omega) ?_ dX5_plus_53
    exact ⟨_, _, _, _, ⟨_, _, _, _, _, fo, fj, fk, fe, fr, fw, ⟨hPm, hPa, hPl, hPe, hPr, hPk⟩, hFk, hFe, hFr, hpk, hn9⟩, AC.fail (by subst er_1; first | rfl | (simp [m_or, m_not, m_is0, m_lt0, m_fl, c_3]; done)) (by subst er_1; first | rfl | (simp [m_or, m_not, m_is0, m_lt0, m_fl, c_3]; done)) (fun z9 => absurd (ef_r_4.symm.trans (er_4.trans z9)) (by decide))⟩
  · refine lv_iload_n (pc := 8) hx hb dX5_plus_8 rfl (lv_at hl 2 rfl) ?_
    refine lv_iload_n (pc := 9) hx hb dX5_plus_9 rfl (lv_at hl 3 rfl) ?_
    refine k_i (pc := 10) (k_S E hC hS hA hl.1 (c_X5_areNo l D tk N0 sa H.size x2 x3 ) kw_1286 kw_1287 kw_5 kw_1288 (n := 2) (by decide +kernel) rfl ⟨⟨rfl, rfl⟩, ⟨Nat.le_of_ble_eq_true rfl, Nat.le_of_ble_eq_true rfl⟩, (by dsimp only; omega), (by dsimp only; omega)⟩ rfl (Nat.le_of_ble_eq_true rfl) trivial dX5_plus_10) hS (fun q z w => absurd w (Nat.not_le.mpr z)) hn (fun r_6 H locs hR hz hk hS => ?_)
    have er_6 := hR
    have fw := fw.new hk
    have fo := fo.kept (hk _ fo.lt (Nat.not_le.mpr fo.lt))
    have fj := fj.kept (hk _ fj.lt (Nat.not_le.mpr fj.lt))
    have fk := fk.new hk
    have fe := fe.kept (hk _ fe.lt (Nat.not_le.mpr fe.lt))
    have fr := fr.kept (hk _ fr.lt (Nat.not_le.mpr fr.lt))
    refine lv_if_eq (pc := 13) (tgt := 20) hx hb dX5_plus_13 (by decide) (fun c_8 => ?_) (fun c_8 => ?_)
    · refine lv_iconst (pc := 20) (v := 0) hx hb dX5_plus_20 (by decide) ?_
      refine lv_iconst (pc := 21) (v := 0) hx hb dX5_plus_21 (by decide) ?_
      have hZ0_ := hS.1
      have t_fo := fo.lt
      have t_fj := fj.lt
      have t_fk := fun k (hk9 : k < 6) => (fk k hk9).lt
      have t_fe := fe.lt
      have t_fr := fr.lt
      refine k_i (pc := 22) (k_V E hC hS hA hl.1 (c1.recv hC fo rfl) rfl (c_X5_fails l D tk N0 sa H.size P hPN (fun q h9 => hPs q (Nat.le_trans hS.1 h9)) mo n9 kn th tt bb eT eB oT oB pk ca rf vs 0 0 ) kw_1251 kw_1253 kp_20 kw_5 kw_1254 (n := 2) (by decide +kernel) rfl ⟨⟨rfl, rfl⟩, ⟨Nat.le_of_ble_eq_true rfl, Nat.le_of_ble_eq_true rfl⟩, (by dsimp only; omega), (by dsimp only; omega)⟩ rfl (Nat.le_of_ble_eq_true rfl) ⟨_, _, _, _, _, fo, fj, fk, fe, fr, fw, ⟨hPm, hPa, hPl, hPe, hPr, hPk⟩, hFk, hFe, hFr, hpk, hn9⟩ dX5_plus_22) hS (fun q _ h => h) hn (fun r_9 H locs hR hz hk hS => ?_)
      obtain ⟨er_9, hM⟩ := hR
      obtain ⟨ra, rl, ex, ro, rt, fo, fj, fk, fe, fr, fw, ⟨hPm, hPa, hPl, hPe, hPr, hPk⟩, hFk, hFe, hFr, hpk, hn9⟩ := hM
      have g_fo := hPm
      have g_fj := hPa
      have ef_r_9 : r_9 = 0 := er_9.trans rfl
      rw [ef_r_9]
      refine lv_if_eq (pc := 25) (tgt := 32) hx hb dX5_plus_25 (by decide) (fun c_10 => ?_) (fun c_10 => ?_)
      rotate_left
      · exact absurd (by decide) c_10
      refine lv_aload_n (pc := 32) hx hb dX5_plus_32 rfl (lv_at hl 0 rfl) ?_
      refine lv_iload_n (pc := 33) hx hb dX5_plus_33 rfl (lv_at hl 1 rfl) ?_
      refine lv_aload_n (pc := 34) hx hb dX5_plus_34 rfl (lv_at hl 0 rfl) ?_
      refine r_get (pc := 35) E hC fo 0 (v := .ref ra) rfl rfl (by decide) uX5 (List.mem_cons_of_mem _ kw_1209) (fun _ h => h) dX5_plus_35 ?_
      refine lv_iload_n (pc := 38) hx hb dX5_plus_38 rfl (lv_at hl 2 rfl) ?_
      obtain ⟨hx_11, hk_11⟩ := m_noN (m_ano (er_6.symm.trans c_8)).1
      refine r_aaldJ (pc := 39) E hC fj (nn x2) hx_11 hk_11 (by decide) rfl dX5_plus_39 ?_
      have fL12 := fk (nn x2) hk_11
      have mF_fL12 := hFk (nn x2) hk_11
      have Pq_fL12 := hPk (nn x2) hk_11
      refine lv_aload_n (pc := 40) hx hb dX5_plus_40 rfl (lv_at hl 0 rfl) ?_
      refine r_get (pc := 41) E hC fo 0 (v := .ref ra) rfl rfl (by decide) uX5 (List.mem_cons_of_mem _ kw_1209) (fun _ h => h) dX5_plus_41 ?_
      refine lv_iload_n (pc := 44) hx hb dX5_plus_44 rfl (lv_at hl 3 rfl) ?_
      obtain ⟨hx_13, hk_13⟩ := m_noN (m_ano (er_6.symm.trans c_8)).2
      refine r_aaldJ (pc := 45) E hC fj (nn x3) hx_13 hk_13 (by decide) rfl dX5_plus_45 ?_
      have fL14 := fk (nn x3) hk_13
      have mF_fL14 := hFk (nn x3) hk_13
      have Pq_fL14 := hPk (nn x3) hk_13
      refine lv_iconst (pc := 46) (v := 1) hx hb dX5_plus_46 (by decide) ?_
      have hP9 := m_sumP 1 mF_fL12 mF_fL14 (by decide)
      have hZ0_ := hS.1
      have t_fo := fo.lt
      have t_fj := fj.lt
      have t_fk := fun k (hk9 : k < 6) => (fk k hk9).lt
      have t_fe := fe.lt
      have t_fr := fr.lt
      have t_fL12 := fL12.lt
      have t_fL14 := fL14.lt
      refine k_r (pc := 47) (k_S E hC hS hA hl.1 (c_X5_sum l D tk N0 sa H.size (rt (nn x2)) (tt (nn x2)) (bb (nn x2)) (rt (nn x3)) (tt (nn x3)) (bb (nn x3)) 1 hP9.1) kw_1297 kw_1298 kw_5 kw_1299 (n := 3) (by decide +kernel) rfl ⟨⟨rfl, rfl⟩, ⟨Nat.le_of_ble_eq_true rfl, Nat.le_of_ble_eq_true rfl⟩, (by dsimp only; omega), (by dsimp only; omega)⟩ rfl (Nat.le_of_ble_eq_true rfl) ⟨fL12, fL14⟩ dX5_plus_47) hS (fun q z w => absurd w (Nat.not_le.mpr z)) hn (fun r_15 H locs hR hz hk hS => ?_)
      have fw := fw.new hk
      have fo := fo.kept (hk _ fo.lt (Nat.not_le.mpr fo.lt))
      have fj := fj.kept (hk _ fj.lt (Nat.not_le.mpr fj.lt))
      have fk := fk.new hk
      have fe := fe.kept (hk _ fe.lt (Nat.not_le.mpr fe.lt))
      have fr := fr.kept (hk _ fr.lt (Nat.not_le.mpr fr.lt))
      have fL12 := fL12.kept (hk _ fL12.lt (Nat.not_le.mpr fL12.lt))
      have fL14 := fL14.kept (hk _ fL14.lt (Nat.not_le.mpr fL14.lt))
      obtain ⟨z9_, f16⟩ := hR
      have s_f16 : s.heap.size ≤ r_15 := Nat.le_trans hZ0_ z9_
      have g_f16 := hn _ s_f16
      have l_fo_f16 : mo < r_15 := Nat.lt_of_lt_of_le t_fo z9_
      have l_fj_f16 : ra < r_15 := Nat.lt_of_lt_of_le t_fj z9_
      have nW_f16 : ∀ k, k < 6 → rt k ≠ r_15 := fun k hk9 => Nat.ne_of_lt (Nat.lt_of_lt_of_le (t_fk k hk9) z9_)
      have l_fe_f16 : ex < r_15 := Nat.lt_of_lt_of_le t_fe z9_
      have l_fr_f16 : ro < r_15 := Nat.lt_of_lt_of_le t_fr z9_
      have l_fL12_f16 : rt (nn x2) < r_15 := Nat.lt_of_lt_of_le t_fL12 z9_
      have l_fL14_f16 : rt (nn x3) < r_15 := Nat.lt_of_lt_of_le t_fL14 z9_
      have hZ0_ := hS.1
      have t_fo := fo.lt
      have t_fj := fj.lt
      have t_fk := fun k (hk9 : k < 6) => (fk k hk9).lt
      have t_fe := fe.lt
      have t_fr := fr.lt
      have t_fL12 := fL12.lt
      have t_fL14 := fL14.lt
      have t_f16 := f16.lt
      obtain ⟨hx_17, hk_17⟩ := m_noN (er_1.symm.trans c_3)
      refine k_i (pc := 50) (k_V E hC hS hA hl.1 (c1.recv hC fo rfl) rfl (c_X5_become l D tk N0 sa H.size P hPN (fun q h9 => hPs q (Nat.le_trans hS.1 h9)) mo n9 kn ((m_th 0 0)) tt bb eT eB oT oB pk ca rf vs x1 (nn x1) hx_17 hk_17 r_15 (m_loT ((tt (nn x2)) * (bb (nn x3)) + ((1 : Int32)).toInt64 * ((tt (nn x3)) * (bb (nn x2)))) ((bb (nn x2)) * (bb (nn x3)))) (m_loB ((tt (nn x2)) * (bb (nn x3)) + ((1 : Int32)).toInt64 * ((tt (nn x3)) * (bb (nn x2)))) ((bb (nn x2)) * (bb (nn x3)))) (hPs _ s_f16) hP9.2.1) kw_1255 kw_1257 kp_21 kw_5 kw_1258 (n := 2) (by decide +kernel) rfl ⟨⟨rfl, rfl⟩, ⟨Nat.le_of_ble_eq_true rfl, Nat.le_of_ble_eq_true rfl⟩, (by dsimp only; omega), (by dsimp only; omega)⟩ rfl (Nat.le_of_ble_eq_true rfl) ⟨⟨_, _, _, _, _, fo, fj, fk, fe, fr, fw, ⟨hPm, hPa, hPl, hPe, hPr, hPk⟩, hFk, hFe, hFr, hpk, hn9⟩, f16⟩ dX5_plus_50) hS (fun q _ h => h) hn (fun r_18 H locs hR hz hk hS => ?_)
      obtain ⟨tt_19, bb_19, rf_19, hM, hBE_19⟩ := hR
      obtain ⟨ra, rl, ex, ro, rt, fo, fj, fk, fe, fr, fw, ⟨hPm, hPa, hPl, hPe, hPr, hPk⟩, hFk, hFe, hFr, hpk, hn9⟩ := hM
      have g_fo := hPm
      have g_fj := hPa
      refine r_iret (pc := 53) E hr hlk hS (by omega) (by omega) ?_ dX5_plus_53
      exact ⟨_, _, _, _, ⟨_, _, _, _, _, fo, fj, fk, fe, fr, fw, ⟨hPm, hPa, hPl, hPe, hPr, hPk⟩, hFk, hFe, hFr, hpk, hn9⟩, AC.ok (by subst er_1 er_6; first | rfl | (simp [m_or, m_not, m_is0, m_lt0, m_fl, c_3, c_8]; done)) (by subst er_1 er_6; first | rfl | (simp [m_or, m_not, m_is0, m_lt0, m_fl, c_3, c_8]; done)) (er_9.symm.trans ef_r_9) (hBE_19.cast (by subst er_1 er_6; first | rfl | (simp [LO, c_3, c_8]; done)))⟩
    · refine lv_iconst (pc := 16) (v := 1) hx hb dX5_plus_16 (by decide) ?_
      refine lv_goto (pc := 17) (tgt := 21) hx hb dX5_plus_17 (by decide) ?_
      refine lv_iconst (pc := 21) (v := 0) hx hb dX5_plus_21 (by decide) ?_
      have hZ0_ := hS.1
      have t_fo := fo.lt
      have t_fj := fj.lt
      have t_fk := fun k (hk9 : k < 6) => (fk k hk9).lt
      have t_fe := fe.lt
      have t_fr := fr.lt
      refine k_i (pc := 22) (k_V E hC hS hA hl.1 (c1.recv hC fo rfl) rfl (c_X5_fails l D tk N0 sa H.size P hPN (fun q h9 => hPs q (Nat.le_trans hS.1 h9)) mo n9 kn th tt bb eT eB oT oB pk ca rf vs 1 0 ) kw_1251 kw_1253 kp_20 kw_5 kw_1254 (n := 2) (by decide +kernel) rfl ⟨⟨rfl, rfl⟩, ⟨Nat.le_of_ble_eq_true rfl, Nat.le_of_ble_eq_true rfl⟩, (by dsimp only; omega), (by dsimp only; omega)⟩ rfl (Nat.le_of_ble_eq_true rfl) ⟨_, _, _, _, _, fo, fj, fk, fe, fr, fw, ⟨hPm, hPa, hPl, hPe, hPr, hPk⟩, hFk, hFe, hFr, hpk, hn9⟩ dX5_plus_22) hS (fun q _ h => h) hn (fun r_20 H locs hR hz hk hS => ?_)
      obtain ⟨er_20, hM⟩ := hR
      obtain ⟨ra, rl, ex, ro, rt, fo, fj, fk, fe, fr, fw, ⟨hPm, hPa, hPl, hPe, hPr, hPk⟩, hFk, hFe, hFr, hpk, hn9⟩ := hM
      have g_fo := hPm
      have g_fj := hPa
      have ef_r_20 : r_20 = 1 := er_20.trans (if_neg (by decide))
      rw [ef_r_20]
      refine lv_if_eq (pc := 25) (tgt := 32) hx hb dX5_plus_25 (by decide) (fun c_21 => ?_) (fun c_21 => ?_)
      · exact absurd c_21 (by decide)
      refine lv_iconst (pc := 28) (v := 0) hx hb dX5_plus_28 (by decide) ?_
      refine lv_goto (pc := 29) (tgt := 53) hx hb dX5_plus_29 (by decide) ?_
      refine r_iret (pc := 53) E hr hlk hS (by omega) (by omega) ?_ dX5_plus_53
      exact ⟨_, _, _, _, ⟨_, _, _, _, _, fo, fj, fk, fe, fr, fw, ⟨hPm, hPa, hPl, hPe, hPr, hPk⟩, hFk, hFe, hFr, hpk, hn9⟩, AC.fail (by subst er_1 er_6; first | rfl | (simp [m_or, m_not, m_is0, m_lt0, m_fl, c_3, c_8]; done)) (by subst er_1 er_6; first | rfl | (simp [m_or, m_not, m_is0, m_lt0, m_fl, c_3, c_8]; done)) (fun z9 => absurd (ef_r_20.symm.trans (er_20.trans z9)) (by decide))⟩
set_option maxHeartbeats 4000000 in
set_option maxRecDepth 100000 in
/-- BestratiosModel.minus(III)I -/
theorem c_X5_minus (l : Launch) (D : va_G) (tk : Nat → ClassId) (N0 : Nat) (sa : Nat → Nat)  (sz : Nat) (P : Nat → Prop) (hPN : ∀ q, P q → N0 ≤ q) (hPs : ∀ q, sz ≤ q → P q) (mo n9 : Nat) (kn th : Int32) (tt bb : Nat → Int64) (eT eB oT oB : Int64) (pk : Nat) (ca rf : Int32) (vs : Nat → Value) (x1 : Int32) (x2 : Int32) (x3 : Int32) : Met l yX5_minus (wsy yX5_minus cX5_minus 4 (some .int)) ({ frames := 4, cells := 1, slots := 2, locals := 99 } : Room) (cP D tk N0 sa [.ref mo, .int x1, .int x2, .int x3] sz (fun H => MI D tk sa P mo tt bb eT eB oT oB pk ca rf vs kn n9 th H)) (kQi (fun r H => ∃ th1 tt1 bb1 rf1, MI D tk sa P mo tt1 bb1 eT eB oT oB pk ca rf1 vs kn n9 th1 H ∧ AC (m_or (m_isNo x1) (m_areNo x2 x3)) 0 tt bb rf (nn x1) (LO (tt (nn x2) * bb (nn x3) + (-1 : Int32).toInt64 * (tt (nn x3) * bb (nn x2))) (bb (nn x2) * bb (nn x3))) r th1 tt1 bb1 rf1) (P)) (1) (2) (P) := by
  refine mStart RX5 rfl (by decide +kernel) (Nat.le_of_ble_eq_true rfl) ?_
  intro p e s m args below meth c E hr hlk hnm hsz hC hF ls hl
  subst hsz
  obtain ⟨hx, hb, -⟩ := id E
  have hA : ∀ q, (P) q → N0 ≤ q := hPN
  have hn : ∀ q, s.heap.size ≤ q → (P) q := hPs
  have hS : va_S (P) s.heap s.heap [] := va_S.rf
  have hl : lv_has ls 4 [(0, .ref mo), (1, .int x1), (2, .int x2), (3, .int x3)] := hl
  have hM : MI D tk sa P mo tt bb eT eB oT oB pk ca rf vs kn n9 th s.heap := hF
  obtain ⟨ra, rl, ex, ro, rt, fo, fj, fk, fe, fr, fw, ⟨hPm, hPa, hPl, hPe, hPr, hPk⟩, hFk, hFe, hFr, hpk, hn9⟩ := hM
  have g_fo := hPm
  have g_fj := hPa
  refine lv_aload_n (pc := 0) hx hb dX5_minus_0 rfl (lv_at hl 0 rfl) ?_
  refine lv_iload_n (pc := 1) hx hb dX5_minus_1 rfl (lv_at hl 1 rfl) ?_
  refine k_i (pc := 2) (k_S E hC hS hA hl.1 (c_X5_isNo l D tk N0 sa s.heap.size x1 ) kw_1245 kw_1246 kw_5 kw_1247 (n := 1) (by decide +kernel) rfl ⟨⟨rfl, rfl⟩, ⟨Nat.le_of_ble_eq_true rfl, Nat.le_of_ble_eq_true rfl⟩, (by dsimp only; omega), (by dsimp only; omega)⟩ rfl (Nat.le_of_ble_eq_true rfl) trivial dX5_minus_2) hS (fun q z w => absurd w (Nat.not_le.mpr z)) hn (fun r_1 H locs hR hz hk hS => ?_)
  have er_1 := hR
  have fw := fw.new hk
  have fo := fo.kept (hk _ fo.lt (Nat.not_le.mpr fo.lt))
  have fj := fj.kept (hk _ fj.lt (Nat.not_le.mpr fj.lt))
  have fk := fk.new hk
  have fe := fe.kept (hk _ fe.lt (Nat.not_le.mpr fe.lt))
  have fr := fr.kept (hk _ fr.lt (Nat.not_le.mpr fr.lt))
  refine lv_if_ne (pc := 5) (tgt := 16) hx hb dX5_minus_5 (by decide) (fun c_3 => ?_) (fun c_3 => ?_)
  · refine lv_iconst (pc := 16) (v := 1) hx hb dX5_minus_16 (by decide) ?_
    refine lv_goto (pc := 17) (tgt := 21) hx hb dX5_minus_17 (by decide) ?_
    refine lv_iconst (pc := 21) (v := 0) hx hb dX5_minus_21 (by decide) ?_
    have hZ0_ := hS.1
    have t_fo := fo.lt
    have t_fj := fj.lt
    have t_fk := fun k (hk9 : k < 6) => (fk k hk9).lt
    have t_fe := fe.lt
    have t_fr := fr.lt
    refine k_i (pc := 22) (k_V E hC hS hA hl.1 (c1.recv hC fo rfl) rfl (c_X5_fails l D tk N0 sa H.size P hPN (fun q h9 => hPs q (Nat.le_trans hS.1 h9)) mo n9 kn th tt bb eT eB oT oB pk ca rf vs 1 0 ) kw_1251 kw_1253 kp_20 kw_5 kw_1254 (n := 2) (by decide +kernel) rfl ⟨⟨rfl, rfl⟩, ⟨Nat.le_of_ble_eq_true rfl, Nat.le_of_ble_eq_true rfl⟩, (by dsimp only; omega), (by dsimp only; omega)⟩ rfl (Nat.le_of_ble_eq_true rfl) ⟨_, _, _, _, _, fo, fj, fk, fe, fr, fw, ⟨hPm, hPa, hPl, hPe, hPr, hPk⟩, hFk, hFe, hFr, hpk, hn9⟩ dX5_minus_22) hS (fun q _ h => h) hn (fun r_4 H locs hR hz hk hS => ?_)
    obtain ⟨er_4, hM⟩ := hR
    obtain ⟨ra, rl, ex, ro, rt, fo, fj, fk, fe, fr, fw, ⟨hPm, hPa, hPl, hPe, hPr, hPk⟩, hFk, hFe, hFr, hpk, hn9⟩ := hM
    have g_fo := hPm
    have g_fj := hPa
    have ef_r_4 : r_4 = 1 := er_4.trans (if_neg (by decide))
    rw [ef_r_4]
    refine lv_if_eq (pc := 25) (tgt := 32) hx hb dX5_minus_25 (by decide) (fun c_5 => ?_) (fun c_5 => ?_)
    · exact absurd c_5 (by decide)
    refine lv_iconst (pc := 28) (v := 0) hx hb dX5_minus_28 (by decide) ?_
    refine lv_goto (pc := 29) (tgt := 53) hx hb dX5_minus_29 (by decide) ?_
    refine r_iret (pc := 53) E hr hlk hS (by omega) (by omega) ?_ dX5_minus_53
    exact ⟨_, _, _, _, ⟨_, _, _, _, _, fo, fj, fk, fe, fr, fw, ⟨hPm, hPa, hPl, hPe, hPr, hPk⟩, hFk, hFe, hFr, hpk, hn9⟩, AC.fail (by subst er_1; first | rfl | (simp [m_or, m_not, m_is0, m_lt0, m_fl, c_3]; done)) (by subst er_1; first | rfl | (simp [m_or, m_not, m_is0, m_lt0, m_fl, c_3]; done)) (fun z9 => absurd (ef_r_4.symm.trans (er_4.trans z9)) (by decide))⟩
  · refine lv_iload_n (pc := 8) hx hb dX5_minus_8 rfl (lv_at hl 2 rfl) ?_
    refine lv_iload_n (pc := 9) hx hb dX5_minus_9 rfl (lv_at hl 3 rfl) ?_
    refine k_i (pc := 10) (k_S E hC hS hA hl.1 (c_X5_areNo l D tk N0 sa H.size x2 x3 ) kw_1286 kw_1287 kw_5 kw_1288 (n := 2) (by decide +kernel) rfl ⟨⟨rfl, rfl⟩, ⟨Nat.le_of_ble_eq_true rfl, Nat.le_of_ble_eq_true rfl⟩, (by dsimp only; omega), (by dsimp only; omega)⟩ rfl (Nat.le_of_ble_eq_true rfl) trivial dX5_minus_10) hS (fun q z w => absurd w (Nat.not_le.mpr z)) hn (fun r_6 H locs hR hz hk hS => ?_)
    have er_6 := hR
    have fw := fw.new hk
    have fo := fo.kept (hk _ fo.lt (Nat.not_le.mpr fo.lt))
    have fj := fj.kept (hk _ fj.lt (Nat.not_le.mpr fj.lt))
    have fk := fk.new hk
    have fe := fe.kept (hk _ fe.lt (Nat.not_le.mpr fe.lt))
    have fr := fr.kept (hk _ fr.lt (Nat.not_le.mpr fr.lt))
    refine lv_if_eq (pc := 13) (tgt := 20) hx hb dX5_minus_13 (by decide) (fun c_8 => ?_) (fun c_8 => ?_)
    · refine lv_iconst (pc := 20) (v := 0) hx hb dX5_minus_20 (by decide) ?_
      refine lv_iconst (pc := 21) (v := 0) hx hb dX5_minus_21 (by decide) ?_
      have hZ0_ := hS.1
      have t_fo := fo.lt
      have t_fj := fj.lt
      have t_fk := fun k (hk9 : k < 6) => (fk k hk9).lt
      have t_fe := fe.lt
      have t_fr := fr.lt
      refine k_i (pc := 22) (k_V E hC hS hA hl.1 (c1.recv hC fo rfl) rfl (c_X5_fails l D tk N0 sa H.size P hPN (fun q h9 => hPs q (Nat.le_trans hS.1 h9)) mo n9 kn th tt bb eT eB oT oB pk ca rf vs 0 0 ) kw_1251 kw_1253 kp_20 kw_5 kw_1254 (n := 2) (by decide +kernel) rfl ⟨⟨rfl, rfl⟩, ⟨Nat.le_of_ble_eq_true rfl, Nat.le_of_ble_eq_true rfl⟩, (by dsimp only; omega), (by dsimp only; omega)⟩ rfl (Nat.le_of_ble_eq_true rfl) ⟨_, _, _, _, _, fo, fj, fk, fe, fr, fw, ⟨hPm, hPa, hPl, hPe, hPr, hPk⟩, hFk, hFe, hFr, hpk, hn9⟩ dX5_minus_22) hS (fun q _ h => h) hn (fun r_9 H locs hR hz hk hS => ?_)
      obtain ⟨er_9, hM⟩ := hR
      obtain ⟨ra, rl, ex, ro, rt, fo, fj, fk, fe, fr, fw, ⟨hPm, hPa, hPl, hPe, hPr, hPk⟩, hFk, hFe, hFr, hpk, hn9⟩ := hM
      have g_fo := hPm
      have g_fj := hPa
      have ef_r_9 : r_9 = 0 := er_9.trans rfl
      rw [ef_r_9]
      refine lv_if_eq (pc := 25) (tgt := 32) hx hb dX5_minus_25 (by decide) (fun c_10 => ?_) (fun c_10 => ?_)
      rotate_left
      · exact absurd (by decide) c_10
      refine lv_aload_n (pc := 32) hx hb dX5_minus_32 rfl (lv_at hl 0 rfl) ?_
      refine lv_iload_n (pc := 33) hx hb dX5_minus_33 rfl (lv_at hl 1 rfl) ?_
      refine lv_aload_n (pc := 34) hx hb dX5_minus_34 rfl (lv_at hl 0 rfl) ?_
      refine r_get (pc := 35) E hC fo 0 (v := .ref ra) rfl rfl (by decide) uX5 (List.mem_cons_of_mem _ kw_1209) (fun _ h => h) dX5_minus_35 ?_
      refine lv_iload_n (pc := 38) hx hb dX5_minus_38 rfl (lv_at hl 2 rfl) ?_
      obtain ⟨hx_11, hk_11⟩ := m_noN (m_ano (er_6.symm.trans c_8)).1
      refine r_aaldJ (pc := 39) E hC fj (nn x2) hx_11 hk_11 (by decide) rfl dX5_minus_39 ?_
      have fL12 := fk (nn x2) hk_11
      have mF_fL12 := hFk (nn x2) hk_11
      have Pq_fL12 := hPk (nn x2) hk_11
      refine lv_aload_n (pc := 40) hx hb dX5_minus_40 rfl (lv_at hl 0 rfl) ?_
      refine r_get (pc := 41) E hC fo 0 (v := .ref ra) rfl rfl (by decide) uX5 (List.mem_cons_of_mem _ kw_1209) (fun _ h => h) dX5_minus_41 ?_
      refine lv_iload_n (pc := 44) hx hb dX5_minus_44 rfl (lv_at hl 3 rfl) ?_
      obtain ⟨hx_13, hk_13⟩ := m_noN (m_ano (er_6.symm.trans c_8)).2
      refine r_aaldJ (pc := 45) E hC fj (nn x3) hx_13 hk_13 (by decide) rfl dX5_minus_45 ?_
      have fL14 := fk (nn x3) hk_13
      have mF_fL14 := hFk (nn x3) hk_13
      have Pq_fL14 := hPk (nn x3) hk_13
      refine lv_iconst (pc := 46) (v := (-1)) hx hb dX5_minus_46 (by decide) ?_
      have hP9 := m_sumP (-1) mF_fL12 mF_fL14 (by decide)
      have hZ0_ := hS.1
      have t_fo := fo.lt
      have t_fj := fj.lt
      have t_fk := fun k (hk9 : k < 6) => (fk k hk9).lt
      have t_fe := fe.lt
      have t_fr := fr.lt
      have t_fL12 := fL12.lt
      have t_fL14 := fL14.lt
      refine k_r (pc := 47) (k_S E hC hS hA hl.1 (c_X5_sum l D tk N0 sa H.size (rt (nn x2)) (tt (nn x2)) (bb (nn x2)) (rt (nn x3)) (tt (nn x3)) (bb (nn x3)) ((-1)) hP9.1) kw_1297 kw_1298 kw_5 kw_1299 (n := 3) (by decide +kernel) rfl ⟨⟨rfl, rfl⟩, ⟨Nat.le_of_ble_eq_true rfl, Nat.le_of_ble_eq_true rfl⟩, (by dsimp only; omega), (by dsimp only; omega)⟩ rfl (Nat.le_of_ble_eq_true rfl) ⟨fL12, fL14⟩ dX5_minus_47) hS (fun q z w => absurd w (Nat.not_le.mpr z)) hn (fun r_15 H locs hR hz hk hS => ?_)
      have fw := fw.new hk
      have fo := fo.kept (hk _ fo.lt (Nat.not_le.mpr fo.lt))
      have fj := fj.kept (hk _ fj.lt (Nat.not_le.mpr fj.lt))
      have fk := fk.new hk
      have fe := fe.kept (hk _ fe.lt (Nat.not_le.mpr fe.lt))
      have fr := fr.kept (hk _ fr.lt (Nat.not_le.mpr fr.lt))
      have fL12 := fL12.kept (hk _ fL12.lt (Nat.not_le.mpr fL12.lt))
      have fL14 := fL14.kept (hk _ fL14.lt (Nat.not_le.mpr fL14.lt))
      obtain ⟨z9_, f16⟩ := hR
      have s_f16 : s.heap.size ≤ r_15 := Nat.le_trans hZ0_ z9_
      have g_f16 := hn _ s_f16
      have l_fo_f16 : mo < r_15 := Nat.lt_of_lt_of_le t_fo z9_
      have l_fj_f16 : ra < r_15 := Nat.lt_of_lt_of_le t_fj z9_
      have nW_f16 : ∀ k, k < 6 → rt k ≠ r_15 := fun k hk9 => Nat.ne_of_lt (Nat.lt_of_lt_of_le (t_fk k hk9) z9_)
      have l_fe_f16 : ex < r_15 := Nat.lt_of_lt_of_le t_fe z9_
      have l_fr_f16 : ro < r_15 := Nat.lt_of_lt_of_le t_fr z9_
      have l_fL12_f16 : rt (nn x2) < r_15 := Nat.lt_of_lt_of_le t_fL12 z9_
      have l_fL14_f16 : rt (nn x3) < r_15 := Nat.lt_of_lt_of_le t_fL14 z9_
      have hZ0_ := hS.1
      have t_fo := fo.lt
      have t_fj := fj.lt
      have t_fk := fun k (hk9 : k < 6) => (fk k hk9).lt
      have t_fe := fe.lt
      have t_fr := fr.lt
      have t_fL12 := fL12.lt
      have t_fL14 := fL14.lt
      have t_f16 := f16.lt
      obtain ⟨hx_17, hk_17⟩ := m_noN (er_1.symm.trans c_3)
      refine k_i (pc := 50) (k_V E hC hS hA hl.1 (c1.recv hC fo rfl) rfl (c_X5_become l D tk N0 sa H.size P hPN (fun q h9 => hPs q (Nat.le_trans hS.1 h9)) mo n9 kn ((m_th 0 0)) tt bb eT eB oT oB pk ca rf vs x1 (nn x1) hx_17 hk_17 r_15 (m_loT ((tt (nn x2)) * (bb (nn x3)) + (((-1) : Int32)).toInt64 * ((tt (nn x3)) * (bb (nn x2)))) ((bb (nn x2)) * (bb (nn x3)))) (m_loB ((tt (nn x2)) * (bb (nn x3)) + (((-1) : Int32)).toInt64 * ((tt (nn x3)) * (bb (nn x2)))) ((bb (nn x2)) * (bb (nn x3)))) (hPs _ s_f16) hP9.2.1) kw_1255 kw_1257 kp_21 kw_5 kw_1258 (n := 2) (by decide +kernel) rfl ⟨⟨rfl, rfl⟩, ⟨Nat.le_of_ble_eq_true rfl, Nat.le_of_ble_eq_true rfl⟩, (by dsimp only; omega), (by dsimp only; omega)⟩ rfl (Nat.le_of_ble_eq_true rfl) ⟨⟨_, _, _, _, _, fo, fj, fk, fe, fr, fw, ⟨hPm, hPa, hPl, hPe, hPr, hPk⟩, hFk, hFe, hFr, hpk, hn9⟩, f16⟩ dX5_minus_50) hS (fun q _ h => h) hn (fun r_18 H locs hR hz hk hS => ?_)
      obtain ⟨tt_19, bb_19, rf_19, hM, hBE_19⟩ := hR
      obtain ⟨ra, rl, ex, ro, rt, fo, fj, fk, fe, fr, fw, ⟨hPm, hPa, hPl, hPe, hPr, hPk⟩, hFk, hFe, hFr, hpk, hn9⟩ := hM
      have g_fo := hPm
      have g_fj := hPa
      refine r_iret (pc := 53) E hr hlk hS (by omega) (by omega) ?_ dX5_minus_53
      exact ⟨_, _, _, _, ⟨_, _, _, _, _, fo, fj, fk, fe, fr, fw, ⟨hPm, hPa, hPl, hPe, hPr, hPk⟩, hFk, hFe, hFr, hpk, hn9⟩, AC.ok (by subst er_1 er_6; first | rfl | (simp [m_or, m_not, m_is0, m_lt0, m_fl, c_3, c_8]; done)) (by subst er_1 er_6; first | rfl | (simp [m_or, m_not, m_is0, m_lt0, m_fl, c_3, c_8]; done)) (er_9.symm.trans ef_r_9) (hBE_19.cast (by subst er_1 er_6; first | rfl | (simp [LO, c_3, c_8]; done)))⟩
    · refine lv_iconst (pc := 16) (v := 1) hx hb dX5_minus_16 (by decide) ?_
      refine lv_goto (pc := 17) (tgt := 21) hx hb dX5_minus_17 (by decide) ?_
      refine lv_iconst (pc := 21) (v := 0) hx hb dX5_minus_21 (by decide) ?_
      have hZ0_ := hS.1
      have t_fo := fo.lt
      have t_fj := fj.lt
      have t_fk := fun k (hk9 : k < 6) => (fk k hk9).lt
      have t_fe := fe.lt
      have t_fr := fr.lt
      refine k_i (pc := 22) (k_V E hC hS hA hl.1 (c1.recv hC fo rfl) rfl (c_X5_fails l D tk N0 sa H.size P hPN (fun q h9 => hPs q (Nat.le_trans hS.1 h9)) mo n9 kn th tt bb eT eB oT oB pk ca rf vs 1 0 ) kw_1251 kw_1253 kp_20 kw_5 kw_1254 (n := 2) (by decide +kernel) rfl ⟨⟨rfl, rfl⟩, ⟨Nat.le_of_ble_eq_true rfl, Nat.le_of_ble_eq_true rfl⟩, (by dsimp only; omega), (by dsimp only; omega)⟩ rfl (Nat.le_of_ble_eq_true rfl) ⟨_, _, _, _, _, fo, fj, fk, fe, fr, fw, ⟨hPm, hPa, hPl, hPe, hPr, hPk⟩, hFk, hFe, hFr, hpk, hn9⟩ dX5_minus_22) hS (fun q _ h => h) hn (fun r_20 H locs hR hz hk hS => ?_)
      obtain ⟨er_20, hM⟩ := hR
      obtain ⟨ra, rl, ex, ro, rt, fo, fj, fk, fe, fr, fw, ⟨hPm, hPa, hPl, hPe, hPr, hPk⟩, hFk, hFe, hFr, hpk, hn9⟩ := hM
      have g_fo := hPm
      have g_fj := hPa
      have ef_r_20 : r_20 = 1 := er_20.trans (if_neg (by decide))
      rw [ef_r_20]
      refine lv_if_eq (pc := 25) (tgt := 32) hx hb dX5_minus_25 (by decide) (fun c_21 => ?_) (fun c_21 => ?_)
      · exact absurd c_21 (by decide)
      refine lv_iconst (pc := 28) (v := 0) hx hb dX5_minus_28 (by decide) ?_
      refine lv_goto (pc := 29) (tgt := 53) hx hb dX5_minus_29 (by decide) ?_
      refine r_iret (pc := 53) E hr hlk hS (by omega) (by omega) ?_ dX5_minus_53
      exact ⟨_, _, _, _, ⟨_, _, _, _, _, fo, fj, fk, fe, fr, fw, ⟨hPm, hPa, hPl, hPe, hPr, hPk⟩, hFk, hFe, hFr, hpk, hn9⟩, AC.fail (by subst er_1 er_6; first | rfl | (simp [m_or, m_not, m_is0, m_lt0, m_fl, c_3, c_8]; done)) (by subst er_1 er_6; first | rfl | (simp [m_or, m_not, m_is0, m_lt0, m_fl, c_3, c_8]; done)) (fun z9 => absurd (ef_r_20.symm.trans (er_20.trans z9)) (by decide))⟩
set_option maxHeartbeats 4000000 in
set_option maxRecDepth 100000 in
/-- BestratiosModel.times(III)I -/
theorem c_X5_times (l : Launch) (D : va_G) (tk : Nat → ClassId) (N0 : Nat) (sa : Nat → Nat)  (sz : Nat) (P : Nat → Prop) (hPN : ∀ q, P q → N0 ≤ q) (hPs : ∀ q, sz ≤ q → P q) (mo n9 : Nat) (kn th : Int32) (tt bb : Nat → Int64) (eT eB oT oB : Int64) (pk : Nat) (ca rf : Int32) (vs : Nat → Value) (x1 : Int32) (x2 : Int32) (x3 : Int32) : Met l yX5_times (wsy yX5_times cX5_times 4 (some .int)) ({ frames := 4, cells := 1, slots := 2, locals := 98 } : Room) (cP D tk N0 sa [.ref mo, .int x1, .int x2, .int x3] sz (fun H => MI D tk sa P mo tt bb eT eB oT oB pk ca rf vs kn n9 th H)) (kQi (fun r H => ∃ th1 tt1 bb1 rf1, MI D tk sa P mo tt1 bb1 eT eB oT oB pk ca rf1 vs kn n9 th1 H ∧ AC (m_or (m_isNo x1) (m_areNo x2 x3)) 0 tt bb rf (nn x1) (LO (tt (nn x2) * tt (nn x3)) (bb (nn x2) * bb (nn x3))) r th1 tt1 bb1 rf1) (P)) (1) (2) (P) := by
  refine mStart RX5 rfl (by decide +kernel) (Nat.le_of_ble_eq_true rfl) ?_
  intro p e s m args below meth c E hr hlk hnm hsz hC hF ls hl
  subst hsz
  obtain ⟨hx, hb, -⟩ := id E
  have hA : ∀ q, (P) q → N0 ≤ q := hPN
  have hn : ∀ q, s.heap.size ≤ q → (P) q := hPs
  have hS : va_S (P) s.heap s.heap [] := va_S.rf
  have hl : lv_has ls 4 [(0, .ref mo), (1, .int x1), (2, .int x2), (3, .int x3)] := hl
  have hM : MI D tk sa P mo tt bb eT eB oT oB pk ca rf vs kn n9 th s.heap := hF
  obtain ⟨ra, rl, ex, ro, rt, fo, fj, fk, fe, fr, fw, ⟨hPm, hPa, hPl, hPe, hPr, hPk⟩, hFk, hFe, hFr, hpk, hn9⟩ := hM
  have g_fo := hPm
  have g_fj := hPa
  refine lv_aload_n (pc := 0) hx hb dX5_times_0 rfl (lv_at hl 0 rfl) ?_
  refine lv_iload_n (pc := 1) hx hb dX5_times_1 rfl (lv_at hl 1 rfl) ?_
  refine k_i (pc := 2) (k_S E hC hS hA hl.1 (c_X5_isNo l D tk N0 sa s.heap.size x1 ) kw_1245 kw_1246 kw_5 kw_1247 (n := 1) (by decide +kernel) rfl ⟨⟨rfl, rfl⟩, ⟨Nat.le_of_ble_eq_true rfl, Nat.le_of_ble_eq_true rfl⟩, (by dsimp only; omega), (by dsimp only; omega)⟩ rfl (Nat.le_of_ble_eq_true rfl) trivial dX5_times_2) hS (fun q z w => absurd w (Nat.not_le.mpr z)) hn (fun r_1 H locs hR hz hk hS => ?_)
  have er_1 := hR
  have fw := fw.new hk
  have fo := fo.kept (hk _ fo.lt (Nat.not_le.mpr fo.lt))
  have fj := fj.kept (hk _ fj.lt (Nat.not_le.mpr fj.lt))
  have fk := fk.new hk
  have fe := fe.kept (hk _ fe.lt (Nat.not_le.mpr fe.lt))
  have fr := fr.kept (hk _ fr.lt (Nat.not_le.mpr fr.lt))
  refine lv_if_ne (pc := 5) (tgt := 16) hx hb dX5_times_5 (by decide) (fun c_3 => ?_) (fun c_3 => ?_)
  · refine lv_iconst (pc := 16) (v := 1) hx hb dX5_times_16 (by decide) ?_
    refine lv_goto (pc := 17) (tgt := 21) hx hb dX5_times_17 (by decide) ?_
    refine lv_iconst (pc := 21) (v := 0) hx hb dX5_times_21 (by decide) ?_
    have hZ0_ := hS.1
    have t_fo := fo.lt
    have t_fj := fj.lt
    have t_fk := fun k (hk9 : k < 6) => (fk k hk9).lt
    have t_fe := fe.lt
    have t_fr := fr.lt
    refine k_i (pc := 22) (k_V E hC hS hA hl.1 (c1.recv hC fo rfl) rfl (c_X5_fails l D tk N0 sa H.size P hPN (fun q h9 => hPs q (Nat.le_trans hS.1 h9)) mo n9 kn th tt bb eT eB oT oB pk ca rf vs 1 0 ) kw_1251 kw_1253 kp_20 kw_5 kw_1254 (n := 2) (by decide +kernel) rfl ⟨⟨rfl, rfl⟩, ⟨Nat.le_of_ble_eq_true rfl, Nat.le_of_ble_eq_true rfl⟩, (by dsimp only; omega), (by dsimp only; omega)⟩ rfl (Nat.le_of_ble_eq_true rfl) ⟨_, _, _, _, _, fo, fj, fk, fe, fr, fw, ⟨hPm, hPa, hPl, hPe, hPr, hPk⟩, hFk, hFe, hFr, hpk, hn9⟩ dX5_times_22) hS (fun q _ h => h) hn (fun r_4 H locs hR hz hk hS => ?_)
    obtain ⟨er_4, hM⟩ := hR
    obtain ⟨ra, rl, ex, ro, rt, fo, fj, fk, fe, fr, fw, ⟨hPm, hPa, hPl, hPe, hPr, hPk⟩, hFk, hFe, hFr, hpk, hn9⟩ := hM
    have g_fo := hPm
    have g_fj := hPa
    have ef_r_4 : r_4 = 1 := er_4.trans (if_neg (by decide))
    rw [ef_r_4]
    refine lv_if_eq (pc := 25) (tgt := 32) hx hb dX5_times_25 (by decide) (fun c_5 => ?_) (fun c_5 => ?_)
    · exact absurd c_5 (by decide)
    refine lv_iconst (pc := 28) (v := 0) hx hb dX5_times_28 (by decide) ?_
    refine lv_goto (pc := 29) (tgt := 52) hx hb dX5_times_29 (by decide) ?_
    refine r_iret (pc := 52) E hr hlk hS (by omega) (by omega) ?_ dX5_times_52
    exact ⟨_, _, _, _, ⟨_, _, _, _, _, fo, fj, fk, fe, fr, fw, ⟨hPm, hPa, hPl, hPe, hPr, hPk⟩, hFk, hFe, hFr, hpk, hn9⟩, AC.fail (by subst er_1; first | rfl | (simp [m_or, m_not, m_is0, m_lt0, m_fl, c_3]; done)) (by subst er_1; first | rfl | (simp [m_or, m_not, m_is0, m_lt0, m_fl, c_3]; done)) (fun z9 => absurd (ef_r_4.symm.trans (er_4.trans z9)) (by decide))⟩
  · refine lv_iload_n (pc := 8) hx hb dX5_times_8 rfl (lv_at hl 2 rfl) ?_
    refine lv_iload_n (pc := 9) hx hb dX5_times_9 rfl (lv_at hl 3 rfl) ?_
    refine k_i (pc := 10) (k_S E hC hS hA hl.1 (c_X5_areNo l D tk N0 sa H.size x2 x3 ) kw_1286 kw_1287 kw_5 kw_1288 (n := 2) (by decide +kernel) rfl ⟨⟨rfl, rfl⟩, ⟨Nat.le_of_ble_eq_true rfl, Nat.le_of_ble_eq_true rfl⟩, (by dsimp only; omega), (by dsimp only; omega)⟩ rfl (Nat.le_of_ble_eq_true rfl) trivial dX5_times_10) hS (fun q z w => absurd w (Nat.not_le.mpr z)) hn (fun r_6 H locs hR hz hk hS => ?_)
    have er_6 := hR
    have fw := fw.new hk
    have fo := fo.kept (hk _ fo.lt (Nat.not_le.mpr fo.lt))
    have fj := fj.kept (hk _ fj.lt (Nat.not_le.mpr fj.lt))
    have fk := fk.new hk
    have fe := fe.kept (hk _ fe.lt (Nat.not_le.mpr fe.lt))
    have fr := fr.kept (hk _ fr.lt (Nat.not_le.mpr fr.lt))
    refine lv_if_eq (pc := 13) (tgt := 20) hx hb dX5_times_13 (by decide) (fun c_8 => ?_) (fun c_8 => ?_)
    · refine lv_iconst (pc := 20) (v := 0) hx hb dX5_times_20 (by decide) ?_
      refine lv_iconst (pc := 21) (v := 0) hx hb dX5_times_21 (by decide) ?_
      have hZ0_ := hS.1
      have t_fo := fo.lt
      have t_fj := fj.lt
      have t_fk := fun k (hk9 : k < 6) => (fk k hk9).lt
      have t_fe := fe.lt
      have t_fr := fr.lt
      refine k_i (pc := 22) (k_V E hC hS hA hl.1 (c1.recv hC fo rfl) rfl (c_X5_fails l D tk N0 sa H.size P hPN (fun q h9 => hPs q (Nat.le_trans hS.1 h9)) mo n9 kn th tt bb eT eB oT oB pk ca rf vs 0 0 ) kw_1251 kw_1253 kp_20 kw_5 kw_1254 (n := 2) (by decide +kernel) rfl ⟨⟨rfl, rfl⟩, ⟨Nat.le_of_ble_eq_true rfl, Nat.le_of_ble_eq_true rfl⟩, (by dsimp only; omega), (by dsimp only; omega)⟩ rfl (Nat.le_of_ble_eq_true rfl) ⟨_, _, _, _, _, fo, fj, fk, fe, fr, fw, ⟨hPm, hPa, hPl, hPe, hPr, hPk⟩, hFk, hFe, hFr, hpk, hn9⟩ dX5_times_22) hS (fun q _ h => h) hn (fun r_9 H locs hR hz hk hS => ?_)
      obtain ⟨er_9, hM⟩ := hR
      obtain ⟨ra, rl, ex, ro, rt, fo, fj, fk, fe, fr, fw, ⟨hPm, hPa, hPl, hPe, hPr, hPk⟩, hFk, hFe, hFr, hpk, hn9⟩ := hM
      have g_fo := hPm
      have g_fj := hPa
      have ef_r_9 : r_9 = 0 := er_9.trans rfl
      rw [ef_r_9]
      refine lv_if_eq (pc := 25) (tgt := 32) hx hb dX5_times_25 (by decide) (fun c_10 => ?_) (fun c_10 => ?_)
      rotate_left
      · exact absurd (by decide) c_10
      refine lv_aload_n (pc := 32) hx hb dX5_times_32 rfl (lv_at hl 0 rfl) ?_
      refine lv_iload_n (pc := 33) hx hb dX5_times_33 rfl (lv_at hl 1 rfl) ?_
      refine lv_aload_n (pc := 34) hx hb dX5_times_34 rfl (lv_at hl 0 rfl) ?_
      refine r_get (pc := 35) E hC fo 0 (v := .ref ra) rfl rfl (by decide) uX5 (List.mem_cons_of_mem _ kw_1209) (fun _ h => h) dX5_times_35 ?_
      refine lv_iload_n (pc := 38) hx hb dX5_times_38 rfl (lv_at hl 2 rfl) ?_
      obtain ⟨hx_11, hk_11⟩ := m_noN (m_ano (er_6.symm.trans c_8)).1
      refine r_aaldJ (pc := 39) E hC fj (nn x2) hx_11 hk_11 (by decide) rfl dX5_times_39 ?_
      have fL12 := fk (nn x2) hk_11
      have mF_fL12 := hFk (nn x2) hk_11
      have Pq_fL12 := hPk (nn x2) hk_11
      refine lv_aload_n (pc := 40) hx hb dX5_times_40 rfl (lv_at hl 0 rfl) ?_
      refine r_get (pc := 41) E hC fo 0 (v := .ref ra) rfl rfl (by decide) uX5 (List.mem_cons_of_mem _ kw_1209) (fun _ h => h) dX5_times_41 ?_
      refine lv_iload_n (pc := 44) hx hb dX5_times_44 rfl (lv_at hl 3 rfl) ?_
      obtain ⟨hx_13, hk_13⟩ := m_noN (m_ano (er_6.symm.trans c_8)).2
      refine r_aaldJ (pc := 45) E hC fj (nn x3) hx_13 hk_13 (by decide) rfl dX5_times_45 ?_
      have fL14 := fk (nn x3) hk_13
      have mF_fL14 := hFk (nn x3) hk_13
      have Pq_fL14 := hPk (nn x3) hk_13
      have hP9 := m_prod mF_fL12 mF_fL14
      have hZ0_ := hS.1
      have t_fo := fo.lt
      have t_fj := fj.lt
      have t_fk := fun k (hk9 : k < 6) => (fk k hk9).lt
      have t_fe := fe.lt
      have t_fr := fr.lt
      have t_fL12 := fL12.lt
      have t_fL14 := fL14.lt
      refine k_r (pc := 46) (k_S E hC hS hA hl.1 (c_X5_product l D tk N0 sa H.size (rt (nn x2)) (tt (nn x2)) (bb (nn x2)) (rt (nn x3)) (tt (nn x3)) (bb (nn x3)) hP9.1) kw_1308 kw_1309 kw_5 kw_1310 (n := 2) (by decide +kernel) rfl ⟨⟨rfl, rfl⟩, ⟨Nat.le_of_ble_eq_true rfl, Nat.le_of_ble_eq_true rfl⟩, (by dsimp only; omega), (by dsimp only; omega)⟩ rfl (Nat.le_of_ble_eq_true rfl) ⟨fL12, fL14⟩ dX5_times_46) hS (fun q z w => absurd w (Nat.not_le.mpr z)) hn (fun r_15 H locs hR hz hk hS => ?_)
      have fw := fw.new hk
      have fo := fo.kept (hk _ fo.lt (Nat.not_le.mpr fo.lt))
      have fj := fj.kept (hk _ fj.lt (Nat.not_le.mpr fj.lt))
      have fk := fk.new hk
      have fe := fe.kept (hk _ fe.lt (Nat.not_le.mpr fe.lt))
      have fr := fr.kept (hk _ fr.lt (Nat.not_le.mpr fr.lt))
      have fL12 := fL12.kept (hk _ fL12.lt (Nat.not_le.mpr fL12.lt))
      have fL14 := fL14.kept (hk _ fL14.lt (Nat.not_le.mpr fL14.lt))
      obtain ⟨z9_, f16⟩ := hR
      have s_f16 : s.heap.size ≤ r_15 := Nat.le_trans hZ0_ z9_
      have g_f16 := hn _ s_f16
      have l_fo_f16 : mo < r_15 := Nat.lt_of_lt_of_le t_fo z9_
      have l_fj_f16 : ra < r_15 := Nat.lt_of_lt_of_le t_fj z9_
      have nW_f16 : ∀ k, k < 6 → rt k ≠ r_15 := fun k hk9 => Nat.ne_of_lt (Nat.lt_of_lt_of_le (t_fk k hk9) z9_)
      have l_fe_f16 : ex < r_15 := Nat.lt_of_lt_of_le t_fe z9_
      have l_fr_f16 : ro < r_15 := Nat.lt_of_lt_of_le t_fr z9_
      have l_fL12_f16 : rt (nn x2) < r_15 := Nat.lt_of_lt_of_le t_fL12 z9_
      have l_fL14_f16 : rt (nn x3) < r_15 := Nat.lt_of_lt_of_le t_fL14 z9_
      have hZ0_ := hS.1
      have t_fo := fo.lt
      have t_fj := fj.lt
      have t_fk := fun k (hk9 : k < 6) => (fk k hk9).lt
      have t_fe := fe.lt
      have t_fr := fr.lt
      have t_fL12 := fL12.lt
      have t_fL14 := fL14.lt
      have t_f16 := f16.lt
      obtain ⟨hx_17, hk_17⟩ := m_noN (er_1.symm.trans c_3)
      refine k_i (pc := 49) (k_V E hC hS hA hl.1 (c1.recv hC fo rfl) rfl (c_X5_become l D tk N0 sa H.size P hPN (fun q h9 => hPs q (Nat.le_trans hS.1 h9)) mo n9 kn ((m_th 0 0)) tt bb eT eB oT oB pk ca rf vs x1 (nn x1) hx_17 hk_17 r_15 (m_loT ((tt (nn x2)) * (tt (nn x3))) ((bb (nn x2)) * (bb (nn x3)))) (m_loB ((tt (nn x2)) * (tt (nn x3))) ((bb (nn x2)) * (bb (nn x3)))) (hPs _ s_f16) hP9.2.1) kw_1255 kw_1257 kp_21 kw_5 kw_1258 (n := 2) (by decide +kernel) rfl ⟨⟨rfl, rfl⟩, ⟨Nat.le_of_ble_eq_true rfl, Nat.le_of_ble_eq_true rfl⟩, (by dsimp only; omega), (by dsimp only; omega)⟩ rfl (Nat.le_of_ble_eq_true rfl) ⟨⟨_, _, _, _, _, fo, fj, fk, fe, fr, fw, ⟨hPm, hPa, hPl, hPe, hPr, hPk⟩, hFk, hFe, hFr, hpk, hn9⟩, f16⟩ dX5_times_49) hS (fun q _ h => h) hn (fun r_18 H locs hR hz hk hS => ?_)
      obtain ⟨tt_19, bb_19, rf_19, hM, hBE_19⟩ := hR
      obtain ⟨ra, rl, ex, ro, rt, fo, fj, fk, fe, fr, fw, ⟨hPm, hPa, hPl, hPe, hPr, hPk⟩, hFk, hFe, hFr, hpk, hn9⟩ := hM
      have g_fo := hPm
      have g_fj := hPa
      refine r_iret (pc := 52) E hr hlk hS (by omega) (by omega) ?_ dX5_times_52
      exact ⟨_, _, _, _, ⟨_, _, _, _, _, fo, fj, fk, fe, fr, fw, ⟨hPm, hPa, hPl, hPe, hPr, hPk⟩, hFk, hFe, hFr, hpk, hn9⟩, AC.ok (by subst er_1 er_6; first | rfl | (simp [m_or, m_not, m_is0, m_lt0, m_fl, c_3, c_8]; done)) (by subst er_1 er_6; first | rfl | (simp [m_or, m_not, m_is0, m_lt0, m_fl, c_3, c_8]; done)) (er_9.symm.trans ef_r_9) (hBE_19.cast (by subst er_1 er_6; first | rfl | (simp [LO, c_3, c_8]; done)))⟩
    · refine lv_iconst (pc := 16) (v := 1) hx hb dX5_times_16 (by decide) ?_
      refine lv_goto (pc := 17) (tgt := 21) hx hb dX5_times_17 (by decide) ?_
      refine lv_iconst (pc := 21) (v := 0) hx hb dX5_times_21 (by decide) ?_
      have hZ0_ := hS.1
      have t_fo := fo.lt
      have t_fj := fj.lt
      have t_fk := fun k (hk9 : k < 6) => (fk k hk9).lt
      have t_fe := fe.lt
      have t_fr := fr.lt
      refine k_i (pc := 22) (k_V E hC hS hA hl.1 (c1.recv hC fo rfl) rfl (c_X5_fails l D tk N0 sa H.size P hPN (fun q h9 => hPs q (Nat.le_trans hS.1 h9)) mo n9 kn th tt bb eT eB oT oB pk ca rf vs 1 0 ) kw_1251 kw_1253 kp_20 kw_5 kw_1254 (n := 2) (by decide +kernel) rfl ⟨⟨rfl, rfl⟩, ⟨Nat.le_of_ble_eq_true rfl, Nat.le_of_ble_eq_true rfl⟩, (by dsimp only; omega), (by dsimp only; omega)⟩ rfl (Nat.le_of_ble_eq_true rfl) ⟨_, _, _, _, _, fo, fj, fk, fe, fr, fw, ⟨hPm, hPa, hPl, hPe, hPr, hPk⟩, hFk, hFe, hFr, hpk, hn9⟩ dX5_times_22) hS (fun q _ h => h) hn (fun r_20 H locs hR hz hk hS => ?_)
      obtain ⟨er_20, hM⟩ := hR
      obtain ⟨ra, rl, ex, ro, rt, fo, fj, fk, fe, fr, fw, ⟨hPm, hPa, hPl, hPe, hPr, hPk⟩, hFk, hFe, hFr, hpk, hn9⟩ := hM
      have g_fo := hPm
      have g_fj := hPa
      have ef_r_20 : r_20 = 1 := er_20.trans (if_neg (by decide))
      rw [ef_r_20]
      refine lv_if_eq (pc := 25) (tgt := 32) hx hb dX5_times_25 (by decide) (fun c_21 => ?_) (fun c_21 => ?_)
      · exact absurd c_21 (by decide)
      refine lv_iconst (pc := 28) (v := 0) hx hb dX5_times_28 (by decide) ?_
      refine lv_goto (pc := 29) (tgt := 52) hx hb dX5_times_29 (by decide) ?_
      refine r_iret (pc := 52) E hr hlk hS (by omega) (by omega) ?_ dX5_times_52
      exact ⟨_, _, _, _, ⟨_, _, _, _, _, fo, fj, fk, fe, fr, fw, ⟨hPm, hPa, hPl, hPe, hPr, hPk⟩, hFk, hFe, hFr, hpk, hn9⟩, AC.fail (by subst er_1 er_6; first | rfl | (simp [m_or, m_not, m_is0, m_lt0, m_fl, c_3, c_8]; done)) (by subst er_1 er_6; first | rfl | (simp [m_or, m_not, m_is0, m_lt0, m_fl, c_3, c_8]; done)) (fun z9 => absurd (ef_r_20.symm.trans (er_20.trans z9)) (by decide))⟩
set_option maxHeartbeats 4000000 in
set_option maxRecDepth 100000 in
/-- BestratiosModel.mediant(III)I -/
theorem c_X5_mediant (l : Launch) (D : va_G) (tk : Nat → ClassId) (N0 : Nat) (sa : Nat → Nat)  (sz : Nat) (P : Nat → Prop) (hPN : ∀ q, P q → N0 ≤ q) (hPs : ∀ q, sz ≤ q → P q) (mo n9 : Nat) (kn th : Int32) (tt bb : Nat → Int64) (eT eB oT oB : Int64) (pk : Nat) (ca rf : Int32) (vs : Nat → Value) (x1 : Int32) (x2 : Int32) (x3 : Int32) : Met l yX5_mediant (wsy yX5_mediant cX5_mediant 4 (some .int)) ({ frames := 4, cells := 1, slots := 2, locals := 98 } : Room) (cP D tk N0 sa [.ref mo, .int x1, .int x2, .int x3] sz (fun H => MI D tk sa P mo tt bb eT eB oT oB pk ca rf vs kn n9 th H)) (kQi (fun r H => ∃ th1 tt1 bb1 rf1, MI D tk sa P mo tt1 bb1 eT eB oT oB pk ca rf1 vs kn n9 th1 H ∧ AC (m_or (m_isNo x1) (m_areNo x2 x3)) 0 tt bb rf (nn x1) (LO (tt (nn x2) + tt (nn x3)) (bb (nn x2) + bb (nn x3))) r th1 tt1 bb1 rf1) (P)) (1) (2) (P) := by
  refine mStart RX5 rfl (by decide +kernel) (Nat.le_of_ble_eq_true rfl) ?_
  intro p e s m args below meth c E hr hlk hnm hsz hC hF ls hl
  subst hsz
  obtain ⟨hx, hb, -⟩ := id E
  have hA : ∀ q, (P) q → N0 ≤ q := hPN
  have hn : ∀ q, s.heap.size ≤ q → (P) q := hPs
  have hS : va_S (P) s.heap s.heap [] := va_S.rf
  have hl : lv_has ls 4 [(0, .ref mo), (1, .int x1), (2, .int x2), (3, .int x3)] := hl
  have hM : MI D tk sa P mo tt bb eT eB oT oB pk ca rf vs kn n9 th s.heap := hF
  obtain ⟨ra, rl, ex, ro, rt, fo, fj, fk, fe, fr, fw, ⟨hPm, hPa, hPl, hPe, hPr, hPk⟩, hFk, hFe, hFr, hpk, hn9⟩ := hM
  have g_fo := hPm
  have g_fj := hPa
  refine lv_aload_n (pc := 0) hx hb dX5_mediant_0 rfl (lv_at hl 0 rfl) ?_
  refine lv_iload_n (pc := 1) hx hb dX5_mediant_1 rfl (lv_at hl 1 rfl) ?_
  refine k_i (pc := 2) (k_S E hC hS hA hl.1 (c_X5_isNo l D tk N0 sa s.heap.size x1 ) kw_1245 kw_1246 kw_5 kw_1247 (n := 1) (by decide +kernel) rfl ⟨⟨rfl, rfl⟩, ⟨Nat.le_of_ble_eq_true rfl, Nat.le_of_ble_eq_true rfl⟩, (by dsimp only; omega), (by dsimp only; omega)⟩ rfl (Nat.le_of_ble_eq_true rfl) trivial dX5_mediant_2) hS (fun q z w => absurd w (Nat.not_le.mpr z)) hn (fun r_1 H locs hR hz hk hS => ?_)
  have er_1 := hR
  have fw := fw.new hk
  have fo := fo.kept (hk _ fo.lt (Nat.not_le.mpr fo.lt))
  have fj := fj.kept (hk _ fj.lt (Nat.not_le.mpr fj.lt))
  have fk := fk.new hk
  have fe := fe.kept (hk _ fe.lt (Nat.not_le.mpr fe.lt))
  have fr := fr.kept (hk _ fr.lt (Nat.not_le.mpr fr.lt))
  refine lv_if_ne (pc := 5) (tgt := 16) hx hb dX5_mediant_5 (by decide) (fun c_3 => ?_) (fun c_3 => ?_)
  · refine lv_iconst (pc := 16) (v := 1) hx hb dX5_mediant_16 (by decide) ?_
    refine lv_goto (pc := 17) (tgt := 21) hx hb dX5_mediant_17 (by decide) ?_
    refine lv_iconst (pc := 21) (v := 0) hx hb dX5_mediant_21 (by decide) ?_
    have hZ0_ := hS.1
    have t_fo := fo.lt
    have t_fj := fj.lt
    have t_fk := fun k (hk9 : k < 6) => (fk k hk9).lt
    have t_fe := fe.lt
    have t_fr := fr.lt
    refine k_i (pc := 22) (k_V E hC hS hA hl.1 (c1.recv hC fo rfl) rfl (c_X5_fails l D tk N0 sa H.size P hPN (fun q h9 => hPs q (Nat.le_trans hS.1 h9)) mo n9 kn th tt bb eT eB oT oB pk ca rf vs 1 0 ) kw_1251 kw_1253 kp_20 kw_5 kw_1254 (n := 2) (by decide +kernel) rfl ⟨⟨rfl, rfl⟩, ⟨Nat.le_of_ble_eq_true rfl, Nat.le_of_ble_eq_true rfl⟩, (by dsimp only; omega), (by dsimp only; omega)⟩ rfl (Nat.le_of_ble_eq_true rfl) ⟨_, _, _, _, _, fo, fj, fk, fe, fr, fw, ⟨hPm, hPa, hPl, hPe, hPr, hPk⟩, hFk, hFe, hFr, hpk, hn9⟩ dX5_mediant_22) hS (fun q _ h => h) hn (fun r_4 H locs hR hz hk hS => ?_)
    obtain ⟨er_4, hM⟩ := hR
    obtain ⟨ra, rl, ex, ro, rt, fo, fj, fk, fe, fr, fw, ⟨hPm, hPa, hPl, hPe, hPr, hPk⟩, hFk, hFe, hFr, hpk, hn9⟩ := hM
    have g_fo := hPm
    have g_fj := hPa
    have ef_r_4 : r_4 = 1 := er_4.trans (if_neg (by decide))
    rw [ef_r_4]
    refine lv_if_eq (pc := 25) (tgt := 32) hx hb dX5_mediant_25 (by decide) (fun c_5 => ?_) (fun c_5 => ?_)
    · exact absurd c_5 (by decide)
    refine lv_iconst (pc := 28) (v := 0) hx hb dX5_mediant_28 (by decide) ?_
    refine lv_goto (pc := 29) (tgt := 52) hx hb dX5_mediant_29 (by decide) ?_
    refine r_iret (pc := 52) E hr hlk hS (by omega) (by omega) ?_ dX5_mediant_52
    exact ⟨_, _, _, _, ⟨_, _, _, _, _, fo, fj, fk, fe, fr, fw, ⟨hPm, hPa, hPl, hPe, hPr, hPk⟩, hFk, hFe, hFr, hpk, hn9⟩, AC.fail (by subst er_1; first | rfl | (simp [m_or, m_not, m_is0, m_lt0, m_fl, c_3]; done)) (by subst er_1; first | rfl | (simp [m_or, m_not, m_is0, m_lt0, m_fl, c_3]; done)) (fun z9 => absurd (ef_r_4.symm.trans (er_4.trans z9)) (by decide))⟩
  · refine lv_iload_n (pc := 8) hx hb dX5_mediant_8 rfl (lv_at hl 2 rfl) ?_
    refine lv_iload_n (pc := 9) hx hb dX5_mediant_9 rfl (lv_at hl 3 rfl) ?_
    refine k_i (pc := 10) (k_S E hC hS hA hl.1 (c_X5_areNo l D tk N0 sa H.size x2 x3 ) kw_1286 kw_1287 kw_5 kw_1288 (n := 2) (by decide +kernel) rfl ⟨⟨rfl, rfl⟩, ⟨Nat.le_of_ble_eq_true rfl, Nat.le_of_ble_eq_true rfl⟩, (by dsimp only; omega), (by dsimp only; omega)⟩ rfl (Nat.le_of_ble_eq_true rfl) trivial dX5_mediant_10) hS (fun q z w => absurd w (Nat.not_le.mpr z)) hn (fun r_6 H locs hR hz hk hS => ?_)
    have er_6 := hR
    have fw := fw.new hk
    have fo := fo.kept (hk _ fo.lt (Nat.not_le.mpr fo.lt))
    have fj := fj.kept (hk _ fj.lt (Nat.not_le.mpr fj.lt))
    have fk := fk.new hk
    have fe := fe.kept (hk _ fe.lt (Nat.not_le.mpr fe.lt))
    have fr := fr.kept (hk _ fr.lt (Nat.not_le.mpr fr.lt))
    refine lv_if_eq (pc := 13) (tgt := 20) hx hb dX5_mediant_13 (by decide) (fun c_8 => ?_) (fun c_8 => ?_)
    · refine lv_iconst (pc := 20) (v := 0) hx hb dX5_mediant_20 (by decide) ?_
      refine lv_iconst (pc := 21) (v := 0) hx hb dX5_mediant_21 (by decide) ?_
      have hZ0_ := hS.1
      have t_fo := fo.lt
      have t_fj := fj.lt
      have t_fk := fun k (hk9 : k < 6) => (fk k hk9).lt
      have t_fe := fe.lt
      have t_fr := fr.lt
      refine k_i (pc := 22) (k_V E hC hS hA hl.1 (c1.recv hC fo rfl) rfl (c_X5_fails l D tk N0 sa H.size P hPN (fun q h9 => hPs q (Nat.le_trans hS.1 h9)) mo n9 kn th tt bb eT eB oT oB pk ca rf vs 0 0 ) kw_1251 kw_1253 kp_20 kw_5 kw_1254 (n := 2) (by decide +kernel) rfl ⟨⟨rfl, rfl⟩, ⟨Nat.le_of_ble_eq_true rfl, Nat.le_of_ble_eq_true rfl⟩, (by dsimp only; omega), (by dsimp only; omega)⟩ rfl (Nat.le_of_ble_eq_true rfl) ⟨_, _, _, _, _, fo, fj, fk, fe, fr, fw, ⟨hPm, hPa, hPl, hPe, hPr, hPk⟩, hFk, hFe, hFr, hpk, hn9⟩ dX5_mediant_22) hS (fun q _ h => h) hn (fun r_9 H locs hR hz hk hS => ?_)
      obtain ⟨er_9, hM⟩ := hR
      obtain ⟨ra, rl, ex, ro, rt, fo, fj, fk, fe, fr, fw, ⟨hPm, hPa, hPl, hPe, hPr, hPk⟩, hFk, hFe, hFr, hpk, hn9⟩ := hM
      have g_fo := hPm
      have g_fj := hPa
      have ef_r_9 : r_9 = 0 := er_9.trans rfl
      rw [ef_r_9]
      refine lv_if_eq (pc := 25) (tgt := 32) hx hb dX5_mediant_25 (by decide) (fun c_10 => ?_) (fun c_10 => ?_)
      rotate_left
      · exact absurd (by decide) c_10
      refine lv_aload_n (pc := 32) hx hb dX5_mediant_32 rfl (lv_at hl 0 rfl) ?_
      refine lv_iload_n (pc := 33) hx hb dX5_mediant_33 rfl (lv_at hl 1 rfl) ?_
      refine lv_aload_n (pc := 34) hx hb dX5_mediant_34 rfl (lv_at hl 0 rfl) ?_
      refine r_get (pc := 35) E hC fo 0 (v := .ref ra) rfl rfl (by decide) uX5 (List.mem_cons_of_mem _ kw_1209) (fun _ h => h) dX5_mediant_35 ?_
      refine lv_iload_n (pc := 38) hx hb dX5_mediant_38 rfl (lv_at hl 2 rfl) ?_
      obtain ⟨hx_11, hk_11⟩ := m_noN (m_ano (er_6.symm.trans c_8)).1
      refine r_aaldJ (pc := 39) E hC fj (nn x2) hx_11 hk_11 (by decide) rfl dX5_mediant_39 ?_
      have fL12 := fk (nn x2) hk_11
      have mF_fL12 := hFk (nn x2) hk_11
      have Pq_fL12 := hPk (nn x2) hk_11
      refine lv_aload_n (pc := 40) hx hb dX5_mediant_40 rfl (lv_at hl 0 rfl) ?_
      refine r_get (pc := 41) E hC fo 0 (v := .ref ra) rfl rfl (by decide) uX5 (List.mem_cons_of_mem _ kw_1209) (fun _ h => h) dX5_mediant_41 ?_
      refine lv_iload_n (pc := 44) hx hb dX5_mediant_44 rfl (lv_at hl 3 rfl) ?_
      obtain ⟨hx_13, hk_13⟩ := m_noN (m_ano (er_6.symm.trans c_8)).2
      refine r_aaldJ (pc := 45) E hC fj (nn x3) hx_13 hk_13 (by decide) rfl dX5_mediant_45 ?_
      have fL14 := fk (nn x3) hk_13
      have mF_fL14 := hFk (nn x3) hk_13
      have Pq_fL14 := hPk (nn x3) hk_13
      have hP9 := m_btwP mF_fL12 mF_fL14
      have hZ0_ := hS.1
      have t_fo := fo.lt
      have t_fj := fj.lt
      have t_fk := fun k (hk9 : k < 6) => (fk k hk9).lt
      have t_fe := fe.lt
      have t_fr := fr.lt
      have t_fL12 := fL12.lt
      have t_fL14 := fL14.lt
      refine k_r (pc := 46) (k_S E hC hS hA hl.1 (c_X5_between l D tk N0 sa H.size (rt (nn x2)) (tt (nn x2)) (bb (nn x2)) (rt (nn x3)) (tt (nn x3)) (bb (nn x3)) hP9.1) kw_1340 kw_1341 kw_5 kw_1342 (n := 2) (by decide +kernel) rfl ⟨⟨rfl, rfl⟩, ⟨Nat.le_of_ble_eq_true rfl, Nat.le_of_ble_eq_true rfl⟩, (by dsimp only; omega), (by dsimp only; omega)⟩ rfl (Nat.le_of_ble_eq_true rfl) ⟨fL12, fL14⟩ dX5_mediant_46) hS (fun q z w => absurd w (Nat.not_le.mpr z)) hn (fun r_15 H locs hR hz hk hS => ?_)
      have fw := fw.new hk
      have fo := fo.kept (hk _ fo.lt (Nat.not_le.mpr fo.lt))
      have fj := fj.kept (hk _ fj.lt (Nat.not_le.mpr fj.lt))
      have fk := fk.new hk
      have fe := fe.kept (hk _ fe.lt (Nat.not_le.mpr fe.lt))
      have fr := fr.kept (hk _ fr.lt (Nat.not_le.mpr fr.lt))
      have fL12 := fL12.kept (hk _ fL12.lt (Nat.not_le.mpr fL12.lt))
      have fL14 := fL14.kept (hk _ fL14.lt (Nat.not_le.mpr fL14.lt))
      obtain ⟨z9_, f16⟩ := hR
      have s_f16 : s.heap.size ≤ r_15 := Nat.le_trans hZ0_ z9_
      have g_f16 := hn _ s_f16
      have l_fo_f16 : mo < r_15 := Nat.lt_of_lt_of_le t_fo z9_
      have l_fj_f16 : ra < r_15 := Nat.lt_of_lt_of_le t_fj z9_
      have nW_f16 : ∀ k, k < 6 → rt k ≠ r_15 := fun k hk9 => Nat.ne_of_lt (Nat.lt_of_lt_of_le (t_fk k hk9) z9_)
      have l_fe_f16 : ex < r_15 := Nat.lt_of_lt_of_le t_fe z9_
      have l_fr_f16 : ro < r_15 := Nat.lt_of_lt_of_le t_fr z9_
      have l_fL12_f16 : rt (nn x2) < r_15 := Nat.lt_of_lt_of_le t_fL12 z9_
      have l_fL14_f16 : rt (nn x3) < r_15 := Nat.lt_of_lt_of_le t_fL14 z9_
      have hZ0_ := hS.1
      have t_fo := fo.lt
      have t_fj := fj.lt
      have t_fk := fun k (hk9 : k < 6) => (fk k hk9).lt
      have t_fe := fe.lt
      have t_fr := fr.lt
      have t_fL12 := fL12.lt
      have t_fL14 := fL14.lt
      have t_f16 := f16.lt
      obtain ⟨hx_17, hk_17⟩ := m_noN (er_1.symm.trans c_3)
      refine k_i (pc := 49) (k_V E hC hS hA hl.1 (c1.recv hC fo rfl) rfl (c_X5_become l D tk N0 sa H.size P hPN (fun q h9 => hPs q (Nat.le_trans hS.1 h9)) mo n9 kn ((m_th 0 0)) tt bb eT eB oT oB pk ca rf vs x1 (nn x1) hx_17 hk_17 r_15 (m_loT ((tt (nn x2)) + (tt (nn x3))) ((bb (nn x2)) + (bb (nn x3)))) (m_loB ((tt (nn x2)) + (tt (nn x3))) ((bb (nn x2)) + (bb (nn x3)))) (hPs _ s_f16) hP9.2) kw_1255 kw_1257 kp_21 kw_5 kw_1258 (n := 2) (by decide +kernel) rfl ⟨⟨rfl, rfl⟩, ⟨Nat.le_of_ble_eq_true rfl, Nat.le_of_ble_eq_true rfl⟩, (by dsimp only; omega), (by dsimp only; omega)⟩ rfl (Nat.le_of_ble_eq_true rfl) ⟨⟨_, _, _, _, _, fo, fj, fk, fe, fr, fw, ⟨hPm, hPa, hPl, hPe, hPr, hPk⟩, hFk, hFe, hFr, hpk, hn9⟩, f16⟩ dX5_mediant_49) hS (fun q _ h => h) hn (fun r_18 H locs hR hz hk hS => ?_)
      obtain ⟨tt_19, bb_19, rf_19, hM, hBE_19⟩ := hR
      obtain ⟨ra, rl, ex, ro, rt, fo, fj, fk, fe, fr, fw, ⟨hPm, hPa, hPl, hPe, hPr, hPk⟩, hFk, hFe, hFr, hpk, hn9⟩ := hM
      have g_fo := hPm
      have g_fj := hPa
      refine r_iret (pc := 52) E hr hlk hS (by omega) (by omega) ?_ dX5_mediant_52
      exact ⟨_, _, _, _, ⟨_, _, _, _, _, fo, fj, fk, fe, fr, fw, ⟨hPm, hPa, hPl, hPe, hPr, hPk⟩, hFk, hFe, hFr, hpk, hn9⟩, AC.ok (by subst er_1 er_6; first | rfl | (simp [m_or, m_not, m_is0, m_lt0, m_fl, c_3, c_8]; done)) (by subst er_1 er_6; first | rfl | (simp [m_or, m_not, m_is0, m_lt0, m_fl, c_3, c_8]; done)) (er_9.symm.trans ef_r_9) (hBE_19.cast (by subst er_1 er_6; first | rfl | (simp [LO, c_3, c_8]; done)))⟩
    · refine lv_iconst (pc := 16) (v := 1) hx hb dX5_mediant_16 (by decide) ?_
      refine lv_goto (pc := 17) (tgt := 21) hx hb dX5_mediant_17 (by decide) ?_
      refine lv_iconst (pc := 21) (v := 0) hx hb dX5_mediant_21 (by decide) ?_
      have hZ0_ := hS.1
      have t_fo := fo.lt
      have t_fj := fj.lt
      have t_fk := fun k (hk9 : k < 6) => (fk k hk9).lt
      have t_fe := fe.lt
      have t_fr := fr.lt
      refine k_i (pc := 22) (k_V E hC hS hA hl.1 (c1.recv hC fo rfl) rfl (c_X5_fails l D tk N0 sa H.size P hPN (fun q h9 => hPs q (Nat.le_trans hS.1 h9)) mo n9 kn th tt bb eT eB oT oB pk ca rf vs 1 0 ) kw_1251 kw_1253 kp_20 kw_5 kw_1254 (n := 2) (by decide +kernel) rfl ⟨⟨rfl, rfl⟩, ⟨Nat.le_of_ble_eq_true rfl, Nat.le_of_ble_eq_true rfl⟩, (by dsimp only; omega), (by dsimp only; omega)⟩ rfl (Nat.le_of_ble_eq_true rfl) ⟨_, _, _, _, _, fo, fj, fk, fe, fr, fw, ⟨hPm, hPa, hPl, hPe, hPr, hPk⟩, hFk, hFe, hFr, hpk, hn9⟩ dX5_mediant_22) hS (fun q _ h => h) hn (fun r_20 H locs hR hz hk hS => ?_)
      obtain ⟨er_20, hM⟩ := hR
      obtain ⟨ra, rl, ex, ro, rt, fo, fj, fk, fe, fr, fw, ⟨hPm, hPa, hPl, hPe, hPr, hPk⟩, hFk, hFe, hFr, hpk, hn9⟩ := hM
      have g_fo := hPm
      have g_fj := hPa
      have ef_r_20 : r_20 = 1 := er_20.trans (if_neg (by decide))
      rw [ef_r_20]
      refine lv_if_eq (pc := 25) (tgt := 32) hx hb dX5_mediant_25 (by decide) (fun c_21 => ?_) (fun c_21 => ?_)
      · exact absurd c_21 (by decide)
      refine lv_iconst (pc := 28) (v := 0) hx hb dX5_mediant_28 (by decide) ?_
      refine lv_goto (pc := 29) (tgt := 52) hx hb dX5_mediant_29 (by decide) ?_
      refine r_iret (pc := 52) E hr hlk hS (by omega) (by omega) ?_ dX5_mediant_52
      exact ⟨_, _, _, _, ⟨_, _, _, _, _, fo, fj, fk, fe, fr, fw, ⟨hPm, hPa, hPl, hPe, hPr, hPk⟩, hFk, hFe, hFr, hpk, hn9⟩, AC.fail (by subst er_1 er_6; first | rfl | (simp [m_or, m_not, m_is0, m_lt0, m_fl, c_3, c_8]; done)) (by subst er_1 er_6; first | rfl | (simp [m_or, m_not, m_is0, m_lt0, m_fl, c_3, c_8]; done)) (fun z9 => absurd (ef_r_20.symm.trans (er_20.trans z9)) (by decide))⟩
set_option maxHeartbeats 4000000 in
set_option maxRecDepth 100000 in
/-- BestratiosModel.over(III)I -/
theorem c_X5_over (l : Launch) (D : va_G) (tk : Nat → ClassId) (N0 : Nat) (sa : Nat → Nat)  (sz : Nat) (P : Nat → Prop) (hPN : ∀ q, P q → N0 ≤ q) (hPs : ∀ q, sz ≤ q → P q) (mo n9 : Nat) (kn th : Int32) (tt bb : Nat → Int64) (eT eB oT oB : Int64) (pk : Nat) (ca rf : Int32) (vs : Nat → Value) (x1 : Int32) (x2 : Int32) (x3 : Int32) : Met l yX5_over (wsy yX5_over cX5_over 5 (some .int)) ({ frames := 4, cells := 2, slots := 4, locals := 98 } : Room) (cP D tk N0 sa [.ref mo, .int x1, .int x2, .int x3] sz (fun H => MI D tk sa P mo tt bb eT eB oT oB pk ca rf vs kn n9 th H)) (kQi (fun r H => ∃ th1 tt1 bb1 rf1, MI D tk sa P mo tt1 bb1 eT eB oT oB pk ca rf1 vs kn n9 th1 H ∧ AC (m_or (m_isNo x1) (m_areNo x2 x3)) 0 tt bb rf (nn x1) (m_OV (tt (nn x2)) (bb (nn x2)) (tt (nn x3)) (bb (nn x3))) r th1 tt1 bb1 rf1) (P)) (2) (4) (P) := by
  refine mStart RX5 rfl (by decide +kernel) (Nat.le_of_ble_eq_true rfl) ?_
  intro p e s m args below meth c E hr hlk hnm hsz hC hF ls hl
  subst hsz
  obtain ⟨hx, hb, -⟩ := id E
  have hA : ∀ q, (P) q → N0 ≤ q := hPN
  have hn : ∀ q, s.heap.size ≤ q → (P) q := hPs
  have hS : va_S (P) s.heap s.heap [] := va_S.rf
  have hl : lv_has ls 5 [(0, .ref mo), (1, .int x1), (2, .int x2), (3, .int x3)] := hl
  have hM : MI D tk sa P mo tt bb eT eB oT oB pk ca rf vs kn n9 th s.heap := hF
  obtain ⟨ra, rl, ex, ro, rt, fo, fj, fk, fe, fr, fw, ⟨hPm, hPa, hPl, hPe, hPr, hPk⟩, hFk, hFe, hFr, hpk, hn9⟩ := hM
  have g_fo := hPm
  have g_fj := hPa
  refine lv_aload_n (pc := 0) hx hb dX5_over_0 rfl (lv_at hl 0 rfl) ?_
  refine lv_iload_n (pc := 1) hx hb dX5_over_1 rfl (lv_at hl 1 rfl) ?_
  refine k_i (pc := 2) (k_S E hC hS hA hl.1 (c_X5_isNo l D tk N0 sa s.heap.size x1 ) kw_1245 kw_1246 kw_5 kw_1247 (n := 1) (by decide +kernel) rfl ⟨⟨rfl, rfl⟩, ⟨Nat.le_of_ble_eq_true rfl, Nat.le_of_ble_eq_true rfl⟩, (by dsimp only; omega), (by dsimp only; omega)⟩ rfl (Nat.le_of_ble_eq_true rfl) trivial dX5_over_2) hS (fun q z w => absurd w (Nat.not_le.mpr z)) hn (fun r_1 H locs hR hz hk hS => ?_)
  have er_1 := hR
  have fw := fw.new hk
  have fo := fo.kept (hk _ fo.lt (Nat.not_le.mpr fo.lt))
  have fj := fj.kept (hk _ fj.lt (Nat.not_le.mpr fj.lt))
  have fk := fk.new hk
  have fe := fe.kept (hk _ fe.lt (Nat.not_le.mpr fe.lt))
  have fr := fr.kept (hk _ fr.lt (Nat.not_le.mpr fr.lt))
  refine lv_if_ne (pc := 5) (tgt := 16) hx hb dX5_over_5 (by decide) (fun c_3 => ?_) (fun c_3 => ?_)
  · refine lv_iconst (pc := 16) (v := 1) hx hb dX5_over_16 (by decide) ?_
    refine lv_goto (pc := 17) (tgt := 21) hx hb dX5_over_17 (by decide) ?_
    refine lv_iconst (pc := 21) (v := 0) hx hb dX5_over_21 (by decide) ?_
    have hZ0_ := hS.1
    have t_fo := fo.lt
    have t_fj := fj.lt
    have t_fk := fun k (hk9 : k < 6) => (fk k hk9).lt
    have t_fe := fe.lt
    have t_fr := fr.lt
    refine k_i (pc := 22) (k_V E hC hS hA hl.1 (c1.recv hC fo rfl) rfl (c_X5_fails l D tk N0 sa H.size P hPN (fun q h9 => hPs q (Nat.le_trans hS.1 h9)) mo n9 kn th tt bb eT eB oT oB pk ca rf vs 1 0 ) kw_1251 kw_1253 kp_20 kw_5 kw_1254 (n := 2) (by decide +kernel) rfl ⟨⟨rfl, rfl⟩, ⟨Nat.le_of_ble_eq_true rfl, Nat.le_of_ble_eq_true rfl⟩, (by dsimp only; omega), (by dsimp only; omega)⟩ rfl (Nat.le_of_ble_eq_true rfl) ⟨_, _, _, _, _, fo, fj, fk, fe, fr, fw, ⟨hPm, hPa, hPl, hPe, hPr, hPk⟩, hFk, hFe, hFr, hpk, hn9⟩ dX5_over_22) hS (fun q _ h => h) hn (fun r_4 H locs hR hz hk hS => ?_)
    obtain ⟨er_4, hM⟩ := hR
    obtain ⟨ra, rl, ex, ro, rt, fo, fj, fk, fe, fr, fw, ⟨hPm, hPa, hPl, hPe, hPr, hPk⟩, hFk, hFe, hFr, hpk, hn9⟩ := hM
    have g_fo := hPm
    have g_fj := hPa
    have ef_r_4 : r_4 = 1 := er_4.trans (if_neg (by decide))
    rw [ef_r_4]
    refine lv_if_eq (pc := 25) (tgt := 30) hx hb dX5_over_25 (by decide) (fun c_5 => ?_) (fun c_5 => ?_)
    · exact absurd c_5 (by decide)
    refine lv_iconst (pc := 28) (v := 0) hx hb dX5_over_28 (by decide) ?_
    refine r_iret (pc := 29) E hr hlk hS (by omega) (by omega) ?_ dX5_over_29
    exact ⟨_, _, _, _, ⟨_, _, _, _, _, fo, fj, fk, fe, fr, fw, ⟨hPm, hPa, hPl, hPe, hPr, hPk⟩, hFk, hFe, hFr, hpk, hn9⟩, AC.fail (by subst er_1; first | rfl | (simp [m_or, m_not, m_is0, m_lt0, m_fl, c_3]; done)) (by subst er_1; first | rfl | (simp [m_or, m_not, m_is0, m_lt0, m_fl, c_3]; done)) (fun z9 => absurd (ef_r_4.symm.trans (er_4.trans z9)) (by decide))⟩
  · refine lv_iload_n (pc := 8) hx hb dX5_over_8 rfl (lv_at hl 2 rfl) ?_
    refine lv_iload_n (pc := 9) hx hb dX5_over_9 rfl (lv_at hl 3 rfl) ?_
    refine k_i (pc := 10) (k_S E hC hS hA hl.1 (c_X5_areNo l D tk N0 sa H.size x2 x3 ) kw_1286 kw_1287 kw_5 kw_1288 (n := 2) (by decide +kernel) rfl ⟨⟨rfl, rfl⟩, ⟨Nat.le_of_ble_eq_true rfl, Nat.le_of_ble_eq_true rfl⟩, (by dsimp only; omega), (by dsimp only; omega)⟩ rfl (Nat.le_of_ble_eq_true rfl) trivial dX5_over_10) hS (fun q z w => absurd w (Nat.not_le.mpr z)) hn (fun r_6 H locs hR hz hk hS => ?_)
    have er_6 := hR
    have fw := fw.new hk
    have fo := fo.kept (hk _ fo.lt (Nat.not_le.mpr fo.lt))
    have fj := fj.kept (hk _ fj.lt (Nat.not_le.mpr fj.lt))
    have fk := fk.new hk
    have fe := fe.kept (hk _ fe.lt (Nat.not_le.mpr fe.lt))
    have fr := fr.kept (hk _ fr.lt (Nat.not_le.mpr fr.lt))
    refine lv_if_eq (pc := 13) (tgt := 20) hx hb dX5_over_13 (by decide) (fun c_8 => ?_) (fun c_8 => ?_)
    · refine lv_iconst (pc := 20) (v := 0) hx hb dX5_over_20 (by decide) ?_
      refine lv_iconst (pc := 21) (v := 0) hx hb dX5_over_21 (by decide) ?_
      have hZ0_ := hS.1
      have t_fo := fo.lt
      have t_fj := fj.lt
      have t_fk := fun k (hk9 : k < 6) => (fk k hk9).lt
      have t_fe := fe.lt
      have t_fr := fr.lt
      refine k_i (pc := 22) (k_V E hC hS hA hl.1 (c1.recv hC fo rfl) rfl (c_X5_fails l D tk N0 sa H.size P hPN (fun q h9 => hPs q (Nat.le_trans hS.1 h9)) mo n9 kn th tt bb eT eB oT oB pk ca rf vs 0 0 ) kw_1251 kw_1253 kp_20 kw_5 kw_1254 (n := 2) (by decide +kernel) rfl ⟨⟨rfl, rfl⟩, ⟨Nat.le_of_ble_eq_true rfl, Nat.le_of_ble_eq_true rfl⟩, (by dsimp only; omega), (by dsimp only; omega)⟩ rfl (Nat.le_of_ble_eq_true rfl) ⟨_, _, _, _, _, fo, fj, fk, fe, fr, fw, ⟨hPm, hPa, hPl, hPe, hPr, hPk⟩, hFk, hFe, hFr, hpk, hn9⟩ dX5_over_22) hS (fun q _ h => h) hn (fun r_9 H locs hR hz hk hS => ?_)
      obtain ⟨er_9, hM⟩ := hR
      obtain ⟨ra, rl, ex, ro, rt, fo, fj, fk, fe, fr, fw, ⟨hPm, hPa, hPl, hPe, hPr, hPk⟩, hFk, hFe, hFr, hpk, hn9⟩ := hM
      have g_fo := hPm
      have g_fj := hPa
      have ef_r_9 : r_9 = 0 := er_9.trans rfl
      rw [ef_r_9]
      refine lv_if_eq (pc := 25) (tgt := 30) hx hb dX5_over_25 (by decide) (fun c_10 => ?_) (fun c_10 => ?_)
      rotate_left
      · exact absurd (by decide) c_10
      refine lv_aload_n (pc := 30) hx hb dX5_over_30 rfl (lv_at hl 0 rfl) ?_
      refine r_get (pc := 31) E hC fo 0 (v := .ref ra) rfl rfl (by decide) uX5 (List.mem_cons_of_mem _ kw_1209) (fun _ h => h) dX5_over_31 ?_
      refine lv_iload_n (pc := 34) hx hb dX5_over_34 rfl (lv_at hl 3 rfl) ?_
      obtain ⟨hx_11, hk_11⟩ := m_noN (m_ano (er_6.symm.trans c_8)).2
      refine r_aaldJ (pc := 35) E hC fj (nn x3) hx_11 hk_11 (by decide) rfl dX5_over_35 ?_
      have fL12 := fk (nn x3) hk_11
      have mF_fL12 := hFk (nn x3) hk_11
      have Pq_fL12 := hPk (nn x3) hk_11
      have hZ0_ := hS.1
      have t_fo := fo.lt
      have t_fj := fj.lt
      have t_fk := fun k (hk9 : k < 6) => (fk k hk9).lt
      have t_fe := fe.lt
      have t_fr := fr.lt
      have t_fL12 := fL12.lt
      refine k_o (pc := 36) (k_S E hC hS hA hl.1 (c_X5_inverse l D tk N0 sa H.size (rt (nn x3)) (tt (nn x3)) (bb (nn x3)) (fun z9 => (m_inv mF_fL12 z9).1)) kw_1315 kw_1316 kw_5 kw_1317 (n := 1) (by decide +kernel) rfl ⟨⟨rfl, rfl⟩, ⟨Nat.le_of_ble_eq_true rfl, Nat.le_of_ble_eq_true rfl⟩, (by dsimp only; omega), (by dsimp only; omega)⟩ rfl (Nat.le_of_ble_eq_true rfl) fL12 dX5_over_36) hS (fun q z w => absurd w (Nat.not_le.mpr z)) hn (fun r_13 H locs hR hz hk hS => ?_)
      have fw := fw.new hk
      have fo := fo.kept (hk _ fo.lt (Nat.not_le.mpr fo.lt))
      have fj := fj.kept (hk _ fj.lt (Nat.not_le.mpr fj.lt))
      have fk := fk.new hk
      have fe := fe.kept (hk _ fe.lt (Nat.not_le.mpr fe.lt))
      have fr := fr.kept (hk _ fr.lt (Nat.not_le.mpr fr.lt))
      have fL12 := fL12.kept (hk _ fL12.lt (Nat.not_le.mpr fL12.lt))
      rcases hR with ⟨rfl, hn_14⟩ | ⟨q_f14, rfl, hn_14, z9_, f14⟩
      · refine lv_astoreN (pc := 39) (lv' := [(4, .null), (0, .ref mo), (1, .int x1), (2, .int x2), (3, .int x3)]) hx hb dX5_over_39 hl (by decide) rfl (fun ls hl => ?_)
        refine lv_aload_n (pc := 41) hx hb dX5_over_41 rfl (lv_at hl 1 rfl) ?_
        refine lv_iload_n (pc := 42) hx hb dX5_over_42 rfl (lv_at hl 2 rfl) ?_
        refine lv_aloadN (pc := 43) hx hb dX5_over_43 (lv_at hl 0 rfl) ?_
        refine lv_ifnonnullN (pc := 45) hx hb dX5_over_45 ?_
        refine lv_null (pc := 48) hx hb dX5_over_48 ?_
        refine lv_goto (pc := 49) (tgt := 63) hx hb dX5_over_49 (by decide) ?_
        have hZ0_ := hS.1
        have t_fo := fo.lt
        have t_fj := fj.lt
        have t_fk := fun k (hk9 : k < 6) => (fk k hk9).lt
        have t_fe := fe.lt
        have t_fr := fr.lt
        have t_fL12 := fL12.lt
        obtain ⟨hx_15, hk_15⟩ := m_noN (er_1.symm.trans c_3)
        refine k_i (pc := 63) (k_V E hC hS hA hl.1 (c1.recv hC fo rfl) rfl (c_X5_become_N l D tk N0 sa H.size P hPN (fun q h9 => hPs q (Nat.le_trans hS.1 h9)) mo n9 kn ((m_th 0 0)) tt bb eT eB oT oB pk ca rf vs x1 (nn x1) hx_15 hk_15 ) kw_1255 kw_1257 kp_21 kw_5 kw_1258 (n := 2) (by decide +kernel) rfl ⟨⟨rfl, rfl⟩, ⟨Nat.le_of_ble_eq_true rfl, Nat.le_of_ble_eq_true rfl⟩, (by dsimp only; omega), (by dsimp only; omega)⟩ rfl (Nat.le_of_ble_eq_true rfl) ⟨_, _, _, _, _, fo, fj, fk, fe, fr, fw, ⟨hPm, hPa, hPl, hPe, hPr, hPk⟩, hFk, hFe, hFr, hpk, hn9⟩ dX5_over_63) hS (fun q _ h => h) hn (fun r_16 H locs hR hz hk hS => ?_)
        obtain ⟨tt_17, bb_17, rf_17, hM, hBE_17⟩ := hR
        obtain ⟨ra, rl, ex, ro, rt, fo, fj, fk, fe, fr, fw, ⟨hPm, hPa, hPl, hPe, hPr, hPk⟩, hFk, hFe, hFr, hpk, hn9⟩ := hM
        have g_fo := hPm
        have g_fj := hPa
        refine r_iret (pc := 66) E hr hlk hS (by omega) (by omega) ?_ dX5_over_66
        exact ⟨_, _, _, _, ⟨_, _, _, _, _, fo, fj, fk, fe, fr, fw, ⟨hPm, hPa, hPl, hPe, hPr, hPk⟩, hFk, hFe, hFr, hpk, hn9⟩, AC.ok (by subst er_1 er_6; first | rfl | (simp [m_or, m_not, m_is0, m_lt0, m_fl, c_3, c_8]; done)) (by subst er_1 er_6; first | rfl | (simp [m_or, m_not, m_is0, m_lt0, m_fl, c_3, c_8]; done)) (er_9.symm.trans ef_r_9) (hBE_17.cast (by unfold m_OV; rw [if_pos hn_14]))⟩
      · have s_f14 : s.heap.size ≤ q_f14 := Nat.le_trans hZ0_ z9_
        have g_f14 := hn _ s_f14
        have l_fo_f14 : mo < q_f14 := Nat.lt_of_lt_of_le t_fo z9_
        have l_fj_f14 : ra < q_f14 := Nat.lt_of_lt_of_le t_fj z9_
        have nW_f14 : ∀ k, k < 6 → rt k ≠ q_f14 := fun k hk9 => Nat.ne_of_lt (Nat.lt_of_lt_of_le (t_fk k hk9) z9_)
        have l_fe_f14 : ex < q_f14 := Nat.lt_of_lt_of_le t_fe z9_
        have l_fr_f14 : ro < q_f14 := Nat.lt_of_lt_of_le t_fr z9_
        have l_fL12_f14 : rt (nn x3) < q_f14 := Nat.lt_of_lt_of_le t_fL12 z9_
        refine lv_astore (pc := 39) (lv' := [(4, .ref q_f14), (0, .ref mo), (1, .int x1), (2, .int x2), (3, .int x3)]) hx hb dX5_over_39 hl (by decide) rfl (fun ls hl => ?_)
        refine lv_aload_n (pc := 41) hx hb dX5_over_41 rfl (lv_at hl 1 rfl) ?_
        refine lv_iload_n (pc := 42) hx hb dX5_over_42 rfl (lv_at hl 2 rfl) ?_
        refine lv_aload (pc := 43) hx hb dX5_over_43 (lv_at hl 0 rfl) ?_
        refine lv_ifnonnull (pc := 45) (tgt := 52) hx hb dX5_over_45 (by decide) ?_
        refine lv_aload_n (pc := 52) hx hb dX5_over_52 rfl (lv_at hl 1 rfl) ?_
        refine r_get (pc := 53) E hC fo 0 (v := .ref ra) rfl rfl (by decide) uX5 (List.mem_cons_of_mem _ kw_1209) (fun _ h => h) dX5_over_53 ?_
        refine lv_iload_n (pc := 56) hx hb dX5_over_56 rfl (lv_at hl 3 rfl) ?_
        obtain ⟨hx_18, hk_18⟩ := m_noN (m_ano (er_6.symm.trans c_8)).1
        refine r_aaldJ (pc := 57) E hC fj (nn x2) hx_18 hk_18 (by decide) rfl dX5_over_57 ?_
        have fL19 := fk (nn x2) hk_18
        have mF_fL19 := hFk (nn x2) hk_18
        have Pq_fL19 := hPk (nn x2) hk_18
        refine lv_aload (pc := 58) hx hb dX5_over_58 (lv_at hl 0 rfl) ?_
        have hP9 := m_prod mF_fL19 (m_invP mF_fL12 hn_14)
        have hZ0_ := hS.1
        have t_fo := fo.lt
        have t_fj := fj.lt
        have t_fk := fun k (hk9 : k < 6) => (fk k hk9).lt
        have t_fe := fe.lt
        have t_fr := fr.lt
        have t_fL12 := fL12.lt
        have t_f14 := f14.lt
        have t_fL19 := fL19.lt
        refine k_r (pc := 60) (k_S E hC hS hA hl.1 (c_X5_product l D tk N0 sa H.size (rt (nn x2)) (tt (nn x2)) (bb (nn x2)) q_f14 (m_loT (bb (nn x3)) (tt (nn x3))) (m_loB (bb (nn x3)) (tt (nn x3))) hP9.1) kw_1308 kw_1309 kw_5 kw_1310 (n := 2) (by decide +kernel) rfl ⟨⟨rfl, rfl⟩, ⟨Nat.le_of_ble_eq_true rfl, Nat.le_of_ble_eq_true rfl⟩, (by dsimp only; omega), (by dsimp only; omega)⟩ rfl (Nat.le_of_ble_eq_true rfl) ⟨fL19, f14⟩ dX5_over_60) hS (fun q z w => absurd w (Nat.not_le.mpr z)) hn (fun r_20 H locs hR hz hk hS => ?_)
        have fw := fw.new hk
        have fo := fo.kept (hk _ fo.lt (Nat.not_le.mpr fo.lt))
        have fj := fj.kept (hk _ fj.lt (Nat.not_le.mpr fj.lt))
        have fk := fk.new hk
        have fe := fe.kept (hk _ fe.lt (Nat.not_le.mpr fe.lt))
        have fr := fr.kept (hk _ fr.lt (Nat.not_le.mpr fr.lt))
        have fL12 := fL12.kept (hk _ fL12.lt (Nat.not_le.mpr fL12.lt))
        have f14 := f14.kept (hk _ f14.lt (Nat.not_le.mpr f14.lt))
        have fL19 := fL19.kept (hk _ fL19.lt (Nat.not_le.mpr fL19.lt))
        obtain ⟨z9_, f21⟩ := hR
        have s_f21 : s.heap.size ≤ r_20 := Nat.le_trans hZ0_ z9_
        have g_f21 := hn _ s_f21
        have l_fo_f21 : mo < r_20 := Nat.lt_of_lt_of_le t_fo z9_
        have l_fj_f21 : ra < r_20 := Nat.lt_of_lt_of_le t_fj z9_
        have nW_f21 : ∀ k, k < 6 → rt k ≠ r_20 := fun k hk9 => Nat.ne_of_lt (Nat.lt_of_lt_of_le (t_fk k hk9) z9_)
        have l_fe_f21 : ex < r_20 := Nat.lt_of_lt_of_le t_fe z9_
        have l_fr_f21 : ro < r_20 := Nat.lt_of_lt_of_le t_fr z9_
        have l_fL12_f21 : rt (nn x3) < r_20 := Nat.lt_of_lt_of_le t_fL12 z9_
        have l_f14_f21 : q_f14 < r_20 := Nat.lt_of_lt_of_le t_f14 z9_
        have l_fL19_f21 : rt (nn x2) < r_20 := Nat.lt_of_lt_of_le t_fL19 z9_
        have hZ0_ := hS.1
        have t_fo := fo.lt
        have t_fj := fj.lt
        have t_fk := fun k (hk9 : k < 6) => (fk k hk9).lt
        have t_fe := fe.lt
        have t_fr := fr.lt
        have t_fL12 := fL12.lt
        have t_f14 := f14.lt
        have t_fL19 := fL19.lt
        have t_f21 := f21.lt
        obtain ⟨hx_22, hk_22⟩ := m_noN (er_1.symm.trans c_3)
        refine k_i (pc := 63) (k_V E hC hS hA hl.1 (c1.recv hC fo rfl) rfl (c_X5_become l D tk N0 sa H.size P hPN (fun q h9 => hPs q (Nat.le_trans hS.1 h9)) mo n9 kn ((m_th 0 0)) tt bb eT eB oT oB pk ca rf vs x1 (nn x1) hx_22 hk_22 r_20 (m_loT ((tt (nn x2)) * (m_loT (bb (nn x3)) (tt (nn x3)))) ((bb (nn x2)) * (m_loB (bb (nn x3)) (tt (nn x3))))) (m_loB ((tt (nn x2)) * (m_loT (bb (nn x3)) (tt (nn x3)))) ((bb (nn x2)) * (m_loB (bb (nn x3)) (tt (nn x3))))) (hPs _ s_f21) hP9.2.1) kw_1255 kw_1257 kp_21 kw_5 kw_1258 (n := 2) (by decide +kernel) rfl ⟨⟨rfl, rfl⟩, ⟨Nat.le_of_ble_eq_true rfl, Nat.le_of_ble_eq_true rfl⟩, (by dsimp only; omega), (by dsimp only; omega)⟩ rfl (Nat.le_of_ble_eq_true rfl) ⟨⟨_, _, _, _, _, fo, fj, fk, fe, fr, fw, ⟨hPm, hPa, hPl, hPe, hPr, hPk⟩, hFk, hFe, hFr, hpk, hn9⟩, f21⟩ dX5_over_63) hS (fun q _ h => h) hn (fun r_23 H locs hR hz hk hS => ?_)
        obtain ⟨tt_24, bb_24, rf_24, hM, hBE_24⟩ := hR
        obtain ⟨ra, rl, ex, ro, rt, fo, fj, fk, fe, fr, fw, ⟨hPm, hPa, hPl, hPe, hPr, hPk⟩, hFk, hFe, hFr, hpk, hn9⟩ := hM
        have g_fo := hPm
        have g_fj := hPa
        refine r_iret (pc := 66) E hr hlk hS (by omega) (by omega) ?_ dX5_over_66
        exact ⟨_, _, _, _, ⟨_, _, _, _, _, fo, fj, fk, fe, fr, fw, ⟨hPm, hPa, hPl, hPe, hPr, hPk⟩, hFk, hFe, hFr, hpk, hn9⟩, AC.ok (by subst er_1 er_6; first | rfl | (simp [m_or, m_not, m_is0, m_lt0, m_fl, c_3, c_8]; done)) (by subst er_1 er_6; first | rfl | (simp [m_or, m_not, m_is0, m_lt0, m_fl, c_3, c_8]; done)) (er_9.symm.trans ef_r_9) (hBE_24.cast (by unfold m_OV; rw [if_neg hn_14]; rfl))⟩
    · refine lv_iconst (pc := 16) (v := 1) hx hb dX5_over_16 (by decide) ?_
      refine lv_goto (pc := 17) (tgt := 21) hx hb dX5_over_17 (by decide) ?_
      refine lv_iconst (pc := 21) (v := 0) hx hb dX5_over_21 (by decide) ?_
      have hZ0_ := hS.1
      have t_fo := fo.lt
      have t_fj := fj.lt
      have t_fk := fun k (hk9 : k < 6) => (fk k hk9).lt
      have t_fe := fe.lt
      have t_fr := fr.lt
      refine k_i (pc := 22) (k_V E hC hS hA hl.1 (c1.recv hC fo rfl) rfl (c_X5_fails l D tk N0 sa H.size P hPN (fun q h9 => hPs q (Nat.le_trans hS.1 h9)) mo n9 kn th tt bb eT eB oT oB pk ca rf vs 1 0 ) kw_1251 kw_1253 kp_20 kw_5 kw_1254 (n := 2) (by decide +kernel) rfl ⟨⟨rfl, rfl⟩, ⟨Nat.le_of_ble_eq_true rfl, Nat.le_of_ble_eq_true rfl⟩, (by dsimp only; omega), (by dsimp only; omega)⟩ rfl (Nat.le_of_ble_eq_true rfl) ⟨_, _, _, _, _, fo, fj, fk, fe, fr, fw, ⟨hPm, hPa, hPl, hPe, hPr, hPk⟩, hFk, hFe, hFr, hpk, hn9⟩ dX5_over_22) hS (fun q _ h => h) hn (fun r_25 H locs hR hz hk hS => ?_)
      obtain ⟨er_25, hM⟩ := hR
      obtain ⟨ra, rl, ex, ro, rt, fo, fj, fk, fe, fr, fw, ⟨hPm, hPa, hPl, hPe, hPr, hPk⟩, hFk, hFe, hFr, hpk, hn9⟩ := hM
      have g_fo := hPm
      have g_fj := hPa
      have ef_r_25 : r_25 = 1 := er_25.trans (if_neg (by decide))
      rw [ef_r_25]
      refine lv_if_eq (pc := 25) (tgt := 30) hx hb dX5_over_25 (by decide) (fun c_26 => ?_) (fun c_26 => ?_)
      · exact absurd c_26 (by decide)
      refine lv_iconst (pc := 28) (v := 0) hx hb dX5_over_28 (by decide) ?_
      refine r_iret (pc := 29) E hr hlk hS (by omega) (by omega) ?_ dX5_over_29
      exact ⟨_, _, _, _, ⟨_, _, _, _, _, fo, fj, fk, fe, fr, fw, ⟨hPm, hPa, hPl, hPe, hPr, hPk⟩, hFk, hFe, hFr, hpk, hn9⟩, AC.fail (by subst er_1 er_6; first | rfl | (simp [m_or, m_not, m_is0, m_lt0, m_fl, c_3, c_8]; done)) (by subst er_1 er_6; first | rfl | (simp [m_or, m_not, m_is0, m_lt0, m_fl, c_3, c_8]; done)) (fun z9 => absurd (ef_r_25.symm.trans (er_25.trans z9)) (by decide))⟩
set_option maxHeartbeats 4000000 in
set_option maxRecDepth 100000 in
/-- BestratiosModel.negate(I)I -/
theorem c_X5_negate (l : Launch) (D : va_G) (tk : Nat → ClassId) (N0 : Nat) (sa : Nat → Nat)  (sz : Nat) (P : Nat → Prop) (hPN : ∀ q, P q → N0 ≤ q) (hPs : ∀ q, sz ≤ q → P q) (mo n9 : Nat) (kn th : Int32) (tt bb : Nat → Int64) (eT eB oT oB : Int64) (pk : Nat) (ca rf : Int32) (vs : Nat → Value) (x1 : Int32) : Met l yX5_negate (wsy yX5_negate cX5_negate 2 (some .int)) ({ frames := 3, cells := 1, slots := 2, locals := 77 } : Room) (cP D tk N0 sa [.ref mo, .int x1] sz (fun H => MI D tk sa P mo tt bb eT eB oT oB pk ca rf vs kn n9 th H)) (kQi (fun r H => ∃ th1 tt1 bb1 rf1, MI D tk sa P mo tt1 bb1 eT eB oT oB pk ca rf1 vs kn n9 th1 H ∧ AC (m_isNo x1) 0 tt bb rf (nn x1) (LO (-tt (nn x1)) (bb (nn x1))) r th1 tt1 bb1 rf1) (P)) (1) (2) (P) := by
  refine mStart RX5 rfl (by decide +kernel) (Nat.le_of_ble_eq_true rfl) ?_
  intro p e s m args below meth c E hr hlk hnm hsz hC hF ls hl
  subst hsz
  obtain ⟨hx, hb, -⟩ := id E
  have hA : ∀ q, (P) q → N0 ≤ q := hPN
  have hn : ∀ q, s.heap.size ≤ q → (P) q := hPs
  have hS : va_S (P) s.heap s.heap [] := va_S.rf
  have hl : lv_has ls 2 [(0, .ref mo), (1, .int x1)] := hl
  have hM : MI D tk sa P mo tt bb eT eB oT oB pk ca rf vs kn n9 th s.heap := hF
  obtain ⟨ra, rl, ex, ro, rt, fo, fj, fk, fe, fr, fw, ⟨hPm, hPa, hPl, hPe, hPr, hPk⟩, hFk, hFe, hFr, hpk, hn9⟩ := hM
  have g_fo := hPm
  have g_fj := hPa
  refine lv_aload_n (pc := 0) hx hb dX5_negate_0 rfl (lv_at hl 0 rfl) ?_
  refine lv_iload_n (pc := 1) hx hb dX5_negate_1 rfl (lv_at hl 1 rfl) ?_
  refine k_i (pc := 2) (k_S E hC hS hA hl.1 (c_X5_isNo l D tk N0 sa s.heap.size x1 ) kw_1245 kw_1246 kw_5 kw_1247 (n := 1) (by decide +kernel) rfl ⟨⟨rfl, rfl⟩, ⟨Nat.le_of_ble_eq_true rfl, Nat.le_of_ble_eq_true rfl⟩, (by dsimp only; omega), (by dsimp only; omega)⟩ rfl (Nat.le_of_ble_eq_true rfl) trivial dX5_negate_2) hS (fun q z w => absurd w (Nat.not_le.mpr z)) hn (fun r_1 H locs hR hz hk hS => ?_)
  have er_1 := hR
  have fw := fw.new hk
  have fo := fo.kept (hk _ fo.lt (Nat.not_le.mpr fo.lt))
  have fj := fj.kept (hk _ fj.lt (Nat.not_le.mpr fj.lt))
  have fk := fk.new hk
  have fe := fe.kept (hk _ fe.lt (Nat.not_le.mpr fe.lt))
  have fr := fr.kept (hk _ fr.lt (Nat.not_le.mpr fr.lt))
  refine lv_iconst (pc := 5) (v := 0) hx hb dX5_negate_5 (by decide) ?_
  have hZ0_ := hS.1
  have t_fo := fo.lt
  have t_fj := fj.lt
  have t_fk := fun k (hk9 : k < 6) => (fk k hk9).lt
  have t_fe := fe.lt
  have t_fr := fr.lt
  refine k_i (pc := 6) (k_V E hC hS hA hl.1 (c1.recv hC fo rfl) rfl (c_X5_fails l D tk N0 sa H.size P hPN (fun q h9 => hPs q (Nat.le_trans hS.1 h9)) mo n9 kn th tt bb eT eB oT oB pk ca rf vs r_1 0 ) kw_1251 kw_1253 kp_20 kw_5 kw_1254 (n := 2) (by decide +kernel) rfl ⟨⟨rfl, rfl⟩, ⟨Nat.le_of_ble_eq_true rfl, Nat.le_of_ble_eq_true rfl⟩, (by dsimp only; omega), (by dsimp only; omega)⟩ rfl (Nat.le_of_ble_eq_true rfl) ⟨_, _, _, _, _, fo, fj, fk, fe, fr, fw, ⟨hPm, hPa, hPl, hPe, hPr, hPk⟩, hFk, hFe, hFr, hpk, hn9⟩ dX5_negate_6) hS (fun q _ h => h) hn (fun r_3 H locs hR hz hk hS => ?_)
  obtain ⟨er_3, hM⟩ := hR
  obtain ⟨ra, rl, ex, ro, rt, fo, fj, fk, fe, fr, fw, ⟨hPm, hPa, hPl, hPe, hPr, hPk⟩, hFk, hFe, hFr, hpk, hn9⟩ := hM
  have g_fo := hPm
  have g_fj := hPa
  refine lv_if_eq (pc := 9) (tgt := 16) hx hb dX5_negate_9 (by decide) (fun c_4 => ?_) (fun c_4 => ?_)
  · refine lv_aload_n (pc := 16) hx hb dX5_negate_16 rfl (lv_at hl 0 rfl) ?_
    refine lv_iload_n (pc := 17) hx hb dX5_negate_17 rfl (lv_at hl 1 rfl) ?_
    refine lv_aload_n (pc := 18) hx hb dX5_negate_18 rfl (lv_at hl 0 rfl) ?_
    refine r_get (pc := 19) E hC fo 0 (v := .ref ra) rfl rfl (by decide) uX5 (List.mem_cons_of_mem _ kw_1209) (fun _ h => h) dX5_negate_19 ?_
    refine lv_iload_n (pc := 22) hx hb dX5_negate_22 rfl (lv_at hl 1 rfl) ?_
    obtain ⟨hx_5, hk_5⟩ := m_noN (er_1.symm.trans (m_fl0 (er_3.symm.trans c_4)).1)
    refine r_aaldJ (pc := 23) E hC fj (nn x1) hx_5 hk_5 (by decide) rfl dX5_negate_23 ?_
    have fL6 := fk (nn x1) hk_5
    have mF_fL6 := hFk (nn x1) hk_5
    have Pq_fL6 := hPk (nn x1) hk_5
    refine lv_iconst (pc := 24) (v := 0) hx hb dX5_negate_24 (by decide) ?_
    refine r_l0 (pc := 25) E hC fL6 dX5_negate_25 ?_
    refine lv_lneg (pc := 26) hx hb dX5_negate_26 ?_
    refine lv_aload_n (pc := 27) hx hb dX5_negate_27 rfl (lv_at hl 0 rfl) ?_
    refine r_get (pc := 28) E hC fo 0 (v := .ref ra) rfl rfl (by decide) uX5 (List.mem_cons_of_mem _ kw_1209) (fun _ h => h) dX5_negate_28 ?_
    refine lv_iload_n (pc := 31) hx hb dX5_negate_31 rfl (lv_at hl 1 rfl) ?_
    refine r_aaldJ (pc := 32) E hC fj (nn x1) hx_5 hk_5 (by decide) rfl dX5_negate_32 ?_
    have fL7 := fk (nn x1) hk_5
    have mF_fL7 := hFk (nn x1) hk_5
    have Pq_fL7 := hPk (nn x1) hk_5
    refine lv_iconst (pc := 33) (v := 1) hx hb dX5_negate_33 (by decide) ?_
    refine r_l1 (pc := 34) E hC fL7 dX5_negate_34 ?_
    have hP9 := m_negP mF_fL7
    have hZ0_ := hS.1
    have t_fo := fo.lt
    have t_fj := fj.lt
    have t_fk := fun k (hk9 : k < 6) => (fk k hk9).lt
    have t_fe := fe.lt
    have t_fr := fr.lt
    have t_fL6 := fL6.lt
    have t_fL7 := fL7.lt
    refine k_r (pc := 35) (k_S E hC hS hA hl.1 (c_X5_lowest l D tk N0 sa H.size (-(tt (nn x1))) (bb (nn x1)) hP9.1) kw_1199 kw_1200 kw_5 kw_1201 (n := 2) (by decide +kernel) rfl ⟨⟨rfl, rfl⟩, ⟨Nat.le_of_ble_eq_true rfl, Nat.le_of_ble_eq_true rfl⟩, (by dsimp only; omega), (by dsimp only; omega)⟩ rfl (Nat.le_of_ble_eq_true rfl) trivial dX5_negate_35) hS (fun q z w => absurd w (Nat.not_le.mpr z)) hn (fun r_8 H locs hR hz hk hS => ?_)
    have fw := fw.new hk
    have fo := fo.kept (hk _ fo.lt (Nat.not_le.mpr fo.lt))
    have fj := fj.kept (hk _ fj.lt (Nat.not_le.mpr fj.lt))
    have fk := fk.new hk
    have fe := fe.kept (hk _ fe.lt (Nat.not_le.mpr fe.lt))
    have fr := fr.kept (hk _ fr.lt (Nat.not_le.mpr fr.lt))
    have fL6 := fL6.kept (hk _ fL6.lt (Nat.not_le.mpr fL6.lt))
    have fL7 := fL7.kept (hk _ fL7.lt (Nat.not_le.mpr fL7.lt))
    obtain ⟨z9_, f9⟩ := hR
    have s_f9 : s.heap.size ≤ r_8 := Nat.le_trans hZ0_ z9_
    have g_f9 := hn _ s_f9
    have l_fo_f9 : mo < r_8 := Nat.lt_of_lt_of_le t_fo z9_
    have l_fj_f9 : ra < r_8 := Nat.lt_of_lt_of_le t_fj z9_
    have nW_f9 : ∀ k, k < 6 → rt k ≠ r_8 := fun k hk9 => Nat.ne_of_lt (Nat.lt_of_lt_of_le (t_fk k hk9) z9_)
    have l_fe_f9 : ex < r_8 := Nat.lt_of_lt_of_le t_fe z9_
    have l_fr_f9 : ro < r_8 := Nat.lt_of_lt_of_le t_fr z9_
    have l_fL6_f9 : rt (nn x1) < r_8 := Nat.lt_of_lt_of_le t_fL6 z9_
    have l_fL7_f9 : rt (nn x1) < r_8 := Nat.lt_of_lt_of_le t_fL7 z9_
    have hZ0_ := hS.1
    have t_fo := fo.lt
    have t_fj := fj.lt
    have t_fk := fun k (hk9 : k < 6) => (fk k hk9).lt
    have t_fe := fe.lt
    have t_fr := fr.lt
    have t_fL6 := fL6.lt
    have t_fL7 := fL7.lt
    have t_f9 := f9.lt
    refine k_i (pc := 38) (k_V E hC hS hA hl.1 (c1.recv hC fo rfl) rfl (c_X5_become l D tk N0 sa H.size P hPN (fun q h9 => hPs q (Nat.le_trans hS.1 h9)) mo n9 kn ((m_th r_1 0)) tt bb eT eB oT oB pk ca rf vs x1 (nn x1) hx_5 hk_5 r_8 (m_loT (-(tt (nn x1))) (bb (nn x1))) (m_loB (-(tt (nn x1))) (bb (nn x1))) (hPs _ s_f9) hP9.2) kw_1255 kw_1257 kp_21 kw_5 kw_1258 (n := 2) (by decide +kernel) rfl ⟨⟨rfl, rfl⟩, ⟨Nat.le_of_ble_eq_true rfl, Nat.le_of_ble_eq_true rfl⟩, (by dsimp only; omega), (by dsimp only; omega)⟩ rfl (Nat.le_of_ble_eq_true rfl) ⟨⟨_, _, _, _, _, fo, fj, fk, fe, fr, fw, ⟨hPm, hPa, hPl, hPe, hPr, hPk⟩, hFk, hFe, hFr, hpk, hn9⟩, f9⟩ dX5_negate_38) hS (fun q _ h => h) hn (fun r_10 H locs hR hz hk hS => ?_)
    obtain ⟨tt_11, bb_11, rf_11, hM, hBE_11⟩ := hR
    obtain ⟨ra, rl, ex, ro, rt, fo, fj, fk, fe, fr, fw, ⟨hPm, hPa, hPl, hPe, hPr, hPk⟩, hFk, hFe, hFr, hpk, hn9⟩ := hM
    have g_fo := hPm
    have g_fj := hPa
    refine r_iret (pc := 41) E hr hlk hS (by omega) (by omega) ?_ dX5_negate_41
    exact ⟨_, _, _, _, ⟨_, _, _, _, _, fo, fj, fk, fe, fr, fw, ⟨hPm, hPa, hPl, hPe, hPr, hPk⟩, hFk, hFe, hFr, hpk, hn9⟩, AC.ok (by subst er_1 er_3; first | rfl | (simp [m_or, m_not, m_is0, m_lt0, m_fl, c_4]; done)) (by subst er_1 er_3; first | rfl | (simp [m_or, m_not, m_is0, m_lt0, m_fl, c_4]; done)) (er_3.symm.trans c_4) (hBE_11.cast (by subst er_1 er_3; first | rfl | (simp [LO, c_4]; done)))⟩
  · refine lv_iconst (pc := 12) (v := 0) hx hb dX5_negate_12 (by decide) ?_
    refine lv_goto (pc := 13) (tgt := 41) hx hb dX5_negate_13 (by decide) ?_
    refine r_iret (pc := 41) E hr hlk hS (by omega) (by omega) ?_ dX5_negate_41
    exact ⟨_, _, _, _, ⟨_, _, _, _, _, fo, fj, fk, fe, fr, fw, ⟨hPm, hPa, hPl, hPe, hPr, hPk⟩, hFk, hFe, hFr, hpk, hn9⟩, AC.fail (by subst er_1 er_3; first | rfl | (simp [m_or, m_not, m_is0, m_lt0, m_fl, c_4]; done)) (by subst er_1 er_3; first | rfl | (simp [m_or, m_not, m_is0, m_lt0, m_fl, c_4]; done)) (fun z9 => c_4 (er_3.trans z9))⟩
