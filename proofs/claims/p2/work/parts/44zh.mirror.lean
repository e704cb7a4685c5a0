/-! ===== so many times itself ===== -/
theorem q_fitI {t b : Int64} (hb : 1 ≤ b.toInt) : ¬ m_fit t b = 0 ↔ t.toInt.natAbs ≤ 1000000000 ∧ b.toInt ≤ 1000000000 := by
  constructor
  · intro h
    obtain ⟨h1, h2, h3⟩ := m_fit1 h hb
    exact ⟨h1, h3⟩
  · rintro ⟨h1, h2⟩
    exact q_fit1 ⟨h1, hb, h2⟩
theorem q_powM {a : Nat} (j n : Nat) (hj : j ≤ n) (h : 1000000000 < a ^ j) : 1000000000 < a ^ n := by
  have ha : 0 < a := by
    rcases Nat.eq_zero_or_pos a with rfl | z
    · exfalso
      have h2 : (0 : Nat) ^ j ≤ 1 := by
        cases j with
        | zero => decide
        | succ j => rw [Nat.pow_succ, Nat.mul_zero]; decide
      omega
    · exact z
  have := Nat.pow_le_pow_right ha hj
  omega
/-- the reference's product, as powers -/
theorem q_raL {t b : Int64} (h : m_F t b) (hL : L64 t b) : ∀ (n k : Nat) (u v : Int64), u.toInt = t.toInt ^ k → v.toInt = b.toInt ^ k → 1 ≤ v.toInt → ∃ j, k ≤ j ∧ j ≤ k + n ∧ (m_raL t b n u v).1.toInt = t.toInt ^ j ∧ (m_raL t b n u v).2.toInt = b.toInt ^ j ∧ 1 ≤ (m_raL t b n u v).2.toInt ∧ (j < k + n → m_fit (m_raL t b n u v).1 (m_raL t b n u v).2 = 0) := by
  intro n
  induction n with
  | zero => intro k u v hu hv h1; exact ⟨k, Nat.le_refl _, Nat.le_refl _, hu, hv, h1, fun z => absurd z (Nat.lt_irrefl _)⟩
  | succ n ih =>
    intro k u v hu hv h1
    unfold m_raL
    by_cases c : m_fit u v = 0
    · rw [if_pos c]
      exact ⟨k, Nat.le_refl _, by omega, hu, hv, h1, fun _ => c⟩
    · rw [if_neg c]
      have hF : m_F u v := m_fit1 c h1
      obtain ⟨e1, e2, e3, e4, e5⟩ := q_mB hF h
      have x1 : (u * t).toInt = t.toInt ^ (k + 1) := by rw [e2, hu, Int.pow_succ]
      have x2 : (v * b).toInt = b.toInt ^ (k + 1) := by rw [e5, hv, Int.pow_succ]
      have hl : L64 (u * t) (v * b) := ⟨e3, by rw [x1, x2]; exact Int.pow_gcd_pow_of_gcd_eq_one hL.2⟩
      obtain ⟨y1, y2⟩ := q_loL (by omega) hl
      rw [y1, y2]
      obtain ⟨j, j1, j2, j3, j4, j5, j6⟩ := ih (k + 1) (u * t) (v * b) x1 x2 e3
      exact ⟨j, by omega, by omega, j3, j4, j5, fun z => j6 (by omega)⟩
/-- the class's power -/
theorem q_powL {b : Int64} (hb0 : 0 ≤ b.toInt) (hb : b.toInt ≤ 1000000000) : ∀ (n k : Nat) (p : Int64), p.toInt = b.toInt ^ k → 0 ≤ p.toInt → p.toInt ≤ 1000000000000000000 → ∃ j, k ≤ j ∧ j ≤ k + n ∧ (powL n b p).toInt = b.toInt ^ j ∧ 0 ≤ (powL n b p).toInt ∧ (powL n b p).toInt ≤ 1000000000000000000 ∧ (j < k + n → 1000000000 < (powL n b p).toInt) := by
  intro n
  induction n with
  | zero => intro k p hp h0 h1; exact ⟨k, Nat.le_refl _, Nat.le_refl _, hp, h0, h1, fun z => absurd z (Nat.lt_irrefl _)⟩
  | succ n ih =>
    intro k p hp h0 h1
    have hc := Int64.lt_iff_toInt_lt (x := 1000000000) (y := p)
    rw [show (1000000000 : Int64).toInt = 1000000000 by decide] at hc
    unfold powL
    by_cases c : 1000000000 < p
    · rw [if_pos c]
      exact ⟨k, Nat.le_refl _, by omega, hp, h0, h1, fun _ => hc.mp c⟩
    · rw [if_neg c]
      have hp9 : p.toInt ≤ 1000000000 := by
        have : ¬ (1000000000 : Int) < p.toInt := fun z => c (hc.mpr z)
        omega
      obtain ⟨e1, e2⟩ := m_mulB (x := p) (y := b) (B := 1000000000) (C := 1000000000) (by omega) (by omega) (by decide)
      have e3 : 0 ≤ (p * b).toInt := by rw [e1]; exact Int.mul_nonneg h0 hb0
      obtain ⟨j, j1, j2, j3, j4, j5, j6⟩ := ih (k + 1) (p * b) (by rw [e1, hp, Int.pow_succ]) e3 (by omega)
      exact ⟨j, by omega, by omega, j3, j4, j5, fun z => j6 (by omega)⟩
theorem q_pow1 {b : Int64} (hb0 : 0 ≤ b.toInt) (hb : b.toInt ≤ 1000000000) {x : Int32} {n : Nat} (hx : nn x = n) : ∃ j, j ≤ n ∧ (f_pow b x).toInt = b.toInt ^ j ∧ 0 ≤ (f_pow b x).toInt ∧ (f_pow b x).toInt ≤ 1000000000000000000 ∧ (j < n → 1000000000 < (f_pow b x).toInt) := by
  obtain ⟨j, j1, j2, j3, j4, j5, j6⟩ := q_powL hb0 hb n 0 1 (by rw [Int.pow_zero]; rfl) (by decide) (by decide)
  unfold f_pow
  have hx : x.toNatClampNeg = n := hx
  rw [hx]
  exact ⟨j, by omega, j3, j4, j5, fun z => j6 (by omega)⟩
/-- with its sign -/
theorem q_par {x : Int32} {n : Nat} (hx : x = nI n) (hn : n ≤ 6) : x &&& 1 = 1 ↔ n % 2 = 1 := by
  have hall : ∀ i : Fin 7, (nI i.val &&& 1 = 1) ↔ i.val % 2 = 1 := by decide +kernel
  rw [hx]
  exact hall ⟨n, by omega⟩
theorem q_sgn (a : Int) (j : Nat) : (-a) ^ j = if j % 2 = 1 then -(a ^ j) else a ^ j := by
  rw [Int.neg_pow]
  rcases Nat.mod_two_eq_zero_or_one j with e | e
  · rw [e, if_neg (by decide), Int.pow_zero, Int.one_mul]
  · rw [e, if_pos rfl, show (-1 : Int) ^ 1 = -1 from rfl, Int.neg_mul, Int.one_mul]
section RV9
variable {g g1 : CS} {kn : Int32} {tt bb : Nat → Int64} {eT eB oT oB : Int64} {pk : Nat} {ca rf : Int32} {vs : Nat → Value} {n9 : Nat}
/-- REFUSED, since it doesn't FIT -/
theorem SMV.nof {i : Nat} {t b : Int64} {r : Int32} (h : SMV kn tt bb eT eB oT oB pk ca rf vs n9 i (some (t, b)) r g) (hf : m_fit t b = 0) : SMV kn tt bb eT eB oT oB pk ca rf vs n9 i none r g := by
  obtain ⟨h1, h2⟩ := h
  simp only [beR, beT, beB, beF, if_pos hf] at h1 h2
  exact ⟨h1, h2⟩
/-- both powers: bounded by what FITS, or the class's are too great -/
theorem q_two {t b : Int64} (h : m_F t b) (hL : L64 t b) {x : Int32} {n : Nat} (hx : x = nI n) (hn : n ≤ 6) :
    ∃ T B : Int64, f_powT t x = T ∧ f_pow b x = B ∧ T.toInt.natAbs ≤ 1000000000000000000 ∧ 1 ≤ B.toInt ∧ B.toInt ≤ 1000000000000000000 ∧ L64 T B ∧ (t = 0 → n = 0 ∨ T = 0) ∧ (¬ t = 0 → ¬ T = 0) ∧
      ((¬ m_fit T B = 0 ∧ ¬ m_fit (m_raL t b n 1 1).1 (m_raL t b n 1 1).2 = 0 ∧ (m_raL t b n 1 1).1 = T ∧ (m_raL t b n 1 1).2 = B) ∨ (m_fit T B = 0 ∧ m_fit (m_raL t b n 1 1).1 (m_raL t b n 1 1).2 = 0 ∧ (1000000000 < T.toInt.natAbs ∨ 1000000000 < B.toInt))) := by
  obtain ⟨a1, a2, a3⟩ := id h
  have hnx : nn x = n := by rw [hx]; exact nI_clamp (by omega)
  have e1 : (1 : Int64).toInt = 1 := rfl
  have hab : (absL t).toInt = (t.toInt.natAbs : Int) := m_abs (by omega)
  obtain ⟨jt, t1, t2, t3, t4, t5⟩ := q_pow1 (b := absL t) (by omega) (by omega) hnx
  obtain ⟨jb, b1, b2, b3, b4, b5⟩ := q_pow1 (b := b) (by omega) a3 hnx
  obtain ⟨j, -, j1, j2, j3, j4, j5⟩ := q_raL h hL n 0 1 1 (by rw [Int.pow_zero]; rfl) (by rw [Int.pow_zero]; rfl) (by decide)
  rw [Nat.zero_add] at j1 j5
  have hbp : ∀ i : Nat, b.toInt ^ i = ((b.toInt.natAbs ^ i : Nat) : Int) := by
    intro i
    rw [Int.natCast_pow]
    congr 1
    omega
  have hbq : ∀ i : Nat, 1 ≤ b.toInt ^ i := by
    intro i
    rw [hbp i]
    have : 0 < b.toInt.natAbs ^ i := Nat.pow_pos_iff.mpr (Or.inl (by omega))
    omega
  have htp : ∀ i : Nat, (t.toInt ^ i).natAbs = t.toInt.natAbs ^ i := fun i => Int.natAbs_pow _ _
  -- the class's top
  have hT : (f_powT t x).toInt.natAbs = t.toInt.natAbs ^ jt ∧ (jt = n → (f_powT t x).toInt = t.toInt ^ n) ∧ (f_powT t x).toInt.natAbs = (f_pow (absL t) x).toInt.natAbs ∧ ((f_powT t x).toInt = t.toInt ^ jt ∨ (f_powT t x).toInt = -(t.toInt ^ jt)) := by
    have p1 : (f_pow (absL t) x).toInt = ((t.toInt.natAbs ^ jt : Nat) : Int) := by rw [t2, hab, Int.natCast_pow]
    obtain ⟨n1, n2⟩ := m_negB (x := f_pow (absL t) x) (B := 1000000000000000000) (by omega) (by decide)
    have hs := Int64.le_iff_toInt_le (x := 0) (y := t)
    rw [show (0 : Int64).toInt = 0 from rfl] at hs
    unfold f_powT
    by_cases c : 0 ≤ t
    · rw [if_pos c]
      have hc := hs.mp c
      have p2 : (f_pow (absL t) x).toInt = t.toInt ^ jt := by
        rw [t2, hab]
        congr 1
        omega
      exact ⟨by omega, fun e => by rw [← e]; exact p2, rfl, Or.inl p2⟩
    · rw [if_neg c]
      have hc : ¬ 0 ≤ t.toInt := fun z => c (hs.mpr z)
      have p3 : t.toInt = -((t.toInt.natAbs : Nat) : Int) := by omega
      have p4 : ∀ i : Nat, t.toInt ^ i = if i % 2 = 1 then -((t.toInt.natAbs : Int) ^ i) else (t.toInt.natAbs : Int) ^ i := by
        intro i
        have := q_sgn (t.toInt.natAbs : Int) i
        rw [← p3] at this
        exact this
      have p5 : (f_pow (absL t) x).toInt = (t.toInt.natAbs : Int) ^ jt := by rw [t2, hab]
      have hp := q_par hx hn
      by_cases d : x &&& 1 = 1
      · rw [if_pos d]
        refine ⟨by omega, fun e => ?_, by omega, ?_⟩
        · rw [n1, p5, e, p4 n, if_pos (hp.mp d)]
        · rw [n1, p5]
          have := p4 jt
          split at this
          · exact Or.inl this.symm
          · exact Or.inr (by rw [this])
      · rw [if_neg d]
        refine ⟨by omega, fun e => ?_, rfl, ?_⟩
        · rw [p5, e, p4 n, if_neg (fun z => d (hp.mpr z))]
        · rw [p5]
          have := p4 jt
          split at this
          · exact Or.inr (by rw [this, Int.neg_neg])
          · exact Or.inl this.symm
  obtain ⟨w1, w2, w3, w4⟩ := hT
  have hB1 : 1 ≤ (f_pow b x).toInt := by rw [b2]; exact hbq jb
  have hg : Int.gcd (f_powT t x).toInt (f_pow b x).toInt = 1 := by
    rw [b2]
    rcases w4 with e | e
    · rw [e]
      exact Int.pow_gcd_pow_of_gcd_eq_one hL.2
    · rw [e, Int.neg_gcd]
      exact Int.pow_gcd_pow_of_gcd_eq_one hL.2
  refine ⟨_, _, rfl, rfl, by omega, hB1, b4, ⟨hB1, hg⟩, fun z => ?_, fun z => ?_, ?_⟩
  · rcases Nat.eq_zero_or_pos n with e | e
    · exact Or.inl e
    · right
      apply Int64.toInt_inj.mp
      rw [show (0 : Int64).toInt = 0 from rfl]
      have hz : t.toInt = 0 := by rw [z]; rfl
      have hz2 : t.toInt.natAbs = 0 := by omega
      rcases Nat.eq_zero_or_pos jt with q | q
      · have : 1000000000 < (f_pow (absL t) x).toInt := t5 (by omega)
        rw [t2, q, Int.pow_zero] at this
        omega
      · obtain ⟨jt, rfl⟩ : ∃ m, jt = m + 1 := ⟨jt - 1, by omega⟩
        rw [hz2, Nat.pow_succ, Nat.mul_zero] at w1
        omega
  · intro e
    have h0 : (f_powT t x).toInt = 0 := by rw [e]; rfl
    rw [h0] at w1
    have : 0 < t.toInt.natAbs ^ jt := Nat.pow_pos_iff.mpr (Or.inl (by have := q_ne0 z; omega))
    omega
  · have hc := q_fitI (t := f_powT t x) hB1
    have hr := q_fitI (t := (m_raL t b n 1 1).1) j4
    rw [j2, htp, j3, hbp] at hr
    by_cases c : t.toInt.natAbs ^ n ≤ 1000000000 ∧ b.toInt.natAbs ^ n ≤ 1000000000
    · have k1 : jt = n := by
        rcases Nat.lt_or_ge jt n with q | q
        · have q1 := t5 q
          rw [t2, hab, ← Int.natCast_pow] at q1
          have q2 := q_powM (a := t.toInt.natAbs) jt n (by omega) (by omega)
          omega
        · omega
      have k2 : jb = n := by
        rcases Nat.lt_or_ge jb n with q | q
        · have q1 := b5 q
          rw [b2, hbp] at q1
          have q2 := q_powM (a := b.toInt.natAbs) jb n (by omega) (by omega)
          omega
        · omega
      have k3 : j = n := by
        rcases Nat.lt_or_ge j n with q | q
        · have q1 := j5 q
          have q2 : ¬ (t.toInt.natAbs ^ j ≤ 1000000000 ∧ ((b.toInt.natAbs ^ j : Nat) : Int) ≤ 1000000000) := fun z => (hr.mpr z) q1
          have q3 := q_powM (a := t.toInt.natAbs) j n (by omega)
          have q4 := q_powM (a := b.toInt.natAbs) j n (by omega)
          by_cases q5 : 1000000000 < t.toInt.natAbs ^ j
          · have := q3 q5
            omega
          · have := q4 (by omega)
            omega
        · omega
      left
      refine ⟨hc.mpr ⟨by rw [w1, k1]; exact c.1, by rw [b2, k2, hbp]; omega⟩, hr.mpr ⟨by rw [k3]; exact c.1, by rw [k3]; omega⟩, ?_, ?_⟩
      · apply Int64.toInt_inj.mp
        rw [j2, w2 k1, k3]
      · apply Int64.toInt_inj.mp
        rw [j3, b2, k2, k3]
    · right
      have hbig : 1000000000 < (f_powT t x).toInt.natAbs ∨ 1000000000 < (f_pow b x).toInt := by
        by_cases q5 : 1000000000 < t.toInt.natAbs ^ n
        · left
          rcases Nat.lt_or_ge jt n with q | q
          · have := t5 q
            omega
          · rw [w1, show jt = n by omega]
            exact q5
        · right
          rcases Nat.lt_or_ge jb n with q | q
          · exact b5 q
          · rw [b2, show jb = n by omega, hbp]
            omega
      refine ⟨?_, ?_, hbig⟩
      · exact Classical.byContradiction fun z => by
          have := hc.mp z
          omega
      · exact Classical.byContradiction fun z => by
          have z1 := hr.mp z
          have z2 : ¬ j < n := fun q => z (j5 q)
          rw [show j = n by omega] at z1
          omega
theorem s_rai (h : RV g kn tt bb eT eB oT oB pk ca rf vs n9) {i : Nat} (hi : i < 6) {x : Int32} (hx1 : -6 ≤ x.toInt) (hx2 : x.toInt ≤ 6) : SMV kn tt bb eT eB oT oB pk ca rf vs n9 i (m_RA (tt i) (bb i) x) (f_raiR g i x) (f_raiW g i x) := by
  obtain ⟨a1, a2, a3, a4⟩ := h.1 i hi
  obtain ⟨n, hn1, hn2⟩ : ∃ n : Nat, f_absI x = nI n ∧ n ≤ 6 := by
    refine m_abs6 (x := x) ?_
    unfold m_isIn
    have c1 : ¬ x < -6 := fun z => by
      have := Int32.lt_iff_toInt_lt.mp z
      rw [show (-6 : Int32).toInt = -6 by decide] at this
      omega
    have c2 : ¬ (6 : Int32) < x := fun z => by
      have := Int32.lt_iff_toInt_lt.mp z
      rw [show (6 : Int32).toInt = 6 by decide] at this
      omega
    rw [if_neg c1, if_neg c2]
    decide
  have e32 : f_abs32 x = f_absI x := rfl
  have hnn : nn (f_absI x) = n := by rw [hn1]; exact nI_clamp (by omega)
  obtain ⟨T, B, hT, hB, t1, t2, t3, t4, t5, t6, t7⟩ := q_two a3 a4 hn1 hn2
  have hs := Int32.le_iff_toInt_le (x := 0) (y := x)
  rw [show (0 : Int32).toInt = 0 from rfl] at hs
  have hl := Int32.lt_iff_toInt_lt (x := x) (y := 0)
  rw [show (0 : Int32).toInt = 0 from rfl] at hl
  unfold f_raiR f_raiW m_RA f_power
  rw [a1, a2, e32, hT, hB, hnn]
  by_cases c : 0 ≤ x
  · rw [if_pos c, if_pos c, if_pos c, if_neg (show ¬ x < 0 from fun z => by have := hs.mp c; have := hl.mp z; omega)]
    have hp := h.bec (lz_rf g) hi (t := T) (b := B) (by omega) (by omega) (m_ne0 t2) (q_loL (by omega) t4).1 (q_loL (by omega) t4).2
    rcases t7 with ⟨k1, k2, k3, k4⟩ | ⟨k1, k2, -⟩
    · rw [if_neg k2, show m_raL (tt i) (bb i) n 1 1 = (T, B) from Prod.ext k3 k4]
      exact hp
    · rw [if_pos k2]
      exact SMV.nof (t := T) (b := B) hp k1
  · rw [if_neg c, if_neg c, if_neg c, if_pos (show x < 0 from hl.mpr (by have : ¬ 0 ≤ x.toInt := fun z => c (hs.mpr z); omega))]
    have hnpos : ¬ n = 0 := by
      intro e
      rw [e] at hn1
      have hx0 : ¬ 0 ≤ x.toInt := fun z => c (hs.mpr z)
      have : f_absI x = -x := by unfold f_absI; rw [if_neg c]
      rw [this] at hn1
      have h2 := congrArg Int32.toInt hn1
      rw [Int32.toInt_neg, nI_toInt (by decide)] at h2
      simp only [Int.bmod] at h2
      split at h2 <;> omega
    by_cases d : tt i = 0
    · rw [if_pos (q_cmp0.mpr d), if_pos (q_cmp0.mpr d)]
      have hT0 : T = 0 := (t5 d).resolve_left hnpos
      have ho : (if m_fit (m_raL (tt i) (bb i) n 1 1).1 (m_raL (tt i) (bb i) n 1 1).2 = 0 then none else m_IV (m_raL (tt i) (bb i) n 1 1).1 (m_raL (tt i) (bb i) n 1 1).2) = none := by
        rcases t7 with ⟨k1, k2, k3, k4⟩ | ⟨k1, k2, -⟩
        · rw [if_neg k2, k3, hT0]
          unfold m_IV
          rw [if_pos rfl]
        · rw [if_pos k2]
      rw [ho]
      exact h.no (lz_rf g) i
    · rw [if_neg (fun z => d (q_cmp0.mp z)), if_neg (fun z => d (q_cmp0.mp z))]
      have hT0 := t6 d
      have hp := h.bec (lz_rf g) hi (t := B) (b := T) (by omega) (by omega) hT0 rfl rfl
      rcases t7 with ⟨k1, k2, k3, k4⟩ | ⟨k1, k2, k5⟩
      · rw [if_neg k2, k3, k4]
        unfold m_IV
        rw [if_neg hT0]
        exact hp
      · rw [if_pos k2]
        refine SMV.nof (t := m_loT B T) (b := m_loB B T) hp ?_
        obtain ⟨l1, l2⟩ := q_lo (t := B) (b := T) (by omega) (by omega) hT0
        have hq := (q_fitI (t := m_loT B T) l1.1)
        refine Classical.byContradiction fun z => ?_
        obtain ⟨z1, z2⟩ := hq.mp z
        -- B and T have no common divisor: they are what comes, but for the sign
        have hco : Int.gcd B.toInt T.toInt = 1 := by rw [Int.gcd_comm]; exact t4.2
        have w1 : T.toInt ∣ (m_loB B T).toInt := by
          refine Int.gcd_eq_natAbs_left_iff_dvd.mp ?_
          rw [← Int.gcd_mul_right_right_of_gcd_eq_one (show Int.gcd T.toInt B.toInt = 1 by rw [Int.gcd_comm]; exact hco) (k := (m_loB B T).toInt)]
          exact Int.gcd_eq_natAbs_left ⟨(m_loT B T).toInt, by rw [← l2, Int.mul_comm]⟩
        have w2 : T.toInt.natAbs ≤ (m_loB B T).toInt.natAbs := Nat.le_of_dvd (by have := l1.1; omega) (Int.natAbs_dvd_natAbs.mpr w1)
        have w3 : B.toInt ∣ (m_loT B T).toInt := by
          refine Int.gcd_eq_natAbs_left_iff_dvd.mp ?_
          rw [← Int.gcd_mul_left_right_of_gcd_eq_one hco (k := (m_loT B T).toInt)]
          exact Int.gcd_eq_natAbs_left ⟨(m_loB B T).toInt, l2⟩
        have w4 : (m_loT B T).toInt ≠ 0 := by
          intro e
          rw [e, Int.zero_mul] at l2
          rcases Int.mul_eq_zero.mp l2.symm with e2 | e2
          · omega
          · have := l1.1
            omega
        have w5 : B.toInt.natAbs ≤ (m_loT B T).toInt.natAbs := Nat.le_of_dvd (by omega) (Int.natAbs_dvd_natAbs.mpr w3)
        have := l1.1
        omega
end RV9
