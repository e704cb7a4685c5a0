/-! ===== the acts that reckon ===== -/
section RV6
variable {g : CS} {kn : Int32} {tt bb : Nat → Int64} {eT eB oT oB : Int64} {pk : Nat} {ca rf : Int32} {vs : Nat → Value} {n9 : Nat}
/-- an act of both sides: the same answer, the same state -/
def SMV (kn : Int32) (tt bb : Nat → Int64) (eT eB oT oB : Int64) (pk : Nat) (ca rf : Int32) (vs : Nat → Value) (n9 i : Nat) (o : Option (Int64 × Int64)) (r : Int32) (g1 : CS) : Prop := r = beR tt bb i o ∧ RV g1 kn (beT tt i o) (beB bb i o) eT eB oT oB pk ca (beF rf o) vs n9
theorem SMV.cast {i : Nat} {o o1 : Option (Int64 × Int64)} {r : Int32} (h : SMV kn tt bb eT eB oT oB pk ca rf vs n9 i o r g) (e : o = o1) : SMV kn tt bb eT eB oT oB pk ca rf vs n9 i o1 r g := e ▸ h
theorem q_i32 (x : Int32) : -9223372036854775808 < x.toInt64.toInt := by
  have := m_i32 x
  omega
theorem q_i0 {x : Int32} (h : ¬ x = 0) : ¬ x.toInt64 = 0 := fun z => h (Int32.toInt_inj.mp (by
  have := congrArg Int64.toInt z
  rw [Int32.toInt_toInt64] at this
  rw [this]
  rfl))
theorem s_put (h : RV g kn tt bb eT eB oT oB pk ca rf vs n9) {i : Nat} (hi : i < 6) {x y : Int32} (hy : ¬ y = 0) : SMV kn tt bb eT eB oT oB pk ca rf vs n9 i (LO x.toInt64 y.toInt64) (f_setR (f_become g 6 x.toInt64 y.toInt64) i) (f_setW (f_become g 6 x.toInt64 y.toInt64) i) :=
  h.bec (lz_rf g) hi (q_i32 x) (q_i32 y) (q_i0 hy) rfl rfl
theorem q_pow {k : Nat} (hk : k ≤ 9) : f_p10 (nI k) = m_pow (nI k) := by
  have hall : ∀ i : Fin 10, f_p10 (nI i.val) = m_pow (nI i.val) := by decide +kernel
  exact hall ⟨k, by omega⟩
theorem q_powB {k : Nat} (hk : k ≤ 9) : 1 ≤ (m_pow (nI k)).toInt ∧ (m_pow (nI k)).toInt ≤ 1000000000 := by
  rw [← q_pow hk]
  exact f_p10_bd _
theorem s_ptd (h : RV g kn tt bb eT eB oT oB pk ca rf vs n9) {i : Nat} (hi : i < 6) {x : Int32} {k : Nat} (hk : k ≤ 9) : SMV kn tt bb eT eB oT oB pk ca rf vs n9 i (LO x.toInt64 (m_pow (nI k))) (f_setR (f_become g 6 x.toInt64 (f_p10 (nI k))) i) (f_setW (f_become g 6 x.toInt64 (f_p10 (nI k))) i) := by
  have hp := q_powB hk
  rw [q_pow hk]
  exact h.bec (lz_rf g) hi (q_i32 x) (by omega) (m_ne0 hp.1) rfl rfl
theorem s_cpy (h : RV g kn tt bb eT eB oT oB pk ca rf vs n9) {i j : Nat} (hi : i < 6) (hj : j < 6) : SMV kn tt bb eT eB oT oB pk ca rf vs n9 i (some (tt j, bb j)) (f_setR (f_assign g 6 j) i) (f_setW (f_assign g 6 j) i) := by
  obtain ⟨a1, a2, a3, a4⟩ := h.1 j hj
  exact h.set (lz_asg g lzs6 j) hi ((q_asT g 6 j).trans a1) ((q_asB g 6 j).trans a2) a4
theorem q_fit1 {t b : Int64} (h : m_F t b) : ¬ m_fit t b = 0 := by
  obtain ⟨a1, a2, a3⟩ := h
  have e1 : (1000000000 : Int64).toInt = 1000000000 := by decide
  have e2 : (-1000000000 : Int64).toInt = -1000000000 := by decide
  have c1 : ¬ t < -1000000000 := fun z => by have := Int64.lt_iff_toInt_lt.mp z; omega
  have c2 : ¬ 1000000000 < t := fun z => by have := Int64.lt_iff_toInt_lt.mp z; omega
  have c3 : ¬ 1000000000 < b := fun z => by have := Int64.lt_iff_toInt_lt.mp z; omega
  unfold m_fit
  rw [if_neg c1, if_neg c2, if_neg c3]
  decide
theorem s_swp (h : RV g kn tt bb eT eB oT oB pk ca rf vs n9) {i k : Nat} (hi : i < 6) (hk : k < 6) :
    f_setR (f_swap g i k) i = (if m_ord (va_up (va_up tt i (tt k)) k (tt i) i) (va_up (va_up bb i (bb k)) k (bb i) i) (tt i) (bb i) = 0 then 0 else 1) ∧ RV (f_setW (f_swap g i k) i) kn (va_up (va_up tt i (tt k)) k (tt i)) (va_up (va_up bb i (bb k)) k (bb i)) eT eB oT oB pk ca rf vs n9 := by
  obtain ⟨a1, a2, a3, a4⟩ := h.1 i hi
  obtain ⟨c1, c2, c3, c4⟩ := h.1 k hk
  have h1 := h.lzv (lz_asg g lzs6 k)
  obtain ⟨g1, hg1⟩ : ∃ z, z = f_assign g 6 k := ⟨_, rfl⟩
  have m1 : tT g1 6 = tt k := by rw [hg1]; exact (q_asT g 6 k).trans c1
  have m2 : tB g1 6 = bb k := by rw [hg1]; exact (q_asB g 6 k).trans c2
  rw [← hg1] at h1
  obtain ⟨d1, d2, -, -⟩ := h1.1 i hi
  have e0 : f_swap g i k = uB (uT g1 k (tt i)) k (bb i) := by
    unfold f_swap
    rw [← hg1]
    unfold f_assign
    rw [d1, d2]
  have h2 := h1.put hk a3 a4
  have n1 : tT (uB (uT g1 k (tt i)) k (bb i)) 6 = tt k := (va_up_ne (tT g1) (tt i) (show 6 ≠ k by omega)).trans m1
  have n2 : tB (uB (uT g1 k (tt i)) k (bb i)) 6 = bb k := (va_up_ne (tB g1) (bb i) (show 6 ≠ k by omega)).trans m2
  obtain ⟨r1, r2⟩ := h2.set (lz_rf _) hi n1 n2 c4
  have hf := q_fit1 c3
  have f1 : va_up tt k (tt i) i = tt i := by
    by_cases e : i = k
    · rw [e, va_up_self]
    · rw [va_up_ne _ _ e]
  have f2 : va_up bb k (bb i) i = bb i := by
    by_cases e : i = k
    · rw [e, va_up_self]
    · rw [va_up_ne _ _ e]
  have f3 : va_up (va_up tt i (tt k)) k (tt i) i = tt k := by
    by_cases e : i = k
    · rw [e, va_up_self]
    · rw [va_up_ne _ _ e, va_up_self]
  have f4 : va_up (va_up bb i (bb k)) k (bb i) i = bb k := by
    by_cases e : i = k
    · rw [e, va_up_self]
    · rw [va_up_ne _ _ e, va_up_self]
  simp only [beR, beT, beB, beF, if_neg hf] at r1 r2
  rw [f1, f2] at r1
  rw [e0, f3, f4]
  constructor
  · rw [r1]
    have x1 := q_ordE a3 c3 a4 c4
    have x2 := q_ordE c3 a3 c4 a4
    by_cases z : tt i = tt k ∧ bb i = bb k
    · rw [if_pos (x1.mpr z), if_pos (x2.mpr ⟨z.1.symm, z.2.symm⟩)]
    · rw [if_neg (fun q => z (x1.mp q)), if_neg (fun q => z ⟨(x2.mp q).1.symm, (x2.mp q).2.symm⟩)]
  · refine r2.cong fun q hq => ?_
    by_cases e : q = i
    · rw [e, f3, f4, va_up_self, va_up_self]
      exact ⟨rfl, rfl⟩
    · rw [va_up_ne (va_up tt k (tt i)) _ e, va_up_ne (va_up bb k (bb i)) _ e]
      by_cases e2 : q = k
      · rw [e2, va_up_self, va_up_self, va_up_self, va_up_self]
        exact ⟨rfl, rfl⟩
      · rw [va_up_ne _ _ e2, va_up_ne _ _ e2, va_up_ne _ _ e2, va_up_ne _ _ e2, va_up_ne _ _ e, va_up_ne _ _ e]
        exact ⟨rfl, rfl⟩
/-- over the least common bottom it is the same sum -/
theorem q_gat {t b u v y : Int64} (h : m_F t b) (k : u.toInt.natAbs ≤ 10000000000002) (hv : 1 ≤ v.toInt ∧ v.toInt ≤ 1000000000) (hsm : u.toInt.natAbs ≤ 1000000000 ∨ (b.toInt ≤ 10000 ∧ v.toInt ≤ 10000)) (hy : y.toInt = u.toInt * b.toInt) :
    m_loT (t * f_floorOf v (f_gcd b v) + u * f_floorOf b (f_gcd b v)) (f_floorOf b (f_gcd b v) * v) = m_loT (t * v + y) (b * v) ∧ m_loB (t * f_floorOf v (f_gcd b v) + u * f_floorOf b (f_gcd b v)) (f_floorOf b (f_gcd b v) * v) = m_loB (t * v + y) (b * v) ∧
    -9223372036854775808 < (t * f_floorOf v (f_gcd b v) + u * f_floorOf b (f_gcd b v)).toInt ∧ 1 ≤ (f_floorOf b (f_gcd b v) * v).toInt := by
  obtain ⟨a1, a2, a3⟩ := h
  rw [q_fgcd (by omega) (by omega)]
  have hg := m_divI (a := b) (b := v) (by omega) (by omega)
  have hg1 : 0 < Nat.gcd v.toInt.natAbs b.toInt.natAbs := Nat.gcd_pos_of_pos_left _ (by omega)
  have hgd1 : (m_div b v).toInt ∣ v.toInt := by rw [hg]; exact Int.ofNat_dvd_left.mpr (Nat.gcd_dvd_left _ _)
  have hgd2 : (m_div b v).toInt ∣ b.toInt := by rw [hg]; exact Int.ofNat_dvd_left.mpr (Nat.gcd_dvd_right _ _)
  have hy1 : 1 ≤ (m_div b v).toInt := by omega
  obtain ⟨c, hc⟩ : ∃ c, c = m_div b v := ⟨_, rfl⟩
  rw [← hc] at hgd1 hgd2 hy1 ⊢
  rw [q_flx (by omega) (by omega) hgd1, q_flx (by omega) (by omega) hgd2]
  obtain ⟨d1, d2⟩ := m_tdv (x := v) (y := c) (by omega) hy1
  obtain ⟨e1, e2⟩ := m_tdv (x := b) (y := c) (by omega) hy1
  have k1 : v.toInt.tdiv c.toInt * c.toInt = v.toInt := Int.tdiv_mul_cancel hgd1
  have k2 : b.toInt.tdiv c.toInt * c.toInt = b.toInt := Int.tdiv_mul_cancel hgd2
  rw [← d1] at k1
  rw [← e1] at k2
  obtain ⟨q, hq⟩ : ∃ q, q = v / c := ⟨_, rfl⟩
  obtain ⟨p, hp⟩ : ∃ p, p = b / c := ⟨_, rfl⟩
  rw [← hq] at k1 d1 d2 ⊢
  rw [← hp] at k2 e1 e2 ⊢
  have q0 : 0 ≤ q.toInt := by rw [d1]; exact Int.tdiv_nonneg (by omega) (by omega)
  have p0 : 0 ≤ p.toInt := by rw [e1]; exact Int.tdiv_nonneg (by omega) (by omega)
  have qle : q.toInt.natAbs ≤ v.toInt.natAbs := by rw [d2]; exact Nat.div_le_self _ _
  have ple : p.toInt.natAbs ≤ b.toInt.natAbs := by rw [e2]; exact Nat.div_le_self _ _
  have p1 : 1 ≤ p.toInt := by
    rcases Int.lt_or_le p.toInt 1 with z | z
    · have : p.toInt = 0 := by omega
      rw [this, Int.zero_mul] at k2
      omega
    · exact z
  -- the products
  obtain ⟨x1, x1b⟩ := m_mulB (x := t) (y := q) (B := 1000000000) (C := 1000000000) a1 (by omega) (by decide)
  obtain ⟨x3, x3b⟩ := m_mulB (x := t) (y := v) (B := 1000000000) (C := 1000000000) a1 (by omega) (by decide)
  obtain ⟨x5, x5b⟩ := m_mulB (x := b) (y := v) (B := 1000000000) (C := 1000000000) (by omega) (by omega) (by decide)
  obtain ⟨x6, x6b⟩ := m_mulB (x := p) (y := v) (B := 1000000000) (C := 1000000000) (by omega) (by omega) (by decide)
  have hup : (u * p).toInt = u.toInt * p.toInt ∧ (u * p).toInt.natAbs ≤ 1000000000000000000 ∧ (u.toInt * b.toInt).natAbs ≤ 1000000000000000000 := by
    rcases hsm with z | z
    · obtain ⟨w1, w2⟩ := m_mulB (x := u) (y := p) (B := 1000000000) (C := 1000000000) z (by omega) (by decide)
      have w3 : u.toInt.natAbs * b.toInt.natAbs ≤ 1000000000 * 1000000000 := Nat.mul_le_mul z (by omega)
      rw [Int.natAbs_mul]
      exact ⟨w1, by omega, by omega⟩
    · obtain ⟨w1, w2⟩ := m_mulB (x := u) (y := p) (B := 10000000000002) (C := 10000) k (by omega) (by decide)
      have w3 : u.toInt.natAbs * b.toInt.natAbs ≤ 10000000000002 * 10000 := Nat.mul_le_mul k (by omega)
      rw [Int.natAbs_mul]
      exact ⟨w1, by omega, by omega⟩
  obtain ⟨x2, x2b, x4b⟩ := hup
  obtain ⟨s1, s1b⟩ := m_addB (x := t * q) (y := u * p) (B := 1000000000 * 1000000000) (C := 1000000000000000000) x1b x2b (by decide)
  obtain ⟨s2, s2b⟩ := m_addB (x := t * v) (y := y) (B := 1000000000 * 1000000000) (C := 1000000000000000000) x3b (by rw [hy]; exact x4b) (by decide)
  have b1 : 1 * 1 ≤ b.toInt * v.toInt := Int.mul_le_mul a2 hv.1 (by decide) (by omega)
  have b2 : 1 * 1 ≤ p.toInt * v.toInt := Int.mul_le_mul p1 hv.1 (by decide) (by omega)
  have hval : (t * q + u * p).toInt * (b * v).toInt = (t * v + y).toInt * (p * v).toInt := by
    rw [s1, s2, x1, x2, x3, x5, x6, hy, ← k1, ← k2]
    grind
  have hb1 : 1 ≤ (b * v).toInt := by rw [x5]; omega
  have hb2 : 1 ≤ (p * v).toInt := by rw [x6]; omega
  obtain ⟨y1, y2⟩ := q_loS (t := t * q + u * p) (b := p * v) (u := t * v + y) (v := b * v) (by omega) (by omega) (m_ne0 hb2) (by omega) (by omega) (m_ne0 hb1) hval
  exact ⟨y1, y2, by omega, hb2⟩
theorem s_pls (h : RV g kn tt bb eT eB oT oB pk ca rf vs n9) {i j k : Nat} (hi : i < 6) (hj : j < 6) (hk : k < 6) : SMV kn tt bb eT eB oT oB pk ca rf vs n9 i (LO (tt j * bb k + (1 : Int32).toInt64 * (tt k * bb j)) (bb j * bb k)) (f_setR (f_sum g 6 j k) i) (f_setW (f_sum g 6 j k) i) := by
  obtain ⟨a1, a2, a3, a4⟩ := h.1 j hj
  obtain ⟨c1, c2, c3, c4⟩ := h.1 k hk
  unfold f_sum f_gather
  rw [a1, a2, c1, c2]
  have hy : ((1 : Int32).toInt64 * (tt k * bb j)).toInt = (tt k).toInt * (bb j).toInt := by
    rw [show (1 : Int32).toInt64 = 1 by decide, Int64.one_mul]
    exact q_prod c3 a3
  obtain ⟨e1, e2, e3, e4⟩ := q_gat (u := tt k) a3 (by have := c3.1; omega) ⟨c3.2.1, c3.2.2⟩ (Or.inl c3.1) hy
  exact h.bec (lz_rf g) hi e3 (by omega) (m_ne0 e4) e1 e2
theorem s_min (h : RV g kn tt bb eT eB oT oB pk ca rf vs n9) {i j k : Nat} (hi : i < 6) (hj : j < 6) (hk : k < 6) : SMV kn tt bb eT eB oT oB pk ca rf vs n9 i (LO (tt j * bb k + (-1 : Int32).toInt64 * (tt k * bb j)) (bb j * bb k)) (f_setR (f_dif g 6 j k) i) (f_setW (f_dif g 6 j k) i) := by
  obtain ⟨a1, a2, a3, a4⟩ := h.1 j hj
  obtain ⟨c1, c2, c3, c4⟩ := h.1 k hk
  unfold f_dif f_gather
  rw [a1, a2, c1, c2]
  obtain ⟨n1, n2⟩ := m_negB c3.1 (by decide)
  have hy : ((-1 : Int32).toInt64 * (tt k * bb j)).toInt = (-(tt k)).toInt * (bb j).toInt := by
    obtain ⟨w1, w2⟩ := m_mulB (x := tt k) (y := bb j) (B := 1000000000) (C := 1000000000) c3.1 (by have := a3.2; omega) (by decide)
    rw [(m_mulB (x := (-1 : Int32).toInt64) (y := tt k * bb j) (B := 1) (C := 1000000000 * 1000000000) (by decide) w2 (by decide)).1, w1, n1, show (-1 : Int32).toInt64.toInt = -1 by decide, Int.neg_mul, Int.neg_mul, Int.one_mul]
  obtain ⟨e1, e2, e3, e4⟩ := q_gat (u := -(tt k)) a3 (by omega) ⟨c3.2.1, c3.2.2⟩ (Or.inl n2) hy
  exact h.bec (lz_rf g) hi e3 (by omega) (m_ne0 e4) e1 e2
theorem q_mB {t b u v : Int64} (h : m_F t b) (k : m_F u v) : (t * u).toInt.natAbs ≤ 1000000000000000000 ∧ (t * u).toInt = t.toInt * u.toInt ∧ 1 ≤ (b * v).toInt ∧ (b * v).toInt ≤ 1000000000000000000 ∧ (b * v).toInt = b.toInt * v.toInt := by
  obtain ⟨a1, a2, a3⟩ := h
  obtain ⟨b1, b2, b3⟩ := k
  obtain ⟨x1, x2⟩ := m_mulB (x := t) (y := u) (B := 1000000000) (C := 1000000000) a1 b1 (by decide)
  obtain ⟨y1, y2⟩ := m_mulB (x := b) (y := v) (B := 1000000000) (C := 1000000000) (by omega) (by omega) (by decide)
  have h0 : 1 * 1 ≤ b.toInt * v.toInt := Int.mul_le_mul a2 b2 (by decide) (by omega)
  exact ⟨by omega, x1, by omega, by omega, y1⟩
theorem s_tim (h : RV g kn tt bb eT eB oT oB pk ca rf vs n9) {i j k : Nat} (hi : i < 6) (hj : j < 6) (hk : k < 6) : SMV kn tt bb eT eB oT oB pk ca rf vs n9 i (LO (tt j * tt k) (bb j * bb k)) (f_setR (f_mul g 6 j k) i) (f_setW (f_mul g 6 j k) i) := by
  obtain ⟨a1, a2, a3, a4⟩ := h.1 j hj
  obtain ⟨c1, c2, c3, c4⟩ := h.1 k hk
  unfold f_mul
  rw [a1, a2, c1, c2]
  obtain ⟨e1, -, e3, -, -⟩ := q_mB a3 c3
  exact h.bec (lz_rf g) hi (by omega) (by omega) (m_ne0 e3) rfl rfl
theorem q_cmp0 {t : Int64} : f_cmp t 0 = 0 ↔ t = 0 := by
  unfold f_cmp
  by_cases c1 : t < 0
  · rw [if_pos c1]
    exact ⟨fun z => absurd z (by decide), fun z => by rw [z] at c1; exact absurd c1 (by decide)⟩
  · rw [if_neg c1]
    by_cases c2 : t = 0
    · rw [if_pos c2]
      exact ⟨fun _ => c2, fun _ => rfl⟩
    · rw [if_neg c2]
      exact ⟨fun z => absurd z (by decide), fun z => absurd z c2⟩
theorem s_ovr (h : RV g kn tt bb eT eB oT oB pk ca rf vs n9) {i j k : Nat} (hi : i < 6) (hj : j < 6) (hk : k < 6) : SMV kn tt bb eT eB oT oB pk ca rf vs n9 i (m_OV (tt j) (bb j) (tt k) (bb k)) (f_overR g i j k) (f_overW g i j k) := by
  obtain ⟨a1, a2, a3, a4⟩ := h.1 j hj
  obtain ⟨c1, c2, c3, c4⟩ := h.1 k hk
  unfold f_overR f_overW m_OV
  rw [c1]
  by_cases z : tt k = 0
  · rw [if_pos (q_cmp0.mpr z), if_pos (q_cmp0.mpr z), if_pos z]
    exact h.no (lz_rf g) i
  · rw [if_neg (fun q => z (q_cmp0.mp q)), if_neg (fun q => z (q_cmp0.mp q)), if_neg z]
    unfold f_quo
    rw [a1, a2, c1, c2]
    have hu := c3.2.1
    have hu2 := c3.2.2
    have hu3 := c3.1
    obtain ⟨l1, l2⟩ := q_lo (t := bb k) (b := tt k) (by omega) (by omega) z
    have hI := m_invP c3 z
    obtain ⟨u, hu9⟩ : ∃ u, u = m_loT (bb k) (tt k) := ⟨_, rfl⟩
    obtain ⟨v, hv9⟩ : ∃ v, v = m_loB (bb k) (tt k) := ⟨_, rfl⟩
    rw [← hu9, ← hv9] at l2 hI ⊢
    obtain ⟨e1, e2, e3, e4, e5⟩ := q_mB a3 hI
    obtain ⟨b1, b2, b3⟩ := a3
    obtain ⟨x1, x1b⟩ := m_mulB (x := tt j) (y := bb k) (B := 1000000000) (C := 1000000000) b1 (by omega) (by decide)
    obtain ⟨x2, x2b⟩ := m_mulB (x := bb j) (y := tt k) (B := 1000000000) (C := 1000000000) (by omega) hu3 (by decide)
    have x3 : ¬ bb j * tt k = 0 := fun q => by
      have q1 := congrArg Int64.toInt q
      rw [x2] at q1
      rcases Int.mul_eq_zero.mp q1 with q2 | q2
      · omega
      · exact q_ne0 z q2
    have hval : (tt j * bb k).toInt * (bb j * v).toInt = (tt j * u).toInt * (bb j * tt k).toInt := by
      rw [x1, x2, e2, e5]
      grind
    obtain ⟨y1, y2⟩ := q_loS (t := tt j * bb k) (b := bb j * tt k) (u := tt j * u) (v := bb j * v) (by omega) (by omega) x3 (by omega) (by omega) (m_ne0 e3) hval
    exact h.bec (lz_rf g) hi (by omega) (by omega) x3 y1 y2
theorem s_neg (h : RV g kn tt bb eT eB oT oB pk ca rf vs n9) {i : Nat} (hi : i < 6) : SMV kn tt bb eT eB oT oB pk ca rf vs n9 i (LO (-tt i) (bb i)) (f_setR (f_become g 6 (-tT g i) (tB g i)) i) (f_setW (f_become g 6 (-tT g i) (tB g i)) i) := by
  obtain ⟨a1, a2, a3, a4⟩ := h.1 i hi
  rw [a1, a2]
  have hn := (m_negB a3.1 (by decide)).2
  have hb := a3.2.1
  exact h.bec (lz_rf g) hi (by omega) (by omega) (m_ne0 hb) rfl rfl
theorem s_inv (h : RV g kn tt bb eT eB oT oB pk ca rf vs n9) {i : Nat} (hi : i < 6) : SMV kn tt bb eT eB oT oB pk ca rf vs n9 i (m_IV (tt i) (bb i)) (f_invR g i) (f_invW g i) := by
  obtain ⟨a1, a2, a3, a4⟩ := h.1 i hi
  unfold f_invR f_invW m_IV
  rw [a1, a2]
  have hb := a3.2
  have ht := a3.1
  by_cases z : tt i = 0
  · rw [if_pos (q_cmp0.mpr z), if_pos (q_cmp0.mpr z), if_pos z]
    exact h.no (lz_rf g) i
  · rw [if_neg (fun q => z (q_cmp0.mp q)), if_neg (fun q => z (q_cmp0.mp q)), if_neg z]
    exact h.bec (lz_rf g) hi (by omega) (by omega) z rfl rfl
theorem s_med (h : RV g kn tt bb eT eB oT oB pk ca rf vs n9) {i j k : Nat} (hi : i < 6) (hj : j < 6) (hk : k < 6) : SMV kn tt bb eT eB oT oB pk ca rf vs n9 i (LO (tt j + tt k) (bb j + bb k)) (f_setR (f_med g 6 j k) i) (f_setW (f_med g 6 j k) i) := by
  obtain ⟨a1, a2, a3, a4⟩ := h.1 j hj
  obtain ⟨c1, c2, c3, c4⟩ := h.1 k hk
  unfold f_med
  rw [a1, a2, c1, c2]
  obtain ⟨b1, b2, b3⟩ := a3
  obtain ⟨d1, d2, d3⟩ := c3
  obtain ⟨e1, e2⟩ := m_addB (x := tt j) (y := tt k) (B := 1000000000) (C := 1000000000) b1 d1 (by decide)
  obtain ⟨f1, f2⟩ := m_addB (x := bb j) (y := bb k) (B := 1000000000) (C := 1000000000) (by omega) (by omega) (by decide)
  exact h.bec (lz_rf g) hi (by omega) (by omega) (m_ne0 (by omega)) rfl rfl
end RV6
