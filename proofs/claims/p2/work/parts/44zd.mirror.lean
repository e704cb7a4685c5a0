/-! ===== the class's state and the reference's, side by side ===== -/
def RV (g : CS) (kn : Int32) (tt bb : Nat → Int64) (eT eB oT oB : Int64) (pk : Nat) (ca rf : Int32) (vs : Nat → Value) (n9 : Nat) : Prop :=
  (∀ k, k < 6 → tT g k = tt k ∧ tB g k = bb k ∧ m_F (tt k) (bb k) ∧ L64 (tt k) (bb k)) ∧
  (tT g 9 = eT ∧ tB g 9 = eB ∧ m_F eT eB ∧ L64 eT eB) ∧ (tT g 10 = oT ∧ tB g 10 = oB ∧ m_F oT oB ∧ L64 oT oB) ∧
  (tI g 0 = rf ∧ tI g 1 = kn ∧ tI g 2 = ca ∧ tI g 3 = nI pk ∧ pk ≤ 4) ∧
  (tC g 0 = nI n9 ∧ n9 ≤ 16 ∧ ∀ i, i < n9 → ∃ x : Int32, vs i = .int x ∧ tV g 0 i = x.toInt64 ∧ x.toInt.natAbs ≤ 99999)
section RV5
variable {g g1 : CS} {kn : Int32} {tt bb : Nat → Int64} {eT eB oT oB : Int64} {pk : Nat} {ca rf : Int32} {vs : Nat → Value} {n9 : Nat}
theorem RV.lzv (h : RV g kn tt bb eT eB oT oB pk ca rf vs n9) (k : lz g g1) : RV g1 kn tt bb eT eB oT oB pk ca rf vs n9 := by
  obtain ⟨h1, h2, h3, h4, h5⟩ := h
  obtain ⟨k1, k2, k3, k4⟩ := k
  refine ⟨fun i hi => ?_, ?_, ?_, ?_, ?_⟩
  · rw [(k1 i (Or.inl hi)).1, (k1 i (Or.inl hi)).2]
    exact h1 i hi
  · rw [(k1 9 (Or.inr (Or.inl rfl))).1, (k1 9 (Or.inr (Or.inl rfl))).2]
    exact h2
  · rw [(k1 10 (Or.inr (Or.inr rfl))).1, (k1 10 (Or.inr (Or.inr rfl))).2]
    exact h3
  · rw [k4]
    exact h4
  · rw [k2, k3]
    exact h5
theorem RV.ref (h : RV g kn tt bb eT eB oT oB pk ca rf vs n9) : RV (f_refW g) kn tt bb eT eB oT oB pk ca (rf + 1) vs n9 := by
  obtain ⟨h1, h2, h3, ⟨a1, a2, a3, a4, a5⟩, h5⟩ := h
  refine ⟨h1, h2, h3, ⟨?_, ?_, ?_, ?_, a5⟩, h5⟩
  · show va_up (tI g) 0 (tI g 0 + 1) 0 = _
    rw [va_up_self, a1]
  · show va_up (tI g) 0 (tI g 0 + 1) 1 = _
    rw [va_up_ne _ _ (by decide), a2]
  · show va_up (tI g) 0 (tI g 0 + 1) 2 = _
    rw [va_up_ne _ _ (by decide), a3]
  · show va_up (tI g) 0 (tI g 0 + 1) 3 = _
    rw [va_up_ne _ _ (by decide), a4]
theorem q_fitF {t b : Int64} (h : ¬ m_fit t b = 0) (hb : L64 t b) : m_F t b := m_fit1 h hb.1
/-- which is the greater one -/
theorem q_prod {t b u v : Int64} (h : m_F t b) (k : m_F u v) : (t * v).toInt = t.toInt * v.toInt := by
  obtain ⟨a1, a2, a3⟩ := h
  obtain ⟨b1, b2, b3⟩ := k
  exact (m_mulB (x := t) (y := v) (B := 1000000000) (C := 1000000000) a1 (by omega) (by decide)).1
theorem q_ord0 {t b u v : Int64} (h : (t * v).toInt = t.toInt * v.toInt) (k : (u * b).toInt = u.toInt * b.toInt) : m_ord t b u v = 0 ↔ t.toInt * v.toInt = u.toInt * b.toInt := by
  unfold m_ord
  have x1 := Int64.lt_iff_toInt_lt (x := t * v) (y := u * b)
  have x2 := Int64.lt_iff_toInt_lt (x := u * b) (y := t * v)
  rw [h, k] at x1 x2
  by_cases c1 : t * v < u * b
  · rw [if_pos c1]
    have := x1.mp c1
    exact ⟨fun z => absurd z (by decide), fun z => by omega⟩
  · rw [if_neg c1]
    by_cases c2 : u * b < t * v
    · rw [if_pos c2]
      have := x2.mp c2
      exact ⟨fun z => absurd z (by decide), fun z => by omega⟩
    · rw [if_neg c2]
      have d1 : ¬ t.toInt * v.toInt < u.toInt * b.toInt := fun z => c1 (x1.mpr z)
      have d2 : ¬ u.toInt * b.toInt < t.toInt * v.toInt := fun z => c2 (x2.mpr z)
      exact ⟨fun _ => by omega, fun _ => rfl⟩
theorem q_ord1 {t b u v : Int64} (h : (t * v).toInt = t.toInt * v.toInt) (k : (u * b).toInt = u.toInt * b.toInt) : m_ord t b u v = 1 ↔ u.toInt * b.toInt < t.toInt * v.toInt := by
  unfold m_ord
  have x1 := Int64.lt_iff_toInt_lt (x := t * v) (y := u * b)
  have x2 := Int64.lt_iff_toInt_lt (x := u * b) (y := t * v)
  rw [h, k] at x1 x2
  by_cases c1 : t * v < u * b
  · rw [if_pos c1]
    have := x1.mp c1
    exact ⟨fun z => absurd z (by decide), fun z => by omega⟩
  · rw [if_neg c1]
    by_cases c2 : u * b < t * v
    · rw [if_pos c2]
      exact ⟨fun _ => x2.mp c2, fun _ => rfl⟩
    · rw [if_neg c2]
      exact ⟨fun z => absurd z (by decide), fun z => absurd (x2.mpr z) c2⟩
theorem q_ordm {t b u v : Int64} (h : (t * v).toInt = t.toInt * v.toInt) (k : (u * b).toInt = u.toInt * b.toInt) : m_ord t b u v = -1 ↔ t.toInt * v.toInt < u.toInt * b.toInt := by
  unfold m_ord
  have x1 := Int64.lt_iff_toInt_lt (x := t * v) (y := u * b)
  rw [h, k] at x1
  by_cases c1 : t * v < u * b
  · rw [if_pos c1]
    exact ⟨fun _ => x1.mp c1, fun _ => rfl⟩
  · rw [if_neg c1]
    have d1 : ¬ t.toInt * v.toInt < u.toInt * b.toInt := fun z => c1 (x1.mpr z)
    split
    · exact ⟨fun z => absurd z (by decide), fun z => absurd z d1⟩
    · exact ⟨fun z => absurd z (by decide), fun z => absurd z d1⟩
theorem q_ordE {t b u v : Int64} (h : m_F t b) (k : m_F u v) (h1 : L64 t b) (k1 : L64 u v) : m_ord t b u v = 0 ↔ t = u ∧ b = v := by
  rw [q_ord0 (q_prod h k) (q_prod k h)]
  constructor
  · intro e
    exact L64.eq h1 k1 e
  · rintro ⟨rfl, rfl⟩
    rfl
theorem q_same {t b u v : Int64} : f_same t b u v = 0 ↔ ¬ (t = u ∧ b = v) := by
  unfold f_same
  by_cases c1 : t = u
  · rw [if_pos c1]
    by_cases c2 : b = v
    · rw [if_pos c2]
      exact ⟨fun z => absurd z (by decide), fun z => absurd ⟨c1, c2⟩ z⟩
    · rw [if_neg c2]
      exact ⟨fun _ z => c2 z.2, fun _ => rfl⟩
  · rw [if_neg c1]
    exact ⟨fun _ z => c1 z.1, fun _ => rfl⟩
theorem va_up_id {α : Type} (f : Nat → α) (k j : Nat) : va_up f k (f k) j = f j := by
  by_cases e : j = k
  · rw [e, va_up_self]
  · rw [va_up_ne _ _ e]
/-- a RATIO is set -/
theorem RV.put (h : RV g kn tt bb eT eB oT oB pk ca rf vs n9) {i : Nat} (hi : i < 6) {t b : Int64} (hF : m_F t b) (hL : L64 t b) : RV (uB (uT g i t) i b) kn (va_up tt i t) (va_up bb i b) eT eB oT oB pk ca rf vs n9 := by
  obtain ⟨h1, h2, h3, h4, h5⟩ := h
  refine ⟨fun k hk => ?_, ?_, ?_, h4, h5⟩
  · show va_up (tT g) i t k = _ ∧ va_up (tB g) i b k = _ ∧ _
    by_cases e : k = i
    · rw [e, va_up_self, va_up_self, va_up_self, va_up_self]
      exact ⟨rfl, rfl, hF, hL⟩
    · rw [va_up_ne _ _ e, va_up_ne _ _ e, va_up_ne _ _ e, va_up_ne _ _ e]
      exact h1 k hk
  · show va_up (tT g) i t 9 = _ ∧ va_up (tB g) i b 9 = _ ∧ _
    rw [va_up_ne _ _ (by omega), va_up_ne _ _ (by omega)]
    exact h2
  · show va_up (tT g) i t 10 = _ ∧ va_up (tB g) i b 10 = _ ∧ _
    rw [va_up_ne _ _ (by omega), va_up_ne _ _ (by omega)]
    exact h3
theorem RV.cong (h : RV g kn tt bb eT eB oT oB pk ca rf vs n9) {t2 b2 : Nat → Int64} (e : ∀ k, k < 6 → t2 k = tt k ∧ b2 k = bb k) : RV g kn t2 b2 eT eB oT oB pk ca rf vs n9 :=
  ⟨fun k hk => by rw [(e k hk).1, (e k hk).2]; exact h.1 k hk, h.2⟩
/-- the end of every act: what was made, or REFUSED -/
theorem RV.set (h : RV g kn tt bb eT eB oT oB pk ca rf vs n9) (hz : lz g g1) {i : Nat} (hi : i < 6) {t b : Int64} (e1 : tT g1 6 = t) (e2 : tB g1 6 = b) (hL : L64 t b) :
    f_setR g1 i = beR tt bb i (some (t, b)) ∧ RV (f_setW g1 i) kn (beT tt i (some (t, b))) (beB bb i (some (t, b))) eT eB oT oB pk ca (beF rf (some (t, b))) vs n9 := by
  have h1 := h.lzv hz
  obtain ⟨a1, a2, a3, a4⟩ := h1.1 i hi
  unfold f_setR f_setW
  rw [e1, e2, a1, a2]
  by_cases c : m_fit t b = 0
  · have c0 : f_fit t b = 0 := c
    rw [if_pos c0, if_pos c0]
    simp only [beR, beT, beB, beF, if_pos c]
    exact ⟨by first | rfl | trivial, h1.ref⟩
  · have c0 : ¬ f_fit t b = 0 := c
    have hF := q_fitF c hL
    have ho := q_ordE a3 hF a4 hL
    rw [if_neg c0, if_neg c0]
    simp only [beR, beT, beB, beF, if_neg c]
    by_cases d : tt i = t ∧ bb i = b
    · have s1 : ¬ f_same t b (tt i) (bb i) = 0 := fun z => (q_same.mp z) ⟨d.1.symm, d.2.symm⟩
      rw [if_neg s1, if_neg s1, if_pos (ho.mpr d)]
      refine ⟨rfl, h1.cong fun k hk => ?_⟩
      rw [← d.1, ← d.2]
      exact ⟨va_up_id tt i k, va_up_id bb i k⟩
    · have s1 : f_same t b (tt i) (bb i) = 0 := q_same.mpr (fun z => d ⟨z.1.symm, z.2.symm⟩)
      rw [if_pos s1, if_pos s1, if_neg (fun z => d (ho.mp z))]
      refine ⟨rfl, ?_⟩
      unfold f_assign
      rw [e1, e2]
      exact h1.put hi hF hL
/-- REFUSED at once -/
theorem RV.no (h : RV g kn tt bb eT eB oT oB pk ca rf vs n9) (hz : lz g g1) (i : Nat) : (-9 : Int32) = beR tt bb i none ∧ RV (f_refW g1) kn (beT tt i none) (beB bb i none) eT eB oT oB pk ca (beF rf none) vs n9 := ⟨rfl, (h.lzv hz).ref⟩
/-- what becomes of two numbers -/
theorem q_asT (g : CS) (i j : Nat) : tT (f_assign g i j) i = tT g j := va_up_self g.1 i (tT g j)
theorem q_asB (g : CS) (i j : Nat) : tB (f_assign g i j) i = tB g j := va_up_self g.2.1 i (tB g j)
theorem q_bec6 {t b : Int64} (ht : -9223372036854775808 < t.toInt) (hb : -9223372036854775808 < b.toInt) (h0 : ¬ b = 0) (g : CS) (i : Nat) : tT (f_become g i t b) i = m_loT t b ∧ tB (f_become g i t b) i = m_loB t b := by
  obtain ⟨e1, e2⟩ := q_bec ht hb h0
  unfold f_become
  rw [if_neg h0, e1, e2]
  exact ⟨va_up_self g.1 i _, va_up_self g.2.1 i _⟩
theorem RV.bec (h : RV g kn tt bb eT eB oT oB pk ca rf vs n9) (hz : lz g g1) {i : Nat} (hi : i < 6) {t b u v : Int64} (ht : -9223372036854775808 < t.toInt) (hb : -9223372036854775808 < b.toInt) (h0 : ¬ b = 0) (e1 : m_loT t b = u) (e2 : m_loB t b = v) :
    f_setR (f_become g1 6 t b) i = beR tt bb i (some (u, v)) ∧ RV (f_setW (f_become g1 6 t b) i) kn (beT tt i (some (u, v))) (beB bb i (some (u, v))) eT eB oT oB pk ca (beF rf (some (u, v))) vs n9 := by
  obtain ⟨q1, q2⟩ := q_bec6 ht hb h0 g1 6
  have hl := (q_lo ht hb h0).1
  rw [e1] at q1 hl
  rw [e2] at q2 hl
  exact h.set (hz.tr (lz_bec g1 lzs6 t b)) hi q1 q2 hl
end RV5
