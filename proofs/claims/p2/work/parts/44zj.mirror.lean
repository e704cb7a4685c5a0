/-! ===== down: which one is the greater ===== -/
/-- Euclid's tops -/
theorem q_euT : ∀ (n k : Nat) (T B : Int64), m_T k T B → 1 ≤ k → k ≤ 43 → k + n = 64 → ∃ S : Nat → Int, S 0 = T.toInt ∧ S 1 = B.toInt ∧ S ((m_eu n T B).length + 1) = 0 ∧ (∀ i, i < (m_eu n T B).length → ((m_eu n T B).getD i 0).toInt * S (i + 1) + S (i + 2) = S i) ∧ ∀ i, i ≤ (m_eu n T B).length → 1 ≤ S i ∧ S i ≤ 1000000000 := by
  intro n
  induction n with
  | zero => intro k T B _ _ h1 h2; omega
  | succ n ih =>
    intro k T B h hk hk2 hn
    unfold m_eu
    by_cases c : B = 0
    · rw [if_pos c]
      obtain ⟨a1, a2, a3, a4⟩ := h
      have e0 : B.toInt = 0 := by rw [c]; rfl
      refine ⟨fun i => if i = 0 then T.toInt else 0, rfl, by rw [e0]; rfl, rfl, fun i hi => absurd hi (Nat.not_lt_zero i), fun i hi => ?_⟩
      have : i = 0 := Nat.le_zero.mp hi
      rw [this]
      show 1 ≤ T.toInt ∧ T.toInt ≤ 1000000000
      omega
    · rw [if_neg c]
      obtain ⟨k0, b1⟩ := m_T0 h ⟨hk, hk2⟩ c
      obtain ⟨p1, p2, p3, p4⟩ := m_T2 h ⟨hk, hk2⟩ c rfl rfl
      obtain ⟨S, s0, s1, s2, s3, s4⟩ := ih (k + 1) _ _ p1 (by omega) (by omega) (by omega)
      obtain ⟨a1, a2, a3, a4⟩ := h
      obtain ⟨l1, -, -, -⟩ := m_left (T := T) (B := B) (by omega) b1 (by omega) rfl rfl
      rw [List.length_cons]
      refine ⟨fun i => if i = 0 then T.toInt else S (i - 1), rfl, s0, s2, fun i hi => ?_, fun i hi => ?_⟩
      · cases i with
        | zero =>
          show (m_floor T B).toInt * S 0 + S 1 = T.toInt
          rw [s0, s1, l1]
          omega
        | succ i => exact s3 i (by omega)
      · cases i with
        | zero =>
          show 1 ≤ T.toInt ∧ T.toInt ≤ 1000000000
          omega
        | succ i => exact s4 i (by omega)
theorem q_TET {t b : Int64} (h : m_F t b) : ∃ S : Nat → Int, S 0 = t.toInt ∧ S 1 = b.toInt ∧ S ((m_TE t b).length + 1) = 0 ∧ (∀ i, i < (m_TE t b).length → (m_at t b i).toInt * S (i + 1) + S (i + 2) = S i) ∧ ∀ i, 1 ≤ i → i ≤ (m_TE t b).length → 1 ≤ S i ∧ S i ≤ 1000000000 := by
  obtain ⟨p1, p2⟩ := m_T1 h rfl rfl
  have e : m_TE t b = m_floor t b :: m_eu 63 b (t - m_floor t b * b) := by
    exact m_euS 63 t b (m_ne0 h.2.1)
  obtain ⟨S, s0, s1, s2, s3, s4⟩ := q_euT 63 1 b _ p1 (by decide) (by decide) (by decide)
  obtain ⟨l1, -, -, -⟩ := m_left (T := t) (B := b) h.1 h.2.1 h.2.2 rfl rfl
  unfold m_at
  rw [e, List.length_cons]
  refine ⟨fun i => if i = 0 then t.toInt else S (i - 1), rfl, s0, s2, fun i hi => ?_, fun i h1 hi => ?_⟩
  · cases i with
    | zero =>
      show (m_floor t b).toInt * S 0 + S 1 = t.toInt
      rw [s0, s1, l1]
      omega
    | succ i => exact s3 i (by omega)
  · cases i with
    | zero => omega
    | succ i => exact s4 i (by omega)
/-- FOLDED side by side: neither grows beyond twice the tops, and what lies between them only turns its sign -/
theorem q_fd2 {a a2 d : Nat → Int64} {S : Nat → Int} : ∀ (n : Nat), (∀ k, k < n → a k = d k ∧ a2 k = d k ∧ 0 ≤ (d k).toInt ∧ (1 ≤ k → 1 ≤ (d k).toInt) ∧ (d k).toInt.natAbs ≤ 1000000001 ∧ (d k).toInt * S (k + 1) + S (k + 2) = S k) → (∀ k, k ≤ n + 1 → 0 ≤ S k ∧ S k ≤ 1000000000) →
    ∀ t b t2 b2 : Int64, 0 ≤ t.toInt → t.toInt ≤ 2 * S n → 1 ≤ b.toInt → b.toInt ≤ 2 * S (n + 1) → (1 ≤ n → 1 ≤ t.toInt) → 0 ≤ t2.toInt → t2.toInt ≤ 2 * S n → 1 ≤ b2.toInt → b2.toInt ≤ 2 * S (n + 1) → (1 ≤ n → 1 ≤ t2.toInt) →
    ∃ x y x2 y2 : Int64, m_fdL a n t b = LO x y ∧ m_fdL a2 n t2 b2 = LO x2 y2 ∧ 0 ≤ x.toInt ∧ x.toInt ≤ 2 * S 0 ∧ 1 ≤ y.toInt ∧ y.toInt ≤ 2 * S 1 ∧ 0 ≤ x2.toInt ∧ x2.toInt ≤ 2 * S 0 ∧ 1 ≤ y2.toInt ∧ y2.toInt ≤ 2 * S 1 ∧ x.toInt * y2.toInt - x2.toInt * y.toInt = (if n % 2 = 0 then 1 else -1) * (t.toInt * b2.toInt - t2.toInt * b.toInt) := by
  intro n
  induction n with
  | zero =>
    intro _ _ t b t2 b2 h1 h2 h3 h4 _ h6 h7 h8 h9 _
    exact ⟨t, b, t2, b2, rfl, rfl, h1, h2, h3, h4, h6, h7, h8, h9, by rw [if_pos rfl, Int.one_mul]⟩
  | succ n ih =>
    intro hd hS t b t2 b2 h1 h2 h3 h4 h5 h6 h7 h8 h9 h10
    obtain ⟨d1, d2, d3, d4, d5, d6⟩ := hd n (by omega)
    have s1 := hS (n + 1) (by omega)
    have s2 : 0 ≤ S (n + 1 + 1) ∧ S (n + 1 + 1) ≤ 1000000000 := hS (n + 2) (by omega)
    have d6 : (d n).toInt * S (n + 1) + S (n + 1 + 1) = S n := d6
    have hc4 : ∀ z : Int64, z.toInt ≤ 2000000000 → ¬ (4000000000 : Int64) < z := by
      intro z hz q
      have := Int64.lt_iff_toInt_lt.mp q
      rw [show (4000000000 : Int64).toInt = 4000000000 by decide] at this
      omega
    unfold m_fdL
    rw [if_neg (hc4 t (by omega)), if_neg (hc4 t2 (by omega)), d1, d2]
    obtain ⟨e1, e2⟩ := m_mulB (x := d n) (y := t) (B := 1000000001) (C := 2000000000) d5 (by omega) (by decide)
    obtain ⟨f1, -⟩ := m_addB (x := d n * t) (y := b) (B := 1000000001 * 2000000000) (C := 2000000000) e2 (by omega) (by decide)
    obtain ⟨g1, g2⟩ := m_mulB (x := d n) (y := t2) (B := 1000000001) (C := 2000000000) d5 (by omega) (by decide)
    obtain ⟨j1, -⟩ := m_addB (x := d n * t2) (y := b2) (B := 1000000001 * 2000000000) (C := 2000000000) g2 (by omega) (by decide)
    have k1 : (d n).toInt * t.toInt ≤ (d n).toInt * (2 * S (n + 1)) := Int.mul_le_mul_of_nonneg_left h2 d3
    have k2 : (d n).toInt * t2.toInt ≤ (d n).toInt * (2 * S (n + 1)) := Int.mul_le_mul_of_nonneg_left h7 d3
    have k3 : (d n).toInt * (2 * S (n + 1)) = 2 * ((d n).toInt * S (n + 1)) := by grind
    have k4 : 0 ≤ (d n).toInt * t.toInt := Int.mul_nonneg d3 h1
    have k5 : 0 ≤ (d n).toInt * t2.toInt := Int.mul_nonneg d3 h6
    obtain ⟨x, y, x2, y2, r1, r2, r3, r4, r5, r6, r7, r8, r9, r10, r11⟩ := ih (fun k hk => hd k (by omega)) (fun k hk => hS k (by omega)) (d n * t + b) t (d n * t2 + b2) t2 (by rw [f1, e1]; omega) (by rw [f1, e1]; omega) (h5 (by omega)) h2 (fun _ => by rw [f1, e1]; omega) (by rw [j1, g1]; omega) (by rw [j1, g1]; omega) (h10 (by omega)) h7 (fun _ => by rw [j1, g1]; omega)
    refine ⟨x, y, x2, y2, r1, r2, r3, r4, r5, r6, r7, r8, r9, r10, ?_⟩
    rw [r11, f1, e1, j1, g1]
    rcases Nat.mod_two_eq_zero_or_one n with e | e
    · rw [if_pos e, if_neg (show ¬ (n + 1) % 2 = 0 by omega)]
      grind
    · rw [if_neg (show ¬ n % 2 = 0 by omega), if_pos (show (n + 1) % 2 = 0 by omega)]
      grind
theorem q_d1 {z y : Int} (h : z.natAbs ≤ 1000000001) (e : y = z + -1) : y.natAbs ≤ 1000000002 := by omega
theorem q_dz {z s u w : Int} (h1 : 1 ≤ z) (h2 : z ≤ s) (e1 : u = z + 1) (e2 : w = 2 * z - 1) : (0 ≤ u ∧ u ≤ 2 * s ∧ 1 ≤ u) ∧ (0 ≤ w ∧ w ≤ 2 * s ∧ 1 ≤ w) := by omega
theorem q_d2 {s x : Int} (h : x ≤ 2 * s) (k : s ≤ 1000000000) : x ≤ 2000000000 := by omega
theorem q_d3 {z : Int} : (z + -1) * 2 + 1 = 2 * z - 1 := by omega
theorem q_d4 {s : Int} (h : 1 ≤ s) : 1 ≤ 2 * s := by omega
theorem q_d5 {s : Int} (h : 1 ≤ s) : 2 ≤ 2 * s := by omega
theorem q_d6 {z : Int} : (z + 1) * 2 - (2 * z - 1) * 1 = 3 := by omega
theorem q_d7 {t : Int} (h : t.natAbs ≤ 1000000000) (k : 1 ≤ t) : 0 ≤ t ∧ t ≤ 1000000000 := by omega
/-- the two ways down, of any row of TERMS -/
theorem q_dnA {a : Nat → Int64} {S : Nat → Int} {c : Nat} {t b f : Int64} (ht9 : t.toInt.natAbs ≤ 1000000000) (ht : 1 ≤ t.toInt) (hfl : 0 ≤ f.toInt) (t3 : ∀ i, i < c + 1 → (a i).toInt.natAbs ≤ 1000000001) (t4 : ∀ i, 1 ≤ i → i < c + 1 → 1 ≤ (a i).toInt) (t5 : a 0 = f) (t6 : c = 0 → t.toInt = f.toInt * b.toInt)
    (s0 : S 0 = t.toInt) (s2 : S (c + 1 + 1) = 0) (s3 : ∀ i, i < c + 1 → (a i).toInt * S (i + 1) + S (i + 2) = S i) (s4 : ∀ i, 1 ≤ i → i ≤ c + 1 → 1 ≤ S i ∧ S i ≤ 1000000000) :
    ∃ x y x2 y2 : Int64, m_fdL (va_up a c (a c + 1)) c (a c + 1) 1 = LO x y ∧ m_fdL (va_up (va_up a c (a c + -1)) (c + 1) 2) c ((a c + -1) * 2 + 1) 2 = LO x2 y2 ∧ (0 ≤ x.toInt ∧ x.toInt ≤ 2000000000 ∧ 1 ≤ y.toInt ∧ y.toInt ≤ 2000000000) ∧ (0 ≤ x2.toInt ∧ x2.toInt ≤ 2000000000 ∧ 1 ≤ y2.toInt ∧ y2.toInt ≤ 2000000000) ∧ x.toInt * y2.toInt - x2.toInt * y.toInt = (if c % 2 = 0 then 1 else -1) * 3 := by
  obtain ⟨z, hz⟩ : ∃ z, z = a c := ⟨_, rfl⟩
  have hz3 := t3 c (Nat.lt_succ_self c)
  rw [← hz] at hz3
  have e1 : (1 : Int64).toInt = 1 := rfl
  have en : (-1 : Int64).toInt = -1 := by decide
  have e2 : (2 : Int64).toInt = 2 := by decide
  have z1 := q_bump (x := z) (v := 1) hz3 (by decide)
  have z2 := q_bump (x := z) (v := -1) hz3 (by decide)
  rw [e1] at z1
  rw [en] at z2
  have ha0 : ∀ k, k < c + 1 → 0 ≤ (a k).toInt := by
    intro k hk
    rcases Nat.eq_zero_or_pos k with e | e
    · rw [e, t5]; exact hfl
    · exact Int.le_trans (by decide) (t4 k e hk)
  have hS0 : ∀ k, k ≤ c + 1 → 0 ≤ S k ∧ S k ≤ 1000000000 := by
    intro k hk
    rcases Nat.eq_zero_or_pos k with e | e
    · rw [e, s0]; exact q_d7 ht9 ht
    · exact ⟨Int.le_trans (by decide) (s4 k e hk).1, (s4 k e hk).2⟩
  have hsc := s3 c (Nat.lt_succ_self c)
  rw [show c + 2 = c + 1 + 1 from rfl, s2, Int.add_zero, ← hz] at hsc
  have hsc1 := s4 (c + 1) (Nat.succ_le_succ (Nat.zero_le c)) (Nat.le_refl _)
  have hzp : 1 ≤ z.toInt := by
    rcases Nat.eq_zero_or_pos c with e | e
    · have h9 := t6 e
      rw [hz, e, t5]
      rcases Int.lt_or_le 0 f.toInt with y | y
      · exact y
      · rw [Int.le_antisymm y hfl, Int.zero_mul] at h9
        rw [h9] at ht
        exact absurd ht (by decide)
    · rw [hz]
      exact t4 c e (Nat.lt_succ_self c)
  have hzS : z.toInt ≤ S c := by
    have h9 := Int.mul_le_mul_of_nonneg_left hsc1.1 (show 0 ≤ z.toInt from Int.le_trans (by decide) hzp)
    rw [hsc, Int.mul_one] at h9
    exact h9
  obtain ⟨hs1, hs2⟩ := hsc1
  obtain ⟨w1, w2⟩ := m_mulB (x := z + -1) (y := 2) (B := 1000000002) (C := 2) (q_d1 hz3 z2) (by decide) (by decide)
  obtain ⟨w3, -⟩ := m_addB (x := (z + -1) * 2) (y := 1) (B := 1000000002 * 2) (C := 1) w2 (by decide) (by decide)
  have w4 : ((z + -1) * 2 + 1).toInt = 2 * z.toInt - 1 := by rw [w3, w1, z2, e2, e1]; exact q_d3
  obtain ⟨q1, q2⟩ := q_dz hzp hzS z1 w4
  obtain ⟨x, y, x2, y2, r1, r2, r3, r4, r5, r6, r7, r8, r9, r10, r11⟩ := q_fd2 (a := va_up a c (z + 1)) (a2 := va_up (va_up a c (z + -1)) (c + 1) 2) (d := a) (S := S) c
    (fun k hk => ⟨va_up_ne _ _ (Nat.ne_of_lt hk), (va_up_ne (va_up a c (z + -1)) 2 (Nat.ne_of_lt (Nat.lt_succ_of_lt hk))).trans (va_up_ne a (z + -1) (Nat.ne_of_lt hk)), ha0 k (Nat.lt_succ_of_lt hk), fun k1 => t4 k k1 (Nat.lt_succ_of_lt hk), t3 k (Nat.lt_succ_of_lt hk), s3 k (Nat.lt_succ_of_lt hk)⟩) (fun k hk => hS0 k hk) (z + 1) 1 ((z + -1) * 2 + 1) 2
    q1.1 q1.2.1 (by decide) (by rw [e1]; exact q_d4 hs1) (fun _ => q1.2.2) q2.1 q2.2.1 (by decide) (by rw [e2]; exact q_d5 hs1) (fun _ => q2.2.2)
  have hs01 := (hS0 1 (Nat.succ_le_succ (Nat.zero_le c))).2
  rw [s0] at r4 r8
  rw [← hz]
  refine ⟨x, y, x2, y2, r1, r2, ⟨r3, q_d2 r4 (q_d7 ht9 ht).2, r5, q_d2 r6 hs01⟩, ⟨r7, q_d2 r8 (q_d7 ht9 ht).2, r9, q_d2 r10 hs01⟩, ?_⟩
  rw [r11, z1, w4, e1, e2, q_d6]
/-- the two ways down -/
theorem q_dn {t b : Int64} (h : m_F t b) (ht : 1 ≤ t.toInt) : ∃ p q : Int64 × Int64, m_WL t b 1 = some p ∧ m_W2 t b = some q ∧ L64 p.1 p.2 ∧ L64 q.1 q.2 ∧ (0 < m_ord p.1 p.2 q.1 q.2 ↔ (m_TE t b).length % 2 = 1) := by
  obtain ⟨t1, t2, t3, t4, t5, t6⟩ := q_TE h
  obtain ⟨S, s0, s1, s2, s3, s4⟩ := q_TET h
  obtain ⟨hb1, hb2, hb3⟩ := h
  have hfl : 0 ≤ (m_floor t b).toInt := by
    rw [q_mfl (by omega) hb2]
    exact Int.ediv_nonneg (by omega) (by omega)
  have c1 : m_WL t b 1 = m_FD (va_up (m_at t b) ((m_TE t b).length - 1) (m_at t b ((m_TE t b).length - 1) + 1)) (m_TE t b).length := rfl
  have c2 : m_W2 t b = m_FD (va_up (va_up (m_at t b) ((m_TE t b).length - 1) (m_at t b ((m_TE t b).length - 1) + -1)) (m_TE t b).length 2) ((m_TE t b).length + 1) := rfl
  rw [c1, c2]
  clear c1 c2
  generalize (m_TE t b).length = L at *
  generalize m_at t b = a at *
  generalize m_floor t b = f at *
  obtain ⟨c, rfl⟩ : ∃ c, L = c + 1 := ⟨L - 1, by omega⟩
  rw [Nat.add_sub_cancel]
  obtain ⟨x, y, x2, y2, r1, r2, ⟨x1, x2b, y1, y2b⟩, ⟨x3, x4, y3, y4⟩, hd⟩ := q_dnA (a := a) (S := S) (c := c) (t := t) (b := b) (f := f) hb1 ht hfl t3 (fun i h1 h2 => (t4 i h1 h2).1) t5 (fun z => t6 (by rw [z])) s0 s2 s3 s4
  have c1 : m_FD (va_up a c (a c + 1)) (c + 1) = LO x y := by
    unfold m_FD
    rw [Nat.add_sub_cancel, va_up_self]
    exact r1
  have c2 : m_FD (va_up (va_up a c (a c + -1)) (c + 1) 2) (c + 1 + 1) = LO x2 y2 := by
    unfold m_FD
    rw [Nat.add_sub_cancel, va_up_self]
    show (if (4000000000 : Int64) < 2 then none else m_fdL (va_up (va_up a c (a c + -1)) (c + 1) 2) c (va_up (va_up a c (a c + -1)) (c + 1) 2 c * 2 + 1) 2) = _
    rw [if_neg (by decide), va_up_ne (va_up a c (a c + -1)) (2 : Int64) (show c ≠ c + 1 by omega), va_up_self]
    exact r2
  clear t1 t2 t3 t4 t5 t6 s0 s1 s2 s3 s4 r1 r2 hfl
  obtain ⟨l1, l2⟩ := q_lo (t := x) (b := y) (by omega) (by omega) (m_ne0 y1)
  obtain ⟨l3, l4⟩ := q_lo (t := x2) (b := y2) (by omega) (by omega) (m_ne0 y3)
  obtain ⟨-, m1, m2, m3⟩ := m_loP (t := x) (b := y) (B := 2000000000) (C := 2000000000) (by omega) (by decide) y1 (by omega)
  obtain ⟨-, n1, n2, n3⟩ := m_loP (t := x2) (b := y2) (B := 2000000000) (C := 2000000000) (by omega) (by decide) y3 (by omega)
  refine ⟨_, _, c1, c2, l1, l3, ?_⟩
  dsimp only
  obtain ⟨o1, -⟩ := m_mulB (x := m_loT x y) (y := m_loB x2 y2) (B := 2000000000) (C := 2000000000) m3 (by omega) (by decide)
  obtain ⟨o2, -⟩ := m_mulB (x := m_loT x2 y2) (y := m_loB x y) (B := 2000000000) (C := 2000000000) n3 (by omega) (by decide)
  have g1 := q_ord1 o1 o2
  have g0 := q_ord0 o1 o2
  have gm := q_ordm o1 o2
  have hlt := q_lt (A := (m_loT x2 y2).toInt) (B := (m_loB x2 y2).toInt) (T := x2.toInt) (k := y2.toInt) (x := (m_loT x y).toInt) (y := (m_loB x y).toInt) (V := x.toInt) (w := y.toInt) (by omega) (by omega) (by omega) (by omega) l4 l2
  have hpos : 0 < m_ord (m_loT x y) (m_loB x y) (m_loT x2 y2) (m_loB x2 y2) ↔ m_ord (m_loT x y) (m_loB x y) (m_loT x2 y2) (m_loB x2 y2) = 1 := by
    unfold m_ord
    split
    · exact ⟨fun z => absurd z (by decide), fun z => absurd z (by decide)⟩
    · split
      · exact ⟨fun _ => rfl, fun _ => by decide⟩
      · exact ⟨fun z => absurd z (by decide), fun z => absurd z (by decide)⟩
  rw [hpos, g1, hlt]
  rcases Nat.mod_two_eq_zero_or_one c with e | e
  · rw [if_pos e] at hd
    constructor
    · intro _
      omega
    · intro _
      omega
  · rw [if_neg (show ¬ c % 2 = 0 by omega)] at hd
    constructor
    · intro q
      omega
    · intro q
      omega
def m_DN (t b : Int64) (x : Int32) : Option (Int64 × Int64) := if m_abv t = 0 then none else if (if (m_TE t b).length % 2 = 1 then (1 : Int32) else 0) = x then m_WL t b 1 else m_W2 t b
theorem q_DN {t b : Int64} {x : Int32} {r : Int64 × Int64} (h : m_F t b) (ht : 1 ≤ t.toInt) (hv : ∃ p q : Int64 × Int64, m_WL t b 1 = some p ∧ m_W2 t b = some q ∧ r = if (if 0 < m_ord p.1 p.2 q.1 q.2 then (1 : Int32) else 0) = x then p else q) : some r = m_DN t b x := by
  obtain ⟨p, q, h1, h2, h3⟩ := hv
  obtain ⟨p2, q2, k1, k2, -, -, k5⟩ := q_dn h ht
  have e1 : p = p2 := Option.some.inj (h1.symm.trans k1)
  have e2 : q = q2 := Option.some.inj (h2.symm.trans k2)
  subst e1 e2
  have ha : ¬ m_abv t = 0 := fun z => (q_abv.mp z) ht
  unfold m_DN
  rw [if_neg ha, h3]
  by_cases c : (m_TE t b).length % 2 = 1
  · rw [if_pos (k5.mpr c), if_pos c]
    by_cases d : (1 : Int32) = x
    · rw [if_pos d, if_pos d, h1]
    · rw [if_neg d, if_neg d, h2]
  · rw [if_neg (fun z => c (k5.mp z)), if_neg c]
    by_cases d : (0 : Int32) = x
    · rw [if_pos d, if_pos d, h1]
    · rw [if_neg d, if_neg d, h2]
section RV11
variable {g g1 : CS} {kn : Int32} {tt bb : Nat → Int64} {eT eB oT oB : Int64} {pk : Nat} {ca rf : Int32} {vs : Nat → Value} {n9 : Nat}
theorem q_odd {c : Nat} (h : c ≤ 64) : nI c &&& 1 = 1 ↔ c % 2 = 1 := by
  have hall : ∀ i : Fin 65, (nI i.val &&& 1 = 1) ↔ i.val % 2 = 1 := by decide +kernel
  exact hall ⟨c, by omega⟩
theorem q_b1 {x y : Int} (h : x.natAbs ≤ 1000000001) (e : y = x + 1) : y.natAbs ≤ 1000000002 := by omega
theorem q_b2 {x : Int} (h : x.natAbs ≤ 1000000001) : x.natAbs ≤ 1000000002 := by omega
theorem q_b3 {x y : Int} (h : 1 ≤ x) (e : y = x + 1) : 1 ≤ y := by omega
theorem q_b4 {x y : Int} (h : 2 ≤ x) (e : y = x + -1) : 1 ≤ y := by omega
theorem q_dF1 (h : RV g kn tt bb eT eB oT oB pk ca rf vs n9) {i : Nat} (hi : i < 6) {X : CS} (l1 : lz g X) {L : Nat} {a : Nat → Int64} (p1 : tC X 1 = nI L) (p2 : ∀ k, k < L → tV X 1 k = a k) (t1 : 1 ≤ L) (t2 : L ≤ 43) (t3 : ∀ i, i < L → (a i).toInt.natAbs ≤ 1000000001) (t4 : ∀ i, 1 ≤ i → i < L → 1 ≤ (a i).toInt ∧ (i + 1 = L → 2 ≤ (a i).toInt)) : SMV kn tt bb eT eB oT oB pk ca rf vs n9 i (m_FD (va_up a (L - 1) (a (L - 1) + 1)) L) (f_fsR (f_addTo X 1 1) 1 i) (f_fsW (f_addTo X 1 1) 1 i) := by
  have hp1 : (1 : Int64).toInt = 1 := rfl
  have hL1 : L - 1 < L := by omega
  have ht3 := t3 (L - 1) hL1
  have hb1 := q_bump (v := 1) ht3 (by decide)
  rw [hp1] at hb1
  rw [q_adT p1 t1 (by omega), p2 _ hL1]
  have l2 := l1.tr (q_lz1 X (L - 1) (a (L - 1) + 1))
  have p3 : ∀ k, k < L → tV (uV X 1 (L - 1) (a (L - 1) + 1)) 1 k = va_up a (L - 1) (a (L - 1) + 1) k := by
    intro k hk
    rw [q_uV]
    by_cases e : k = L - 1
    · rw [e, va_up_self, va_up_self]
    · rw [va_up_ne _ _ e, va_up_ne _ _ e]
      exact p2 k hk
  have p4 : tC (uV X 1 (L - 1) (a (L - 1) + 1)) 1 = nI L := p1
  refine h.fold l2 hi p4 t1 (by omega) p3 (fun k k1 k2 => ?_) (fun k hk => ?_)
  · by_cases e : k = L - 1
    · rw [e, va_up_self]
      rw [e] at k1
      exact q_b3 (t4 (L - 1) k1 hL1).1 hb1
    · rw [va_up_ne _ _ e]
      exact (t4 k k1 k2).1
  · by_cases e : k = L - 1
    · rw [e, va_up_self]
      exact q_b1 ht3 hb1
    · rw [va_up_ne _ _ e]
      exact q_b2 (t3 k hk)
theorem q_dG1 {X : CS} {L : Nat} {a : Nat → Int64} (p1 : tC X 1 = nI L) (p2 : ∀ k, k < L → tV X 1 k = a k) (t1 : 1 ≤ L) (t2 : L ≤ 43) : f_addLast (f_addTo X 1 (-1)) 1 2 = uC (uV (uV X 1 (L - 1) (a (L - 1) + -1)) 1 L 2) 1 (nI (L + 1)) := by
  have hL1 : L - 1 < L := by omega
  have hL2 : L < 64 := by omega
  have p4 : tC (uV X 1 (L - 1) (a (L - 1) + -1)) 1 = nI L := p1
  rw [q_adT p1 t1 (by omega), p2 _ hL1, q_add p4 hL2 2]
theorem q_dG2 {X Y : CS} {L : Nat} (l2 : lz X Y) : lz X (uC (uV Y 1 L 2) 1 (nI (L + 1))) := l2.tr ((q_lz1 Y L 2).tr (lz_sm (tx_smC _ (nI (L + 1)))))
theorem q_dG3 {Y : CS} {b : Nat → Int64} {L : Nat} (q3 : ∀ k, k < L → tV Y 1 k = b k) : ∀ k, k < L + 1 → tV (uC (uV Y 1 L 2) 1 (nI (L + 1))) 1 k = va_up b L 2 k := by
    intro k hk
    show tV (uV Y 1 L 2) 1 k = _
    rw [q_uV]
    by_cases e : k = L
    · rw [e, va_up_self, va_up_self]
    · rw [va_up_ne _ _ e, va_up_ne _ _ e]
      exact q3 k (by omega)
theorem q_dG4 {a : Nat → Int64} {L : Nat} (t1 : 1 ≤ L) (t4 : ∀ i, 1 ≤ i → i < L → 1 ≤ (a i).toInt ∧ (i + 1 = L → 2 ≤ (a i).toInt)) (hb2 : (a (L - 1) + -1).toInt = (a (L - 1)).toInt + -1) : ∀ k, 1 ≤ k → k < L + 1 → 1 ≤ (va_up (va_up a (L - 1) (a (L - 1) + -1)) L 2 k).toInt := by
  intro k k1 k2
  have hL1 : L - 1 < L := by omega
  by_cases e : k = L
  · rw [e, va_up_self]
    decide
  · rw [va_up_ne _ _ e]
    by_cases e2 : k = L - 1
    · rw [e2, va_up_self]
      rw [e2] at k1
      exact q_b4 ((t4 (L - 1) k1 hL1).2 (by omega)) hb2
    · rw [va_up_ne _ _ e2]
      exact (t4 k k1 (by omega)).1
theorem q_dG5 {a : Nat → Int64} {L : Nat} (ht3 : (a (L - 1)).toInt.natAbs ≤ 1000000001) (t3 : ∀ i, i < L → (a i).toInt.natAbs ≤ 1000000001) (hb2 : (a (L - 1) + -1).toInt = (a (L - 1)).toInt + -1) : ∀ k, k < L + 1 → (va_up (va_up a (L - 1) (a (L - 1) + -1)) L 2 k).toInt.natAbs ≤ 1000000002 := by
  intro k hk
  by_cases e : k = L
  · rw [e, va_up_self]
    rw [show (2 : Int64).toInt = 2 by decide]
    exact Nat.le_of_ble_eq_true rfl
  · rw [va_up_ne _ _ e]
    by_cases e2 : k = L - 1
    · rw [e2, va_up_self]
      exact q_d1 ht3 hb2
    · rw [va_up_ne _ _ e2]
      exact q_b2 (t3 k (by omega))
theorem q_dF2 (h : RV g kn tt bb eT eB oT oB pk ca rf vs n9) {i : Nat} (hi : i < 6) {X : CS} (l1 : lz g X) {L : Nat} {a : Nat → Int64} (p1 : tC X 1 = nI L) (p2 : ∀ k, k < L → tV X 1 k = a k) (t1 : 1 ≤ L) (t2 : L ≤ 43) (t3 : ∀ i, i < L → (a i).toInt.natAbs ≤ 1000000001) (t4 : ∀ i, 1 ≤ i → i < L → 1 ≤ (a i).toInt ∧ (i + 1 = L → 2 ≤ (a i).toInt)) : SMV kn tt bb eT eB oT oB pk ca rf vs n9 i (m_FD (va_up (va_up a (L - 1) (a (L - 1) + -1)) L 2) (L + 1)) (f_fsR (f_addLast (f_addTo X 1 (-1)) 1 2) 1 i) (f_fsW (f_addLast (f_addTo X 1 (-1)) 1 2) 1 i) := by
  have hn1 : (-1 : Int64).toInt = -1 := by decide
  have hL1 : L - 1 < L := by omega
  have ht3 := t3 (L - 1) hL1
  have hb2 := q_bump (v := -1) ht3 (by decide)
  rw [hn1] at hb2
  have l2 := q_dG2 (L := L) (l1.tr (q_lz1 X (L - 1) (a (L - 1) + -1)))
  have q3 : ∀ k, k < L → tV (uV X 1 (L - 1) (a (L - 1) + -1)) 1 k = va_up a (L - 1) (a (L - 1) + -1) k := by
    intro k hk
    rw [q_uV]
    by_cases e : k = L - 1
    · rw [e, va_up_self, va_up_self]
    · rw [va_up_ne _ _ e, va_up_ne _ _ e]
      exact p2 k hk
  rw [q_dG1 p1 p2 t1 t2]
  exact h.fold l2 hi (tC_uC (uV (uV X 1 (L - 1) (a (L - 1) + -1)) 1 L 2) 1 (nI (L + 1))) (Nat.succ_le_succ (Nat.zero_le L)) (Nat.le_trans (Nat.succ_le_succ t2) (by decide)) (q_dG3 q3) (q_dG4 t1 t4 hb2) (q_dG5 ht3 t3 hb2)
theorem q_fsR (g : CS) (j i : Nat) : f_fsR g j i = if f_foldR g j = 0 then -9 else f_setR (f_foldW g j 6) i := rfl
theorem q_fsW (g : CS) (j i : Nat) : f_fsW g j i = if f_foldR g j = 0 then f_refW (f_foldW g j 6) else f_setW (f_foldW g j 6) i := rfl
theorem s_dn (h : RV g kn tt bb eT eB oT oB pk ca rf vs n9) {i : Nat} (hi : i < 6) {x : Int32} (hx : x = 0 ∨ x = 1) : SMV kn tt bb eT eB oT oB pk ca rf vs n9 i (m_DN (tt i) (bb i) x) (f_dnR g i x) (f_dnX g i x) := by
  obtain ⟨a1, a2, a3, a4⟩ := h.1 i hi
  unfold f_dnR f_dnX m_DN
  rw [a1]
  by_cases c : 1 ≤ (tt i).toInt
  · rw [if_neg (fun z => (q_cmpN.mp z) c), if_neg (fun z => (q_cmpN.mp z) c), if_neg (fun z => (q_abv.mp z) c)]
    obtain ⟨p1, p2⟩ := q_apt a1 a2 a3
    obtain ⟨t1, t2, t3, t4, -, -⟩ := q_TE a3
    have hWL : m_WL (tt i) (bb i) 1 = m_FD (va_up (m_at (tt i) (bb i)) ((m_TE (tt i) (bb i)).length - 1) (m_at (tt i) (bb i) ((m_TE (tt i) (bb i)).length - 1) + 1)) (m_TE (tt i) (bb i)).length := rfl
    have hW2 : m_W2 (tt i) (bb i) = m_FD (va_up (va_up (m_at (tt i) (bb i)) ((m_TE (tt i) (bb i)).length - 1) (m_at (tt i) (bb i) ((m_TE (tt i) (bb i)).length - 1) + -1)) (m_TE (tt i) (bb i)).length 2) ((m_TE (tt i) (bb i)).length + 1) := rfl
    have F1 := q_dF1 h hi (lz_apt g i) p1 p2 t1 t2 t3 t4
    have F2 := q_dF2 h hi (lz_apt g i) p1 p2 t1 t2 t3 t4
    rw [← hWL] at F1
    rw [← hW2] at F2
    rw [q_fsR, q_fsW] at F1 F2
    unfold f_stDR f_stDW
    have ho := q_odd (c := (m_TE (tt i) (bb i)).length) (by omega)
    clear hWL hW2 p2 t1 t2 t3 t4
    unfold f_dnG
    rw [p1]
    generalize f_apart g 1 i = X at *
    generalize (m_TE (tt i) (bb i)).length = L at *
    by_cases d : L % 2 = 1
    · rw [if_pos (ho.mpr d), if_pos d]
      rcases hx with rfl | rfl
      · rw [if_neg (show ¬ (0 : Int32) = 1 by decide), if_neg (show ¬ (1 : Int32) = 0 by decide)]
        exact F2
      · rw [if_pos rfl, if_pos rfl]
        exact F1
    · rw [if_neg (fun z => d (ho.mp z)), if_neg d]
      rcases hx with rfl | rfl
      · rw [if_pos rfl, if_pos rfl]
        exact F1
      · rw [if_neg (show ¬ (1 : Int32) = 0 by decide), if_neg (show ¬ (0 : Int32) = 1 by decide)]
        exact F2
  · rw [if_pos (q_cmpN.mpr c), if_pos (q_cmpN.mpr c), if_pos (q_abv.mpr c)]
    exact h.no (lz_rf g) i
/-! DEPTH -/
theorem q_sm : ∀ (l : List Int64) (a c : Int64), m_sm l (a + c) = m_sm l a + c := by
  intro l
  induction l with
  | nil => intro a c; rfl
  | cons x l ih =>
    intro a c
    unfold m_sm
    rw [Int64.add_assoc, Int64.add_comm c x, ← Int64.add_assoc]
    exact ih (a + x) c
theorem q_tot {g : CS} {c : Nat} (hc : tC g 1 = nI c) (hc2 : c ≤ 64) {L : List Int64} (hl : L.length = c) (ha : ∀ k, k < c → tV g 1 k = L.getD k 0) : ∀ (n k : Nat) (a : Int64), k + n = c → totL g 1 n k a = m_sm (L.drop k) a := by
  intro n
  induction n with
  | zero =>
    intro k a h
    rw [List.drop_eq_nil_of_le (by omega)]
    rfl
  | succ n ih =>
    intro k a h
    have hk : k < L.length := by omega
    unfold totL
    rw [ih (k + 1) _ (by omega), q_at hc hc2 (by omega), ha k (by omega), List.drop_eq_getElem_cons hk]
    rw [List.getD_eq_getElem?_getD, List.getElem?_eq_getElem hk]
    rfl
theorem s_dep (h : RV g kn tt bb eT eB oT oB pk ca rf vs n9) {i : Nat} (hi : i < 6) : (f_depR g i).toInt32 = m_DP (tt i) (bb i) := by
  obtain ⟨a1, a2, a3, a4⟩ := h.1 i hi
  obtain ⟨p1, p2⟩ := q_apt a1 a2 a3
  obtain ⟨t1, t2, t3, t4, t5, t6⟩ := q_TE a3
  unfold f_depR m_DP
  rw [a1]
  by_cases c : 1 ≤ (tt i).toInt
  · rw [if_neg (fun z => (q_cmpN.mp z) c), if_neg (fun z => (q_abv.mp z) c)]
    congr 1
    unfold f_total
    rw [p1, nI_clamp (by omega), q_tot p1 (by omega) rfl p2 _ 0 0 (by omega), List.drop_zero]
    have := q_sm (m_TE (tt i) (bb i)) 0 (-1)
    rw [Int64.zero_add] at this
    rw [this, Int64.sub_eq_add_neg]
  · rw [if_pos (q_cmpN.mpr c), if_pos (q_abv.mpr c)]
    rfl
end RV11
