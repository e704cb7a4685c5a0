/-! ===== down: which one is the greater ===== -/
/-- Euclid's tops -/
theorem q_euT : ∀ (n k : Nat) (T B : Int64), m_T k T B → 1 ≤ k → k ≤ 43 → k + n = 64 → ∃ S : Nat → Int, S 0 = T.toInt ∧ S 1 = B.toInt ∧ S ((m_eu n T B).length + 1) = 0 ∧ (∀ i, i < (m_eu n T B).length → ((m_eu n T B).getD i 0).toInt * S (i + 1) + S (i + 2) = S i) ∧ ∀ i, i ≤ (m_eu n T B).length → 1 ≤ S i ∧ S i ≤ 1000000000 := by
  intro n
  induction n with
  | zero => intro k T B _ _ h1 h2; omega
  | succ n ih =>
    intro k T B h hk hk2 hn
    unfold m_eu
    by_cases c : B = 0
    · rw [if_pos c]
      obtain ⟨a1, a2, a3, a4⟩ := h
      have e0 : B.toInt = 0 := by rw [c]; rfl
      refine ⟨fun i => if i = 0 then T.toInt else 0, rfl, by rw [e0]; rfl, rfl, fun i hi => absurd hi (Nat.not_lt_zero i), fun i hi => ?_⟩
      have : i = 0 := Nat.le_zero.mp hi
      rw [this]
      show 1 ≤ T.toInt ∧ T.toInt ≤ 1000000000
      omega
    · rw [if_neg c]
      obtain ⟨k0, b1⟩ := m_T0 h ⟨hk, hk2⟩ c
      obtain ⟨p1, p2, p3, p4⟩ := m_T2 h ⟨hk, hk2⟩ c rfl rfl
      obtain ⟨S, s0, s1, s2, s3, s4⟩ := ih (k + 1) _ _ p1 (by omega) (by omega) (by omega)
      obtain ⟨a1, a2, a3, a4⟩ := h
      obtain ⟨l1, -, -, -⟩ := m_left (T := T) (B := B) (by omega) b1 (by omega) rfl rfl
      rw [List.length_cons]
      refine ⟨fun i => if i = 0 then T.toInt else S (i - 1), rfl, s0, s2, fun i hi => ?_, fun i hi => ?_⟩
      · cases i with
        | zero =>
          show (m_floor T B).toInt * S 0 + S 1 = T.toInt
          rw [s0, s1, l1]
          omega
        | succ i => exact s3 i (by omega)
      · cases i with
        | zero =>
          show 1 ≤ T.toInt ∧ T.toInt ≤ 1000000000
          omega
        | succ i => exact s4 i (by omega)
theorem q_TET {t b : Int64} (h : m_F t b) : ∃ S : Nat → Int, S 0 = t.toInt ∧ S 1 = b.toInt ∧ S ((m_TE t b).length + 1) = 0 ∧ (∀ i, i < (m_TE t b).length → (m_at t b i).toInt * S (i + 1) + S (i + 2) = S i) ∧ ∀ i, 1 ≤ i → i ≤ (m_TE t b).length → 1 ≤ S i ∧ S i ≤ 1000000000 := by
  obtain ⟨p1, p2⟩ := m_T1 h rfl rfl
  have e : m_TE t b = m_floor t b :: m_eu 63 b (t - m_floor t b * b) := by
    exact m_euS 63 t b (m_ne0 h.2.1)
  obtain ⟨S, s0, s1, s2, s3, s4⟩ := q_euT 63 1 b _ p1 (by decide) (by decide) (by decide)
  obtain ⟨l1, -, -, -⟩ := m_left (T := t) (B := b) h.1 h.2.1 h.2.2 rfl rfl
  unfold m_at
  rw [e, List.length_cons]
  refine ⟨fun i => if i = 0 then t.toInt else S (i - 1), rfl, s0, s2, fun i hi => ?_, fun i h1 hi => ?_⟩
  · cases i with
    | zero =>
      show (m_floor t b).toInt * S 0 + S 1 = t.toInt
      rw [s0, s1, l1]
      omega
    | succ i => exact s3 i (by omega)
  · cases i with
    | zero => omega
    | succ i => exact s4 i (by omega)
/-- FOLDED side by side: neither grows beyond twice the tops, and what lies between them only turns its sign -/
theorem q_fd2 {a a2 d : Nat → Int64} {S : Nat → Int} : ∀ (n : Nat), (∀ k, k < n → a k = d k ∧ a2 k = d k ∧ 0 ≤ (d k).toInt ∧ (1 ≤ k → 1 ≤ (d k).toInt) ∧ (d k).toInt.natAbs ≤ 1000000001 ∧ (d k).toInt * S (k + 1) + S (k + 2) = S k) → (∀ k, k ≤ n + 1 → 0 ≤ S k ∧ S k ≤ 1000000000) →
    ∀ t b t2 b2 : Int64, 0 ≤ t.toInt → t.toInt ≤ 2 * S n → 1 ≤ b.toInt → b.toInt ≤ 2 * S (n + 1) → (1 ≤ n → 1 ≤ t.toInt) → 0 ≤ t2.toInt → t2.toInt ≤ 2 * S n → 1 ≤ b2.toInt → b2.toInt ≤ 2 * S (n + 1) → (1 ≤ n → 1 ≤ t2.toInt) →
    ∃ x y x2 y2 : Int64, m_fdL a n t b = LO x y ∧ m_fdL a2 n t2 b2 = LO x2 y2 ∧ 0 ≤ x.toInt ∧ x.toInt ≤ 2 * S 0 ∧ 1 ≤ y.toInt ∧ y.toInt ≤ 2 * S 1 ∧ 0 ≤ x2.toInt ∧ x2.toInt ≤ 2 * S 0 ∧ 1 ≤ y2.toInt ∧ y2.toInt ≤ 2 * S 1 ∧ x.toInt * y2.toInt - x2.toInt * y.toInt = (if n % 2 = 0 then 1 else -1) * (t.toInt * b2.toInt - t2.toInt * b.toInt) := by
  intro n
  induction n with
  | zero =>
    intro _ _ t b t2 b2 h1 h2 h3 h4 _ h6 h7 h8 h9 _
    exact ⟨t, b, t2, b2, rfl, rfl, h1, h2, h3, h4, h6, h7, h8, h9, by rw [if_pos rfl, Int.one_mul]⟩
  | succ n ih =>
    intro hd hS t b t2 b2 h1 h2 h3 h4 h5 h6 h7 h8 h9 h10
    obtain ⟨d1, d2, d3, d4, d5, d6⟩ := hd n (by omega)
    have s1 := hS (n + 1) (by omega)
    have s2 : 0 ≤ S (n + 1 + 1) ∧ S (n + 1 + 1) ≤ 1000000000 := hS (n + 2) (by omega)
    have d6 : (d n).toInt * S (n + 1) + S (n + 1 + 1) = S n := d6
    have hc4 : ∀ z : Int64, z.toInt ≤ 2000000000 → ¬ (4000000000 : Int64) < z := by
      intro z hz q
      have := Int64.lt_iff_toInt_lt.mp q
      rw [show (4000000000 : Int64).toInt = 4000000000 by decide] at this
      omega
    unfold m_fdL
    rw [if_neg (hc4 t (by omega)), if_neg (hc4 t2 (by omega)), d1, d2]
    obtain ⟨e1, e2⟩ := m_mulB (x := d n) (y := t) (B := 1000000001) (C := 2000000000) d5 (by omega) (by decide)
    obtain ⟨f1, -⟩ := m_addB (x := d n * t) (y := b) (B := 1000000001 * 2000000000) (C := 2000000000) e2 (by omega) (by decide)
    obtain ⟨g1, g2⟩ := m_mulB (x := d n) (y := t2) (B := 1000000001) (C := 2000000000) d5 (by omega) (by decide)
    obtain ⟨j1, -⟩ := m_addB (x := d n * t2) (y := b2) (B := 1000000001 * 2000000000) (C := 2000000000) g2 (by omega) (by decide)
    have k1 : (d n).toInt * t.toInt ≤ (d n).toInt * (2 * S (n + 1)) := Int.mul_le_mul_of_nonneg_left h2 d3
    have k2 : (d n).toInt * t2.toInt ≤ (d n).toInt * (2 * S (n + 1)) := Int.mul_le_mul_of_nonneg_left h7 d3
    have k3 : (d n).toInt * (2 * S (n + 1)) = 2 * ((d n).toInt * S (n + 1)) := by grind
    have k4 : 0 ≤ (d n).toInt * t.toInt := Int.mul_nonneg d3 h1
    have k5 : 0 ≤ (d n).toInt * t2.toInt := Int.mul_nonneg d3 h6
    obtain ⟨x, y, x2, y2, r1, r2, r3, r4, r5, r6, r7, r8, r9, r10, r11⟩ := ih (fun k hk => hd k (by omega)) (fun k hk => hS k (by omega)) (d n * t + b) t (d n * t2 + b2) t2 (by rw [f1, e1]; omega) (by rw [f1, e1]; omega) (h5 (by omega)) h2 (fun _ => by rw [f1, e1]; omega) (by rw [j1, g1]; omega) (by rw [j1, g1]; omega) (h10 (by omega)) h7 (fun _ => by rw [j1, g1]; omega)
    refine ⟨x, y, x2, y2, r1, r2, r3, r4, r5, r6, r7, r8, r9, r10, ?_⟩
    rw [r11, f1, e1, j1, g1]
    rcases Nat.mod_two_eq_zero_or_one n with e | e
    · rw [if_pos e, if_neg (show ¬ (n + 1) % 2 = 0 by omega)]
      grind
    · rw [if_neg (show ¬ n % 2 = 0 by omega), if_pos (show (n + 1) % 2 = 0 by omega)]
      grind
theorem q_d1 {z y : Int} (h : z.natAbs ≤ 1000000001) (e : y = z + -1) : y.natAbs ≤ 1000000002 := by omega
theorem q_dz {z s u w : Int} (h1 : 1 ≤ z) (h2 : z ≤ s) (e1 : u = z + 1) (e2 : w = 2 * z - 1) : (0 ≤ u ∧ u ≤ 2 * s ∧ 1 ≤ u) ∧ (0 ≤ w ∧ w ≤ 2 * s ∧ 1 ≤ w) := by omega
theorem q_d2 {s x : Int} (h : x ≤ 2 * s) (k : s ≤ 1000000000) : x ≤ 2000000000 := by omega
theorem q_d3 {z : Int} : (z + -1) * 2 + 1 = 2 * z - 1 := by omega
theorem q_d4 {s : Int} (h : 1 ≤ s) : 1 ≤ 2 * s := by omega
theorem q_d5 {s : Int} (h : 1 ≤ s) : 2 ≤ 2 * s := by omega
theorem q_d6 {z : Int} : (z + 1) * 2 - (2 * z - 1) * 1 = 3 := by omega
theorem q_d7 {t : Int} (h : t.natAbs ≤ 1000000000) (k : 1 ≤ t) : 0 ≤ t ∧ t ≤ 1000000000 := by omega
/-- the two ways down, of any row of TERMS -/
theorem q_dnA {a : Nat → Int64} {S : Nat → Int} {c : Nat} {t b f : Int64} (ht9 : t.toInt.natAbs ≤ 1000000000) (ht : 1 ≤ t.toInt) (hfl : 0 ≤ f.toInt) (t3 : ∀ i, i < c + 1 → (a i).toInt.natAbs ≤ 1000000001) (t4 : ∀ i, 1 ≤ i → i < c + 1 → 1 ≤ (a i).toInt) (t5 : a 0 = f) (t6 : c = 0 → t.toInt = f.toInt * b.toInt)
    (s0 : S 0 = t.toInt) (s2 : S (c + 1 + 1) = 0) (s3 : ∀ i, i < c + 1 → (a i).toInt * S (i + 1) + S (i + 2) = S i) (s4 : ∀ i, 1 ≤ i → i ≤ c + 1 → 1 ≤ S i ∧ S i ≤ 1000000000) :
    ∃ x y x2 y2 : Int64, m_fdL (va_up a c (a c + 1)) c (a c + 1) 1 = LO x y ∧ m_fdL (va_up (va_up a c (a c + -1)) (c + 1) 2) c ((a c + -1) * 2 + 1) 2 = LO x2 y2 ∧ (0 ≤ x.toInt ∧ x.toInt ≤ 2000000000 ∧ 1 ≤ y.toInt ∧ y.toInt ≤ 2000000000) ∧ (0 ≤ x2.toInt ∧ x2.toInt ≤ 2000000000 ∧ 1 ≤ y2.toInt ∧ y2.toInt ≤ 2000000000) ∧ x.toInt * y2.toInt - x2.toInt * y.toInt = (if c % 2 = 0 then 1 else -1) * 3 := by
  obtain ⟨z, hz⟩ : ∃ z, z = a c := ⟨_, rfl⟩
  have hz3 := t3 c (Nat.lt_succ_self c)
  rw [← hz] at hz3
  have e1 : (1 : Int64).toInt = 1 := rfl
  have en : (-1 : Int64).toInt = -1 := by decide
  have e2 : (2 : Int64).toInt = 2 := by decide
  have z1 := q_bump (x := z) (v := 1) hz3 (by decide)
  have z2 := q_bump (x := z) (v := -1) hz3 (by decide)
  rw [e1] at z1
  rw [en] at z2
  have ha0 : ∀ k, k < c + 1 → 0 ≤ (a k).toInt := by
    intro k hk
    rcases Nat.eq_zero_or_pos k with e | e
    · rw [e, t5]; exact hfl
    · exact Int.le_trans (by decide) (t4 k e hk)
  have hS0 : ∀ k, k ≤ c + 1 → 0 ≤ S k ∧ S k ≤ 1000000000 := by
    intro k hk
    rcases Nat.eq_zero_or_pos k with e | e
    · rw [e, s0]; exact q_d7 ht9 ht
    · exact ⟨Int.le_trans (by decide) (s4 k e hk).1, (s4 k e hk).2⟩
  have hsc := s3 c (Nat.lt_succ_self c)
  rw [show c + 2 = c + 1 + 1 from rfl, s2, Int.add_zero, ← hz] at hsc
  have hsc1 := s4 (c + 1) (Nat.succ_le_succ (Nat.zero_le c)) (Nat.le_refl _)
  have hzp : 1 ≤ z.toInt := by
    rcases Nat.eq_zero_or_pos c with e | e
    · have h9 := t6 e
      rw [hz, e, t5]
      rcases Int.lt_or_le 0 f.toInt with y | y
      · exact y
      · rw [Int.le_antisymm y hfl, Int.zero_mul] at h9
        rw [h9] at ht
        exact absurd ht (by decide)
    · rw [hz]
      exact t4 c e (Nat.lt_succ_self c)
  have hzS : z.toInt ≤ S c := by
    have h9 := Int.mul_le_mul_of_nonneg_left hsc1.1 (show 0 ≤ z.toInt from Int.le_trans (by decide) hzp)
    rw [hsc, Int.mul_one] at h9
    exact h9
  obtain ⟨hs1, hs2⟩ := hsc1
  obtain ⟨w1, w2⟩ := m_mulB (x := z + -1) (y := 2) (B := 1000000002) (C := 2) (q_d1 hz3 z2) (by decide) (by decide)
  obtain ⟨w3, -⟩ := m_addB (x := (z + -1) * 2) (y := 1) (B := 1000000002 * 2) (C := 1) w2 (by decide) (by decide)
  have w4 : ((z + -1) * 2 + 1).toInt = 2 * z.toInt - 1 := by rw [w3, w1, z2, e2, e1]; exact q_d3
  obtain ⟨q1, q2⟩ := q_dz hzp hzS z1 w4
  obtain ⟨x, y, x2, y2, r1, r2, r3, r4, r5, r6, r7, r8, r9, r10, r11⟩ := q_fd2 (a := va_up a c (z + 1)) (a2 := va_up (va_up a c (z + -1)) (c + 1) 2) (d := a) (S := S) c
    (fun k hk => ⟨va_up_ne _ _ (Nat.ne_of_lt hk), (va_up_ne (va_up a c (z + -1)) 2 (Nat.ne_of_lt (Nat.lt_succ_of_lt hk))).trans (va_up_ne a (z + -1) (Nat.ne_of_lt hk)), ha0 k (Nat.lt_succ_of_lt hk), fun k1 => t4 k k1 (Nat.lt_succ_of_lt hk), t3 k (Nat.lt_succ_of_lt hk), s3 k (Nat.lt_succ_of_lt hk)⟩) (fun k hk => hS0 k hk) (z + 1) 1 ((z + -1) * 2 + 1) 2
    q1.1 q1.2.1 (by decide) (by rw [e1]; exact q_d4 hs1) (fun _ => q1.2.2) q2.1 q2.2.1 (by decide) (by rw [e2]; exact q_d5 hs1) (fun _ => q2.2.2)
  have hs01 := (hS0 1 (Nat.succ_le_succ (Nat.zero_le c))).2
  rw [s0] at r4 r8
  rw [← hz]
  refine ⟨x, y, x2, y2, r1, r2, ⟨r3, q_d2 r4 (q_d7 ht9 ht).2, r5, q_d2 r6 hs01⟩, ⟨r7, q_d2 r8 (q_d7 ht9 ht).2, r9, q_d2 r10 hs01⟩, ?_⟩
  rw [r11, z1, w4, e1, e2, q_d6]
/-- the two ways down -/
theorem q_dn {t b : Int64} (h : m_F t b) (ht : 1 ≤ t.toInt) : ∃ p q : Int64 × Int64, m_WL t b 1 = some p ∧ m_W2 t b = some q ∧ L64 p.1 p.2 ∧ L64 q.1 q.2 ∧ (0 < m_ord p.1 p.2 q.1 q.2 ↔ (m_TE t b).length % 2 = 1) := by
  obtain ⟨t1, t2, t3, t4, t5, t6⟩ := q_TE h
  obtain ⟨S, s0, s1, s2, s3, s4⟩ := q_TET h
  obtain ⟨hb1, hb2, hb3⟩ := h
  have hfl : 0 ≤ (m_floor t b).toInt := by
    rw [q_mfl (by omega) hb2]
    exact Int.ediv_nonneg (by omega) (by omega)
  have c1 : m_WL t b 1 = m_FD (va_up (m_at t b) ((m_TE t b).length - 1) (m_at t b ((m_TE t b).length - 1) + 1)) (m_TE t b).length := rfl
  have c2 : m_W2 t b = m_FD (va_up (va_up (m_at t b) ((m_TE t b).length - 1) (m_at t b ((m_TE t b).length - 1) + -1)) (m_TE t b).length 2) ((m_TE t b).length + 1) := rfl
  rw [c1, c2]
  clear c1 c2
  generalize (m_TE t b).length = L at *
  generalize m_at t b = a at *
  generalize m_floor t b = f at *
  obtain ⟨c, rfl⟩ : ∃ c, L = c + 1 := ⟨L - 1, by omega⟩
  rw [Nat.add_sub_cancel]
  obtain ⟨x, y, x2, y2, r1, r2, ⟨x1, x2b, y1, y2b⟩, ⟨x3, x4, y3, y4⟩, hd⟩ := q_dnA (a := a) (S := S) (c := c) (t := t) (b := b) (f := f) hb1 ht hfl t3 (fun i h1 h2 => (t4 i h1 h2).1) t5 (fun z => t6 (by rw [z])) s0 s2 s3 s4
  have c1 : m_FD (va_up a c (a c + 1)) (c + 1) = LO x y := by
    unfold m_FD
    rw [Nat.add_sub_cancel, va_up_self]
    exact r1
  have c2 : m_FD (va_up (va_up a c (a c + -1)) (c + 1) 2) (c + 1 + 1) = LO x2 y2 := by
    unfold m_FD
    rw [Nat.add_sub_cancel, va_up_self]
    show (if (4000000000 : Int64) < 2 then none else m_fdL (va_up (va_up a c (a c + -1)) (c + 1) 2) c (va_up (va_up a c (a c + -1)) (c + 1) 2 c * 2 + 1) 2) = _
    rw [if_neg (by decide), va_up_ne (va_up a c (a c + -1)) (2 : Int64) (show c ≠ c + 1 by omega), va_up_self]
    exact r2
  clear t1 t2 t3 t4 t5 t6 s0 s1 s2 s3 s4 r1 r2 hfl
  obtain ⟨l1, l2⟩ := q_lo (t := x) (b := y) (by omega) (by omega) (m_ne0 y1)
  obtain ⟨l3, l4⟩ := q_lo (t := x2) (b := y2) (by omega) (by omega) (m_ne0 y3)
  obtain ⟨-, m1, m2, m3⟩ := m_loP (t := x) (b := y) (B := 2000000000) (C := 2000000000) (by omega) (by decide) y1 (by omega)
  obtain ⟨-, n1, n2, n3⟩ := m_loP (t := x2) (b := y2) (B := 2000000000) (C := 2000000000) (by omega) (by decide) y3 (by omega)
  refine ⟨_, _, c1, c2, l1, l3, ?_⟩
  dsimp only
  obtain ⟨o1, -⟩ := m_mulB (x := m_loT x y) (y := m_loB x2 y2) (B := 2000000000) (C := 2000000000) m3 (by omega) (by decide)
  obtain ⟨o2, -⟩ := m_mulB (x := m_loT x2 y2) (y := m_loB x y) (B := 2000000000) (C := 2000000000) n3 (by omega) (by decide)
  have g1 := q_ord1 o1 o2
  have g0 := q_ord0 o1 o2
  have gm := q_ordm o1 o2
  have hlt := q_lt (A := (m_loT x2 y2).toInt) (B := (m_loB x2 y2).toInt) (T := x2.toInt) (k := y2.toInt) (x := (m_loT x y).toInt) (y := (m_loB x y).toInt) (V := x.toInt) (w := y.toInt) (by omega) (by omega) (by omega) (by omega) l4 l2
  have hpos : 0 < m_ord (m_loT x y) (m_loB x y) (m_loT x2 y2) (m_loB x2 y2) ↔ m_ord (m_loT x y) (m_loB x y) (m_loT x2 y2) (m_loB x2 y2) = 1 := by
    unfold m_ord
    split
    · exact ⟨fun z => absurd z (by decide), fun z => absurd z (by decide)⟩
    · split
      · exact ⟨fun _ => rfl, fun _ => by decide⟩
      · exact ⟨fun z => absurd z (by decide), fun z => absurd z (by decide)⟩
  rw [hpos, g1, hlt]
  rcases Nat.mod_two_eq_zero_or_one c with e | e
  · rw [if_pos e] at hd
    constructor
    · intro _
      omega
    · intro _
      omega
  · rw [if_neg (show ¬ c % 2 = 0 by omega)] at hd
    constructor
    · intro q
      omega
    · intro q
      omega
def m_DN (t b : Int64) (x : Int32) : Option (Int64 × Int64) := if m_abv t = 0 then none else if (if (m_TE t b).length % 2 = 1 then (1 : Int32) else 0) = x then m_WL t b 1 else m_W2 t b
theorem q_DN {t b : Int64} {x : Int32} {r : Int64 × Int64} (h : m_F t b) (ht : 1 ≤ t.toInt) (hv : ∃ p q : Int64 × Int64, m_WL t b 1 = some p ∧ m_W2 t b = some q ∧ r = if (if 0 < m_ord p.1 p.2 q.1 q.2 then (1 : Int32) else 0) = x then p else q) : some r = m_DN t b x := by
  obtain ⟨p, q, h1, h2, h3⟩ := hv
  obtain ⟨p2, q2, k1, k2, -, -, k5⟩ := q_dn h ht
  have e1 : p = p2 := Option.some.inj (h1.symm.trans k1)
  have e2 : q = q2 := Option.some.inj (h2.symm.trans k2)
  subst e1 e2
  have ha : ¬ m_abv t = 0 := fun z => (q_abv.mp z) ht
  unfold m_DN
  rw [if_neg ha, h3]
  by_cases c : (m_TE t b).length % 2 = 1
  · rw [if_pos (k5.mpr c), if_pos c]
    by_cases d : (1 : Int32) = x
    · rw [if_pos d, if_pos d, h1]
    · rw [if_neg d, if_neg d, h2]
  · rw [if_neg (fun z => c (k5.mp z)), if_neg c]
    by_cases d : (0 : Int32) = x
    · rw [if_pos d, if_pos d, h1]
    · rw [if_neg d, if_neg d, h2]
section RV11
variable {g g1 : CS} {kn : Int32} {tt bb : Nat → Int64} {eT eB oT oB : Int64} {pk : Nat} {ca rf : Int32} {vs : Nat → Value} {n9 : Nat}
theorem q_odd {c : Nat} (h : c ≤ 64) : nI c &&& 1 = 1 ↔ c % 2 = 1 := by
  have hall : ∀ i : Fin 65, (nI i.val &&& 1 = 1) ↔ i.val % 2 = 1 := by decide +kernel
  exact hall ⟨c, by omega⟩
theorem q_b1 {x y : Int} (h : x.natAbs ≤ 1000000001) (e : y = x + 1) : y.natAbs ≤ 1000000002 := by omega
theorem q_b2 {x : Int} (h : x.natAbs ≤ 1000000001) : x.natAbs ≤ 1000000002 := by omega
theorem q_b3 {x y : Int} (h : 1 ≤ x) (e : y = x + 1) : 1 ≤ y := by omega
theorem q_b4 {x y : Int} (h : 2 ≤ x) (e : y = x + -1) : 1 ≤ y := by omega
theorem q_dF1 (h : RV g kn tt bb eT eB oT oB pk ca rf vs n9) {i : Nat} (hi : i < 6) {X : CS} (l1 : lz g X) {L : Nat} {a : Nat → Int64} (p1 : tC X 1 = nI L) (p2 : ∀ k, k < L → tV X 1 k = a k) (t1 : 1 ≤ L) (t2 : L ≤ 43) (t3 : ∀ i, i < L → (a i).toInt.natAbs ≤ 1000000001) (t4 : ∀ i, 1 ≤ i → i < L → 1 ≤ (a i).toInt ∧ (i + 1 = L → 2 ≤ (a i).toInt)) : SMV kn tt bb eT eB oT oB pk ca rf vs n9 i (m_FD (va_up a (L - 1) (a (L - 1) + 1)) L) (f_fsR (f_addTo X 1 1) 1 i) (f_fsW (f_addTo X 1 1) 1 i) := by
  have hp1 : (1 : Int64).toInt = 1 := rfl
  have hL1 : L - 1 < L := by omega
  have ht3 := t3 (L - 1) hL1
  have hb1 := q_bump (v := 1) ht3 (by decide)
  rw [hp1] at hb1
  rw [q_adT p1 t1 (by omega), p2 _ hL1]
  have l2 := l1.tr (q_lz1 X (L - 1) (a (L - 1) + 1))
  have p3 : ∀ k, k < L → tV (uV X 1 (L - 1) (a (L - 1) + 1)) 1 k = va_up a (L - 1) (a (L - 1) + 1) k := by
    intro k hk
    rw [q_uV]
    by_cases e : k = L - 1
    · rw [e, va_up_self, va_up_self]
    · rw [va_up_ne _ _ e, va_up_ne _ _ e]
      exact p2 k hk
  have p4 : tC (uV X 1 (L - 1) (a (L - 1) + 1)) 1 = nI L := p1
  refine h.fold l2 hi p4 t1 (by omega) p3 (fun k k1 k2 => ?_) (fun k hk => ?_)
  · by_cases e : k = L - 1
    · rw [e, va_up_self]
      rw [e] at k1
      exact q_b3 (t4 (L - 1) k1 hL1).1 hb1
    · rw [va_up_ne _ _ e]
      exact (t4 k k1 k2).1
  · by_cases e : k = L - 1
    · rw [e, va_up_self]
      exact q_b1 ht3 hb1
    · rw [va_up_ne _ _ e]
      exact q_b2 (t3 k hk)
theorem q_dG1 {X : CS} {L : Nat} {a : Nat → Int64} (p1 : tC X 1 = nI L) (p2 : ∀ k, k < L → tV X 1 k = a k) (t1 : 1 ≤ L) (t2 : L ≤ 43) : f_addLast (f_addTo X 1 (-1)) 1 2 = uC (uV (uV X 1 (L - 1) (a (L - 1) + -1)) 1 L 2) 1 (nI (L + 1)) := by
  have hL1 : L - 1 < L := by omega
  have hL2 : L < 64 := by omega
  have p4 : tC (uV X 1 (L - 1) (a (L - 1) + -1)) 1 = nI L := p1
  rw [q_adT p1 t1 (by omega), p2 _ hL1, q_add p4 hL2 2]
theorem q_dG2 {X Y : CS} {L : Nat} (l2 : lz X Y) : lz X (uC (uV Y 1 L 2) 1 (nI (L + 1))) := l2.tr ((q_lz1 Y L 2).tr (lz_sm (tx_smC _ (nI (L + 1)))))
theorem q_dG3 {Y : CS} {b : Nat → Int64} {L : Nat} (q3 : ∀ k, k < L → tV Y 1 k = b k) : ∀ k, k < L + 1 → tV (uC (uV Y 1 L 2) 1 (nI (L + 1))) 1 k = va_up b L 2 k := by
    intro k hk
    show tV (uV Y 1 L 2) 1 k = _
    rw [q_uV]
    by_cases e : k = L
    · rw [e, va_up_self, va_up_self]
    · rw [va_up_ne _ _ e, va_up_ne _ _ e]
      exact q3 k (by omega)
theorem q_dG4 {a : Nat → Int64} {L : Nat} (t1 : 1 ≤ L) (t4 : ∀ i, 1 ≤ i → i < L → 1 ≤ (a i).toInt ∧ (i + 1 = L → 2 ≤ (a i).toInt)) (hb2 : (a (L - 1) + -1).toInt = (a (L - 1)).toInt + -1) : ∀ k, 1 ≤ k → k < L + 1 → 1 ≤ (va_up (va_up a (L - 1) (a (L - 1) + -1)) L 2 k).toInt := by
  intro k k1 k2
  have hL1 : L - 1 < L := by omega
  by_cases e : k = L
  · rw [e, va_up_self]
    decide
  · rw [va_up_ne _ _ e]
    by_cases e2 : k = L - 1
    · rw [e2, va_up_self]
      rw [e2] at k1
      exact q_b4 ((t4 (L - 1) k1 hL1).2 (by omega)) hb2
    · rw [va_up_ne _ _ e2]
      exact (t4 k k1 (by omega)).1
theorem q_dG5 {a : Nat → Int64} {L : Nat} (ht3 : (a (L - 1)).toInt.natAbs ≤ 1000000001) (t3 : ∀ i, i < L → (a i).toInt.natAbs ≤ 1000000001) (hb2 : (a (L - 1) + -1).toInt = (a (L - 1)).toInt + -1) : ∀ k, k < L + 1 → (va_up (va_up a (L - 1) (a (L - 1) + -1)) L 2 k).toInt.natAbs ≤ 1000000002 := by
  intro k hk
  by_cases e : k = L
  · rw [e, va_up_self]
    rw [show (2 : Int64).toInt = 2 by decide]
    exact Nat.le_of_ble_eq_true rfl
  · rw [va_up_ne _ _ e]
    by_cases e2 : k = L - 1
    · rw [e2, va_up_self]
      exact q_d1 ht3 hb2
    · rw [va_up_ne _ _ e2]
      exact q_b2 (t3 k (by omega))
theorem q_dF2 (h : RV g kn tt bb eT eB oT oB pk ca rf vs n9) {i : Nat} (hi : i < 6) {X : CS} (l1 : lz g X) {L : Nat} {a : Nat → Int64} (p1 : tC X 1 = nI L) (p2 : ∀ k, k < L → tV X 1 k = a k) (t1 : 1 ≤ L) (t2 : L ≤ 43) (t3 : ∀ i, i < L → (a i).toInt.natAbs ≤ 1000000001) (t4 : ∀ i, 1 ≤ i → i < L → 1 ≤ (a i).toInt ∧ (i + 1 = L → 2 ≤ (a i).toInt)) : SMV kn tt bb eT eB oT oB pk ca rf vs n9 i (m_FD (va_up (va_up a (L - 1) (a (L - 1) + -1)) L 2) (L + 1)) (f_fsR (f_addLast (f_addTo X 1 (-1)) 1 2) 1 i) (f_fsW (f_addLast (f_addTo X 1 (-1)) 1 2) 1 i) := by
  have hn1 : (-1 : Int64).toInt = -1 := by decide
  have hL1 : L - 1 < L := by omega
  have ht3 := t3 (L - 1) hL1
  have hb2 := q_bump (v := -1) ht3 (by decide)
  rw [hn1] at hb2
  have l2 := q_dG2 (L := L) (l1.tr (q_lz1 X (L - 1) (a (L - 1) + -1)))
  have q3 : ∀ k, k < L → tV (uV X 1 (L - 1) (a (L - 1) + -1)) 1 k = va_up a (L - 1) (a (L - 1) + -1) k := by
    intro k hk
    rw [q_uV]
    by_cases e : k = L - 1
    · rw [e, va_up_self, va_up_self]
    · rw [va_up_ne _ _ e, va_up_ne _ _ e]
      exact p2 k hk
  rw [q_dG1 p1 p2 t1 t2]
  exact h.fold l2 hi (tC_uC (uV (uV X 1 (L - 1) (a (L - 1) + -1)) 1 L 2) 1 (nI (L + 1))) (Nat.succ_le_succ (Nat.zero_le L)) (Nat.le_trans (Nat.succ_le_succ t2) (by decide)) (q_dG3 q3) (q_dG4 t1 t4 hb2) (q_dG5 ht3 t3 hb2)
theorem q_fsR (g : CS) (j i : Nat) : f_fsR g j i = if f_foldR g j = 0 then -9 else f_setR (f_foldW g j 6) i := rfl
theorem q_fsW (g : CS) (j i : Nat) : f_fsW g j i = if f_foldR g j = 0 then f_refW (f_foldW g j 6) else f_setW (f_foldW g j 6) i := rfl
theorem s_dn (h : RV g kn tt bb eT eB oT oB pk ca rf vs n9) {i : Nat} (hi : i < 6) {x : Int32} (hx : x = 0 ∨ x = 1) : SMV kn tt bb eT eB oT oB pk ca rf vs n9 i (m_DN (tt i) (bb i) x) (f_dnR g i x) (f_dnX g i x) := by
  obtain ⟨a1, a2, a3, a4⟩ := h.1 i hi
  unfold f_dnR f_dnX m_DN
  rw [a1]
  by_cases c : 1 ≤ (tt i).toInt
  · rw [if_neg (fun z => (q_cmpN.mp z) c), if_neg (fun z => (q_cmpN.mp z) c), if_neg (fun z => (q_abv.mp z) c)]
    obtain ⟨p1, p2⟩ := q_apt a1 a2 a3
    obtain ⟨t1, t2, t3, t4, -, -⟩ := q_TE a3
    have hWL : m_WL (tt i) (bb i) 1 = m_FD (va_up (m_at (tt i) (bb i)) ((m_TE (tt i) (bb i)).length - 1) (m_at (tt i) (bb i) ((m_TE (tt i) (bb i)).length - 1) + 1)) (m_TE (tt i) (bb i)).length := rfl
    have hW2 : m_W2 (tt i) (bb i) = m_FD (va_up (va_up (m_at (tt i) (bb i)) ((m_TE (tt i) (bb i)).length - 1) (m_at (tt i) (bb i) ((m_TE (tt i) (bb i)).length - 1) + -1)) (m_TE (tt i) (bb i)).length 2) ((m_TE (tt i) (bb i)).length + 1) := rfl
    have F1 := q_dF1 h hi (lz_apt g i) p1 p2 t1 t2 t3 t4
    have F2 := q_dF2 h hi (lz_apt g i) p1 p2 t1 t2 t3 t4
    rw [← hWL] at F1
    rw [← hW2] at F2
    rw [q_fsR, q_fsW] at F1 F2
    unfold f_stDR f_stDW
    have ho := q_odd (c := (m_TE (tt i) (bb i)).length) (by omega)
    clear hWL hW2 p2 t1 t2 t3 t4
    unfold f_dnG
    rw [p1]
    generalize f_apart g 1 i = X at *
    generalize (m_TE (tt i) (bb i)).length = L at *
    by_cases d : L % 2 = 1
    · rw [if_pos (ho.mpr d), if_pos d]
      rcases hx with rfl | rfl
      · rw [if_neg (show ¬ (0 : Int32) = 1 by decide), if_neg (show ¬ (1 : Int32) = 0 by decide)]
        exact F2
      · rw [if_pos rfl, if_pos rfl]
        exact F1
    · rw [if_neg (fun z => d (ho.mp z)), if_neg d]
      rcases hx with rfl | rfl
      · rw [if_pos rfl, if_pos rfl]
        exact F1
      · rw [if_neg (show ¬ (1 : Int32) = 0 by decide), if_neg (show ¬ (0 : Int32) = 1 by decide)]
        exact F2
  · rw [if_pos (q_cmpN.mpr c), if_pos (q_cmpN.mpr c), if_pos (q_abv.mpr c)]
    exact h.no (lz_rf g) i
/-! DEPTH -/
theorem q_sm : ∀ (l : List Int64) (a c : Int64), m_sm l (a + c) = m_sm l a + c := by
  intro l
  induction l with
  | nil => intro a c; rfl
  | cons x l ih =>
    intro a c
    unfold m_sm
    rw [Int64.add_assoc, Int64.add_comm c x, ← Int64.add_assoc]
    exact ih (a + x) c
theorem q_tot {g : CS} {c : Nat} (hc : tC g 1 = nI c) (hc2 : c ≤ 64) {L : List Int64} (hl : L.length = c) (ha : ∀ k, k < c → tV g 1 k = L.getD k 0) : ∀ (n k : Nat) (a : Int64), k + n = c → totL g 1 n k a = m_sm (L.drop k) a := by
  intro n
  induction n with
  | zero =>
    intro k a h
    rw [List.drop_eq_nil_of_le (by omega)]
    rfl
  | succ n ih =>
    intro k a h
    have hk : k < L.length := by omega
    unfold totL
    rw [ih (k + 1) _ (by omega), q_at hc hc2 (by omega), ha k (by omega), List.drop_eq_getElem_cons hk]
    rw [List.getD_eq_getElem?_getD, List.getElem?_eq_getElem hk]
    rfl
theorem s_dep (h : RV g kn tt bb eT eB oT oB pk ca rf vs n9) {i : Nat} (hi : i < 6) : (f_depR g i).toInt32 = m_DP (tt i) (bb i) := by
  obtain ⟨a1, a2, a3, a4⟩ := h.1 i hi
  obtain ⟨p1, p2⟩ := q_apt a1 a2 a3
  obtain ⟨t1, t2, t3, t4, t5, t6⟩ := q_TE a3
  unfold f_depR m_DP
  rw [a1]
  by_cases c : 1 ≤ (tt i).toInt
  · rw [if_neg (fun z => (q_cmpN.mp z) c), if_neg (fun z => (q_abv.mp z) c)]
    congr 1
    unfold f_total
    rw [p1, nI_clamp (by omega), q_tot p1 (by omega) rfl p2 _ 0 0 (by omega), List.drop_zero]
    have := q_sm (m_TE (tt i) (bb i)) 0 (-1)
    rw [Int64.zero_add] at this
    rw [this, Int64.sub_eq_add_neg]
  · rw [if_pos (q_cmpN.mpr c), if_pos (q_abv.mpr c)]
    rfl
end RV11
/-! ===== cuts, side by side ===== -/
def q_up (L R B : Int) (md : Int32) : Prop := (md = 0 ∧ L < 0) ∨ md = 2 ∨ (md = 3 ∧ (B < 2 * R ∨ (2 * R = B ∧ 0 ≤ L))) ∨ (md = 4 ∧ (B < 2 * R ∨ (2 * R = B ∧ L % 2 = 1)))
/-- what a number is cut to -/
def q_cP (T B p : Int) (md : Int32) (w : Int) : Prop := (T * p - T * p / B * B = 0 ∧ w = T * p / B) ∨ (0 < T * p - T * p / B * B ∧ q_up (T * p / B) (T * p - T * p / B * B) B md ∧ w = T * p / B + 1) ∨ (0 < T * p - T * p / B * B ∧ ¬ q_up (T * p / B) (T * p - T * p / B * B) B md ∧ w = T * p / B)
theorem q_cP1 {T B p : Int} {md : Int32} {w v : Int} (h : q_cP T B p md w) (k : q_cP T B p md v) : w = v := by
  rcases h with ⟨a1, a2⟩ | ⟨a1, a2, a3⟩ | ⟨a1, a2, a3⟩ <;> rcases k with ⟨b1, b2⟩ | ⟨b1, b2, b3⟩ | ⟨b1, b2, b3⟩ <;> first | omega | exact absurd a2 b2 | exact absurd b2 a2
theorem q_cPe (T B p : Int) (md : Int32) (hB : 0 < B) : ∃ w, q_cP T B p md w := by
  have h1 := Int.emod_add_mul_ediv (T * p) B
  have h2 := Int.emod_nonneg (T * p) (show B ≠ 0 by omega)
  rw [Int.mul_comm B (T * p / B)] at h1
  by_cases c : T * p - T * p / B * B = 0
  · exact ⟨_, Or.inl ⟨c, rfl⟩⟩
  · have hp : 0 < T * p - T * p / B * B := by omega
    by_cases u : q_up (T * p / B) (T * p - T * p / B * B) B md
    · exact ⟨_, Or.inr (Or.inl ⟨hp, u, rfl⟩)⟩
    · exact ⟨_, Or.inr (Or.inr ⟨hp, u, rfl⟩)⟩
theorem q_cPb {T B p : Int} {md : Int32} {w : Int} (h : q_cP T B p md w) : T * p / B ≤ w ∧ w ≤ T * p / B + 1 := by
  rcases h with ⟨a1, a2⟩ | ⟨a1, a2, a3⟩ | ⟨a1, a2, a3⟩ <;> omega
theorem q_upM {L R B R2 B2 : Int} {md : Int32} (hB : 0 < B) (hB2 : 0 < B2) (h : R * B2 ≤ R2 * B) (hu : q_up L R B md) : q_up L R2 B2 md := by
  have lt : B < 2 * R → B2 < 2 * R2 := by
    intro z
    have z1 := Int.mul_lt_mul_of_pos_right z hB2
    have z2 : B2 * B < 2 * R2 * B := by
      have e1 : 2 * R * B2 = 2 * (R * B2) := by grind
      have e2 : 2 * R2 * B = 2 * (R2 * B) := by grind
      have e3 : B2 * B = B * B2 := Int.mul_comm _ _
      omega
    exact Int.lt_of_mul_lt_mul_right z2 (by omega)
  have eq : 2 * R = B → B2 ≤ 2 * R2 := by
    intro z
    have z2 : B2 * B ≤ 2 * R2 * B := by
      have e1 : B * B2 = 2 * (R * B2) := by rw [← z]; grind
      have e2 : 2 * R2 * B = 2 * (R2 * B) := by grind
      have e3 : B2 * B = B * B2 := Int.mul_comm _ _
      omega
    exact Int.le_of_mul_le_mul_right z2 hB
  rcases hu with h1 | h1 | ⟨h1, h2 | ⟨h2, h3⟩⟩ | ⟨h1, h2 | ⟨h2, h3⟩⟩
  · exact Or.inl h1
  · exact Or.inr (Or.inl h1)
  · exact Or.inr (Or.inr (Or.inl ⟨h1, Or.inl (lt h2)⟩))
  · have := eq h2
    rcases Int.lt_or_eq_of_le this with z | z
    · exact Or.inr (Or.inr (Or.inl ⟨h1, Or.inl z⟩))
    · exact Or.inr (Or.inr (Or.inl ⟨h1, Or.inr ⟨z.symm, h3⟩⟩))
  · exact Or.inr (Or.inr (Or.inr ⟨h1, Or.inl (lt h2)⟩))
  · have := eq h2
    rcases Int.lt_or_eq_of_le this with z | z
    · exact Or.inr (Or.inr (Or.inr ⟨h1, Or.inl z⟩))
    · exact Or.inr (Or.inr (Or.inr ⟨h1, Or.inr ⟨z.symm, h3⟩⟩))
/-- what is greater is cut to what is no less -/
theorem q_cPm {T B T2 B2 p : Int} {md : Int32} {w w2 : Int} (hB : 0 < B) (hB2 : 0 < B2) (hp : 0 < p) (h : q_cP T B p md w) (k : q_cP T2 B2 p md w2) (hle : T * B2 ≤ T2 * B) : w ≤ w2 := by
  have b1 := q_cPb h
  have b2 := q_cPb k
  have hm : T * B2 * p ≤ T2 * B * p := Int.mul_le_mul_of_nonneg_right hle (by omega)
  have hm1 : T * p * B2 ≤ T2 * p * B := by
    have e1 : T * p * B2 = T * B2 * p := by grind
    have e2 : T2 * p * B = T2 * B * p := by grind
    omega
  have d1 := Int.emod_add_mul_ediv (T * p) B
  have d2 := Int.emod_nonneg (T * p) (show B ≠ 0 by omega)
  rw [Int.mul_comm B (T * p / B)] at d1
  have hL : T * p / B ≤ T2 * p / B2 := by
    rw [Int.le_ediv_iff_mul_le hB2]
    have z : T * p / B * B2 * B ≤ T2 * p * B := by
      have z1 : T * p / B * B * B2 ≤ T * p * B2 := Int.mul_le_mul_of_nonneg_right (by omega) (by omega)
      have e1 : T * p / B * B2 * B = T * p / B * B * B2 := by grind
      omega
    exact Int.le_of_mul_le_mul_right z hB
  rcases Int.lt_or_eq_of_le hL with z | z
  · omega
  · have hR : (T * p - T * p / B * B) * B2 ≤ (T2 * p - T2 * p / B2 * B2) * B := by
      rw [← z]
      have e1 : (T * p - T * p / B * B) * B2 = T * p * B2 - T * p / B * (B * B2) := by grind
      have e2 : (T2 * p - T * p / B * B2) * B = T2 * p * B - T * p / B * (B * B2) := by grind
      omega
    rcases h with ⟨a1, a2⟩ | ⟨a1, a2, a3⟩ | ⟨a1, a2, a3⟩
    · omega
    · have r2 : 0 < T2 * p - T2 * p / B2 * B2 := by
        rcases Int.lt_or_le 0 (T2 * p - T2 * p / B2 * B2) with y | y
        · exact y
        · have y1 := Int.mul_le_mul_of_nonneg_right y (show 0 ≤ B by omega)
          have y2 := Int.mul_pos a1 hB2
          omega
      have hu := q_upM hB hB2 hR a2
      rw [z] at hu
      rcases k with ⟨c1, c2⟩ | ⟨c1, c2, c3⟩ | ⟨c1, c2, c3⟩
      · omega
      · omega
      · exact absurd hu c2
    · omega
/-! the machine's cuts -/
theorem q_and1 (x : Int64) : x &&& 1 = 1 ↔ x.toInt % 2 = 1 := by
  have h1 : (x &&& 1 = 1) ↔ (x &&& 1).toBitVec = (1 : Int64).toBitVec := ⟨fun h => by rw [h], fun h => Int64.toBitVec_inj.mp h⟩
  rw [h1, Int64.toBitVec_and]
  have h2 : (x.toBitVec &&& (1 : Int64).toBitVec = (1 : Int64).toBitVec) ↔ (x.toBitVec &&& (1 : Int64).toBitVec).toNat = (1 : Int64).toBitVec.toNat := ⟨fun h => by rw [h], fun h => BitVec.eq_of_toNat_eq h⟩
  rw [h2, BitVec.toNat_and, show (1 : Int64).toBitVec.toNat = 1 from rfl, Nat.and_one_is_mod]
  have h3 : x.toInt = x.toBitVec.toInt := rfl
  have h4 := BitVec.toInt_eq_toNat_cond x.toBitVec
  rw [h3, h4]
  have h5 := x.toBitVec.isLt
  split <;> omega
theorem q_ev (x : Int64) : x - x / 2 * 2 = 0 ↔ ¬ x.toInt % 2 = 1 := by
  have h0 : ¬ (2 : Int64) = 0 := by decide
  have h1 := m_rem (u := x) h0
  rw [show (2 : Int64).toInt = 2 by decide] at h1
  have h2 : (x - x / 2 * 2 = 0) ↔ (x - x / 2 * 2).toInt = 0 := ⟨fun h => by rw [h]; rfl, fun h => Int64.toInt_inj.mp (by rw [h]; rfl)⟩
  rw [h2, h1, ← Int.dvd_iff_tmod_eq_zero]
  omega
theorem q_cutI {T B : Int64} {k : Nat} (hk : k ≤ 9) {md : Int32} (hmd : md = 0 ∨ md = 1 ∨ md = 2 ∨ md = 3 ∨ md = 4) (hT : T.toInt.natAbs * (m_pow (nI k)).toInt.natAbs < 2305843009213693952) (hB : 1 ≤ B.toInt) (hB2 : B.toInt < 2305843009213693952) :
    q_cP T.toInt B.toInt (m_pow (nI k)).toInt md (m_cut T B (nI k) md).toInt ∧ f_cutNum T B (nI k) md = m_cut T B (nI k) md := by
  have hp := q_powB hk
  obtain ⟨p, hpd⟩ : ∃ p, p = m_pow (nI k) := ⟨_, rfl⟩
  unfold f_cutNum m_cut
  rw [q_pow hk]
  rw [← hpd] at hp hT ⊢
  obtain ⟨x1, x2⟩ := m_mulB (x := T) (y := p) (B := T.toInt.natAbs) (C := p.toInt.natAbs) (Nat.le_refl _) (Nat.le_refl _) (by omega)
  have f0 := q_ffl (a := T * p) (b := B) (by omega) hB
  have f1 := q_mfl (a := T * p) (b := B) (by omega) hB
  have f2 := m_floorB (a := T * p) (b := B) (B := 2305843009213693951) (by omega) (by decide) hB
  have f3 := m_flr (a := T * p) (b := B) (B := 2305843009213693951) (by omega) (by decide) hB
  rw [f0]
  obtain ⟨L, hL⟩ : ∃ L, L = m_floor (T * p) B := ⟨_, rfl⟩
  rw [← hL] at f1 f2 f3 ⊢
  -- what is left
  have hLB : (L * B).toInt = L.toInt * B.toInt := by
    rw [Int64.toInt_mul]
    generalize L.toInt * B.toInt = z at *
    simp only [Int.bmod]
    split <;> omega
  have hR : (T * p - L * B).toInt = (T * p).toInt - L.toInt * B.toInt := by
    rw [Int64.toInt_sub, hLB]
    generalize L.toInt * B.toInt = z at *
    simp only [Int.bmod]
    split <;> omega
  obtain ⟨R, hRd⟩ : ∃ R, R = T * p - L * B := ⟨_, rfl⟩
  rw [← hRd] at hR ⊢
  have hR0 : 0 ≤ R.toInt ∧ R.toInt < B.toInt := by omega
  have e1 : (1 : Int64).toInt = 1 := rfl
  have e2 : (2 : Int64).toInt = 2 := by decide
  have e0 : (0 : Int64).toInt = 0 := rfl
  have h2R : (2 * R).toInt = 2 * R.toInt := by rw [(m_mulB (x := 2) (y := R) (B := 2) (C := 2305843009213693952) (by decide) (by omega) (by decide)).1, e2]
  have hL1 : (L + 1).toInt = L.toInt + 1 := (m_addB (x := L) (y := 1) (B := 2305843009213693952) (C := 1) (by omega) (by decide) (by decide)).1
  -- the conditions
  have cR0 : R = 0 ↔ R.toInt = 0 := ⟨fun h => by rw [h]; rfl, fun h => Int64.toInt_inj.mp (by rw [h]; rfl)⟩
  have cRle : R ≤ 0 ↔ R.toInt ≤ 0 := Int64.le_iff_toInt_le
  have cT : 0 ≤ T ↔ 0 ≤ T.toInt := Int64.le_iff_toInt_le
  have cL : L < 0 ↔ L.toInt < 0 := Int64.lt_iff_toInt_lt
  have cL0 : 0 ≤ L ↔ 0 ≤ L.toInt := Int64.le_iff_toInt_le
  have cB : B < 2 * R ↔ B.toInt < 2 * R.toInt := by rw [Int64.lt_iff_toInt_lt, h2R]
  have cBle : B ≤ 2 * R ↔ B.toInt ≤ 2 * R.toInt := by rw [Int64.le_iff_toInt_le, h2R]
  have cE : 2 * R = B ↔ 2 * R.toInt = B.toInt := by rw [← Int64.toInt_inj, h2R]
  have cO := q_and1 L
  have cV := q_ev L
  -- the sign of the top is the sign of the FLOOR
  have hsg : 0 ≤ T.toInt ↔ 0 ≤ L.toInt := by
    constructor
    · intro z
      rw [f1, x1]
      exact Int.ediv_nonneg (Int.mul_nonneg z (by omega)) (by omega)
    · intro z
      have h8 : 0 ≤ L.toInt * B.toInt := Int.mul_nonneg z (by omega)
      rcases Int.lt_or_le T.toInt 0 with y | y
      · have := Int.mul_lt_mul_of_pos_right y (show 0 < p.toInt by omega)
        rw [Int.zero_mul] at this
        omega
      · exact y
  have hval : ∀ w : Int64, ((R.toInt = 0 ∧ w = L) ∨ (0 < R.toInt ∧ q_up L.toInt R.toInt B.toInt md ∧ w = L + 1) ∨ (0 < R.toInt ∧ ¬ q_up L.toInt R.toInt B.toInt md ∧ w = L)) → q_cP T.toInt B.toInt p.toInt md w.toInt := by
    intro w h
    unfold q_cP
    rw [← x1, ← f1, ← hR]
    rcases h with ⟨a, b⟩ | ⟨a, b, c⟩ | ⟨a, b, c⟩
    · exact Or.inl ⟨a, by rw [b]⟩
    · exact Or.inr (Or.inl ⟨a, b, by rw [c, hL1]⟩)
    · exact Or.inr (Or.inr ⟨a, b, by rw [c]⟩)
  -- whether it goes upward, both ways
  have hM : m_cut3 T B L R md = if R.toInt = 0 then L else (if md = 0 then (if L.toInt < 0 then L + 1 else L) else if md = 1 then L else if md = 2 then L + 1 else if md = 3 then (if B.toInt < 2 * R.toInt then L + 1 else if 2 * R.toInt = B.toInt then (if 0 ≤ L.toInt then L + 1 else L) else L) else (if B.toInt < 2 * R.toInt then L + 1 else if 2 * R.toInt = B.toInt then (if L.toInt % 2 = 1 then L + 1 else L) else L)) := by
    unfold m_cut3
    rcases hmd with rfl | rfl | rfl | rfl | rfl
    · by_cases c1 : R.toInt = 0
      · simp [cR0, c1]
      · by_cases c2 : 0 ≤ L.toInt
        · simp [cR0, c1, cT, hsg, c2, show ¬ L.toInt < 0 by omega]
        · simp [cR0, c1, cT, hsg, c2, show L.toInt < 0 by omega]
    · by_cases c1 : R.toInt = 0 <;> simp [cR0, c1]
    · by_cases c1 : R.toInt = 0 <;> simp [cR0, c1]
    · by_cases c1 : R.toInt = 0
      · simp [cR0, c1]
      · by_cases c2 : 2 * R.toInt = B.toInt
        · by_cases c3 : 0 ≤ L.toInt <;> simp [cR0, c1, cT, hsg, cE, c2, c3, Int.lt_irrefl]
        · by_cases c3 : B.toInt < 2 * R.toInt
          · simp [cR0, c1, cE, cBle, c2, c3, show B.toInt ≤ 2 * R.toInt by omega]
          · simp [cR0, c1, cE, cBle, c2, c3, show ¬ B.toInt ≤ 2 * R.toInt by omega]
    · by_cases c1 : R.toInt = 0
      · simp [cR0, c1]
      · by_cases c2 : 2 * R.toInt = B.toInt
        · by_cases c3 : L.toInt % 2 = 1 <;> simp [cR0, c1, cE, c2, cV, c3, Int.lt_irrefl]
        · by_cases c3 : B.toInt < 2 * R.toInt
          · simp [cR0, c1, cE, cBle, c2, c3, show B.toInt ≤ 2 * R.toInt by omega]
          · simp [cR0, c1, cE, cBle, c2, c3, show ¬ B.toInt ≤ 2 * R.toInt by omega]
  have hC : f_cut2 (T * p) L B md = if R.toInt = 0 then L else (if md = 0 then (if L.toInt < 0 then L + 1 else L) else if md = 1 then L else if md = 2 then L + 1 else if md = 3 then (if B.toInt < 2 * R.toInt then L + 1 else if 2 * R.toInt = B.toInt then (if 0 ≤ L.toInt then L + 1 else L) else L) else (if B.toInt < 2 * R.toInt then L + 1 else if 2 * R.toInt = B.toInt then (if L.toInt % 2 = 1 then L + 1 else L) else L)) := by
    unfold f_cut2 f_cutUp
    rw [← hRd]
    by_cases c1 : R.toInt = 0
    · rw [if_pos (cRle.mpr (by omega)), if_pos c1]
    · rw [if_neg (fun z => by have := cRle.mp z; omega), if_neg c1]
      rcases hmd with rfl | rfl | rfl | rfl | rfl
      · by_cases c2 : L.toInt < 0 <;> simp [cL, c2]
      · simp
      · simp
      · by_cases c2 : B.toInt < 2 * R.toInt
        · simp [cB, c2]
        · by_cases c3 : 2 * R.toInt = B.toInt
          · by_cases c4 : 0 ≤ L.toInt <;> simp [cB, c2, cE, c3, cL0, c4]
          · simp [cB, c2, cE, c3]
      · by_cases c2 : B.toInt < 2 * R.toInt
        · simp [cB, c2]
        · by_cases c3 : 2 * R.toInt = B.toInt
          · by_cases c4 : L.toInt % 2 = 1 <;> simp [cB, c2, cE, c3, cO, c4]
          · simp [cB, c2, cE, c3]
  refine ⟨hval _ ?_, by rw [hC, hM]⟩
  rw [hM]
  unfold q_up
  by_cases c1 : R.toInt = 0
  · rw [if_pos c1]
    exact Or.inl ⟨c1, rfl⟩
  · rw [if_neg c1]
    have hp0 : 0 < R.toInt := by omega
    rcases hmd with rfl | rfl | rfl | rfl | rfl
    · by_cases c2 : L.toInt < 0
      · exact Or.inr (Or.inl ⟨hp0, Or.inl ⟨rfl, c2⟩, by simp [c2]⟩)
      · refine Or.inr (Or.inr ⟨hp0, ?_, by simp [c2]⟩)
        rintro (⟨-, z⟩ | z | ⟨z, -⟩ | ⟨z, -⟩)
        · exact c2 z
        · exact absurd z (by decide)
        · exact absurd z (by decide)
        · exact absurd z (by decide)
    · refine Or.inr (Or.inr ⟨hp0, ?_, by simp⟩)
      rintro (⟨z, -⟩ | z | ⟨z, -⟩ | ⟨z, -⟩)
      · exact absurd z (by decide)
      · exact absurd z (by decide)
      · exact absurd z (by decide)
      · exact absurd z (by decide)
    · exact Or.inr (Or.inl ⟨hp0, Or.inr (Or.inl rfl), by simp⟩)
    · by_cases c2 : B.toInt < 2 * R.toInt
      · exact Or.inr (Or.inl ⟨hp0, Or.inr (Or.inr (Or.inl ⟨rfl, Or.inl c2⟩)), by simp [c2]⟩)
      · by_cases c3 : 2 * R.toInt = B.toInt ∧ 0 ≤ L.toInt
        · exact Or.inr (Or.inl ⟨hp0, Or.inr (Or.inr (Or.inl ⟨rfl, Or.inr c3⟩)), by simp [c2, c3.1, c3.2]⟩)
        · refine Or.inr (Or.inr ⟨hp0, ?_, ?_⟩)
          · rintro (⟨z, -⟩ | z | ⟨-, z | z⟩ | ⟨z, -⟩)
            · exact absurd z (by decide)
            · exact absurd z (by decide)
            · exact c2 z
            · exact c3 z
            · exact absurd z (by decide)
          · by_cases c4 : 2 * R.toInt = B.toInt
            · have c5 : ¬ 0 ≤ L.toInt := fun z => c3 ⟨c4, z⟩
              simp [c2, c4, c5]
            · simp [c2, c4]
    · by_cases c2 : B.toInt < 2 * R.toInt
      · exact Or.inr (Or.inl ⟨hp0, Or.inr (Or.inr (Or.inr ⟨rfl, Or.inl c2⟩)), by simp [c2]⟩)
      · by_cases c3 : 2 * R.toInt = B.toInt ∧ L.toInt % 2 = 1
        · exact Or.inr (Or.inl ⟨hp0, Or.inr (Or.inr (Or.inr ⟨rfl, Or.inr c3⟩)), by simp [c2, c3.1, c3.2]⟩)
        · refine Or.inr (Or.inr ⟨hp0, ?_, ?_⟩)
          · rintro (⟨z, -⟩ | z | ⟨z, -⟩ | ⟨-, z | z⟩)
            · exact absurd z (by decide)
            · exact absurd z (by decide)
            · exact absurd z (by decide)
            · exact c2 z
            · exact c3 z
          · by_cases c4 : 2 * R.toInt = B.toInt
            · have c5 : ¬ L.toInt % 2 = 1 := fun z => c3 ⟨c4, z⟩
              simp [c2, c4, c5]
            · simp [c2, c4]
/-! ===== the simplest one, side by side ===== -/
/-- what is cut to w lies within the row -/
theorem q_rng {T B p w : Int} {md : Int32} (hB : 0 < B) (hp : 0 < p) (h : q_cP T B p md w) : (w - 1) * B / p ≤ T ∧ T ≤ (w + 1) * B / p := by
  have b1 := q_cPb h
  have d1 := Int.emod_add_mul_ediv (T * p) B
  have d2 := Int.emod_nonneg (T * p) (show B ≠ 0 by omega)
  have d3 := Int.emod_lt_of_pos (T * p) hB
  rw [Int.mul_comm B (T * p / B)] at d1
  constructor
  · have h1 : (w - 1) * B ≤ T * p / B * B := Int.mul_le_mul_of_nonneg_right (by omega) (by omega)
    have h2 : (w - 1) * B / p ≤ T * p / p := Int.ediv_le_ediv hp (by omega)
    rw [Int.mul_ediv_cancel _ (by omega)] at h2
    exact h2
  · rw [Int.le_ediv_iff_mul_le hp]
    have h1 : (T * p / B + 1) * B ≤ (w + 1) * B := Int.mul_le_mul_of_nonneg_right (by omega) (by omega)
    rw [Int.add_mul, Int.one_mul] at h1
    omega
/-- the class's search -/
theorem q_smL {t b : Int64} {k : Nat} {md : Int32} {w : Int64} {n0 : Nat} (hn0 : n0 ≤ 100) (hno : ∀ n, 1 ≤ n → n < n0 → f_cutNum (f_floorOf (t * lN n) b) (lN n) (nI k) md ≠ w ∧ f_cutNum (f_floorOf (t * lN n) b + 1) (lN n) (nI k) md ≠ w) :
    ∀ (m n : Nat), 1 ≤ n → n ≤ n0 → n0 < n + m → (f_cutNum (f_floorOf (t * lN n0) b) (lN n0) (nI k) md = w → smL t b (nI k) md w m n = some (f_floorOf (t * lN n0) b, lN n0)) ∧ (f_cutNum (f_floorOf (t * lN n0) b) (lN n0) (nI k) md ≠ w → f_cutNum (f_floorOf (t * lN n0) b + 1) (lN n0) (nI k) md = w → smL t b (nI k) md w m n = some (f_floorOf (t * lN n0) b + 1, lN n0)) := by
  intro m
  induction m with
  | zero => intro n h1 h2 h3; omega
  | succ m ih =>
    intro n h1 h2 h3
    unfold smL
    by_cases e : n = n0
    · subst e
      refine ⟨fun z => by rw [if_pos z], fun z y => by rw [if_neg z, if_pos y]⟩
    · obtain ⟨a1, a2⟩ := hno n h1 (by omega)
      rw [if_neg a1, if_neg a2]
      exact ih (n + 1) (by omega) (by omega) (by omega)
theorem q_pow2 {k : Nat} (hk : k ≤ 2) : 1 ≤ (m_pow (nI k)).toInt ∧ (m_pow (nI k)).toInt ≤ 100 := by
  have hall : ∀ i : Fin 3, 1 ≤ (m_pow (nI i.val)).toInt ∧ (m_pow (nI i.val)).toInt ≤ 100 := by decide +kernel
  exact hall ⟨k, by omega⟩
section RV13
variable {g g1 : CS} {kn : Int32} {tt bb : Nat → Int64} {eT eB oT oB : Int64} {pk : Nat} {ca rf : Int32} {vs : Nat → Value} {n9 : Nat}
theorem s_smp (h : RV g kn tt bb eT eB oT oB pk ca rf vs n9) {i j : Nat} (hi : i < 6) (hj : j < 6) {k : Nat} (hk : k ≤ 2) {md : Int32} (hmd : md = 0 ∨ md = 1 ∨ md = 2 ∨ md = 3 ∨ md = 4) {p : Int64 × Int64} (hP : m_SMP (tt j) (bb j) k md p) : SMV kn tt bb eT eB oT oB pk ca rf vs n9 i (some p) (f_setR (f_sm g 6 j (nI k) md) i) (f_setW (f_sm g 6 j (nI k) md) i) := by
  obtain ⟨a1, a2, a3, a4⟩ := h.1 j hj
  obtain ⟨n, T, n1, n2, hT, rfl, hc, hlow, hleast⟩ := hP
  obtain ⟨b1, b2, b3⟩ := id a3
  have hpw := q_pow2 hk
  obtain ⟨P, hPd⟩ : ∃ P : Int, P = (m_pow (nI k)).toInt := ⟨_, rfl⟩
  rw [← hPd] at hpw hlow hleast
  have hln := q_lNt (k := n) (by omega)
  -- the number itself
  obtain ⟨c1, c2⟩ := q_cutI (T := tt j) (B := bb j) (k := k) (by omega) hmd (by
    rw [← hPd]
    have := Nat.mul_le_mul b1 (show P.natAbs ≤ 100 by omega)
    omega) b2 (by omega)
  obtain ⟨w, hw⟩ : ∃ w, w = m_cut (tt j) (bb j) (nI k) md := ⟨_, rfl⟩
  rw [← hPd, ← hw] at c1
  rw [← hw] at c2 hc hlow hleast
  -- any top by a small bottom
  have hcut : ∀ (m : Nat) (X : Int64), 1 ≤ m → m ≤ 100 → X.toInt.natAbs ≤ 20000000000000 → q_cP X.toInt (m : Int) P md (m_cut X (lN m) (nI k) md).toInt ∧ f_cutNum X (lN m) (nI k) md = m_cut X (lN m) (nI k) md := by
    intro m X m1 m2 hX
    have hlm := q_lNt (k := m) (by omega)
    obtain ⟨d1, d2⟩ := q_cutI (T := X) (B := lN m) (k := k) (by omega) hmd (by
      rw [← hPd]
      have := Nat.mul_le_mul hX (show P.natAbs ≤ 100 by omega)
      omega) (by omega) (by omega)
    rw [← hPd, hlm] at d1
    exact ⟨d1, d2⟩
  -- the FLOOR at a bottom
  have hfl : ∀ m : Nat, 1 ≤ m → m ≤ 100 → (f_floorOf (tt j * lN m) (bb j)).toInt = (tt j).toInt * (m : Int) / (bb j).toInt ∧ (f_floorOf (tt j * lN m) (bb j)).toInt.natAbs ≤ 100000000001 ∧ (f_floorOf (tt j * lN m) (bb j) + 1).toInt = (tt j).toInt * (m : Int) / (bb j).toInt + 1 := by
    intro m m1 m2
    have hlm := q_lNt (k := m) (by omega)
    obtain ⟨x1, x2⟩ := m_mulB (x := tt j) (y := lN m) (B := 1000000000) (C := 100) b1 (by omega) (by decide)
    have x3 := m_floorB (a := tt j * lN m) (b := bb j) (B := 1000000000 * 100) x2 (by decide) b2
    rw [q_ffl (by omega) b2]
    have x4 := q_mfl (a := tt j * lN m) (b := bb j) (by omega) b2
    rw [x1, hlm] at x4
    obtain ⟨x5, -⟩ := m_addB (x := m_floor (tt j * lN m) (bb j)) (y := 1) (B := 1000000000 * 100 + 1) (C := 1) x3 (by decide) (by decide)
    exact ⟨x4, by omega, by rw [x5, x4]; rfl⟩
  -- a hit by a bottom is in the row
  have hit : ∀ (m : Nat) (X : Int64), 1 ≤ m → m ≤ 100 → X.toInt.natAbs ≤ 20000000000000 → m_cut X (lN m) (nI k) md = w → (w.toInt - 1) * (m : Int) / P ≤ X.toInt ∧ X.toInt ≤ (w.toInt + 1) * (m : Int) / P + 1 := by
    intro m X m1 m2 hX e
    have d1 := (hcut m X m1 m2 hX).1
    rw [e] at d1
    have := q_rng (by omega) (by omega) d1
    omega
  have hno : ∀ (m : Nat) (X : Int64), 1 ≤ m → m < n → X.toInt.natAbs ≤ 20000000000000 → m_cut X (lN m) (nI k) md ≠ w := by
    intro m X m1 m2 hX e
    obtain ⟨y1, y2⟩ := hit m X m1 (by omega) hX e
    exact hlow m X m1 m2 y1 y2 e
  obtain ⟨F, hF⟩ : ∃ F, F = f_floorOf (tt j * lN n) (bb j) := ⟨_, rfl⟩
  obtain ⟨f1, f2, f3⟩ := hfl n n1 n2
  rw [← hF] at f1 f2 f3
  have hF1b : (F + 1).toInt.natAbs ≤ 20000000000000 := by omega
  have hTc := (hcut n T n1 n2 hT).1
  rw [hc] at hTc
  have dm := Int.emod_add_mul_ediv ((tt j).toInt * (n : Int)) (bb j).toInt
  have dn := Int.emod_nonneg ((tt j).toInt * (n : Int)) (show (bb j).toInt ≠ 0 by omega)
  have dp := Int.emod_lt_of_pos ((tt j).toInt * (n : Int)) (show 0 < (bb j).toInt by omega)
  rw [Int.mul_comm (bb j).toInt ((tt j).toInt * (n : Int) / (bb j).toInt)] at dm
  -- between what hits and the number all hits
  have hFle : F.toInt * (bb j).toInt ≤ (tt j).toInt * (n : Int) := by rw [f1]; omega
  have hF1ge : (tt j).toInt * (n : Int) ≤ (F + 1).toInt * (bb j).toInt := by
    rw [f3, Int.add_mul, Int.one_mul]
    omega
  have key : (F.toInt = T.toInt ∧ f_cutNum F (lN n) (nI k) md = w) ∨ ((F + 1).toInt = T.toInt ∧ f_cutNum F (lN n) (nI k) md ≠ w ∧ f_cutNum (F + 1) (lN n) (nI k) md = w) := by
    obtain ⟨u1, u2⟩ := hcut n F n1 n2 (by omega)
    obtain ⟨v1, v2⟩ := hcut n (F + 1) n1 n2 hF1b
    have hn0 : (0 : Int) < (n : Int) := by omega
    rcases Int.lt_or_le F.toInt T.toInt with z | z
    · -- above the number
      right
      have z1 : (F + 1).toInt ≤ T.toInt := by omega
      have e1 := q_cPm (by omega) hn0 (by omega) c1 v1 (by exact hF1ge)
      have e2 := q_cPm hn0 hn0 (by omega) v1 hTc (Int.mul_le_mul_of_nonneg_right z1 (by omega))
      have e3 : m_cut (F + 1) (lN n) (nI k) md = w := Int64.toInt_inj.mp (by omega)
      have e4 : (F + 1).toInt = T.toInt := by
        rcases Int.lt_or_eq_of_le z1 with y | y
        · obtain ⟨y1, y2⟩ := hit n (F + 1) n1 n2 hF1b e3
          exact absurd e3 (hleast (F + 1) y1 y)
        · exact y
      refine ⟨e4, ?_, by rw [v2]; exact e3⟩
      rw [u2]
      intro e5
      obtain ⟨y1, y2⟩ := hit n F n1 n2 (by omega) e5
      exact hleast F y1 z e5
    · left
      have e1 := q_cPm hn0 (by omega) (by omega) u1 c1 (by exact hFle)
      have e2 := q_cPm hn0 hn0 (by omega) hTc u1 (Int.mul_le_mul_of_nonneg_right z (by omega))
      have e3 : m_cut F (lN n) (nI k) md = w := Int64.toInt_inj.mp (by omega)
      refine ⟨?_, by rw [u2]; exact e3⟩
      rcases Int.lt_or_eq_of_le z with y | y
      · exfalso
        rcases Nat.eq_or_lt_of_le n1 with q | q
        · -- by the bottom 1: whole numbers
          have q1 : n = 1 := q.symm
          subst q1
          have w1 : w.toInt = T.toInt * P := by
            rcases hTc with ⟨m1, m2⟩ | ⟨m1, m2, m3⟩ | ⟨m1, m2, m3⟩
            · rw [m2]; exact Int.ediv_one _
            · rw [show ((1 : Nat) : Int) = 1 from rfl, Int.ediv_one, Int.mul_one] at m1; omega
            · rw [show ((1 : Nat) : Int) = 1 from rfl, Int.ediv_one, Int.mul_one] at m1; omega
          rw [e3] at u1
          have w2 : w.toInt = F.toInt * P := by
            rcases u1 with ⟨m1, m2⟩ | ⟨m1, m2, m3⟩ | ⟨m1, m2, m3⟩
            · rw [m2]; exact Int.ediv_one _
            · rw [show ((1 : Nat) : Int) = 1 from rfl, Int.ediv_one, Int.mul_one] at m1; omega
            · rw [show ((1 : Nat) : Int) = 1 from rfl, Int.ediv_one, Int.mul_one] at m1; omega
          have := Int.mul_lt_mul_of_pos_right y (show 0 < P by omega)
          omega
        · -- a smaller bottom would do
          obtain ⟨m, rfl⟩ : ∃ m, n = m + 1 := ⟨n - 1, by omega⟩
          have hq := Int.emod_add_mul_ediv T.toInt ((m + 1 : Nat) : Int)
          have hq1 := Int.emod_nonneg T.toInt (show ((m + 1 : Nat) : Int) ≠ 0 by omega)
          have hq2 := Int.emod_lt_of_pos T.toInt (show 0 < ((m + 1 : Nat) : Int) by omega)
          obtain ⟨Q, hQ⟩ : ∃ Q, Q = T.toInt / ((m + 1 : Nat) : Int) := ⟨_, rfl⟩
          rw [← hQ] at hq
          have hcast : ((m + 1 : Nat) : Int) = (m : Int) + 1 := by omega
          rw [hcast] at hq hq1 hq2 hQ hTc u1
          have hQb : Q.natAbs ≤ 20000000000000 := by
            rw [hQ, ← hcast]
            have := Int.natAbs_ediv_le_natAbs T.toInt ((m + 1 : Nat) : Int)
            omega
          obtain ⟨x1, -⟩ := m_subB (x := T) (y := Int64.ofInt Q) (B := 20000000000000) (C := 20000000000000) hT (by rw [Int64.toInt_ofInt_of_le (by omega) (by omega)]; exact hQb) (by decide)
          rw [Int64.toInt_ofInt_of_le (by omega) (by omega)] at x1
          obtain ⟨X, hX⟩ : ∃ X, X = T - Int64.ofInt Q := ⟨_, rfl⟩
          rw [← hX] at x1
          have hXm : X.toInt * ((m : Int) + 1) = T.toInt * (m : Int) + T.toInt % ((m : Int) + 1) := by
            rw [x1]
            have : (T.toInt - Q) * ((m : Int) + 1) = T.toInt * (m : Int) + T.toInt - ((m : Int) + 1) * Q := by grind
            omega
          have hXb : X.toInt.natAbs ≤ 20000000000000 := by
            have h5 : (X.toInt * ((m : Int) + 1)).natAbs = X.toInt.natAbs * (m + 1) := by rw [Int.natAbs_mul]; congr 1
            have h6 : (T.toInt * (m : Int)).natAbs = T.toInt.natAbs * m := by rw [Int.natAbs_mul]; congr 1
            rcases Int.le_total 0 T.toInt with s | s
            · have s1 : 0 ≤ Q := by rw [hQ]; exact Int.ediv_nonneg s (by omega)
              have s2 : 0 ≤ X.toInt := by
                rcases Int.lt_or_le X.toInt 0 with s3 | s3
                · have s4 := Int.mul_lt_mul_of_pos_right s3 (show 0 < (m : Int) + 1 by omega)
                  have s5 : 0 ≤ T.toInt * (m : Int) := Int.mul_nonneg s (by omega)
                  rw [Int.zero_mul] at s4
                  omega
                · exact s3
              omega
            · have s1 : Q ≤ 0 := by
                rcases Int.lt_or_le 0 Q with s3 | s3
                · have s4 := Int.mul_lt_mul_of_pos_left s3 (show 0 < (m : Int) + 1 by omega)
                  rw [Int.mul_zero] at s4
                  omega
                · exact s3
              have s2 : X.toInt ≤ 0 := by
                rcases Int.lt_or_le 0 X.toInt with s3 | s3
                · -- X is at most 0, since T is
                  have s6 : X.toInt * ((m : Int) + 1) < (m : Int) + 1 := by
                    rw [hXm]
                    have : T.toInt * (m : Int) ≤ 0 := by
                      have := Int.mul_le_mul_of_nonneg_right s (show 0 ≤ (m : Int) by omega)
                      rw [Int.zero_mul] at this
                      exact this
                    omega
                  have s7 := Int.mul_le_mul_of_nonneg_right (show 1 ≤ X.toInt by omega) (show 0 ≤ (m : Int) + 1 by omega)
                  rw [Int.one_mul] at s7
                  omega
                · exact s3
              omega
          have hm1 : 1 ≤ m := by omega
          obtain ⟨v3, -⟩ := hcut m X hm1 (by omega) hXb
          have g1 := q_cPm (T := T.toInt) (B := (m : Int) + 1) (T2 := X.toInt) (B2 := (m : Int)) (by omega) (by omega) (by omega) hTc v3 (by rw [hXm]; omega)
          rw [e3] at u1
          have g2 := q_cPm (T := X.toInt) (B := (m : Int)) (T2 := F.toInt) (B2 := (m : Int) + 1) (by omega) (by omega) (by omega) v3 u1 (by
            rw [hXm]
            have s1 := Int.mul_le_mul_of_nonneg_right (show T.toInt + 1 ≤ F.toInt by omega) (show 0 ≤ (m : Int) by omega)
            rw [Int.add_mul, Int.one_mul] at s1
            omega)
          exact hno m X hm1 (by omega) hXb (Int64.toInt_inj.mp (by omega))
      · exact y.symm
  have hnoC : ∀ m, 1 ≤ m → m < n → f_cutNum (f_floorOf (tt j * lN m) (bb j)) (lN m) (nI k) md ≠ w ∧ f_cutNum (f_floorOf (tt j * lN m) (bb j) + 1) (lN m) (nI k) md ≠ w := by
    intro m m1 m2
    obtain ⟨q1, q2, q3⟩ := hfl m m1 (by omega)
    have r1 := (hcut m (f_floorOf (tt j * lN m) (bb j)) m1 (by omega) (by omega)).2
    have r2 := (hcut m (f_floorOf (tt j * lN m) (bb j) + 1) m1 (by omega) (by omega)).2
    rw [r1, r2]
    exact ⟨hno m _ m1 m2 (by omega), hno m _ m1 m2 (by omega)⟩
  -- n is at most 10 ^ k: the number cut, told by that bottom, is cut to itself
  have hnP : (n : Int) ≤ P := by
    rcases Int.lt_or_le P (n : Int) with z | z
    · exfalso
      obtain ⟨m, hm⟩ : ∃ m : Nat, (m : Int) = P := ⟨P.toNat, by omega⟩
      have hwb : w.toInt.natAbs ≤ 20000000000000 := by
        have y1 := q_cPb c1
        have y2 := Nat.mul_le_mul b1 (show P.natAbs ≤ 100 by omega)
        rw [← Int.natAbs_mul] at y2
        have y3 := Int.natAbs_ediv_le_natAbs ((tt j).toInt * P) (bb j).toInt
        omega
      have v4 := (hcut m w (by omega) (by omega) hwb).1
      refine hno m w (by omega) (by omega) hwb (Int64.toInt_inj.mp ?_)
      have v5 : q_cP w.toInt (m : Int) P md w.toInt := by
        left
        rw [hm, Int.mul_ediv_cancel _ (by omega)]
        exact ⟨by omega, rfl⟩
      exact q_cP1 v4 v5
    · exact z
  obtain ⟨s1, s2⟩ := q_smL (t := tt j) (b := bb j) (k := k) (md := md) (w := w) (n0 := n) n2 hnoC P.toNat 1 (by omega) n1 (by omega)
  rw [← hF] at s1 s2
  have hO : f_smO g j (nI k) md = some (T, lN n) := by
    unfold f_smO
    rw [a1, a2, c2, q_pow (by omega), ← hPd]
    rcases key with ⟨k1, k2⟩ | ⟨k1, k2, k3⟩
    · rw [s1 k2, Int64.toInt_inj.mp k1]
    · rw [s2 k2 k3, Int64.toInt_inj.mp k1]
  unfold f_sm
  rw [hO]
  dsimp only
  exact h.bec (lz_rf g) hi (by omega) (by omega) (m_ne0 (by omega)) rfl rfl
end RV13
/-! ===== the ROW, the TALLY, the house ===== -/
section RV14
variable {g g1 : CS} {kn : Int32} {tt bb : Nat → Int64} {eT eB oT oB : Int64} {pk : Nat} {ca rf : Int32} {vs : Nat → Value} {n9 : Nat}
theorem q_fdN {j c : Nat} (hc : tC g j = nI c) (hc2 : c ≤ 64) {i : Nat} (h1 : (tV g j i).toInt < 1) : ∀ (n : Nat), n < c → 1 ≤ i → i ≤ n → ∀ t b : Int64, foldL g j n t b = none := by
  intro n
  induction n with
  | zero => intro _ h2 h3; omega
  | succ n ih =>
    intro hn h2 h3 t b
    unfold foldL
    rw [q_at hc hc2 hn]
    by_cases e : i = n + 1
    · rw [← e, if_pos (q_lt1.mpr h1)]
    · split
      · rfl
      · split
        · rfl
        · exact ih (by omega) h2 (by omega) _ _
theorem s_fold (h : RV g kn tt bb eT eB oT oB pk ca rf vs n9) {i : Nat} (hi : i < 6) {o : Option (Int64 × Int64)} (ho : m_FO n9 vs o) : SMV kn tt bb eT eB oT oB pk ca rf vs n9 i o (f_fsR g 0 i) (f_fsW g 0 i) := by
  obtain ⟨c1, c2, c3⟩ := h.2.2.2.2
  have hv : ∀ k, k < n9 → tV g 0 k = m_rw vs k ∧ (m_rw vs k).toInt.natAbs ≤ 99999 := by
    intro k hk
    obtain ⟨x, x1, x2, x3⟩ := c3 k hk
    rw [q_rw x1]
    exact ⟨x2, by rw [Int32.toInt_toInt64]; exact x3⟩
  have hno : f_fold g 0 = none → SMV kn tt bb eT eB oT oB pk ca rf vs n9 i none (f_fsR g 0 i) (f_fsW g 0 i) := by
    intro e
    unfold f_fsR f_fsW f_foldR f_foldW
    rw [e]
    dsimp only
    rw [if_pos rfl, if_pos rfl]
    exact h.no (lz_rf g) i
  rcases ho with ⟨e, rfl⟩ | ⟨e, ⟨k, k1, k2, k3⟩, rfl⟩ | ⟨e, k1, rfl⟩
  · refine hno ?_
    unfold f_fold
    rw [c1, e, if_neg (by decide)]
  · refine hno ?_
    have e1 : nI n9 - 1 = nI (n9 - 1) := by
      obtain ⟨d, rfl⟩ : ∃ d, n9 = d + 1 := ⟨n9 - 1, by omega⟩
      rw [nI_pred]
      rfl
    unfold f_fold
    rw [c1, if_pos (show (1 : Int32) ≤ nI n9 from (nI_leI (a := 1) (by decide) (by omega)).mpr (by omega)), e1, nI_clamp (by omega)]
    exact q_fdN c1 (by omega) (by rw [(hv k k2).1]; exact k3) (n9 - 1) (by omega) k1 (by omega) _ _
  · exact h.fold (lz_rf g) hi c1 (by omega) (by omega) (fun k hk => (hv k hk).1) k1 (fun k hk => by have := (hv k hk).2; omega)
/-- say -/
theorem s_say (h : RV g kn tt bb eT eB oT oB pk ca rf vs n9) (hn : n9 < 16) {x : Int32} (hx : x.toInt.natAbs ≤ 99999) : tC (f_addLast g 0 x.toInt64) 0 = nI (n9 + 1) ∧ RV (f_addLast g 0 x.toInt64) kn tt bb eT eB oT oB pk ca rf (va_up vs n9 (.int x)) (n9 + 1) := by
  obtain ⟨h1, h2, h3, h4, c1, c2, c3⟩ := h
  rw [q_add c1 (by omega)]
  refine ⟨tC_uC _ _ _, h1, h2, h3, h4, tC_uC _ _ _, by omega, fun i hi => ?_⟩
  show ∃ y : Int32, va_up vs n9 (.int x) i = .int y ∧ tV (uV g 0 n9 x.toInt64) 0 i = y.toInt64 ∧ _
  rw [q_uV]
  by_cases e : i = n9
  · rw [e, va_up_self, va_up_self]
    exact ⟨x, rfl, rfl, hx⟩
  · rw [va_up_ne _ _ e, va_up_ne _ _ e]
    exact c3 i (by omega)
theorem s_uns (h : RV g kn tt bb eT eB oT oB pk ca rf vs n9) {k : Nat} (hk : k ≤ 16) : tC (f_uns g (nI k)) 0 = nI (n9 - k) ∧ RV (f_uns g (nI k)) kn tt bb eT eB oT oB pk ca rf vs (n9 - k) := by
  obtain ⟨h1, h2, h3, h4, c1, c2, c3⟩ := h
  have hset : ∀ m : Nat, m < n9 → f_keep g 0 (nI m) = uC g 0 (nI m) := by
    intro m hm
    unfold f_keep
    rw [if_neg (nI_pos (by omega)), c1, if_neg (fun z => absurd ((nI_leI (by omega) (by omega)).mp z) (by omega))]
  have hsame : ∀ m : Nat, n9 ≤ m → m ≤ 100 → f_keep g 0 (nI m) = g := by
    intro m hm hm2
    unfold f_keep
    rw [if_neg (nI_pos (by omega)), c1, if_pos ((nI_leI (by omega) (by omega)).mpr hm)]
  have hres : f_uns g (nI k) = f_keep g 0 (nI (n9 - k)) := by
    unfold f_uns
    rw [c1]
    by_cases c : n9 ≤ k
    · rw [if_pos ((nI_leI (by omega) (by omega)).mpr c), show n9 - k = 0 by omega]
      rfl
    · rw [if_neg (fun z => c ((nI_leI (by omega) (by omega)).mp z))]
      congr 1
      apply Int32.toInt_inj.mp
      rw [Int32.toInt_sub, nI_toInt (by omega), nI_toInt (by omega), nI_toInt (by omega)]
      simp only [Int.bmod]
      split <;> omega
  rw [hres]
  rcases Nat.lt_or_ge (n9 - k) n9 with z | z
  · rw [hset _ z]
    exact ⟨tC_uC _ _ _, h1, h2, h3, h4, tC_uC _ _ _, by omega, fun i hi => c3 i (by omega)⟩
  · have e : n9 - k = n9 := by omega
    rw [e, hsame n9 (Nat.le_refl _) (by omega)]
    exact ⟨c1, h1, h2, h3, h4, c1, c2, c3⟩
/-- knock -/
theorem s_kno (h : RV g kn tt bb eT eB oT oB pk ca rf vs n9) : RV (uI g 1 (tI g 1 + 1)) (kn + 1) tt bb eT eB oT oB pk ca rf vs n9 := by
  obtain ⟨h1, h2, h3, ⟨a1, a2, a3, a4, a5⟩, h5⟩ := h
  refine ⟨h1, h2, h3, ⟨?_, ?_, ?_, ?_, a5⟩, h5⟩
  · show va_up (tI g) 1 (tI g 1 + 1) 0 = _
    rw [va_up_ne _ _ (by decide), a1]
  · show va_up (tI g) 1 (tI g 1 + 1) 1 = _
    rw [va_up_self, a2]
  · show va_up (tI g) 1 (tI g 1 + 1) 2 = _
    rw [va_up_ne _ _ (by decide), a3]
  · show va_up (tI g) 1 (tI g 1 + 1) 3 = _
    rw [va_up_ne _ _ (by decide), a4]
theorem q_sum6 {t b u v : Int64} (h : m_F t b) (k : u.toInt.natAbs ≤ 10000000000002) (hv : 1 ≤ v.toInt ∧ v.toInt ≤ 1000000000) (hsm : u.toInt.natAbs ≤ 1000000000 ∨ (b.toInt ≤ 10000 ∧ v.toInt ≤ 10000)) {y : Int64} (hy : y.toInt = u.toInt * b.toInt) (i : Nat) :
    tT (f_gather g i t b u v) i = m_loT (t * v + y) (b * v) ∧ tB (f_gather g i t b u v) i = m_loB (t * v + y) (b * v) := by
  obtain ⟨x1, x2, x3, x4⟩ := q_gat (u := u) h k hv hsm hy
  unfold f_gather
  obtain ⟨y1, y2⟩ := q_bec6 x3 (by omega) (m_ne0 x4) g i
  exact ⟨y1.trans x1, y2.trans x2⟩
end RV14
