/-! ===== TERMS, side by side ===== -/
/-- what is known of a row of TERMS -/
def q_row (L : List Int64) : Prop := ∀ i, i < L.length → (L.getD i 0).toInt.natAbs ≤ 1000000001 ∧ 1 ≤ (L.getD i 0).toInt ∧ (i + 1 = L.length → 2 ≤ (L.getD i 0).toInt)
theorem q_euN : ∀ (n k : Nat) (T B : Int64), m_T k T B → 1 ≤ k → k ≤ 43 → k + n = 64 → (m_eu n T B).length + k ≤ 43 ∧ q_row (m_eu n T B) := by
  intro n
  induction n with
  | zero => intro k T B _ _ h1 h2; omega
  | succ n ih =>
    intro k T B h hk hk2 hn
    unfold m_eu
    by_cases c : B = 0
    · rw [if_pos c]
      exact ⟨by show 0 + k ≤ 43; omega, fun i hi => absurd hi (Nat.not_lt_zero i)⟩
    · rw [if_neg c]
      obtain ⟨k0, b1⟩ := m_T0 h ⟨hk, hk2⟩ c
      obtain ⟨p1, p2, p3, p4⟩ := m_T2 h ⟨hk, hk2⟩ c rfl rfl
      obtain ⟨i1, i2⟩ := ih (k + 1) _ _ p1 (by omega) (by omega) (by omega)
      refine ⟨by rw [List.length_cons]; omega, fun i hi => ?_⟩
      rw [List.length_cons] at hi ⊢
      cases i with
      | zero =>
        refine ⟨p3, p2, fun z => p4 ?_⟩
        have hl : (m_eu n B (T - m_floor T B * B)).length = 0 := by omega
        obtain ⟨n, rfl⟩ : ∃ n1, n = n1 + 1 := ⟨n - 1, by omega⟩
        refine Classical.byContradiction fun z2 => ?_
        unfold m_eu at hl
        rw [if_neg z2] at hl
        exact absurd hl (by simp)
      | succ i =>
        obtain ⟨j1, j2, j3⟩ := i2 i (by omega)
        exact ⟨j1, j2, fun z => j3 (by omega)⟩
/-- at most 43, at least one; those behind the first at least 1, the last of several at least 2 -/
theorem m_euS (n : Nat) (t b : Int64) (h : ¬ b = 0) : m_eu (n + 1) t b = m_floor t b :: m_eu n b (t - m_floor t b * b) := by
  show (if b = 0 then [] else m_floor t b :: m_eu n b (t - m_floor t b * b)) = _
  rw [if_neg h]
theorem q_TE {t b : Int64} (h : m_F t b) : 1 ≤ (m_TE t b).length ∧ (m_TE t b).length ≤ 43 ∧ (∀ i, i < (m_TE t b).length → (m_at t b i).toInt.natAbs ≤ 1000000001) ∧ (∀ i, 1 ≤ i → i < (m_TE t b).length → 1 ≤ (m_at t b i).toInt ∧ (i + 1 = (m_TE t b).length → 2 ≤ (m_at t b i).toInt)) ∧ m_at t b 0 = m_floor t b ∧ ((m_TE t b).length = 1 → t.toInt = (m_floor t b).toInt * b.toInt) := by
  obtain ⟨p1, p2⟩ := m_T1 h rfl rfl
  have e : m_TE t b = m_floor t b :: m_eu 63 b (t - m_floor t b * b) := by
    exact m_euS 63 t b (m_ne0 h.2.1)
  obtain ⟨q1, q2⟩ := q_euN 63 1 b _ p1 (by decide) (by decide) (by decide)
  unfold m_at
  rw [e, List.length_cons]
  refine ⟨by omega, by omega, fun i hi => ?_, fun i h1 hi => ?_, rfl, fun z => ?_⟩
  · cases i with
    | zero => exact p2
    | succ i => exact (q2 i (by omega)).1
  · cases i with
    | zero => omega
    | succ i => exact ⟨(q2 i (by omega)).2.1, fun z => (q2 i (by omega)).2.2 (by omega)⟩
  · have hl : (m_eu 63 b (t - m_floor t b * b)).length = 0 := by omega
    have hL : t - m_floor t b * b = 0 := by
      refine Classical.byContradiction fun z2 => ?_
      have : m_eu 63 b (t - m_floor t b * b) = m_floor b (t - m_floor t b * b) :: m_eu 62 (t - m_floor t b * b) (b - m_floor b (t - m_floor t b * b) * (t - m_floor t b * b)) := by
        exact m_euS 62 b (t - m_floor t b * b) z2
      rw [this] at hl
      exact absurd hl (by simp)
    obtain ⟨l1, -, -, -⟩ := m_left (T := t) (B := b) h.1 h.2.1 h.2.2 rfl rfl
    rw [hL, show (0 : Int64).toInt = 0 from rfl] at l1
    omega
/-- the class takes apart alike -/
theorem q_add {g : CS} {j c : Nat} (hc : tC g j = nI c) (h : c < 64) (v : Int64) : f_addLast g j v = uC (uV g j c v) j (nI (c + 1)) := by
  unfold f_addLast
  rw [hc, if_neg (nI_pos (by omega)), if_neg (nI_le64 (by omega)), nI_clamp (by omega), nI_1]
theorem q_apL {j : Nat} : ∀ (n : Nat) (g : CS) (t b : Int64) (c : Nat), tC g j = nI c → c + n ≤ 64 → t.toInt.natAbs ≤ 1000000000 → 0 ≤ b.toInt → b.toInt ≤ 1000000000 →
    tC (apartL j n g t b) j = nI (c + (m_eu n t b).length) ∧ (∀ i, i < c → tV (apartL j n g t b) j i = tV g j i) ∧ ∀ i, i < (m_eu n t b).length → tV (apartL j n g t b) j (c + i) = (m_eu n t b).getD i 0 := by
  intro n
  induction n with
  | zero => intro g t b c hc _ _ _ _; exact ⟨hc, fun _ _ => rfl, fun i hi => absurd hi (Nat.not_lt_zero i)⟩
  | succ n ih =>
    intro g t b c hc hn ht hb0 hb
    unfold apartL m_eu
    by_cases z : b = 0
    · rw [if_pos z, if_pos z]
      exact ⟨hc, fun _ _ => rfl, fun i hi => absurd hi (Nat.not_lt_zero i)⟩
    · rw [if_neg z, if_neg z]
      have hb1 : 1 ≤ b.toInt := by have := q_ne0 z; omega
      obtain ⟨l1, l2, l3, l4⟩ := m_left (T := t) (B := b) ht hb1 hb rfl rfl
      rw [q_ffl (by omega) hb1, q_add hc (by omega)]
      obtain ⟨g1, hg1⟩ : ∃ g1, g1 = uC (uV g j c (m_floor t b)) j (nI (c + 1)) := ⟨_, rfl⟩
      have k1 : tC g1 j = nI (c + 1) := by rw [hg1]; exact tC_uC _ _ _
      have k2 : ∀ i, tV g1 j i = if i = c then m_floor t b else tV g j i := by
        intro i
        rw [hg1]
        show va_up (tV g) j (vp_updL (tV g j) c (m_floor t b)) j i = _
        rw [va_up_self]
        rfl
      rw [← hg1]
      obtain ⟨i1, i2, i3⟩ := ih g1 b (t - m_floor t b * b) (c + 1) k1 (by omega) (by omega) l3 (by omega)
      rw [List.length_cons]
      refine ⟨by rw [i1]; congr 1; omega, fun i hi => ?_, fun i hi => ?_⟩
      · rw [i2 i (by omega), k2 i, if_neg (by omega)]
      · cases i with
        | zero =>
          rw [Nat.add_zero, i2 c (by omega), k2 c, if_pos rfl]
          rfl
        | succ i =>
          rw [show c + (i + 1) = c + 1 + i by omega, i3 i (by omega)]
          rfl
theorem q_apt {g : CS} {i : Nat} {t b : Int64} (e1 : tT g i = t) (e2 : tB g i = b) (h : m_F t b) : tC (f_apart g 1 i) 1 = nI (m_TE t b).length ∧ ∀ k, k < (m_TE t b).length → tV (f_apart g 1 i) 1 k = m_at t b k := by
  unfold f_apart
  rw [e1, e2]
  obtain ⟨h1, h2, h3⟩ := q_apL (j := 1) 64 (uC g 1 0) t b 0 ((tC_uC g 1 0).trans nI_0.symm) (by decide) h.1 (by have := h.2.1; omega) h.2.2
  rw [Nat.zero_add] at h1
  refine ⟨h1, fun k hk => ?_⟩
  have := h3 k hk
  rw [Nat.zero_add] at this
  exact this
/-! FOLDED alike -/
theorem q_at {g : CS} {j c : Nat} (hc : tC g j = nI c) (h : c ≤ 64) {k : Nat} (hk : k < c) : f_at g j (nI k) = tV g j k := by
  unfold f_at
  rw [if_neg (nI_pos (by omega)), hc, if_neg (fun z => absurd ((nI_leI (by omega) (by omega)).mp z) (by omega)), if_neg (nI_le64 (by omega)), nI_clamp (by omega)]
theorem q_lt1 {x : Int64} : x < 1 ↔ x.toInt < 1 := by
  rw [Int64.lt_iff_toInt_lt]
  rfl
theorem q_fdL {g : CS} {j c : Nat} (hc : tC g j = nI c) (hc2 : c ≤ 64) {a : Nat → Int64} (ha : ∀ k, k < c → tV g j k = a k) (h1 : ∀ k, 1 ≤ k → k < c → 1 ≤ (a k).toInt) : ∀ (n : Nat), n < c → ∀ t b : Int64, (foldL g j n t b = none ∧ m_fdL a n t b = none) ∨ ∃ x y : Int64, foldL g j n t b = some (x, y) ∧ m_fdL a n t b = LO x y := by
  intro n
  induction n with
  | zero => intro _ t b; exact Or.inr ⟨t, b, rfl, rfl⟩
  | succ n ih =>
    intro hn t b
    unfold foldL m_fdL
    rw [q_at hc hc2 hn, ha (n + 1) hn, q_at hc hc2 (show n < c by omega), ha n (by omega), if_neg (fun z => by
      have := q_lt1.mp z
      have := h1 (n + 1) (by omega) hn
      omega)]
    by_cases c4 : 4000000000 < t
    · rw [if_pos c4, if_pos c4]
      exact Or.inl ⟨rfl, rfl⟩
    · rw [if_neg c4, if_neg c4]
      exact ih (by omega) _ _
/-- the two numbers stay small, and the lower one above 0 -/
theorem q_fdB {g : CS} {j c : Nat} (hc : tC g j = nI c) (hc2 : c ≤ 64) {a : Nat → Int64} (ha : ∀ k, k < c → tV g j k = a k) (h1 : ∀ k, 1 ≤ k → k < c → 1 ≤ (a k).toInt) (h2 : ∀ k, k < c → (a k).toInt.natAbs ≤ 1000000002) : ∀ (n : Nat), n < c → ∀ t b x y : Int64, (1 ≤ n → 1 ≤ t.toInt) → t.toInt.natAbs ≤ 9000000000000000000 → 1 ≤ b.toInt → b.toInt ≤ 4000000000 → foldL g j n t b = some (x, y) → x.toInt.natAbs ≤ 9000000000000000000 ∧ 1 ≤ y.toInt ∧ y.toInt ≤ 4000000000 := by
  intro n
  induction n with
  | zero =>
    intro _ t b x y _ ht hb hb2 h
    cases h
    exact ⟨ht, hb, hb2⟩
  | succ n ih =>
    intro hn t b x y h0 ht hb hb2 h
    unfold foldL at h
    rw [q_at hc hc2 hn, ha (n + 1) hn, q_at hc hc2 (show n < c by omega), ha n (by omega), if_neg (fun z => by
      have := q_lt1.mp z
      have := h1 (n + 1) (by omega) hn
      omega)] at h
    have ht1 := h0 (by omega)
    have hc4 := Int64.lt_iff_toInt_lt (x := 4000000000) (y := t)
    rw [show (4000000000 : Int64).toInt = 4000000000 by decide] at hc4
    by_cases c4 : 4000000000 < t
    · rw [if_pos c4] at h
      cases h
    · rw [if_neg c4] at h
      have ht4 : t.toInt ≤ 4000000000 := by
        have : ¬ (4000000000 : Int) < t.toInt := fun z => c4 (hc4.mpr z)
        omega
      have han := h2 n (by omega)
      obtain ⟨e1, e2⟩ := m_mulB (x := a n) (y := t) (B := 1000000002) (C := 4000000000) han (by omega) (by decide)
      obtain ⟨f1, f2⟩ := m_addB (x := a n * t) (y := b) (B := 1000000002 * 4000000000) (C := 4000000000) e2 (by omega) (by decide)
      refine ih (by omega) _ _ _ _ (fun z => ?_) (by omega) ht1 ht4 h
      rw [f1, e1]
      have := h1 n z (by omega)
      have h8 : 0 ≤ (a n).toInt * t.toInt := Int.mul_nonneg (by omega) (by omega)
      omega
section RV10
variable {g g1 : CS} {kn : Int32} {tt bb : Nat → Int64} {eT eB oT oB : Int64} {pk : Nat} {ca rf : Int32} {vs : Nat → Value} {n9 : Nat}
/-- a row of TERMS is FOLDED into a RATIO -/
theorem RV.fold (h : RV g kn tt bb eT eB oT oB pk ca rf vs n9) (hz : lz g g1) {i : Nat} (hi : i < 6) {j c : Nat} (hc : tC g1 j = nI c) (hc1 : 1 ≤ c) (hc2 : c ≤ 64) {a : Nat → Int64} (ha : ∀ k, k < c → tV g1 j k = a k) (h1 : ∀ k, 1 ≤ k → k < c → 1 ≤ (a k).toInt) (h2 : ∀ k, k < c → (a k).toInt.natAbs ≤ 1000000002) :
    SMV kn tt bb eT eB oT oB pk ca rf vs n9 i (m_FD a c) (f_fsR g1 j i) (f_fsW g1 j i) := by
  have hf : f_fold g1 j = foldL g1 j (c - 1) (a (c - 1)) 1 := by
    unfold f_fold
    have e1 : nI c - 1 = nI (c - 1) := by
      obtain ⟨d, rfl⟩ : ∃ d, c = d + 1 := ⟨c - 1, by omega⟩
      rw [nI_pred]
      rfl
    rw [hc, if_pos (show (1 : Int32) ≤ nI c from (nI_leI (a := 1) (by decide) (by omega)).mpr hc1), e1, nI_clamp (by omega), q_at hc hc2 (by omega), ha (c - 1) (by omega)]
  have hB := q_fdB hc hc2 ha h1 h2 (c - 1) (by omega) (a (c - 1)) 1
  unfold f_fsR f_fsW f_foldR f_foldW m_FD
  rcases q_fdL hc hc2 ha h1 (c - 1) (by omega) (a (c - 1)) 1 with ⟨k1, k2⟩ | ⟨x, y, k1, k2⟩
  · rw [hf, k1, k2]
    dsimp only
    rw [if_pos rfl, if_pos rfl]
    exact h.no hz i
  · obtain ⟨b1, b2, b3⟩ := hB x y (fun z => h1 (c - 1) z (by omega)) (by have := h2 (c - 1) (by omega); omega) (by decide) (by decide) k1
    rw [hf, k1, k2]
    dsimp only
    rw [if_neg (by decide), if_neg (by decide)]
    exact h.bec hz hi (by omega) (by omega) (m_ne0 b2) rfl rfl
def m_CV (t b : Int64) (x : Int32) : Option (Int64 × Int64) := if nI (m_TE t b).length ≤ x then none else m_FD (m_at t b) (nn x + 1)
def m_TM (t b : Int64) (x : Int32) : Int32 := if nI (m_TE t b).length ≤ x then -9 else (m_at t b (nn x)).toInt32
theorem s_con (h : RV g kn tt bb eT eB oT oB pk ca rf vs n9) {i j : Nat} (hi : i < 6) (hj : j < 6) {x : Int32} (hx : 0 ≤ x) : SMV kn tt bb eT eB oT oB pk ca rf vs n9 i (m_CV (tt j) (bb j) x) (f_conR (f_apart g 1 j) i x) (f_conW (f_apart g 1 j) i x) := by
  obtain ⟨a1, a2, a3, a4⟩ := h.1 j hj
  obtain ⟨p1, p2⟩ := q_apt a1 a2 a3
  obtain ⟨t1, t2, t3, t4, t5, t6⟩ := q_TE a3
  have l1 := lz_apt g j
  unfold f_conR f_conW m_CV
  rw [p1]
  by_cases c : nI (m_TE (tt j) (bb j)).length ≤ x
  · rw [if_pos c, if_pos c, if_pos c]
    exact h.no l1 i
  · rw [if_neg c, if_neg c, if_neg c]
    obtain ⟨k, rfl, hk⟩ := m_ix hx c (by omega)
    rw [nI_1]
    have hnn : nn (nI k) = k := nI_clamp (by omega)
    rw [hnn]
    by_cases e : k + 1 = (m_TE (tt j) (bb j)).length
    · have ek : f_keep (f_apart g 1 j) 1 (nI (k + 1)) = f_apart g 1 j := by
        unfold f_keep
        rw [if_neg (nI_pos (by omega)), p1, if_pos ((nI_leI (by omega) (by omega)).mpr (by omega))]
      rw [ek, e]
      exact h.fold l1 hi p1 (by omega) (by omega) p2 (fun q q1 q2 => (t4 q q1 q2).1) (fun q q1 => by have := t3 q q1; omega)
    · have ek : f_keep (f_apart g 1 j) 1 (nI (k + 1)) = uC (f_apart g 1 j) 1 (nI (k + 1)) := by
        unfold f_keep
        rw [if_neg (nI_pos (by omega)), p1, if_neg (fun z => absurd ((nI_leI (by omega) (by omega)).mp z) (by omega))]
      rw [ek]
      exact h.fold (l1.tr (lz_sm (tx_smC _ _))) hi (tC_uC _ _ _) (by omega) (by omega) (fun q hq => p2 q (by omega)) (fun q q1 q2 => (t4 q q1 (by omega)).1) (fun q q1 => by have := t3 q (by omega); omega)
theorem s_trm (h : RV g kn tt bb eT eB oT oB pk ca rf vs n9) {j : Nat} (hj : j < 6) {x : Int32} (hx : 0 ≤ x) : f_term (f_apart g 1 j) x = m_TM (tt j) (bb j) x := by
  obtain ⟨a1, a2, a3, a4⟩ := h.1 j hj
  obtain ⟨p1, p2⟩ := q_apt a1 a2 a3
  obtain ⟨t1, t2, t3, t4, t5, t6⟩ := q_TE a3
  unfold f_term m_TM
  rw [p1]
  by_cases c : nI (m_TE (tt j) (bb j)).length ≤ x
  · rw [if_pos c, if_pos c]
  · rw [if_neg c, if_neg c]
    obtain ⟨k, rfl, hk⟩ := m_ix hx c (by omega)
    rw [q_at p1 (by omega) hk, p2 k hk, show nn (nI k) = k from nI_clamp (by omega)]
/-! up, down -/
theorem q_adT {g : CS} {j c : Nat} (hc : tC g j = nI c) (h1 : 1 ≤ c) (h2 : c ≤ 64) (v : Int64) : f_addTo g j v = uV g j (c - 1) (tV g j (c - 1) + v) := by
  have e1 : nI c - 1 = nI (c - 1) := by
    obtain ⟨d, rfl⟩ : ∃ d, c = d + 1 := ⟨c - 1, by omega⟩
    rw [nI_pred]
    rfl
  unfold f_addTo
  rw [hc, e1, if_neg (nI_pos (by omega)), if_neg (nI_le64 (by omega)), nI_clamp (by omega)]
theorem q_uV (g : CS) (j k : Nat) (v : Int64) (i : Nat) : tV (uV g j k v) j i = va_up (tV g j) k v i := by
  show va_up (tV g) j (vp_updL (tV g j) k v) j i = _
  rw [va_up_self]
  rfl
theorem q_lz1 (g : CS) (k : Nat) (v : Int64) : lz g (uV g 1 k v) := lz_sm (tx_smV g k v)
def m_UP (t b : Int64) : Option (Int64 × Int64) := if m_abv t = 0 then none else if m_one t b = 0 then m_WL t b (-1) else none
theorem q_bump {x v : Int64} (h : x.toInt.natAbs ≤ 1000000001) (hv : v.toInt.natAbs ≤ 1) : (x + v).toInt = x.toInt + v.toInt := (m_addB (B := 1000000001) (C := 1) h hv (by decide)).1
theorem s_up (h : RV g kn tt bb eT eB oT oB pk ca rf vs n9) {i : Nat} (hi : i < 6) : SMV kn tt bb eT eB oT oB pk ca rf vs n9 i (m_UP (tt i) (bb i)) (f_upR g i) (f_upX g i) := by
  obtain ⟨a1, a2, a3, a4⟩ := h.1 i hi
  obtain ⟨p1, p2⟩ := q_apt a1 a2 a3
  obtain ⟨t1, t2, t3, t4, t5, t6⟩ := q_TE a3
  unfold f_upR f_upX m_UP
  rw [a1, a2]
  by_cases c : 1 ≤ (tt i).toInt
  · rw [if_neg (fun z => (q_cmpN.mp z) c), if_neg (fun z => (q_cmpN.mp z) c), if_neg (fun z => (q_abv.mp z) c)]
    by_cases d : m_one (tt i) (bb i) = 0
    · have d0 : f_one (tt i) (bb i) = 0 := d
      rw [if_pos d0, if_pos d0, if_pos d]
      have hn1 : (-1 : Int64).toInt = -1 := by decide
      have ht3 := t3 ((m_TE (tt i) (bb i)).length - 1) (by omega)
      have hbm := q_bump (v := -1) ht3 (by decide)
      have eW : f_upW g i = uV (f_apart g 1 i) 1 ((m_TE (tt i) (bb i)).length - 1) (m_at (tt i) (bb i) ((m_TE (tt i) (bb i)).length - 1) + -1) := by
        unfold f_upW
        rw [q_adT p1 t1 (by omega), p2 _ (by omega)]
      have hF := h.fold ((lz_apt g i).tr (q_lz1 _ ((m_TE (tt i) (bb i)).length - 1) (m_at (tt i) (bb i) ((m_TE (tt i) (bb i)).length - 1) + -1))) hi (j := 1) (c := (m_TE (tt i) (bb i)).length) (a := va_up (m_at (tt i) (bb i)) ((m_TE (tt i) (bb i)).length - 1) (m_at (tt i) (bb i) ((m_TE (tt i) (bb i)).length - 1) + -1)) p1 t1 (by omega)
        (fun k hk => by
          rw [q_uV]
          by_cases e : k = (m_TE (tt i) (bb i)).length - 1
          · rw [e, va_up_self, va_up_self]
          · rw [va_up_ne _ _ e, va_up_ne _ _ e]
            exact p2 k hk)
        (fun k k1 k2 => by
          by_cases e : k = (m_TE (tt i) (bb i)).length - 1
          · rw [e, va_up_self, hbm, hn1]
            have := (t4 ((m_TE (tt i) (bb i)).length - 1) (by omega) (by omega)).2 (by omega)
            omega
          · rw [va_up_ne _ _ e]
            exact (t4 k k1 k2).1)
        (fun k hk => by
          by_cases e : k = (m_TE (tt i) (bb i)).length - 1
          · rw [e, va_up_self, hbm, hn1]
            omega
          · rw [va_up_ne _ _ e]
            have := t3 k hk
            omega)
      rw [← eW] at hF
      exact hF
    · have d0 : ¬ f_one (tt i) (bb i) = 0 := d
      rw [if_neg d0, if_neg d0, if_neg d]
      exact h.no (lz_rf g) i
  · rw [if_pos (q_cmpN.mpr c), if_pos (q_cmpN.mpr c), if_pos (q_abv.mpr c)]
    exact h.no (lz_rf g) i
end RV10
