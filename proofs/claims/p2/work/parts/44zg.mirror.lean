/-! ===== the next one, the one before; the row of all never comes back ===== -/
/-- the next one, as whole numbers -/
def q_nx (p : Int × Int) : Int × Int := (p.2, (2 * (p.1 / p.2) + 1) * p.2 - p.1)
def q_nxI : Nat → Int × Int → Int × Int
  | 0, p => p
  | n + 1, p => q_nxI n (q_nx p)
def q_Lf (p : Int × Int) : Int × Int := (p.1, p.1 + p.2)
def q_Rt (p : Int × Int) : Int × Int := (p.1 + p.2, p.2)
def q_ps (p : Int × Int) : Prop := 1 ≤ p.1 ∧ 1 ≤ p.2
theorem q_nx_p {p : Int × Int} (h : q_ps p) : q_ps (q_nx p) := by
  obtain ⟨t, b⟩ := p
  obtain ⟨h1, h2⟩ := h
  dsimp only at h1 h2
  have e1 := Int.emod_add_mul_ediv t b
  have e2 := Int.emod_lt_of_pos t (show 0 < b by omega)
  have e3 : (2 * (t / b) + 1) * b - t = b * (t / b) + b - (t - b * (t / b)) := by grind
  have e4 : 0 ≤ b * (t / b) := Int.mul_nonneg (by omega) (Int.ediv_nonneg (by omega) (by omega))
  refine ⟨h2, ?_⟩
  show 1 ≤ (2 * (t / b) + 1) * b - t
  rw [e3]
  omega
theorem q_nx_L {p : Int × Int} (h : q_ps p) : q_nx (q_Lf p) = q_Rt p := by
  obtain ⟨t, b⟩ := p
  obtain ⟨h1, h2⟩ := h
  dsimp only at h1 h2
  have e : t / (t + b) = 0 := Int.ediv_eq_zero_of_lt (by omega) (by omega)
  show (t + b, (2 * (t / (t + b)) + 1) * (t + b) - t) = (t + b, b)
  rw [e]
  congr 1
  omega
theorem q_nx_R {p : Int × Int} (h : q_ps p) : q_nx (q_Rt p) = q_Lf (q_nx p) := by
  obtain ⟨t, b⟩ := p
  obtain ⟨h1, h2⟩ := h
  dsimp only at h1 h2
  have e : (t + b) / b = t / b + 1 := Int.add_ediv_of_dvd_right (Int.dvd_refl b) |>.trans (by rw [Int.ediv_self (by omega)])
  show (b, (2 * ((t + b) / b) + 1) * b - (t + b)) = (b, b + ((2 * (t / b) + 1) * b - t))
  rw [e]
  congr 1
  grind
theorem q_nxI_p : ∀ (n : Nat) {p : Int × Int}, q_ps p → q_ps (q_nxI n p) := by
  intro n
  induction n with
  | zero => intro p h; exact h
  | succ n ih => intro p h; exact ih (q_nx_p h)
theorem q_nxI_s : ∀ (n : Nat) (p : Int × Int), q_nxI n (q_nx p) = q_nx (q_nxI n p) := by
  intro n
  induction n with
  | zero => intro p; rfl
  | succ n ih => intro p; exact ih (q_nx p)
theorem q_nxI_L : ∀ (j : Nat) {p : Int × Int}, q_ps p → q_nxI (2 * j) (q_Lf p) = q_Lf (q_nxI j p) ∧ q_nxI (2 * j + 1) (q_Lf p) = q_Rt (q_nxI j p) := by
  intro j
  induction j with
  | zero => intro p h; exact ⟨rfl, q_nx_L h⟩
  | succ j ih =>
    intro p h
    have h1 : ∀ m : Nat, q_nxI (m + 2) (q_Lf p) = q_nxI m (q_Lf (q_nx p)) := by
      intro m
      show q_nxI m (q_nx (q_nx (q_Lf p))) = _
      rw [q_nx_L h, q_nx_R h]
    have e1 : 2 * (j + 1) = 2 * j + 2 := by omega
    have e2 : 2 * (j + 1) + 1 = (2 * j + 1) + 2 := by omega
    rw [e2, e1, h1, h1]
    exact ih (q_nx_p h)
theorem q_nxI_1 (n : Nat) (p : Int × Int) : q_nxI (n + 1) p = q_nxI n (q_nx p) := rfl
theorem q_nx_e (t b B : Int) (h : B = (q_nx (t, b)).2) : q_nx (t, b) = (b, B) := by
  rw [h]
  rfl
/-- it never comes back -/
theorem q_nxI_ne : ∀ (N : Nat) (t b : Int), q_ps (t, b) → (t + b).toNat ≤ N → ∀ k, 1 ≤ k → q_nxI k (t, b) ≠ (t, b) := by
  intro N
  induction N with
  | zero =>
    intro t b h hN
    obtain ⟨h1, h2⟩ := h
    dsimp only at h1 h2
    omega
  | succ N ih =>
    intro t b h hN k hk he
    obtain ⟨h1, h2⟩ := id h
    dsimp only at h1 h2
    -- L or R of what is above 0 is no (x, x), and they are no other's
    have hL : ∀ q : Int × Int, q_ps q → (q_Lf q).1 < (q_Lf q).2 := by
      intro q hq
      have := hq.2
      show q.1 < q.1 + q.2
      omega
    have hR : ∀ q : Int × Int, q_ps q → (q_Rt q).2 < (q_Rt q).1 := by
      intro q hq
      have := hq.1
      show q.2 < q.1 + q.2
      omega
    rcases Int.lt_trichotomy t b with c | c | c
    · -- to the left
      have hp : q_ps (t, b - t) := ⟨h1, by show 1 ≤ b - t; omega⟩
      have e0 : (t, b) = q_Lf (t, b - t) := by
        show (t, b) = (t, t + (b - t))
        congr 1
        omega
      obtain ⟨j, hj⟩ : ∃ j, k = 2 * j ∨ k = 2 * j + 1 := ⟨k / 2, by omega⟩
      obtain ⟨l1, l2⟩ := q_nxI_L j hp
      rw [e0] at he
      rcases hj with rfl | rfl
      · rw [l1] at he
        have f1 : (q_nxI j (t, b - t)).1 = t := congrArg Prod.fst he
        have f2 : (q_nxI j (t, b - t)).1 + (q_nxI j (t, b - t)).2 = t + (b - t) := congrArg Prod.snd he
        exact ih t (b - t) hp (by omega) j (by omega) (Prod.ext f1 (by show _ = b - t; omega))
      · rw [l2] at he
        have g1 := hR _ (q_nxI_p j hp)
        have g2 := hL _ hp
        rw [he] at g1
        omega
    · subst c
      have e1 : q_nx (t, t) = q_Lf (t, t) := by
        show (t, (2 * (t / t) + 1) * t - t) = (t, t + t)
        rw [Int.ediv_self (by omega)]
        congr 1
        omega
      obtain ⟨k, rfl⟩ : ∃ k1, k = k1 + 1 := ⟨k - 1, by omega⟩
      have he : q_nxI k (q_nx (t, t)) = (t, t) := he
      rw [e1] at he
      obtain ⟨j, hj⟩ : ∃ j, k = 2 * j ∨ k = 2 * j + 1 := ⟨k / 2, by omega⟩
      obtain ⟨l1, l2⟩ := q_nxI_L j h
      rcases hj with rfl | rfl
      · rw [l1] at he
        have g1 := hL _ (q_nxI_p j h)
        rw [he] at g1
        exact absurd g1 (Int.lt_irrefl _)
      · rw [l2] at he
        have g1 := hR _ (q_nxI_p j h)
        rw [he] at g1
        exact absurd g1 (Int.lt_irrefl _)
    · have hp : q_ps (t - b, b) := ⟨by show 1 ≤ t - b; omega, h2⟩
      have e0 : (t, b) = q_Rt (t - b, b) := by
        show (t, b) = (t - b + b, b)
        congr 1
        omega
      obtain ⟨k, rfl⟩ : ∃ k1, k = k1 + 1 := ⟨k - 1, by omega⟩
      have he : q_nxI k (q_nx (t, b)) = (t, b) := he
      rw [e0, q_nx_R hp] at he
      obtain ⟨j, hj⟩ : ∃ j, k = 2 * j ∨ k = 2 * j + 1 := ⟨k / 2, by omega⟩
      obtain ⟨l1, l2⟩ := q_nxI_L j (q_nx_p hp)
      rcases hj with rfl | rfl
      · rw [l1] at he
        have g1 := hL _ (q_nxI_p j (q_nx_p hp))
        have g2 := hR _ hp
        rw [he] at g1
        omega
      · rw [l2] at he
        have f1 : (q_nxI j (q_nx (t - b, b))).1 + (q_nxI j (q_nx (t - b, b))).2 = t - b + b := congrArg Prod.fst he
        have f2 : (q_nxI j (q_nx (t - b, b))).2 = b := congrArg Prod.snd he
        exact ih (t - b) b hp (by omega) (j + 1) (by omega) (Prod.ext (by show (q_nxI j (q_nx (t - b, b))).1 = t - b; omega) f2)
/-- as the machine reckons it -/
def m_nxB (t b : Int64) : Int64 := (2 * m_floor t b + 1) * b - t
theorem q_nxB {t b : Int64} (h : m_F t b) (ht : 1 ≤ t.toInt) (hL : L64 t b) : (m_nxB t b).toInt = (q_nx (t.toInt, b.toInt)).2 ∧ 1 ≤ (m_nxB t b).toInt ∧ (m_nxB t b).toInt ≤ 2000000000 ∧ L64 b (m_nxB t b) := by
  obtain ⟨a1, a2, a3⟩ := h
  have f0 := q_mfl (a := t) (b := b) (by omega) a2
  have f1 := m_floorB a1 (by decide) a2
  have e2 : (2 : Int64).toInt = 2 := by decide
  have e1 : (1 : Int64).toInt = 1 := rfl
  obtain ⟨g1, g2⟩ := m_mulB (x := 2) (y := m_floor t b) (B := 2) (C := 1000000001) (by decide) f1 (by decide)
  obtain ⟨j1, j2⟩ := m_addB (x := 2 * m_floor t b) (y := 1) (B := 2 * 1000000001) (C := 1) g2 (by decide) (by decide)
  obtain ⟨k1, k2⟩ := m_mulB (x := 2 * m_floor t b + 1) (y := b) (B := 2 * 1000000001 + 1) (C := 1000000000) j2 (by omega) (by decide)
  obtain ⟨l1, l2⟩ := m_subB (x := (2 * m_floor t b + 1) * b) (y := t) (B := (2 * 1000000001 + 1) * 1000000000) (C := 1000000000) k2 a1 (by decide)
  have hz : (m_nxB t b).toInt = (2 * (t.toInt / b.toInt) + 1) * b.toInt - t.toInt := by
    unfold m_nxB
    rw [l1, k1, j1, g1, e2, e1, f0]
  have hp := (q_nx_p (p := (t.toInt, b.toInt)) ⟨ht, a2⟩).2
  have hp2 : 1 ≤ (m_nxB t b).toInt := by rw [hz]; exact hp
  have hq : (m_nxB t b).toInt ≤ 2000000000 := by
    rw [hz]
    have r1 := Int.emod_add_mul_ediv t.toInt b.toInt
    have r2 := Int.emod_nonneg t.toInt (show b.toInt ≠ 0 by omega)
    have r3 : (2 * (t.toInt / b.toInt) + 1) * b.toInt - t.toInt = b.toInt * (t.toInt / b.toInt) + b.toInt - (t.toInt - b.toInt * (t.toInt / b.toInt)) := by grind
    rw [r3]
    omega
  refine ⟨hz, hp2, hq, hp2, ?_⟩
  have hg : Int.gcd b.toInt t.toInt = 1 := by rw [Int.gcd_comm]; exact hL.2
  rw [hz]
  refine Int.gcd_eq_one_iff.mpr fun c hc1 hc2 => ?_
  have hc3 : c ∣ t.toInt := by
    have : t.toInt = (2 * (t.toInt / b.toInt) + 1) * b.toInt - ((2 * (t.toInt / b.toInt) + 1) * b.toInt - t.toInt) := by omega
    rw [this]
    exact Int.dvd_sub (Int.dvd_mul_of_dvd_right hc1) hc2
  exact Int.gcd_eq_one_iff.mp hg c hc1 hc3
theorem q_nxE {t b : Int64} (h : m_F t b) (ht : 1 ≤ t.toInt) (hL : L64 t b) : m_loT b (m_nxB t b) = b ∧ m_loB b (m_nxB t b) = m_nxB t b := by
  obtain ⟨h1, h2, h3, h4⟩ := q_nxB h ht hL
  obtain ⟨a1, a2, a3⟩ := h
  exact q_loL (by omega) h4
def m_nxL : Nat → Int64 → Int64 → Int64 × Int64
  | 0, t, b => (t, b)
  | n + 1, t, b => if m_fit t b = 0 then (t, b) else m_nxL n (m_loT b (m_nxB t b)) (m_loB b (m_nxB t b))
theorem m_nxLz {t b : Int64} {n : Nat} (h : m_fit t b = 0) : m_nxL n t b = (t, b) := by
  cases n with
  | zero => rfl
  | succ n =>
    unfold m_nxL
    rw [if_pos h]
theorem m_nxLs {t b : Int64} {n m : Nat} {q : Int64 × Int64} (h : ¬ m_fit t b = 0) (e : n = m + 1) (hg : m_nxL n t b = q) : m_nxL m (m_loT b ((2 * m_floor t b + 1) * b - t)) (m_loB b ((2 * m_floor t b + 1) * b - t)) = q := by
  rw [e] at hg
  unfold m_nxL at hg
  rw [if_neg h] at hg
  exact hg
def m_NX (t b : Int64) (n : Nat) : Option (Int64 × Int64) := if m_abv t = 0 then none else if m_fit (m_nxL n t b).1 (m_nxL n t b).2 = 0 then none else some (m_nxL n t b)
theorem q_abv {t : Int64} : m_abv t = 0 ↔ ¬ 1 ≤ t.toInt := by
  unfold m_abv
  have h := Int64.le_iff_toInt_le (x := t) (y := 0)
  have e0 : (0 : Int64).toInt = 0 := rfl
  rw [e0] at h
  by_cases c : t ≤ 0
  · rw [if_pos c]
    have := h.mp c
    exact ⟨fun _ => by omega, fun _ => rfl⟩
  · rw [if_neg c]
    have : ¬ t.toInt ≤ 0 := fun z => c (h.mpr z)
    exact ⟨fun z => absurd z (by decide), fun z => by omega⟩
theorem q_cmpP {t : Int64} : 0 < f_cmp t 0 ↔ 1 ≤ t.toInt := by
  unfold f_cmp
  have h := Int64.lt_iff_toInt_lt (x := t) (y := 0)
  have e0 : (0 : Int64).toInt = 0 := rfl
  rw [e0] at h
  by_cases c : t < 0
  · rw [if_pos c]
    have := h.mp c
    exact ⟨fun z => absurd z (by decide), fun z => by omega⟩
  · rw [if_neg c]
    have h1 : ¬ t.toInt < 0 := fun z => c (h.mpr z)
    by_cases c2 : t = 0
    · rw [if_pos c2, c2, e0]
      exact ⟨fun z => absurd z (by decide), fun z => by omega⟩
    · rw [if_neg c2]
      have := q_ne0 c2
      exact ⟨fun _ => by omega, fun _ => by decide⟩
theorem q_cmpN {t : Int64} : f_cmp t 0 ≤ 0 ↔ ¬ 1 ≤ t.toInt := by
  rw [← q_cmpP, Int32.not_lt]
section RV8
variable {g g1 : CS} {kn : Int32} {tt bb : Nat → Int64} {eT eB oT oB : Int64} {pk : Nat} {ca rf : Int32} {vs : Nat → Value} {n9 : Nat}
/-- the class's steps and the reference's -/
theorem q_steps : ∀ (n : Nat) (g : CS) (t b : Int64), tT g 6 = t → tB g 6 = b → m_F t b → 1 ≤ t.toInt → L64 t b →
    (∃ g1, nxL n g = .inl g1 ∧ lz g g1 ∧ m_fit (m_nxL n t b).1 (m_nxL n t b).2 = 0) ∨
    ∃ g1, nxL n g = .inr g1 ∧ lz g g1 ∧ tT g1 6 = (m_nxL n t b).1 ∧ tB g1 6 = (m_nxL n t b).2 ∧ m_F (m_nxL n t b).1 (m_nxL n t b).2 ∧ L64 (m_nxL n t b).1 (m_nxL n t b).2 ∧ ((m_nxL n t b).1.toInt, (m_nxL n t b).2.toInt) = q_nxI n (t.toInt, b.toInt) := by
  intro n
  induction n with
  | zero => intro g t b e1 e2 hF h1 hL; exact Or.inr ⟨g, rfl, lz_rf g, e1, e2, hF, hL, rfl⟩
  | succ n ih =>
    intro g t b e1 e2 hF h1 hL
    have hf := q_fit1 hF
    have ef : f_foll g 6 6 = f_become g 6 b (m_nxB t b) := by
      unfold f_foll m_nxB
      rw [e1, e2, q_ffl (by have := hF.1; omega) hF.2.1]
    obtain ⟨x1, x2, x3, x4⟩ := q_nxB hF h1 hL
    obtain ⟨y1, y2⟩ := q_nxE hF h1 hL
    have hnf : m_nxL (n + 1) t b = m_nxL n (m_loT b (m_nxB t b)) (m_loB b (m_nxB t b)) := by
      show (if m_fit t b = 0 then (t, b) else m_nxL n (m_loT b (m_nxB t b)) (m_loB b (m_nxB t b))) = _
      rw [if_neg hf]
    have hni : q_nxI (n + 1) (t.toInt, b.toInt) = q_nxI n (b.toInt, (m_nxB t b).toInt) := (q_nxI_1 _ _).trans (congrArg (q_nxI n) (q_nx_e _ _ _ x1))
    have hlow := hF.2.1
    have hup := hF.2.2
    clear x1
    generalize m_nxB t b = B at *
    rw [hnf, hni, y1, y2]
    obtain ⟨z1, z2⟩ := q_bec6 (t := b) (b := B) (by omega) (by omega) (m_ne0 x2) g 6
    rw [y1] at z1
    rw [y2] at z2
    have lz6 := lz_bec g lzs6 b B
    have hnl : nxL (n + 1) g = if f_fit (tT (f_foll g 6 6) 6) (tB (f_foll g 6 6) 6) = 0 then .inl (f_foll g 6 6) else nxL n (f_foll g 6 6) := rfl
    rw [hnl, ef]
    generalize f_become g 6 b B = g2 at *
    rw [z1, z2]
    by_cases c : m_fit b B = 0
    · have c0 : f_fit b B = 0 := c
      rw [if_pos c0]
      refine Or.inl ⟨g2, rfl, lz6, ?_⟩
      rw [m_nxLz c]
      exact c
    · have c0 : ¬ f_fit b B = 0 := c
      rw [if_neg c0]
      have hF2 : m_F b B := q_fitF c x4
      rcases ih g2 b B z1 z2 hF2 hlow x4 with ⟨g3, k1, k2, k3⟩ | ⟨g3, k1, k2, k3⟩
      · exact Or.inl ⟨g3, k1, lz6.tr k2, k3⟩
      · exact Or.inr ⟨g3, k1, lz6.tr k2, k3.1, k3.2.1, k3.2.2.1, k3.2.2.2.1, k3.2.2.2.2⟩
theorem q_or1 (x : Int32) (h : x = -9 ∨ x = 1) : x ||| 1 = x := by rcases h with rfl | rfl <;> decide
theorem s_nxt (h : RV g kn tt bb eT eB oT oB pk ca rf vs n9) {i : Nat} (hi : i < 6) {n : Nat} (h1 : 1 ≤ n) (h2 : n ≤ 50) :
    f_nextR g i (nI n) = (beR tt bb i (m_NX (tt i) (bb i) n) ||| 1) ∧ RV (f_nextW g i (nI n)) kn (beT tt i (m_NX (tt i) (bb i) n)) (beB bb i (m_NX (tt i) (bb i) n)) eT eB oT oB pk ca (beF rf (m_NX (tt i) (bb i) n)) vs n9 := by
  obtain ⟨a1, a2, a3, a4⟩ := h.1 i hi
  unfold f_nextR f_nextW m_NX
  rw [a1]
  by_cases c : 1 ≤ (tt i).toInt
  · rw [if_pos (q_cmpP.mpr c), if_pos (q_cmpP.mpr c), if_neg (fun z => (q_abv.mp z) c), nI_clamp (by omega)]
    have l6 := lz_asg g lzs6 i
    rcases q_steps n (f_assign g 6 i) (tt i) (bb i) ((q_asT g 6 i).trans a1) ((q_asB g 6 i).trans a2) a3 c a4 with ⟨g1, k1, k2, k3⟩ | ⟨g1, k1, k2, k3, k4, k5, k6, k7⟩
    · rw [k1, if_pos k3]
      obtain ⟨r1, r2⟩ := h.no (l6.tr k2) i
      exact ⟨by show (-9 : Int32) = -9 ||| 1; decide, r2⟩
    · rw [k1, if_neg (q_fit1 k5)]
      obtain ⟨r1, r2⟩ := h.set (l6.tr k2) hi k3 k4 k6
      refine ⟨?_, r2⟩
      show f_setR g1 i = _
      have hne : ¬ m_ord (tt i) (bb i) (m_nxL n (tt i) (bb i)).1 (m_nxL n (tt i) (bb i)).2 = 0 := by
        intro z
        obtain ⟨w1, w2⟩ := (q_ordE a3 k5 a4 k6).mp z
        rw [← w1, ← w2] at k7
        exact q_nxI_ne _ (tt i).toInt (bb i).toInt ⟨c, a3.2.1⟩ (Nat.le_refl _) n h1 k7.symm
      have hb : beR tt bb i (some (m_nxL n (tt i) (bb i))) = 1 := by
        simp only [beR]
        rw [if_neg (q_fit1 k5), if_neg hne]
      have r1 : f_setR g1 i = beR tt bb i (some (m_nxL n (tt i) (bb i))) := r1
      rw [r1, hb]
      decide
  · rw [if_neg (fun z => c (q_cmpP.mp z)), if_neg (fun z => c (q_cmpP.mp z)), if_pos (q_abv.mpr c)]
    obtain ⟨r1, r2⟩ := h.no (lz_rf g) i
    exact ⟨by show (-9 : Int32) = -9 ||| 1; decide, r2⟩
/-- the one before -/
def m_BF (t b : Int64) : Option (Int64 × Int64) := if m_abv t = 0 then none else if m_one t b = 0 then LO ((2 * -m_floor (-b) t - 1) * t - b) t else none
theorem s_bef (h : RV g kn tt bb eT eB oT oB pk ca rf vs n9) {i : Nat} (hi : i < 6) : SMV kn tt bb eT eB oT oB pk ca rf vs n9 i (m_BF (tt i) (bb i)) (f_befR g i) (f_befW g i) := by
  obtain ⟨a1, a2, a3, a4⟩ := h.1 i hi
  unfold f_befR f_befW m_BF
  rw [a1, a2]
  by_cases c : 1 ≤ (tt i).toInt
  · rw [if_neg (fun z => (q_cmpN.mp z) c), if_neg (fun z => (q_cmpN.mp z) c), if_neg (fun z => (q_abv.mp z) c)]
    by_cases d : m_one (tt i) (bb i) = 0
    · have d0 : f_one (tt i) (bb i) = 0 := d
      rw [if_pos d0, if_pos d0, if_pos d]
      obtain ⟨b1, b2, b3⟩ := a3
      have e1 : (1 : Int64).toInt = 1 := rfl
      have e2 : (2 : Int64).toInt = 2 := by decide
      obtain ⟨n1, n2⟩ := m_negB (x := bb i) (B := 1000000000) (by omega) (by decide)
      have f1 := m_floorB (a := -bb i) (b := tt i) n2 (by decide) c
      have v1 := q_mfl (a := -bb i) (b := tt i) (by omega) c
      obtain ⟨n3, n4⟩ := m_negB f1 (by decide)
      obtain ⟨s1, s2⟩ := m_subB (x := bb i) (y := 1) (B := 1000000000) (C := 1) (by omega) (by decide) (by decide)
      have f2 := m_floorB (a := bb i - 1) (b := tt i) s2 (by decide) c
      have v2 := q_mfl (a := bb i - 1) (b := tt i) (by omega) c
      rw [n1] at v1
      rw [s1, e1] at v2
      have hc : -((-(bb i).toInt) / (tt i).toInt) = ((bb i).toInt - 1) / (tt i).toInt + 1 := by
        have q1 := Int.emod_add_mul_ediv ((bb i).toInt - 1) (tt i).toInt
        have q2 := Int.emod_lt_of_pos ((bb i).toInt - 1) (show 0 < (tt i).toInt by omega)
        have q3 := Int.emod_nonneg ((bb i).toInt - 1) (show (tt i).toInt ≠ 0 by omega)
        have q4 : (-(bb i).toInt) / (tt i).toInt = -(((bb i).toInt - 1) / (tt i).toInt + 1) := by
          rw [Int.ediv_eq_iff_of_pos (by omega)]
          have q5 : -(((bb i).toInt - 1) / (tt i).toInt + 1) * (tt i).toInt = -((tt i).toInt * (((bb i).toInt - 1) / (tt i).toInt)) - (tt i).toInt := by grind
          rw [q5]
          omega
        rw [q4]
        omega
      have hw : m_floor (bb i - 1) (tt i) + 1 = -m_floor (-bb i) (tt i) := by
        apply Int64.toInt_inj.mp
        rw [(m_addB (x := m_floor (bb i - 1) (tt i)) (y := 1) (B := 1000000000 + 1 + 1) (C := 1) f2 (by decide) (by decide)).1, n3, v1, v2, e1, hc]
      have hx : 2 * m_floor (bb i - 1) (tt i) + 1 = 2 * -m_floor (-bb i) (tt i) - 1 := by
        rw [← hw]
        apply Int64.toInt_inj.mp
        obtain ⟨p1, p2⟩ := m_mulB (x := 2) (y := m_floor (bb i - 1) (tt i)) (B := 2) (C := 1000000000 + 1 + 1) (by decide) f2 (by decide)
        obtain ⟨p3, p4⟩ := m_addB (x := 2 * m_floor (bb i - 1) (tt i)) (y := 1) (B := 2 * (1000000000 + 1 + 1)) (C := 1) p2 (by decide) (by decide)
        obtain ⟨p5, p6⟩ := m_addB (x := m_floor (bb i - 1) (tt i)) (y := 1) (B := 1000000000 + 1 + 1) (C := 1) f2 (by decide) (by decide)
        obtain ⟨p7, p8⟩ := m_mulB (x := 2) (y := m_floor (bb i - 1) (tt i) + 1) (B := 2) (C := 1000000000 + 1 + 1 + 1) (by decide) p6 (by decide)
        obtain ⟨p9, -⟩ := m_subB (x := 2 * (m_floor (bb i - 1) (tt i) + 1)) (y := 1) (B := 2 * (1000000000 + 1 + 1 + 1)) (C := 1) p8 (by decide) (by decide)
        rw [p3, p1, p9, p7, p5, e1, e2]
        omega
      unfold f_fore
      rw [a1, a2, q_ffl (by omega) c, hx]
      obtain ⟨r1, r2⟩ := m_mulB (x := 2) (y := -m_floor (-bb i) (tt i)) (B := 2) (C := 1000000001) (by decide) n4 (by decide)
      obtain ⟨r3, r4⟩ := m_subB (x := 2 * -m_floor (-bb i) (tt i)) (y := 1) (B := 2 * 1000000001) (C := 1) r2 (by decide) (by decide)
      obtain ⟨r5, r6⟩ := m_mulB (x := 2 * -m_floor (-bb i) (tt i) - 1) (y := tt i) (B := 2 * 1000000001 + 1) (C := 1000000000) r4 b1 (by decide)
      obtain ⟨r7, r8⟩ := m_subB (x := (2 * -m_floor (-bb i) (tt i) - 1) * tt i) (y := bb i) (B := (2 * 1000000001 + 1) * 1000000000) (C := 1000000000) r6 (by omega) (by decide)
      exact h.bec (lz_rf g) hi (by omega) (by omega) (m_ne0 c) rfl rfl
    · have d0 : ¬ f_one (tt i) (bb i) = 0 := d
      rw [if_neg d0, if_neg d0, if_neg d]
      exact h.no (lz_rf g) i
  · rw [if_pos (q_cmpN.mpr c), if_pos (q_cmpN.mpr c), if_pos (q_abv.mpr c)]
    exact h.no (lz_rf g) i
end RV8
