/-! ===== cuts, side by side ===== -/
def q_up (L R B : Int) (md : Int32) : Prop := (md = 0 ∧ L < 0) ∨ md = 2 ∨ (md = 3 ∧ (B < 2 * R ∨ (2 * R = B ∧ 0 ≤ L))) ∨ (md = 4 ∧ (B < 2 * R ∨ (2 * R = B ∧ L % 2 = 1)))
/-- what a number is cut to -/
def q_cP (T B p : Int) (md : Int32) (w : Int) : Prop := (T * p - T * p / B * B = 0 ∧ w = T * p / B) ∨ (0 < T * p - T * p / B * B ∧ q_up (T * p / B) (T * p - T * p / B * B) B md ∧ w = T * p / B + 1) ∨ (0 < T * p - T * p / B * B ∧ ¬ q_up (T * p / B) (T * p - T * p / B * B) B md ∧ w = T * p / B)
theorem q_cP1 {T B p : Int} {md : Int32} {w v : Int} (h : q_cP T B p md w) (k : q_cP T B p md v) : w = v := by
  rcases h with ⟨a1, a2⟩ | ⟨a1, a2, a3⟩ | ⟨a1, a2, a3⟩ <;> rcases k with ⟨b1, b2⟩ | ⟨b1, b2, b3⟩ | ⟨b1, b2, b3⟩ <;> first | omega | exact absurd a2 b2 | exact absurd b2 a2
theorem q_cPe (T B p : Int) (md : Int32) (hB : 0 < B) : ∃ w, q_cP T B p md w := by
  have h1 := Int.emod_add_mul_ediv (T * p) B
  have h2 := Int.emod_nonneg (T * p) (show B ≠ 0 by omega)
  rw [Int.mul_comm B (T * p / B)] at h1
  by_cases c : T * p - T * p / B * B = 0
  · exact ⟨_, Or.inl ⟨c, rfl⟩⟩
  · have hp : 0 < T * p - T * p / B * B := by omega
    by_cases u : q_up (T * p / B) (T * p - T * p / B * B) B md
    · exact ⟨_, Or.inr (Or.inl ⟨hp, u, rfl⟩)⟩
    · exact ⟨_, Or.inr (Or.inr ⟨hp, u, rfl⟩)⟩
theorem q_cPb {T B p : Int} {md : Int32} {w : Int} (h : q_cP T B p md w) : T * p / B ≤ w ∧ w ≤ T * p / B + 1 := by
  rcases h with ⟨a1, a2⟩ | ⟨a1, a2, a3⟩ | ⟨a1, a2, a3⟩ <;> omega
theorem q_upM {L R B R2 B2 : Int} {md : Int32} (hB : 0 < B) (hB2 : 0 < B2) (h : R * B2 ≤ R2 * B) (hu : q_up L R B md) : q_up L R2 B2 md := by
  have lt : B < 2 * R → B2 < 2 * R2 := by
    intro z
    have z1 := Int.mul_lt_mul_of_pos_right z hB2
    have z2 : B2 * B < 2 * R2 * B := by
      have e1 : 2 * R * B2 = 2 * (R * B2) := by grind
      have e2 : 2 * R2 * B = 2 * (R2 * B) := by grind
      have e3 : B2 * B = B * B2 := Int.mul_comm _ _
      omega
    exact Int.lt_of_mul_lt_mul_right z2 (by omega)
  have eq : 2 * R = B → B2 ≤ 2 * R2 := by
    intro z
    have z2 : B2 * B ≤ 2 * R2 * B := by
      have e1 : B * B2 = 2 * (R * B2) := by rw [← z]; grind
      have e2 : 2 * R2 * B = 2 * (R2 * B) := by grind
      have e3 : B2 * B = B * B2 := Int.mul_comm _ _
      omega
    exact Int.le_of_mul_le_mul_right z2 hB
  rcases hu with h1 | h1 | ⟨h1, h2 | ⟨h2, h3⟩⟩ | ⟨h1, h2 | ⟨h2, h3⟩⟩
  · exact Or.inl h1
  · exact Or.inr (Or.inl h1)
  · exact Or.inr (Or.inr (Or.inl ⟨h1, Or.inl (lt h2)⟩))
  · have := eq h2
    rcases Int.lt_or_eq_of_le this with z | z
    · exact Or.inr (Or.inr (Or.inl ⟨h1, Or.inl z⟩))
    · exact Or.inr (Or.inr (Or.inl ⟨h1, Or.inr ⟨z.symm, h3⟩⟩))
  · exact Or.inr (Or.inr (Or.inr ⟨h1, Or.inl (lt h2)⟩))
  · have := eq h2
    rcases Int.lt_or_eq_of_le this with z | z
    · exact Or.inr (Or.inr (Or.inr ⟨h1, Or.inl z⟩))
    · exact Or.inr (Or.inr (Or.inr ⟨h1, Or.inr ⟨z.symm, h3⟩⟩))
/-- what is greater is cut to what is no less -/
theorem q_cPm {T B T2 B2 p : Int} {md : Int32} {w w2 : Int} (hB : 0 < B) (hB2 : 0 < B2) (hp : 0 < p) (h : q_cP T B p md w) (k : q_cP T2 B2 p md w2) (hle : T * B2 ≤ T2 * B) : w ≤ w2 := by
  have b1 := q_cPb h
  have b2 := q_cPb k
  have hm : T * B2 * p ≤ T2 * B * p := Int.mul_le_mul_of_nonneg_right hle (by omega)
  have hm1 : T * p * B2 ≤ T2 * p * B := by
    have e1 : T * p * B2 = T * B2 * p := by grind
    have e2 : T2 * p * B = T2 * B * p := by grind
    omega
  have d1 := Int.emod_add_mul_ediv (T * p) B
  have d2 := Int.emod_nonneg (T * p) (show B ≠ 0 by omega)
  rw [Int.mul_comm B (T * p / B)] at d1
  have hL : T * p / B ≤ T2 * p / B2 := by
    rw [Int.le_ediv_iff_mul_le hB2]
    have z : T * p / B * B2 * B ≤ T2 * p * B := by
      have z1 : T * p / B * B * B2 ≤ T * p * B2 := Int.mul_le_mul_of_nonneg_right (by omega) (by omega)
      have e1 : T * p / B * B2 * B = T * p / B * B * B2 := by grind
      omega
    exact Int.le_of_mul_le_mul_right z hB
  rcases Int.lt_or_eq_of_le hL with z | z
  · omega
  · have hR : (T * p - T * p / B * B) * B2 ≤ (T2 * p - T2 * p / B2 * B2) * B := by
      rw [← z]
      have e1 : (T * p - T * p / B * B) * B2 = T * p * B2 - T * p / B * (B * B2) := by grind
      have e2 : (T2 * p - T * p / B * B2) * B = T2 * p * B - T * p / B * (B * B2) := by grind
      omega
    rcases h with ⟨a1, a2⟩ | ⟨a1, a2, a3⟩ | ⟨a1, a2, a3⟩
    · omega
    · have r2 : 0 < T2 * p - T2 * p / B2 * B2 := by
        rcases Int.lt_or_le 0 (T2 * p - T2 * p / B2 * B2) with y | y
        · exact y
        · have y1 := Int.mul_le_mul_of_nonneg_right y (show 0 ≤ B by omega)
          have y2 := Int.mul_pos a1 hB2
          omega
      have hu := q_upM hB hB2 hR a2
      rw [z] at hu
      rcases k with ⟨c1, c2⟩ | ⟨c1, c2, c3⟩ | ⟨c1, c2, c3⟩
      · omega
      · omega
      · exact absurd hu c2
    · omega
/-! the machine's cuts -/
theorem q_and1 (x : Int64) : x &&& 1 = 1 ↔ x.toInt % 2 = 1 := by
  have h1 : (x &&& 1 = 1) ↔ (x &&& 1).toBitVec = (1 : Int64).toBitVec := ⟨fun h => by rw [h], fun h => Int64.toBitVec_inj.mp h⟩
  rw [h1, Int64.toBitVec_and]
  have h2 : (x.toBitVec &&& (1 : Int64).toBitVec = (1 : Int64).toBitVec) ↔ (x.toBitVec &&& (1 : Int64).toBitVec).toNat = (1 : Int64).toBitVec.toNat := ⟨fun h => by rw [h], fun h => BitVec.eq_of_toNat_eq h⟩
  rw [h2, BitVec.toNat_and, show (1 : Int64).toBitVec.toNat = 1 from rfl, Nat.and_one_is_mod]
  have h3 : x.toInt = x.toBitVec.toInt := rfl
  have h4 := BitVec.toInt_eq_toNat_cond x.toBitVec
  rw [h3, h4]
  have h5 := x.toBitVec.isLt
  split <;> omega
theorem q_ev (x : Int64) : x - x / 2 * 2 = 0 ↔ ¬ x.toInt % 2 = 1 := by
  have h0 : ¬ (2 : Int64) = 0 := by decide
  have h1 := m_rem (u := x) h0
  rw [show (2 : Int64).toInt = 2 by decide] at h1
  have h2 : (x - x / 2 * 2 = 0) ↔ (x - x / 2 * 2).toInt = 0 := ⟨fun h => by rw [h]; rfl, fun h => Int64.toInt_inj.mp (by rw [h]; rfl)⟩
  rw [h2, h1, ← Int.dvd_iff_tmod_eq_zero]
  omega
theorem q_cutI {T B : Int64} {k : Nat} (hk : k ≤ 9) {md : Int32} (hmd : md = 0 ∨ md = 1 ∨ md = 2 ∨ md = 3 ∨ md = 4) (hT : T.toInt.natAbs * (m_pow (nI k)).toInt.natAbs < 2305843009213693952) (hB : 1 ≤ B.toInt) (hB2 : B.toInt < 2305843009213693952) :
    q_cP T.toInt B.toInt (m_pow (nI k)).toInt md (m_cut T B (nI k) md).toInt ∧ f_cutNum T B (nI k) md = m_cut T B (nI k) md := by
  have hp := q_powB hk
  obtain ⟨p, hpd⟩ : ∃ p, p = m_pow (nI k) := ⟨_, rfl⟩
  unfold f_cutNum m_cut
  rw [q_pow hk]
  rw [← hpd] at hp hT ⊢
  obtain ⟨x1, x2⟩ := m_mulB (x := T) (y := p) (B := T.toInt.natAbs) (C := p.toInt.natAbs) (Nat.le_refl _) (Nat.le_refl _) (by omega)
  have f0 := q_ffl (a := T * p) (b := B) (by omega) hB
  have f1 := q_mfl (a := T * p) (b := B) (by omega) hB
  have f2 := m_floorB (a := T * p) (b := B) (B := 2305843009213693951) (by omega) (by decide) hB
  have f3 := m_flr (a := T * p) (b := B) (B := 2305843009213693951) (by omega) (by decide) hB
  rw [f0]
  obtain ⟨L, hL⟩ : ∃ L, L = m_floor (T * p) B := ⟨_, rfl⟩
  rw [← hL] at f1 f2 f3 ⊢
  -- what is left
  have hLB : (L * B).toInt = L.toInt * B.toInt := by
    rw [Int64.toInt_mul]
    generalize L.toInt * B.toInt = z at *
    simp only [Int.bmod]
    split <;> omega
  have hR : (T * p - L * B).toInt = (T * p).toInt - L.toInt * B.toInt := by
    rw [Int64.toInt_sub, hLB]
    generalize L.toInt * B.toInt = z at *
    simp only [Int.bmod]
    split <;> omega
  obtain ⟨R, hRd⟩ : ∃ R, R = T * p - L * B := ⟨_, rfl⟩
  rw [← hRd] at hR ⊢
  have hR0 : 0 ≤ R.toInt ∧ R.toInt < B.toInt := by omega
  have e1 : (1 : Int64).toInt = 1 := rfl
  have e2 : (2 : Int64).toInt = 2 := by decide
  have e0 : (0 : Int64).toInt = 0 := rfl
  have h2R : (2 * R).toInt = 2 * R.toInt := by rw [(m_mulB (x := 2) (y := R) (B := 2) (C := 2305843009213693952) (by decide) (by omega) (by decide)).1, e2]
  have hL1 : (L + 1).toInt = L.toInt + 1 := (m_addB (x := L) (y := 1) (B := 2305843009213693952) (C := 1) (by omega) (by decide) (by decide)).1
  -- the conditions
  have cR0 : R = 0 ↔ R.toInt = 0 := ⟨fun h => by rw [h]; rfl, fun h => Int64.toInt_inj.mp (by rw [h]; rfl)⟩
  have cRle : R ≤ 0 ↔ R.toInt ≤ 0 := Int64.le_iff_toInt_le
  have cT : 0 ≤ T ↔ 0 ≤ T.toInt := Int64.le_iff_toInt_le
  have cL : L < 0 ↔ L.toInt < 0 := Int64.lt_iff_toInt_lt
  have cL0 : 0 ≤ L ↔ 0 ≤ L.toInt := Int64.le_iff_toInt_le
  have cB : B < 2 * R ↔ B.toInt < 2 * R.toInt := by rw [Int64.lt_iff_toInt_lt, h2R]
  have cBle : B ≤ 2 * R ↔ B.toInt ≤ 2 * R.toInt := by rw [Int64.le_iff_toInt_le, h2R]
  have cE : 2 * R = B ↔ 2 * R.toInt = B.toInt := by rw [← Int64.toInt_inj, h2R]
  have cO := q_and1 L
  have cV := q_ev L
  -- the sign of the top is the sign of the FLOOR
  have hsg : 0 ≤ T.toInt ↔ 0 ≤ L.toInt := by
    constructor
    · intro z
      rw [f1, x1]
      exact Int.ediv_nonneg (Int.mul_nonneg z (by omega)) (by omega)
    · intro z
      have h8 : 0 ≤ L.toInt * B.toInt := Int.mul_nonneg z (by omega)
      rcases Int.lt_or_le T.toInt 0 with y | y
      · have := Int.mul_lt_mul_of_pos_right y (show 0 < p.toInt by omega)
        rw [Int.zero_mul] at this
        omega
      · exact y
  have hval : ∀ w : Int64, ((R.toInt = 0 ∧ w = L) ∨ (0 < R.toInt ∧ q_up L.toInt R.toInt B.toInt md ∧ w = L + 1) ∨ (0 < R.toInt ∧ ¬ q_up L.toInt R.toInt B.toInt md ∧ w = L)) → q_cP T.toInt B.toInt p.toInt md w.toInt := by
    intro w h
    unfold q_cP
    rw [← x1, ← f1, ← hR]
    rcases h with ⟨a, b⟩ | ⟨a, b, c⟩ | ⟨a, b, c⟩
    · exact Or.inl ⟨a, by rw [b]⟩
    · exact Or.inr (Or.inl ⟨a, b, by rw [c, hL1]⟩)
    · exact Or.inr (Or.inr ⟨a, b, by rw [c]⟩)
  -- whether it goes upward, both ways
  have hM : m_cut3 T B L R md = if R.toInt = 0 then L else (if md = 0 then (if L.toInt < 0 then L + 1 else L) else if md = 1 then L else if md = 2 then L + 1 else if md = 3 then (if B.toInt < 2 * R.toInt then L + 1 else if 2 * R.toInt = B.toInt then (if 0 ≤ L.toInt then L + 1 else L) else L) else (if B.toInt < 2 * R.toInt then L + 1 else if 2 * R.toInt = B.toInt then (if L.toInt % 2 = 1 then L + 1 else L) else L)) := by
    unfold m_cut3
    rcases hmd with rfl | rfl | rfl | rfl | rfl
    · by_cases c1 : R.toInt = 0
      · simp [cR0, c1]
      · by_cases c2 : 0 ≤ L.toInt
        · simp [cR0, c1, cT, hsg, c2, show ¬ L.toInt < 0 by omega]
        · simp [cR0, c1, cT, hsg, c2, show L.toInt < 0 by omega]
    · by_cases c1 : R.toInt = 0 <;> simp [cR0, c1]
    · by_cases c1 : R.toInt = 0 <;> simp [cR0, c1]
    · by_cases c1 : R.toInt = 0
      · simp [cR0, c1]
      · by_cases c2 : 2 * R.toInt = B.toInt
        · by_cases c3 : 0 ≤ L.toInt <;> simp [cR0, c1, cT, hsg, cE, c2, c3, Int.lt_irrefl]
        · by_cases c3 : B.toInt < 2 * R.toInt
          · simp [cR0, c1, cE, cBle, c2, c3, show B.toInt ≤ 2 * R.toInt by omega]
          · simp [cR0, c1, cE, cBle, c2, c3, show ¬ B.toInt ≤ 2 * R.toInt by omega]
    · by_cases c1 : R.toInt = 0
      · simp [cR0, c1]
      · by_cases c2 : 2 * R.toInt = B.toInt
        · by_cases c3 : L.toInt % 2 = 1 <;> simp [cR0, c1, cE, c2, cV, c3, Int.lt_irrefl]
        · by_cases c3 : B.toInt < 2 * R.toInt
          · simp [cR0, c1, cE, cBle, c2, c3, show B.toInt ≤ 2 * R.toInt by omega]
          · simp [cR0, c1, cE, cBle, c2, c3, show ¬ B.toInt ≤ 2 * R.toInt by omega]
  have hC : f_cut2 (T * p) L B md = if R.toInt = 0 then L else (if md = 0 then (if L.toInt < 0 then L + 1 else L) else if md = 1 then L else if md = 2 then L + 1 else if md = 3 then (if B.toInt < 2 * R.toInt then L + 1 else if 2 * R.toInt = B.toInt then (if 0 ≤ L.toInt then L + 1 else L) else L) else (if B.toInt < 2 * R.toInt then L + 1 else if 2 * R.toInt = B.toInt then (if L.toInt % 2 = 1 then L + 1 else L) else L)) := by
    unfold f_cut2 f_cutUp
    rw [← hRd]
    by_cases c1 : R.toInt = 0
    · rw [if_pos (cRle.mpr (by omega)), if_pos c1]
    · rw [if_neg (fun z => by have := cRle.mp z; omega), if_neg c1]
      rcases hmd with rfl | rfl | rfl | rfl | rfl
      · by_cases c2 : L.toInt < 0 <;> simp [cL, c2]
      · simp
      · simp
      · by_cases c2 : B.toInt < 2 * R.toInt
        · simp [cB, c2]
        · by_cases c3 : 2 * R.toInt = B.toInt
          · by_cases c4 : 0 ≤ L.toInt <;> simp [cB, c2, cE, c3, cL0, c4]
          · simp [cB, c2, cE, c3]
      · by_cases c2 : B.toInt < 2 * R.toInt
        · simp [cB, c2]
        · by_cases c3 : 2 * R.toInt = B.toInt
          · by_cases c4 : L.toInt % 2 = 1 <;> simp [cB, c2, cE, c3, cO, c4]
          · simp [cB, c2, cE, c3]
  refine ⟨hval _ ?_, by rw [hC, hM]⟩
  rw [hM]
  unfold q_up
  by_cases c1 : R.toInt = 0
  · rw [if_pos c1]
    exact Or.inl ⟨c1, rfl⟩
  · rw [if_neg c1]
    have hp0 : 0 < R.toInt := by omega
    rcases hmd with rfl | rfl | rfl | rfl | rfl
    · by_cases c2 : L.toInt < 0
      · exact Or.inr (Or.inl ⟨hp0, Or.inl ⟨rfl, c2⟩, by simp [c2]⟩)
      · refine Or.inr (Or.inr ⟨hp0, ?_, by simp [c2]⟩)
        rintro (⟨-, z⟩ | z | ⟨z, -⟩ | ⟨z, -⟩)
        · exact c2 z
        · exact absurd z (by decide)
        · exact absurd z (by decide)
        · exact absurd z (by decide)
    · refine Or.inr (Or.inr ⟨hp0, ?_, by simp⟩)
      rintro (⟨z, -⟩ | z | ⟨z, -⟩ | ⟨z, -⟩)
      · exact absurd z (by decide)
      · exact absurd z (by decide)
      · exact absurd z (by decide)
      · exact absurd z (by decide)
    · exact Or.inr (Or.inl ⟨hp0, Or.inr (Or.inl rfl), by simp⟩)
    · by_cases c2 : B.toInt < 2 * R.toInt
      · exact Or.inr (Or.inl ⟨hp0, Or.inr (Or.inr (Or.inl ⟨rfl, Or.inl c2⟩)), by simp [c2]⟩)
      · by_cases c3 : 2 * R.toInt = B.toInt ∧ 0 ≤ L.toInt
        · exact Or.inr (Or.inl ⟨hp0, Or.inr (Or.inr (Or.inl ⟨rfl, Or.inr c3⟩)), by simp [c2, c3.1, c3.2]⟩)
        · refine Or.inr (Or.inr ⟨hp0, ?_, ?_⟩)
          · rintro (⟨z, -⟩ | z | ⟨-, z | z⟩ | ⟨z, -⟩)
            · exact absurd z (by decide)
            · exact absurd z (by decide)
            · exact c2 z
            · exact c3 z
            · exact absurd z (by decide)
          · by_cases c4 : 2 * R.toInt = B.toInt
            · have c5 : ¬ 0 ≤ L.toInt := fun z => c3 ⟨c4, z⟩
              simp [c2, c4, c5]
            · simp [c2, c4]
    · by_cases c2 : B.toInt < 2 * R.toInt
      · exact Or.inr (Or.inl ⟨hp0, Or.inr (Or.inr (Or.inr ⟨rfl, Or.inl c2⟩)), by simp [c2]⟩)
      · by_cases c3 : 2 * R.toInt = B.toInt ∧ L.toInt % 2 = 1
        · exact Or.inr (Or.inl ⟨hp0, Or.inr (Or.inr (Or.inr ⟨rfl, Or.inr c3⟩)), by simp [c2, c3.1, c3.2]⟩)
        · refine Or.inr (Or.inr ⟨hp0, ?_, ?_⟩)
          · rintro (⟨z, -⟩ | z | ⟨z, -⟩ | ⟨-, z | z⟩)
            · exact absurd z (by decide)
            · exact absurd z (by decide)
            · exact absurd z (by decide)
            · exact c2 z
            · exact c3 z
          · by_cases c4 : 2 * R.toInt = B.toInt
            · have c5 : ¬ L.toInt % 2 = 1 := fun z => c3 ⟨c4, z⟩
              simp [c2, c4, c5]
            · simp [c2, c4]
