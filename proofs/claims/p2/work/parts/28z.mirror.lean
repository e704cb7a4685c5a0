/-! ===== the checksum's texts ===== -/
def tx_mrW (g : CS) (i : Nat) : CS := tx_wyW (f_depW (f_apart g 1 i) i) i
def tx_mrL (t b : Int64) : Nat → Nat → Nat × Nat → Nat × Nat
  | 0, _, q => q
  | n + 1, k, q => tx_mrL t b n (k + 1) (tx_wd (f_cutNum t b 3 (nI k)) 3 (0, q.2))
def tx_mr (g : CS) (i : Nat) (q : Nat × Nat) : Nat × Nat := tx_mrL (tT (tx_mrW g i) i) (tB (tx_mrW g i) i) 5 0 (tx_wy (f_depW (f_apart g 1 i) i) i (0, q.2))
theorem tx_mrL_m (t b : Int64) : ∀ (n k : Nat) (q : Nat × Nat), q.2 ≤ (tx_mrL t b n k q).2 := by
  intro n
  induction n with
  | zero => intro k q; exact Nat.le_refl _
  | succ n ih => intro k q; exact Nat.le_trans (tx_wd_m _ 3 (0, q.2)) (ih _ _)
theorem tx_mr_m (g : CS) (i : Nat) (q : Nat × Nat) : (tx_wy (f_depW (f_apart g 1 i) i) i (0, q.2)).2 ≤ (tx_mr g i q).2 := tx_mrL_m _ _ _ _ _
theorem tx_mrL_ok (t b : Int64) (B : Nat) : ∀ (n k : Nat) (q : Nat × Nat), q.1 ≤ q.2 → q.2 ≤ max B 3000 → (tx_mrL t b n k q).1 ≤ (tx_mrL t b n k q).2 ∧ (tx_mrL t b n k q).2 ≤ max B 3000 := by
  intro n
  induction n with
  | zero => intro k q h h2; exact ⟨h, h2⟩
  | succ n ih =>
    intro k q h h2
    have h3 := tx_wd_ok (f_cutNum t b 3 (nI k)) 3 (q := (0, q.2)) (Nat.zero_le _)
    unfold tx_ok at h3
    dsimp only at h3
    exact ih _ _ h3.2.2.1 (by omega)
theorem tx_mr_ok (g : CS) (i : Nat) (q : Nat × Nat) : (tx_mr g i q).1 ≤ (tx_mr g i q).2 ∧ q.2 ≤ (tx_mr g i q).2 ∧ (tx_mr g i q).2 ≤ max q.2 3000 := by
  have h3 := tx_wy_ok (f_depW (f_apart g 1 i) i) i (q := (0, q.2)) (Nat.zero_le _)
  unfold tx_ok at h3
  dsimp only at h3
  have h4 := tx_mrL_ok (tT (tx_mrW g i) i) (tB (tx_mrW g i) i) q.2 5 0 _ h3.2.2.1 (by omega)
  have h5 := tx_mr_m g i q
  exact ⟨h4.1, by omega, h4.2⟩
/-- what these leave as it is -/
def tx_sm (g g1 : CS) : Prop := tT g1 = tT g ∧ tB g1 = tB g ∧ tC g1 0 = tC g 0 ∧ tI g1 = tI g ∧ tV g1 0 = tV g 0
theorem tx_sm.rf (g : CS) : tx_sm g g := ⟨rfl, rfl, rfl, rfl, rfl⟩
theorem tx_sm.tr {g g1 g2 : CS} (h : tx_sm g g1) (h2 : tx_sm g1 g2) : tx_sm g g2 :=
  ⟨h2.1.trans h.1, h2.2.1.trans h.2.1, h2.2.2.1.trans h.2.2.1, h2.2.2.2.1.trans h.2.2.2.1, h2.2.2.2.2.trans h.2.2.2.2⟩
theorem tx_smC (g : CS) (v : Int32) : tx_sm g (uC g 1 v) := ⟨rfl, rfl, by simp [tC, uC, va_up], rfl, rfl⟩
theorem tx_smV (g : CS) (k : Nat) (v : Int64) : tx_sm g (uV g 1 k v) := ⟨rfl, rfl, rfl, rfl, by simp [tV, uV, va_up]⟩
theorem tx_smL (g : CS) (v : Int64) : tx_sm g (f_addLast g 1 v) := by
  unfold f_addLast
  split
  · exact tx_sm.rf g
  · split
    · exact tx_sm.rf g
    · exact (tx_smV g _ _).tr (tx_smC _ _)
theorem tx_smA (g : CS) (v : Int64) : tx_sm g (f_addTo g 1 v) := by
  unfold f_addTo
  split
  · exact tx_sm.rf g
  · split
    · exact tx_sm.rf g
    · exact tx_smV g _ _
theorem tx_smP : ∀ (n : Nat) (g : CS) (t b : Int64), tx_sm g (apartL 1 n g t b) := by
  intro n
  induction n with
  | zero => intro g t b; exact tx_sm.rf g
  | succ n ih =>
    intro g t b
    unfold apartL
    split
    · exact tx_sm.rf g
    · exact (tx_smL g _).tr (ih _ _ _)
theorem tx_smp (g : CS) (i : Nat) : tx_sm g (f_apart g 1 i) := (tx_smC g 0).tr (tx_smP 64 _ _ _)
theorem tx_smW (g : CS) (i : Nat) : tx_sm g (tx_wyW g i) := by
  unfold tx_wyW
  split
  · exact tx_sm.rf g
  · exact (tx_smp g i).tr (tx_smA _ _)
theorem tx_smD (g : CS) (i : Nat) : tx_sm g (f_depW g i) := by
  unfold f_depW
  split
  · exact tx_sm.rf g
  · exact tx_smp g i
theorem tx_smR (g : CS) (i : Nat) : tx_sm g (tx_mrW g i) := ((tx_smp g i).tr (tx_smD _ i)).tr (tx_smW _ i)
/-- the TALLY's three texts -/
def tx_mt (g : CS) (kp : Nat) (q : Nat × Nat) : Nat × Nat := tx_wf (tT g 11) (tB g 11) (0, (tx_wd (f_cutNum (tT g 10) (tB g 10) (tI g 3) 0) kp (0, (tx_wf (tT g 9) (tB g 9) (0, q.2)).2)).2)
theorem tx_mt_m2 (g : CS) (kp : Nat) (q : Nat × Nat) : (tx_wd (f_cutNum (tT g 10) (tB g 10) (tI g 3) 0) kp (0, (tx_wf (tT g 9) (tB g 9) (0, q.2)).2)).2 ≤ (tx_mt g kp q).2 := tx_wf_m _ _ (0, _)
theorem tx_mt_m1 (g : CS) (kp : Nat) (q : Nat × Nat) : (tx_wf (tT g 9) (tB g 9) (0, q.2)).2 ≤ (tx_mt g kp q).2 := Nat.le_trans (tx_wd_m _ kp (0, _)) (tx_mt_m2 g kp q)
theorem tx_mt_ok (g : CS) (kp : Nat) (q : Nat × Nat) (hkp : kp ≤ 9) : (tx_mt g kp q).1 ≤ (tx_mt g kp q).2 ∧ q.2 ≤ (tx_mt g kp q).2 ∧ (tx_mt g kp q).2 ≤ max q.2 3000 := by
  have h1 := tx_wf_ok (tT g 9) (tB g 9) (q := (0, q.2)) (Nat.zero_le _)
  have h2 := tx_wd_ok (f_cutNum (tT g 10) (tB g 10) (tI g 3) 0) kp (q := (0, (tx_wf (tT g 9) (tB g 9) (0, q.2)).2)) (Nat.zero_le _)
  have h3 := tx_wf_ok (tT g 11) (tB g 11) (q := (0, (tx_wd (f_cutNum (tT g 10) (tB g 10) (tI g 3) 0) kp (0, (tx_wf (tT g 9) (tB g 9) (0, q.2)).2)).2)) (Nat.zero_le _)
  unfold tx_ok at h1 h2 h3
  dsimp only at h1 h2 h3
  unfold tx_mt
  omega
/-- the checksum's world -/
def tx_dgL : Nat → Nat → CS → CS
  | 0, _, g => g
  | n + 1, k, g => tx_dgL n (k + 1) (tx_mrW g k)
def tx_dgW (g : CS) : CS := (f_isS (tx_dgL 6 0 g)).2
