/-! ===== the ROW, the TALLY, the house ===== -/
section RV14
variable {g g1 : CS} {kn : Int32} {tt bb : Nat → Int64} {eT eB oT oB : Int64} {pk : Nat} {ca rf : Int32} {vs : Nat → Value} {n9 : Nat}
theorem q_fdN {j c : Nat} (hc : tC g j = nI c) (hc2 : c ≤ 64) {i : Nat} (h1 : (tV g j i).toInt < 1) : ∀ (n : Nat), n < c → 1 ≤ i → i ≤ n → ∀ t b : Int64, foldL g j n t b = none := by
  intro n
  induction n with
  | zero => intro _ h2 h3; omega
  | succ n ih =>
    intro hn h2 h3 t b
    unfold foldL
    rw [q_at hc hc2 hn]
    by_cases e : i = n + 1
    · rw [← e, if_pos (q_lt1.mpr h1)]
    · split
      · rfl
      · split
        · rfl
        · exact ih (by omega) h2 (by omega) _ _
theorem s_fold (h : RV g kn tt bb eT eB oT oB pk ca rf vs n9) {i : Nat} (hi : i < 6) {o : Option (Int64 × Int64)} (ho : m_FO n9 vs o) : SMV kn tt bb eT eB oT oB pk ca rf vs n9 i o (f_fsR g 0 i) (f_fsW g 0 i) := by
  obtain ⟨c1, c2, c3⟩ := h.2.2.2.2
  have hv : ∀ k, k < n9 → tV g 0 k = m_rw vs k ∧ (m_rw vs k).toInt.natAbs ≤ 99999 := by
    intro k hk
    obtain ⟨x, x1, x2, x3⟩ := c3 k hk
    rw [q_rw x1]
    exact ⟨x2, by rw [Int32.toInt_toInt64]; exact x3⟩
  have hno : f_fold g 0 = none → SMV kn tt bb eT eB oT oB pk ca rf vs n9 i none (f_fsR g 0 i) (f_fsW g 0 i) := by
    intro e
    unfold f_fsR f_fsW f_foldR f_foldW
    rw [e]
    dsimp only
    rw [if_pos rfl, if_pos rfl]
    exact h.no (lz_rf g) i
  rcases ho with ⟨e, rfl⟩ | ⟨e, ⟨k, k1, k2, k3⟩, rfl⟩ | ⟨e, k1, rfl⟩
  · refine hno ?_
    unfold f_fold
    rw [c1, e, if_neg (by decide)]
  · refine hno ?_
    have e1 : nI n9 - 1 = nI (n9 - 1) := by
      obtain ⟨d, rfl⟩ : ∃ d, n9 = d + 1 := ⟨n9 - 1, by omega⟩
      rw [nI_pred]
      rfl
    unfold f_fold
    rw [c1, if_pos (show (1 : Int32) ≤ nI n9 from (nI_leI (a := 1) (by decide) (by omega)).mpr (by omega)), e1, nI_clamp (by omega)]
    exact q_fdN c1 (by omega) (by rw [(hv k k2).1]; exact k3) (n9 - 1) (by omega) k1 (by omega) _ _
  · exact h.fold (lz_rf g) hi c1 (by omega) (by omega) (fun k hk => (hv k hk).1) k1 (fun k hk => by have := (hv k hk).2; omega)
/-- say -/
theorem s_say (h : RV g kn tt bb eT eB oT oB pk ca rf vs n9) (hn : n9 < 16) {x : Int32} (hx : x.toInt.natAbs ≤ 99999) : tC (f_addLast g 0 x.toInt64) 0 = nI (n9 + 1) ∧ RV (f_addLast g 0 x.toInt64) kn tt bb eT eB oT oB pk ca rf (va_up vs n9 (.int x)) (n9 + 1) := by
  obtain ⟨h1, h2, h3, h4, c1, c2, c3⟩ := h
  rw [q_add c1 (by omega)]
  refine ⟨tC_uC _ _ _, h1, h2, h3, h4, tC_uC _ _ _, by omega, fun i hi => ?_⟩
  show ∃ y : Int32, va_up vs n9 (.int x) i = .int y ∧ tV (uV g 0 n9 x.toInt64) 0 i = y.toInt64 ∧ _
  rw [q_uV]
  by_cases e : i = n9
  · rw [e, va_up_self, va_up_self]
    exact ⟨x, rfl, rfl, hx⟩
  · rw [va_up_ne _ _ e, va_up_ne _ _ e]
    exact c3 i (by omega)
theorem s_uns (h : RV g kn tt bb eT eB oT oB pk ca rf vs n9) {k : Nat} (hk : k ≤ 16) : tC (f_uns g (nI k)) 0 = nI (n9 - k) ∧ RV (f_uns g (nI k)) kn tt bb eT eB oT oB pk ca rf vs (n9 - k) := by
  obtain ⟨h1, h2, h3, h4, c1, c2, c3⟩ := h
  have hset : ∀ m : Nat, m < n9 → f_keep g 0 (nI m) = uC g 0 (nI m) := by
    intro m hm
    unfold f_keep
    rw [if_neg (nI_pos (by omega)), c1, if_neg (fun z => absurd ((nI_leI (by omega) (by omega)).mp z) (by omega))]
  have hsame : ∀ m : Nat, n9 ≤ m → m ≤ 100 → f_keep g 0 (nI m) = g := by
    intro m hm hm2
    unfold f_keep
    rw [if_neg (nI_pos (by omega)), c1, if_pos ((nI_leI (by omega) (by omega)).mpr hm)]
  have hres : f_uns g (nI k) = f_keep g 0 (nI (n9 - k)) := by
    unfold f_uns
    rw [c1]
    by_cases c : n9 ≤ k
    · rw [if_pos ((nI_leI (by omega) (by omega)).mpr c), show n9 - k = 0 by omega]
      rfl
    · rw [if_neg (fun z => c ((nI_leI (by omega) (by omega)).mp z))]
      congr 1
      apply Int32.toInt_inj.mp
      rw [Int32.toInt_sub, nI_toInt (by omega), nI_toInt (by omega), nI_toInt (by omega)]
      simp only [Int.bmod]
      split <;> omega
  rw [hres]
  rcases Nat.lt_or_ge (n9 - k) n9 with z | z
  · rw [hset _ z]
    exact ⟨tC_uC _ _ _, h1, h2, h3, h4, tC_uC _ _ _, by omega, fun i hi => c3 i (by omega)⟩
  · have e : n9 - k = n9 := by omega
    rw [e, hsame n9 (Nat.le_refl _) (by omega)]
    exact ⟨c1, h1, h2, h3, h4, c1, c2, c3⟩
/-- knock -/
theorem s_kno (h : RV g kn tt bb eT eB oT oB pk ca rf vs n9) : RV (uI g 1 (tI g 1 + 1)) (kn + 1) tt bb eT eB oT oB pk ca rf vs n9 := by
  obtain ⟨h1, h2, h3, ⟨a1, a2, a3, a4, a5⟩, h5⟩ := h
  refine ⟨h1, h2, h3, ⟨?_, ?_, ?_, ?_, a5⟩, h5⟩
  · show va_up (tI g) 1 (tI g 1 + 1) 0 = _
    rw [va_up_ne _ _ (by decide), a1]
  · show va_up (tI g) 1 (tI g 1 + 1) 1 = _
    rw [va_up_self, a2]
  · show va_up (tI g) 1 (tI g 1 + 1) 2 = _
    rw [va_up_ne _ _ (by decide), a3]
  · show va_up (tI g) 1 (tI g 1 + 1) 3 = _
    rw [va_up_ne _ _ (by decide), a4]
theorem q_sum6 {t b u v : Int64} (h : m_F t b) (k : u.toInt.natAbs ≤ 10000000000002) (hv : 1 ≤ v.toInt ∧ v.toInt ≤ 1000000000) (hsm : u.toInt.natAbs ≤ 1000000000 ∨ (b.toInt ≤ 10000 ∧ v.toInt ≤ 10000)) {y : Int64} (hy : y.toInt = u.toInt * b.toInt) (i : Nat) :
    tT (f_gather g i t b u v) i = m_loT (t * v + y) (b * v) ∧ tB (f_gather g i t b u v) i = m_loB (t * v + y) (b * v) := by
  obtain ⟨x1, x2, x3, x4⟩ := q_gat (u := u) h k hv hsm hy
  unfold f_gather
  obtain ⟨y1, y2⟩ := q_bec6 x3 (by omega) (m_ne0 x4) g i
  exact ⟨y1.trans x1, y2.trans x2⟩
end RV14
