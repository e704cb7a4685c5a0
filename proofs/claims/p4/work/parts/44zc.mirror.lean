/-! ===== what a call that only reckons leaves as it is ===== -/
def lz (g g1 : CS) : Prop := (∀ i, i < 6 ∨ i = 9 ∨ i = 10 → tT g1 i = tT g i ∧ tB g1 i = tB g i) ∧ tC g1 0 = tC g 0 ∧ tV g1 0 = tV g 0 ∧ tI g1 = tI g
theorem lz_rf (g : CS) : lz g g := ⟨fun _ _ => ⟨rfl, rfl⟩, rfl, rfl, rfl⟩
theorem lz.tr {a b c : CS} (h : lz a b) (k : lz b c) : lz a c := ⟨fun i hi => ⟨(k.1 i hi).1.trans (h.1 i hi).1, (k.1 i hi).2.trans (h.1 i hi).2⟩, k.2.1.trans h.2.1, k.2.2.1.trans h.2.2.1, k.2.2.2.trans h.2.2.2⟩
theorem lz_ite {g a b : CS} {w : Prop} {d : Decidable w} (h : lz g a) (k : lz g b) : lz g (@ite CS w d a b) := by
  cases d with
  | isTrue _ => exact h
  | isFalse _ => exact k
theorem lz_it2 {g : CS} {a b : Int32 × CS} {w : Prop} {d : Decidable w} (h : lz g a.2) (k : lz g b.2) : lz g (@ite (Int32 × CS) w d a b).2 := by
  cases d with
  | isTrue _ => exact h
  | isFalse _ => exact k
theorem lz_p0 {g x : CS} {r : Int32} (h : lz g x) : lz g (r, x).2 := h
theorem lz_sm {g g1 : CS} (h : tx_sm g g1) : lz g g1 := ⟨fun i _ => ⟨by rw [h.1], by rw [h.2.1]⟩, h.2.2.1, h.2.2.2.2, h.2.2.2.1⟩
def lzs (i : Nat) : Prop := 6 ≤ i ∧ i ≠ 9 ∧ i ≠ 10
theorem lzs_ne {i : Nat} (h : lzs i) {k : Nat} (hk : k < 6 ∨ k = 9 ∨ k = 10) : k ≠ i := by
  unfold lzs at h
  omega
theorem lz_T (g : CS) {i : Nat} (hi : lzs i) (v : Int64) : lz g (uT g i v) := ⟨fun k hk => ⟨va_up_ne _ _ (lzs_ne hi hk), rfl⟩, rfl, rfl, rfl⟩
theorem lz_B (g : CS) {i : Nat} (hi : lzs i) (v : Int64) : lz g (uB g i v) := ⟨fun k hk => ⟨rfl, va_up_ne _ _ (lzs_ne hi hk)⟩, rfl, rfl, rfl⟩
theorem lz_bec (g : CS) {i : Nat} (hi : lzs i) (t b : Int64) : lz g (f_become g i t b) := by
  unfold f_become
  exact lz_ite (lz_rf g) ((lz_T g hi _).tr (lz_B _ hi _))
theorem lz_asg (g : CS) {i : Nat} (hi : lzs i) (j : Nat) : lz g (f_assign g i j) := (lz_T g hi _).tr (lz_B _ hi _)
theorem lz_gat (g : CS) {i : Nat} (hi : lzs i) (t b u v : Int64) : lz g (f_gather g i t b u v) := lz_bec g hi _ _
theorem lz_sum (g : CS) {i : Nat} (hi : lzs i) (j k : Nat) : lz g (f_sum g i j k) := lz_gat g hi _ _ _ _
theorem lz_dif (g : CS) {i : Nat} (hi : lzs i) (j k : Nat) : lz g (f_dif g i j k) := lz_gat g hi _ _ _ _
theorem lz_mul (g : CS) {i : Nat} (hi : lzs i) (j k : Nat) : lz g (f_mul g i j k) := lz_bec g hi _ _
theorem lz_quo (g : CS) {i : Nat} (hi : lzs i) (j k : Nat) : lz g (f_quo g i j k) := lz_bec g hi _ _
theorem lz_med (g : CS) {i : Nat} (hi : lzs i) (j k : Nat) : lz g (f_med g i j k) := lz_bec g hi _ _
theorem lz_foll (g : CS) {i : Nat} (hi : lzs i) (j : Nat) : lz g (f_foll g i j) := lz_bec g hi _ _
theorem lz_fore (g : CS) {i : Nat} (hi : lzs i) (j : Nat) : lz g (f_fore g i j) := lz_bec g hi _ _
theorem lz_nb (g : CS) {i : Nat} (hi : lzs i) (j : Nat) (bd sd : Int32) : lz g (f_nb g i j bd sd) := lz_bec g hi _ _
theorem lz_pow (g : CS) {i : Nat} (hi : lzs i) (j : Nat) (x : Int32) : lz g (f_power g i j x) := by
  unfold f_power
  exact lz_ite (lz_bec g hi _ _) (lz_bec g hi _ _)
theorem lz_last (g : CS) (v : Int64) : lz g (f_addLast g 1 v) := lz_sm (tx_smL g v)
theorem lz_add (g : CS) (v : Int64) : lz g (f_addTo g 1 v) := lz_sm (tx_smA g v)
theorem lz_apt (g : CS) (i : Nat) : lz g (f_apart g 1 i) := lz_sm (tx_smp g i)
theorem lz_keep (g : CS) (k : Int32) : lz g (f_keep g 1 k) := by
  unfold f_keep
  exact lz_ite (lz_rf g) (lz_ite (lz_rf g) (lz_sm (tx_smC g k)))
theorem lz_fw (g : CS) (j : Nat) {i : Nat} (hi : lzs i) : lz g (f_foldW g j i) := by
  unfold f_foldW
  split
  · exact lz_rf g
  · exact lz_bec g hi _ _
theorem lzs6 : lzs 6 := ⟨by decide, by decide, by decide⟩
theorem lzs7 : lzs 7 := ⟨by decide, by decide, by decide⟩
theorem lzs8 : lzs 8 := ⟨by decide, by decide, by decide⟩
theorem lz_upW (g : CS) (i : Nat) : lz g (f_upW g i) := (lz_apt g i).tr (lz_add _ _)
theorem lz_stU (g : CS) (i : Nat) : lz g (f_stUW g i) := (lz_upW g i).tr (lz_fw _ 1 lzs6)
theorem lz_dnG (g : CS) (b : Int32) : lz g (f_dnG g b) := by
  unfold f_dnG
  exact lz_ite (lz_ite (lz_add g 1) ((lz_add g (-1)).tr (lz_last _ 2))) (lz_ite (lz_add g 1) ((lz_add g (-1)).tr (lz_last _ 2)))
theorem lz_stD (g : CS) (i : Nat) (b : Int32) : lz g (f_stDW g i b) := ((lz_apt g i).tr (lz_dnG _ b)).tr (lz_fw _ 1 lzs6)
theorem lz_depW (g : CS) (i : Nat) : lz g (f_depW g i) := lz_sm (tx_smD g i)
theorem lz_bestG (g : CS) (j : Nat) (n : Int32) : lz g (f_bestG g j n) := (lz_nb g lzs7 j n 1).tr (lz_nb _ lzs8 j n (-1))
theorem lz_best (g : CS) (j : Nat) (n : Int32) : lz g (f_best g j n) := by
  unfold f_best
  exact lz_ite ((lz_bestG g j n).tr (lz_asg _ lzs6 8)) ((lz_bestG g j n).tr (lz_asg _ lzs6 7))
theorem lz_smp (g : CS) (j : Nat) (pl md : Int32) : lz g (f_sm g 6 j pl md) := by
  unfold f_sm
  split
  · exact lz_rf g
  · exact lz_bec g lzs6 _ _
/-! soundness -/
theorem lz_fsnd (g : CS) (i : Nat) : lz g (f_fsndW g i) := by
  unfold f_fsndW
  exact lz_ite ((lz_apt g i).tr (lz_fw _ 1 lzs6)) (lz_apt g i)
theorem lz_nsG (g : CS) (i k : Nat) : lz g (f_nsG g i k) := (lz_nb g lzs7 i _ 1).tr (lz_nb _ lzs8 i _ (-1))
theorem lz_nsL (i : Nat) : ∀ (n k : Nat) (g : CS), lz g (nsL i n k g).2 := by
  intro n
  induction n with
  | zero => intro k g; exact lz_rf g
  | succ n ih =>
    intro k g
    unfold nsL
    exact lz_it2 ((lz_nsG g i k).tr (ih _ _)) (lz_nsG g i k)
theorem lz_ts1 (g : CS) (i : Nat) (b : Int32) : lz g (f_ts1 g i b).2 := by
  have h1 := lz_stD g i b
  have h2 := (h1.tr (lz_asg _ lzs7 6)).tr (lz_stU _ 7)
  unfold f_ts1
  refine lz_it2 (lz_p0 h1) ?_
  refine lz_it2 (lz_p0 h2) ?_
  exact lz_it2 (lz_p0 h2) (lz_p0 h2)
theorem lz_ts2 (g : CS) (i : Nat) : lz g (f_ts2 g i).2 := (lz_foll g lzs7 i).tr (lz_fore _ lzs6 7)
theorem lz_tree (g : CS) (i : Nat) : lz g (f_tree g i).2 := by
  have h1 := lz_ts1 g i 0
  have h2 := h1.tr (lz_ts1 (f_ts1 g i 0).2 i 1)
  unfold f_tree
  exact lz_it2 (lz_it2 h1 (lz_it2 h2 (h2.tr (lz_ts2 _ i)))) (lz_rf g)
theorem lz_pr1 (g : CS) (a b : Nat) : lz g (f_pr1 g a b).2 := (lz_sum g lzs7 a b).tr (lz_dif _ lzs6 7 b)
theorem lz_inL (a : Nat) : ∀ (n b : Nat) (g : CS), lz g (inL a n b g).2 := by
  intro n
  induction n with
  | zero => intro b g; exact lz_rf g
  | succ n ih =>
    intro b g
    unfold inL
    exact lz_it2 (lz_pr1 g a b) ((lz_pr1 g a b).tr (ih _ _))
theorem lz_ouL : ∀ (n a : Nat) (g : CS), lz g (ouL n a g).2 := by
  intro n
  induction n with
  | zero => intro a g; exact lz_rf g
  | succ n ih =>
    intro a g
    unfold ouL
    exact lz_it2 (lz_inL a _ _ g) ((lz_inL a _ _ g).tr (ih _ _))
theorem lz_pairs (g : CS) : lz g (f_pairs g).2 := lz_ouL 6 0 g
theorem lz_snd1 (g : CS) (k : Nat) : lz g (f_snd1 g k).2 := by
  have h1 := lz_fsnd g k
  have h2 := h1.tr (lz_nsL k 12 1 (f_fsndW g k))
  have h3 := h2.tr (lz_tree (f_nsnd (f_fsndW g k) k).2 k)
  unfold f_snd1
  refine lz_it2 (lz_p0 h1) ?_
  refine lz_it2 (lz_p0 h2) ?_
  refine lz_it2 (lz_p0 h2) ?_
  refine lz_it2 (lz_p0 h2) ?_
  exact lz_it2 (lz_p0 h3) (lz_p0 h3)
theorem lz_sdL : ∀ (n k : Nat) (g : CS), lz g (sdL n k g).2 := by
  intro n
  induction n with
  | zero => intro k g; exact lz_rf g
  | succ n ih =>
    intro k g
    unfold sdL
    exact lz_it2 (lz_snd1 g k) ((lz_snd1 g k).tr (ih _ _))
theorem lz_fin (g : CS) : lz g (f_fin g).2 := by
  have h1 := lz_pairs g
  have h2 := h1.tr (lz_sum (f_pairs g).2 lzs6 10 11)
  unfold f_fin
  refine lz_it2 (lz_p0 h1) ?_
  exact lz_it2 (lz_p0 h2) (lz_p0 h2)
theorem lz_isS (g : CS) : lz g (f_isS g).2 := by
  have h1 := lz_sdL 6 0 g
  unfold f_isS
  exact lz_it2 h1 (h1.tr (lz_fin _))
theorem lz_dgL : ∀ (n k : Nat) (g : CS), lz g (tx_dgL n k g) := by
  intro n
  induction n with
  | zero => intro k g; exact lz_rf g
  | succ n ih =>
    intro k g
    unfold tx_dgL
    exact (lz_sm (tx_smR g k)).tr (ih _ _)
theorem lz_dgW (g : CS) : lz g (tx_dgW g) := (lz_dgL 6 0 g).tr (lz_isS _)
theorem nI_le64 {c : Nat} (h : c < 64) : ¬ (64 : Int32) ≤ nI c := fun z => absurd ((nI_leI (a := 64) (b := c) (by decide) (by omega)).mp z) (by omega)
theorem tC_uC (g : CS) (j : Nat) (v : Int32) : tC (uC g j v) j = v := va_up_self (tC g) j v
/-! ===== the class's state and the reference's, side by side ===== -/
def RV (g : CS) (kn : Int32) (tt bb : Nat → Int64) (eT eB oT oB : Int64) (pk : Nat) (ca rf : Int32) (vs : Nat → Value) (n9 : Nat) : Prop :=
  (∀ k, k < 6 → tT g k = tt k ∧ tB g k = bb k ∧ m_F (tt k) (bb k) ∧ L64 (tt k) (bb k)) ∧
  (tT g 9 = eT ∧ tB g 9 = eB ∧ m_F eT eB ∧ L64 eT eB) ∧ (tT g 10 = oT ∧ tB g 10 = oB ∧ m_F oT oB ∧ L64 oT oB) ∧
  (tI g 0 = rf ∧ tI g 1 = kn ∧ tI g 2 = ca ∧ tI g 3 = nI pk ∧ pk ≤ 4) ∧
  (tC g 0 = nI n9 ∧ n9 ≤ 16 ∧ ∀ i, i < n9 → ∃ x : Int32, vs i = .int x ∧ tV g 0 i = x.toInt64 ∧ x.toInt.natAbs ≤ 99999)
section RV5
variable {g g1 : CS} {kn : Int32} {tt bb : Nat → Int64} {eT eB oT oB : Int64} {pk : Nat} {ca rf : Int32} {vs : Nat → Value} {n9 : Nat}
theorem RV.lzv (h : RV g kn tt bb eT eB oT oB pk ca rf vs n9) (k : lz g g1) : RV g1 kn tt bb eT eB oT oB pk ca rf vs n9 := by
  obtain ⟨h1, h2, h3, h4, h5⟩ := h
  obtain ⟨k1, k2, k3, k4⟩ := k
  refine ⟨fun i hi => ?_, ?_, ?_, ?_, ?_⟩
  · rw [(k1 i (Or.inl hi)).1, (k1 i (Or.inl hi)).2]
    exact h1 i hi
  · rw [(k1 9 (Or.inr (Or.inl rfl))).1, (k1 9 (Or.inr (Or.inl rfl))).2]
    exact h2
  · rw [(k1 10 (Or.inr (Or.inr rfl))).1, (k1 10 (Or.inr (Or.inr rfl))).2]
    exact h3
  · rw [k4]
    exact h4
  · rw [k2, k3]
    exact h5
theorem RV.ref (h : RV g kn tt bb eT eB oT oB pk ca rf vs n9) : RV (f_refW g) kn tt bb eT eB oT oB pk ca (rf + 1) vs n9 := by
  obtain ⟨h1, h2, h3, ⟨a1, a2, a3, a4, a5⟩, h5⟩ := h
  refine ⟨h1, h2, h3, ⟨?_, ?_, ?_, ?_, a5⟩, h5⟩
  · show va_up (tI g) 0 (tI g 0 + 1) 0 = _
    rw [va_up_self, a1]
  · show va_up (tI g) 0 (tI g 0 + 1) 1 = _
    rw [va_up_ne _ _ (by decide), a2]
  · show va_up (tI g) 0 (tI g 0 + 1) 2 = _
    rw [va_up_ne _ _ (by decide), a3]
  · show va_up (tI g) 0 (tI g 0 + 1) 3 = _
    rw [va_up_ne _ _ (by decide), a4]
theorem q_fitF {t b : Int64} (h : ¬ m_fit t b = 0) (hb : L64 t b) : m_F t b := m_fit1 h hb.1
/-- which is the greater one -/
theorem q_prod {t b u v : Int64} (h : m_F t b) (k : m_F u v) : (t * v).toInt = t.toInt * v.toInt := by
  obtain ⟨a1, a2, a3⟩ := h
  obtain ⟨b1, b2, b3⟩ := k
  exact (m_mulB (x := t) (y := v) (B := 1000000000) (C := 1000000000) a1 (by omega) (by decide)).1
theorem q_ord0 {t b u v : Int64} (h : (t * v).toInt = t.toInt * v.toInt) (k : (u * b).toInt = u.toInt * b.toInt) : m_ord t b u v = 0 ↔ t.toInt * v.toInt = u.toInt * b.toInt := by
  unfold m_ord
  have x1 := Int64.lt_iff_toInt_lt (x := t * v) (y := u * b)
  have x2 := Int64.lt_iff_toInt_lt (x := u * b) (y := t * v)
  rw [h, k] at x1 x2
  by_cases c1 : t * v < u * b
  · rw [if_pos c1]
    have := x1.mp c1
    exact ⟨fun z => absurd z (by decide), fun z => by omega⟩
  · rw [if_neg c1]
    by_cases c2 : u * b < t * v
    · rw [if_pos c2]
      have := x2.mp c2
      exact ⟨fun z => absurd z (by decide), fun z => by omega⟩
    · rw [if_neg c2]
      have d1 : ¬ t.toInt * v.toInt < u.toInt * b.toInt := fun z => c1 (x1.mpr z)
      have d2 : ¬ u.toInt * b.toInt < t.toInt * v.toInt := fun z => c2 (x2.mpr z)
      exact ⟨fun _ => by omega, fun _ => rfl⟩
theorem q_ord1 {t b u v : Int64} (h : (t * v).toInt = t.toInt * v.toInt) (k : (u * b).toInt = u.toInt * b.toInt) : m_ord t b u v = 1 ↔ u.toInt * b.toInt < t.toInt * v.toInt := by
  unfold m_ord
  have x1 := Int64.lt_iff_toInt_lt (x := t * v) (y := u * b)
  have x2 := Int64.lt_iff_toInt_lt (x := u * b) (y := t * v)
  rw [h, k] at x1 x2
  by_cases c1 : t * v < u * b
  · rw [if_pos c1]
    have := x1.mp c1
    exact ⟨fun z => absurd z (by decide), fun z => by omega⟩
  · rw [if_neg c1]
    by_cases c2 : u * b < t * v
    · rw [if_pos c2]
      exact ⟨fun _ => x2.mp c2, fun _ => rfl⟩
    · rw [if_neg c2]
      exact ⟨fun z => absurd z (by decide), fun z => absurd (x2.mpr z) c2⟩
theorem q_ordm {t b u v : Int64} (h : (t * v).toInt = t.toInt * v.toInt) (k : (u * b).toInt = u.toInt * b.toInt) : m_ord t b u v = -1 ↔ t.toInt * v.toInt < u.toInt * b.toInt := by
  unfold m_ord
  have x1 := Int64.lt_iff_toInt_lt (x := t * v) (y := u * b)
  rw [h, k] at x1
  by_cases c1 : t * v < u * b
  · rw [if_pos c1]
    exact ⟨fun _ => x1.mp c1, fun _ => rfl⟩
  · rw [if_neg c1]
    have d1 : ¬ t.toInt * v.toInt < u.toInt * b.toInt := fun z => c1 (x1.mpr z)
    split
    · exact ⟨fun z => absurd z (by decide), fun z => absurd z d1⟩
    · exact ⟨fun z => absurd z (by decide), fun z => absurd z d1⟩
theorem q_ordE {t b u v : Int64} (h : m_F t b) (k : m_F u v) (h1 : L64 t b) (k1 : L64 u v) : m_ord t b u v = 0 ↔ t = u ∧ b = v := by
  rw [q_ord0 (q_prod h k) (q_prod k h)]
  constructor
  · intro e
    exact L64.eq h1 k1 e
  · rintro ⟨rfl, rfl⟩
    rfl
theorem q_same {t b u v : Int64} : f_same t b u v = 0 ↔ ¬ (t = u ∧ b = v) := by
  unfold f_same
  by_cases c1 : t = u
  · rw [if_pos c1]
    by_cases c2 : b = v
    · rw [if_pos c2]
      exact ⟨fun z => absurd z (by decide), fun z => absurd ⟨c1, c2⟩ z⟩
    · rw [if_neg c2]
      exact ⟨fun _ z => c2 z.2, fun _ => rfl⟩
  · rw [if_neg c1]
    exact ⟨fun _ z => c1 z.1, fun _ => rfl⟩
theorem va_up_id {α : Type} (f : Nat → α) (k j : Nat) : va_up f k (f k) j = f j := by
  by_cases e : j = k
  · rw [e, va_up_self]
  · rw [va_up_ne _ _ e]
/-- a RATIO is set -/
theorem RV.put (h : RV g kn tt bb eT eB oT oB pk ca rf vs n9) {i : Nat} (hi : i < 6) {t b : Int64} (hF : m_F t b) (hL : L64 t b) : RV (uB (uT g i t) i b) kn (va_up tt i t) (va_up bb i b) eT eB oT oB pk ca rf vs n9 := by
  obtain ⟨h1, h2, h3, h4, h5⟩ := h
  refine ⟨fun k hk => ?_, ?_, ?_, h4, h5⟩
  · show va_up (tT g) i t k = _ ∧ va_up (tB g) i b k = _ ∧ _
    by_cases e : k = i
    · rw [e, va_up_self, va_up_self, va_up_self, va_up_self]
      exact ⟨rfl, rfl, hF, hL⟩
    · rw [va_up_ne _ _ e, va_up_ne _ _ e, va_up_ne _ _ e, va_up_ne _ _ e]
      exact h1 k hk
  · show va_up (tT g) i t 9 = _ ∧ va_up (tB g) i b 9 = _ ∧ _
    rw [va_up_ne _ _ (by omega), va_up_ne _ _ (by omega)]
    exact h2
  · show va_up (tT g) i t 10 = _ ∧ va_up (tB g) i b 10 = _ ∧ _
    rw [va_up_ne _ _ (by omega), va_up_ne _ _ (by omega)]
    exact h3
theorem RV.cong (h : RV g kn tt bb eT eB oT oB pk ca rf vs n9) {t2 b2 : Nat → Int64} (e : ∀ k, k < 6 → t2 k = tt k ∧ b2 k = bb k) : RV g kn t2 b2 eT eB oT oB pk ca rf vs n9 :=
  ⟨fun k hk => by rw [(e k hk).1, (e k hk).2]; exact h.1 k hk, h.2⟩
/-- the end of every act: what was made, or REFUSED -/
theorem RV.set (h : RV g kn tt bb eT eB oT oB pk ca rf vs n9) (hz : lz g g1) {i : Nat} (hi : i < 6) {t b : Int64} (e1 : tT g1 6 = t) (e2 : tB g1 6 = b) (hL : L64 t b) :
    f_setR g1 i = beR tt bb i (some (t, b)) ∧ RV (f_setW g1 i) kn (beT tt i (some (t, b))) (beB bb i (some (t, b))) eT eB oT oB pk ca (beF rf (some (t, b))) vs n9 := by
  have h1 := h.lzv hz
  obtain ⟨a1, a2, a3, a4⟩ := h1.1 i hi
  unfold f_setR f_setW
  rw [e1, e2, a1, a2]
  by_cases c : m_fit t b = 0
  · have c0 : f_fit t b = 0 := c
    rw [if_pos c0, if_pos c0]
    simp only [beR, beT, beB, beF, if_pos c]
    exact ⟨by first | rfl | trivial, h1.ref⟩
  · have c0 : ¬ f_fit t b = 0 := c
    have hF := q_fitF c hL
    have ho := q_ordE a3 hF a4 hL
    rw [if_neg c0, if_neg c0]
    simp only [beR, beT, beB, beF, if_neg c]
    by_cases d : tt i = t ∧ bb i = b
    · have s1 : ¬ f_same t b (tt i) (bb i) = 0 := fun z => (q_same.mp z) ⟨d.1.symm, d.2.symm⟩
      rw [if_neg s1, if_neg s1, if_pos (ho.mpr d)]
      refine ⟨rfl, h1.cong fun k hk => ?_⟩
      rw [← d.1, ← d.2]
      exact ⟨va_up_id tt i k, va_up_id bb i k⟩
    · have s1 : f_same t b (tt i) (bb i) = 0 := q_same.mpr (fun z => d ⟨z.1.symm, z.2.symm⟩)
      rw [if_pos s1, if_pos s1, if_neg (fun z => d (ho.mp z))]
      refine ⟨rfl, ?_⟩
      unfold f_assign
      rw [e1, e2]
      exact h1.put hi hF hL
/-- REFUSED at once -/
theorem RV.no (h : RV g kn tt bb eT eB oT oB pk ca rf vs n9) (hz : lz g g1) (i : Nat) : (-9 : Int32) = beR tt bb i none ∧ RV (f_refW g1) kn (beT tt i none) (beB bb i none) eT eB oT oB pk ca (beF rf none) vs n9 := ⟨rfl, (h.lzv hz).ref⟩
/-- what becomes of two numbers -/
theorem q_asT (g : CS) (i j : Nat) : tT (f_assign g i j) i = tT g j := va_up_self g.1 i (tT g j)
theorem q_asB (g : CS) (i j : Nat) : tB (f_assign g i j) i = tB g j := va_up_self g.2.1 i (tB g j)
theorem q_bec6 {t b : Int64} (ht : -9223372036854775808 < t.toInt) (hb : -9223372036854775808 < b.toInt) (h0 : ¬ b = 0) (g : CS) (i : Nat) : tT (f_become g i t b) i = m_loT t b ∧ tB (f_become g i t b) i = m_loB t b := by
  obtain ⟨e1, e2⟩ := q_bec ht hb h0
  unfold f_become
  rw [if_neg h0, e1, e2]
  exact ⟨va_up_self g.1 i _, va_up_self g.2.1 i _⟩
theorem RV.bec (h : RV g kn tt bb eT eB oT oB pk ca rf vs n9) (hz : lz g g1) {i : Nat} (hi : i < 6) {t b u v : Int64} (ht : -9223372036854775808 < t.toInt) (hb : -9223372036854775808 < b.toInt) (h0 : ¬ b = 0) (e1 : m_loT t b = u) (e2 : m_loB t b = v) :
    f_setR (f_become g1 6 t b) i = beR tt bb i (some (u, v)) ∧ RV (f_setW (f_become g1 6 t b) i) kn (beT tt i (some (u, v))) (beB bb i (some (u, v))) eT eB oT oB pk ca (beF rf (some (u, v))) vs n9 := by
  obtain ⟨q1, q2⟩ := q_bec6 ht hb h0 g1 6
  have hl := (q_lo ht hb h0).1
  rw [e1] at q1 hl
  rw [e2] at q2 hl
  exact h.set (hz.tr (lz_bec g1 lzs6 t b)) hi q1 q2 hl
end RV5
/-! ===== the acts that reckon ===== -/
section RV6
variable {g : CS} {kn : Int32} {tt bb : Nat → Int64} {eT eB oT oB : Int64} {pk : Nat} {ca rf : Int32} {vs : Nat → Value} {n9 : Nat}
/-- an act of both sides: the same answer, the same state -/
def SMV (kn : Int32) (tt bb : Nat → Int64) (eT eB oT oB : Int64) (pk : Nat) (ca rf : Int32) (vs : Nat → Value) (n9 i : Nat) (o : Option (Int64 × Int64)) (r : Int32) (g1 : CS) : Prop := r = beR tt bb i o ∧ RV g1 kn (beT tt i o) (beB bb i o) eT eB oT oB pk ca (beF rf o) vs n9
theorem SMV.cast {i : Nat} {o o1 : Option (Int64 × Int64)} {r : Int32} (h : SMV kn tt bb eT eB oT oB pk ca rf vs n9 i o r g) (e : o = o1) : SMV kn tt bb eT eB oT oB pk ca rf vs n9 i o1 r g := e ▸ h
theorem q_i32 (x : Int32) : -9223372036854775808 < x.toInt64.toInt := by
  have := m_i32 x
  omega
theorem q_i0 {x : Int32} (h : ¬ x = 0) : ¬ x.toInt64 = 0 := fun z => h (Int32.toInt_inj.mp (by
  have := congrArg Int64.toInt z
  rw [Int32.toInt_toInt64] at this
  rw [this]
  rfl))
theorem s_put (h : RV g kn tt bb eT eB oT oB pk ca rf vs n9) {i : Nat} (hi : i < 6) {x y : Int32} (hy : ¬ y = 0) : SMV kn tt bb eT eB oT oB pk ca rf vs n9 i (LO x.toInt64 y.toInt64) (f_setR (f_become g 6 x.toInt64 y.toInt64) i) (f_setW (f_become g 6 x.toInt64 y.toInt64) i) :=
  h.bec (lz_rf g) hi (q_i32 x) (q_i32 y) (q_i0 hy) rfl rfl
theorem q_pow {k : Nat} (hk : k ≤ 9) : f_p10 (nI k) = m_pow (nI k) := by
  have hall : ∀ i : Fin 10, f_p10 (nI i.val) = m_pow (nI i.val) := by decide +kernel
  exact hall ⟨k, by omega⟩
theorem q_powB {k : Nat} (hk : k ≤ 9) : 1 ≤ (m_pow (nI k)).toInt ∧ (m_pow (nI k)).toInt ≤ 1000000000 := by
  rw [← q_pow hk]
  exact f_p10_bd _
theorem s_ptd (h : RV g kn tt bb eT eB oT oB pk ca rf vs n9) {i : Nat} (hi : i < 6) {x : Int32} {k : Nat} (hk : k ≤ 9) : SMV kn tt bb eT eB oT oB pk ca rf vs n9 i (LO x.toInt64 (m_pow (nI k))) (f_setR (f_become g 6 x.toInt64 (f_p10 (nI k))) i) (f_setW (f_become g 6 x.toInt64 (f_p10 (nI k))) i) := by
  have hp := q_powB hk
  rw [q_pow hk]
  exact h.bec (lz_rf g) hi (q_i32 x) (by omega) (m_ne0 hp.1) rfl rfl
theorem s_cpy (h : RV g kn tt bb eT eB oT oB pk ca rf vs n9) {i j : Nat} (hi : i < 6) (hj : j < 6) : SMV kn tt bb eT eB oT oB pk ca rf vs n9 i (some (tt j, bb j)) (f_setR (f_assign g 6 j) i) (f_setW (f_assign g 6 j) i) := by
  obtain ⟨a1, a2, a3, a4⟩ := h.1 j hj
  exact h.set (lz_asg g lzs6 j) hi ((q_asT g 6 j).trans a1) ((q_asB g 6 j).trans a2) a4
theorem q_fit1 {t b : Int64} (h : m_F t b) : ¬ m_fit t b = 0 := by
  obtain ⟨a1, a2, a3⟩ := h
  have e1 : (1000000000 : Int64).toInt = 1000000000 := by decide
  have e2 : (-1000000000 : Int64).toInt = -1000000000 := by decide
  have c1 : ¬ t < -1000000000 := fun z => by have := Int64.lt_iff_toInt_lt.mp z; omega
  have c2 : ¬ 1000000000 < t := fun z => by have := Int64.lt_iff_toInt_lt.mp z; omega
  have c3 : ¬ 1000000000 < b := fun z => by have := Int64.lt_iff_toInt_lt.mp z; omega
  unfold m_fit
  rw [if_neg c1, if_neg c2, if_neg c3]
  decide
theorem s_swp (h : RV g kn tt bb eT eB oT oB pk ca rf vs n9) {i k : Nat} (hi : i < 6) (hk : k < 6) :
    f_setR (f_swap g i k) i = (if m_ord (va_up (va_up tt i (tt k)) k (tt i) i) (va_up (va_up bb i (bb k)) k (bb i) i) (tt i) (bb i) = 0 then 0 else 1) ∧ RV (f_setW (f_swap g i k) i) kn (va_up (va_up tt i (tt k)) k (tt i)) (va_up (va_up bb i (bb k)) k (bb i)) eT eB oT oB pk ca rf vs n9 := by
  obtain ⟨a1, a2, a3, a4⟩ := h.1 i hi
  obtain ⟨c1, c2, c3, c4⟩ := h.1 k hk
  have h1 := h.lzv (lz_asg g lzs6 k)
  obtain ⟨g1, hg1⟩ : ∃ z, z = f_assign g 6 k := ⟨_, rfl⟩
  have m1 : tT g1 6 = tt k := by rw [hg1]; exact (q_asT g 6 k).trans c1
  have m2 : tB g1 6 = bb k := by rw [hg1]; exact (q_asB g 6 k).trans c2
  rw [← hg1] at h1
  obtain ⟨d1, d2, -, -⟩ := h1.1 i hi
  have e0 : f_swap g i k = uB (uT g1 k (tt i)) k (bb i) := by
    unfold f_swap
    rw [← hg1]
    unfold f_assign
    rw [d1, d2]
  have h2 := h1.put hk a3 a4
  have n1 : tT (uB (uT g1 k (tt i)) k (bb i)) 6 = tt k := (va_up_ne (tT g1) (tt i) (show 6 ≠ k by omega)).trans m1
  have n2 : tB (uB (uT g1 k (tt i)) k (bb i)) 6 = bb k := (va_up_ne (tB g1) (bb i) (show 6 ≠ k by omega)).trans m2
  obtain ⟨r1, r2⟩ := h2.set (lz_rf _) hi n1 n2 c4
  have hf := q_fit1 c3
  have f1 : va_up tt k (tt i) i = tt i := by
    by_cases e : i = k
    · rw [e, va_up_self]
    · rw [va_up_ne _ _ e]
  have f2 : va_up bb k (bb i) i = bb i := by
    by_cases e : i = k
    · rw [e, va_up_self]
    · rw [va_up_ne _ _ e]
  have f3 : va_up (va_up tt i (tt k)) k (tt i) i = tt k := by
    by_cases e : i = k
    · rw [e, va_up_self]
    · rw [va_up_ne _ _ e, va_up_self]
  have f4 : va_up (va_up bb i (bb k)) k (bb i) i = bb k := by
    by_cases e : i = k
    · rw [e, va_up_self]
    · rw [va_up_ne _ _ e, va_up_self]
  simp only [beR, beT, beB, beF, if_neg hf] at r1 r2
  rw [f1, f2] at r1
  rw [e0, f3, f4]
  constructor
  · rw [r1]
    have x1 := q_ordE a3 c3 a4 c4
    have x2 := q_ordE c3 a3 c4 a4
    by_cases z : tt i = tt k ∧ bb i = bb k
    · rw [if_pos (x1.mpr z), if_pos (x2.mpr ⟨z.1.symm, z.2.symm⟩)]
    · rw [if_neg (fun q => z (x1.mp q)), if_neg (fun q => z ⟨(x2.mp q).1.symm, (x2.mp q).2.symm⟩)]
  · refine r2.cong fun q hq => ?_
    by_cases e : q = i
    · rw [e, f3, f4, va_up_self, va_up_self]
      exact ⟨rfl, rfl⟩
    · rw [va_up_ne (va_up tt k (tt i)) _ e, va_up_ne (va_up bb k (bb i)) _ e]
      by_cases e2 : q = k
      · rw [e2, va_up_self, va_up_self, va_up_self, va_up_self]
        exact ⟨rfl, rfl⟩
      · rw [va_up_ne _ _ e2, va_up_ne _ _ e2, va_up_ne _ _ e2, va_up_ne _ _ e2, va_up_ne _ _ e, va_up_ne _ _ e]
        exact ⟨rfl, rfl⟩
/-- over the least common bottom it is the same sum -/
theorem q_gat {t b u v y : Int64} (h : m_F t b) (k : u.toInt.natAbs ≤ 10000000000002) (hv : 1 ≤ v.toInt ∧ v.toInt ≤ 1000000000) (hsm : u.toInt.natAbs ≤ 1000000000 ∨ (b.toInt ≤ 10000 ∧ v.toInt ≤ 10000)) (hy : y.toInt = u.toInt * b.toInt) :
    m_loT (t * f_floorOf v (f_gcd b v) + u * f_floorOf b (f_gcd b v)) (f_floorOf b (f_gcd b v) * v) = m_loT (t * v + y) (b * v) ∧ m_loB (t * f_floorOf v (f_gcd b v) + u * f_floorOf b (f_gcd b v)) (f_floorOf b (f_gcd b v) * v) = m_loB (t * v + y) (b * v) ∧
    -9223372036854775808 < (t * f_floorOf v (f_gcd b v) + u * f_floorOf b (f_gcd b v)).toInt ∧ 1 ≤ (f_floorOf b (f_gcd b v) * v).toInt := by
  obtain ⟨a1, a2, a3⟩ := h
  rw [q_fgcd (by omega) (by omega)]
  have hg := m_divI (a := b) (b := v) (by omega) (by omega)
  have hg1 : 0 < Nat.gcd v.toInt.natAbs b.toInt.natAbs := Nat.gcd_pos_of_pos_left _ (by omega)
  have hgd1 : (m_div b v).toInt ∣ v.toInt := by rw [hg]; exact Int.ofNat_dvd_left.mpr (Nat.gcd_dvd_left _ _)
  have hgd2 : (m_div b v).toInt ∣ b.toInt := by rw [hg]; exact Int.ofNat_dvd_left.mpr (Nat.gcd_dvd_right _ _)
  have hy1 : 1 ≤ (m_div b v).toInt := by omega
  obtain ⟨c, hc⟩ : ∃ c, c = m_div b v := ⟨_, rfl⟩
  rw [← hc] at hgd1 hgd2 hy1 ⊢
  rw [q_flx (by omega) (by omega) hgd1, q_flx (by omega) (by omega) hgd2]
  obtain ⟨d1, d2⟩ := m_tdv (x := v) (y := c) (by omega) hy1
  obtain ⟨e1, e2⟩ := m_tdv (x := b) (y := c) (by omega) hy1
  have k1 : v.toInt.tdiv c.toInt * c.toInt = v.toInt := Int.tdiv_mul_cancel hgd1
  have k2 : b.toInt.tdiv c.toInt * c.toInt = b.toInt := Int.tdiv_mul_cancel hgd2
  rw [← d1] at k1
  rw [← e1] at k2
  obtain ⟨q, hq⟩ : ∃ q, q = v / c := ⟨_, rfl⟩
  obtain ⟨p, hp⟩ : ∃ p, p = b / c := ⟨_, rfl⟩
  rw [← hq] at k1 d1 d2 ⊢
  rw [← hp] at k2 e1 e2 ⊢
  have q0 : 0 ≤ q.toInt := by rw [d1]; exact Int.tdiv_nonneg (by omega) (by omega)
  have p0 : 0 ≤ p.toInt := by rw [e1]; exact Int.tdiv_nonneg (by omega) (by omega)
  have qle : q.toInt.natAbs ≤ v.toInt.natAbs := by rw [d2]; exact Nat.div_le_self _ _
  have ple : p.toInt.natAbs ≤ b.toInt.natAbs := by rw [e2]; exact Nat.div_le_self _ _
  have p1 : 1 ≤ p.toInt := by
    rcases Int.lt_or_le p.toInt 1 with z | z
    · have : p.toInt = 0 := by omega
      rw [this, Int.zero_mul] at k2
      omega
    · exact z
  -- the products
  obtain ⟨x1, x1b⟩ := m_mulB (x := t) (y := q) (B := 1000000000) (C := 1000000000) a1 (by omega) (by decide)
  obtain ⟨x3, x3b⟩ := m_mulB (x := t) (y := v) (B := 1000000000) (C := 1000000000) a1 (by omega) (by decide)
  obtain ⟨x5, x5b⟩ := m_mulB (x := b) (y := v) (B := 1000000000) (C := 1000000000) (by omega) (by omega) (by decide)
  obtain ⟨x6, x6b⟩ := m_mulB (x := p) (y := v) (B := 1000000000) (C := 1000000000) (by omega) (by omega) (by decide)
  have hup : (u * p).toInt = u.toInt * p.toInt ∧ (u * p).toInt.natAbs ≤ 1000000000000000000 ∧ (u.toInt * b.toInt).natAbs ≤ 1000000000000000000 := by
    rcases hsm with z | z
    · obtain ⟨w1, w2⟩ := m_mulB (x := u) (y := p) (B := 1000000000) (C := 1000000000) z (by omega) (by decide)
      have w3 : u.toInt.natAbs * b.toInt.natAbs ≤ 1000000000 * 1000000000 := Nat.mul_le_mul z (by omega)
      rw [Int.natAbs_mul]
      exact ⟨w1, by omega, by omega⟩
    · obtain ⟨w1, w2⟩ := m_mulB (x := u) (y := p) (B := 10000000000002) (C := 10000) k (by omega) (by decide)
      have w3 : u.toInt.natAbs * b.toInt.natAbs ≤ 10000000000002 * 10000 := Nat.mul_le_mul k (by omega)
      rw [Int.natAbs_mul]
      exact ⟨w1, by omega, by omega⟩
  obtain ⟨x2, x2b, x4b⟩ := hup
  obtain ⟨s1, s1b⟩ := m_addB (x := t * q) (y := u * p) (B := 1000000000 * 1000000000) (C := 1000000000000000000) x1b x2b (by decide)
  obtain ⟨s2, s2b⟩ := m_addB (x := t * v) (y := y) (B := 1000000000 * 1000000000) (C := 1000000000000000000) x3b (by rw [hy]; exact x4b) (by decide)
  have b1 : 1 * 1 ≤ b.toInt * v.toInt := Int.mul_le_mul a2 hv.1 (by decide) (by omega)
  have b2 : 1 * 1 ≤ p.toInt * v.toInt := Int.mul_le_mul p1 hv.1 (by decide) (by omega)
  have hval : (t * q + u * p).toInt * (b * v).toInt = (t * v + y).toInt * (p * v).toInt := by
    rw [s1, s2, x1, x2, x3, x5, x6, hy, ← k1, ← k2]
    grind
  have hb1 : 1 ≤ (b * v).toInt := by rw [x5]; omega
  have hb2 : 1 ≤ (p * v).toInt := by rw [x6]; omega
  obtain ⟨y1, y2⟩ := q_loS (t := t * q + u * p) (b := p * v) (u := t * v + y) (v := b * v) (by omega) (by omega) (m_ne0 hb2) (by omega) (by omega) (m_ne0 hb1) hval
  exact ⟨y1, y2, by omega, hb2⟩
theorem s_pls (h : RV g kn tt bb eT eB oT oB pk ca rf vs n9) {i j k : Nat} (hi : i < 6) (hj : j < 6) (hk : k < 6) : SMV kn tt bb eT eB oT oB pk ca rf vs n9 i (LO (tt j * bb k + (1 : Int32).toInt64 * (tt k * bb j)) (bb j * bb k)) (f_setR (f_sum g 6 j k) i) (f_setW (f_sum g 6 j k) i) := by
  obtain ⟨a1, a2, a3, a4⟩ := h.1 j hj
  obtain ⟨c1, c2, c3, c4⟩ := h.1 k hk
  unfold f_sum f_gather
  rw [a1, a2, c1, c2]
  have hy : ((1 : Int32).toInt64 * (tt k * bb j)).toInt = (tt k).toInt * (bb j).toInt := by
    rw [show (1 : Int32).toInt64 = 1 by decide, Int64.one_mul]
    exact q_prod c3 a3
  obtain ⟨e1, e2, e3, e4⟩ := q_gat (u := tt k) a3 (by have := c3.1; omega) ⟨c3.2.1, c3.2.2⟩ (Or.inl c3.1) hy
  exact h.bec (lz_rf g) hi e3 (by omega) (m_ne0 e4) e1 e2
theorem s_min (h : RV g kn tt bb eT eB oT oB pk ca rf vs n9) {i j k : Nat} (hi : i < 6) (hj : j < 6) (hk : k < 6) : SMV kn tt bb eT eB oT oB pk ca rf vs n9 i (LO (tt j * bb k + (-1 : Int32).toInt64 * (tt k * bb j)) (bb j * bb k)) (f_setR (f_dif g 6 j k) i) (f_setW (f_dif g 6 j k) i) := by
  obtain ⟨a1, a2, a3, a4⟩ := h.1 j hj
  obtain ⟨c1, c2, c3, c4⟩ := h.1 k hk
  unfold f_dif f_gather
  rw [a1, a2, c1, c2]
  obtain ⟨n1, n2⟩ := m_negB c3.1 (by decide)
  have hy : ((-1 : Int32).toInt64 * (tt k * bb j)).toInt = (-(tt k)).toInt * (bb j).toInt := by
    obtain ⟨w1, w2⟩ := m_mulB (x := tt k) (y := bb j) (B := 1000000000) (C := 1000000000) c3.1 (by have := a3.2; omega) (by decide)
    rw [(m_mulB (x := (-1 : Int32).toInt64) (y := tt k * bb j) (B := 1) (C := 1000000000 * 1000000000) (by decide) w2 (by decide)).1, w1, n1, show (-1 : Int32).toInt64.toInt = -1 by decide, Int.neg_mul, Int.neg_mul, Int.one_mul]
  obtain ⟨e1, e2, e3, e4⟩ := q_gat (u := -(tt k)) a3 (by omega) ⟨c3.2.1, c3.2.2⟩ (Or.inl n2) hy
  exact h.bec (lz_rf g) hi e3 (by omega) (m_ne0 e4) e1 e2
theorem q_mB {t b u v : Int64} (h : m_F t b) (k : m_F u v) : (t * u).toInt.natAbs ≤ 1000000000000000000 ∧ (t * u).toInt = t.toInt * u.toInt ∧ 1 ≤ (b * v).toInt ∧ (b * v).toInt ≤ 1000000000000000000 ∧ (b * v).toInt = b.toInt * v.toInt := by
  obtain ⟨a1, a2, a3⟩ := h
  obtain ⟨b1, b2, b3⟩ := k
  obtain ⟨x1, x2⟩ := m_mulB (x := t) (y := u) (B := 1000000000) (C := 1000000000) a1 b1 (by decide)
  obtain ⟨y1, y2⟩ := m_mulB (x := b) (y := v) (B := 1000000000) (C := 1000000000) (by omega) (by omega) (by decide)
  have h0 : 1 * 1 ≤ b.toInt * v.toInt := Int.mul_le_mul a2 b2 (by decide) (by omega)
  exact ⟨by omega, x1, by omega, by omega, y1⟩
theorem s_tim (h : RV g kn tt bb eT eB oT oB pk ca rf vs n9) {i j k : Nat} (hi : i < 6) (hj : j < 6) (hk : k < 6) : SMV kn tt bb eT eB oT oB pk ca rf vs n9 i (LO (tt j * tt k) (bb j * bb k)) (f_setR (f_mul g 6 j k) i) (f_setW (f_mul g 6 j k) i) := by
  obtain ⟨a1, a2, a3, a4⟩ := h.1 j hj
  obtain ⟨c1, c2, c3, c4⟩ := h.1 k hk
  unfold f_mul
  rw [a1, a2, c1, c2]
  obtain ⟨e1, -, e3, -, -⟩ := q_mB a3 c3
  exact h.bec (lz_rf g) hi (by omega) (by omega) (m_ne0 e3) rfl rfl
theorem q_cmp0 {t : Int64} : f_cmp t 0 = 0 ↔ t = 0 := by
  unfold f_cmp
  by_cases c1 : t < 0
  · rw [if_pos c1]
    exact ⟨fun z => absurd z (by decide), fun z => by rw [z] at c1; exact absurd c1 (by decide)⟩
  · rw [if_neg c1]
    by_cases c2 : t = 0
    · rw [if_pos c2]
      exact ⟨fun _ => c2, fun _ => rfl⟩
    · rw [if_neg c2]
      exact ⟨fun z => absurd z (by decide), fun z => absurd z c2⟩
theorem s_ovr (h : RV g kn tt bb eT eB oT oB pk ca rf vs n9) {i j k : Nat} (hi : i < 6) (hj : j < 6) (hk : k < 6) : SMV kn tt bb eT eB oT oB pk ca rf vs n9 i (m_OV (tt j) (bb j) (tt k) (bb k)) (f_overR g i j k) (f_overW g i j k) := by
  obtain ⟨a1, a2, a3, a4⟩ := h.1 j hj
  obtain ⟨c1, c2, c3, c4⟩ := h.1 k hk
  unfold f_overR f_overW m_OV
  rw [c1]
  by_cases z : tt k = 0
  · rw [if_pos (q_cmp0.mpr z), if_pos (q_cmp0.mpr z), if_pos z]
    exact h.no (lz_rf g) i
  · rw [if_neg (fun q => z (q_cmp0.mp q)), if_neg (fun q => z (q_cmp0.mp q)), if_neg z]
    unfold f_quo
    rw [a1, a2, c1, c2]
    have hu := c3.2.1
    have hu2 := c3.2.2
    have hu3 := c3.1
    obtain ⟨l1, l2⟩ := q_lo (t := bb k) (b := tt k) (by omega) (by omega) z
    have hI := m_invP c3 z
    obtain ⟨u, hu9⟩ : ∃ u, u = m_loT (bb k) (tt k) := ⟨_, rfl⟩
    obtain ⟨v, hv9⟩ : ∃ v, v = m_loB (bb k) (tt k) := ⟨_, rfl⟩
    rw [← hu9, ← hv9] at l2 hI ⊢
    obtain ⟨e1, e2, e3, e4, e5⟩ := q_mB a3 hI
    obtain ⟨b1, b2, b3⟩ := a3
    obtain ⟨x1, x1b⟩ := m_mulB (x := tt j) (y := bb k) (B := 1000000000) (C := 1000000000) b1 (by omega) (by decide)
    obtain ⟨x2, x2b⟩ := m_mulB (x := bb j) (y := tt k) (B := 1000000000) (C := 1000000000) (by omega) hu3 (by decide)
    have x3 : ¬ bb j * tt k = 0 := fun q => by
      have q1 := congrArg Int64.toInt q
      rw [x2] at q1
      rcases Int.mul_eq_zero.mp q1 with q2 | q2
      · omega
      · exact q_ne0 z q2
    have hval : (tt j * bb k).toInt * (bb j * v).toInt = (tt j * u).toInt * (bb j * tt k).toInt := by
      rw [x1, x2, e2, e5]
      grind
    obtain ⟨y1, y2⟩ := q_loS (t := tt j * bb k) (b := bb j * tt k) (u := tt j * u) (v := bb j * v) (by omega) (by omega) x3 (by omega) (by omega) (m_ne0 e3) hval
    exact h.bec (lz_rf g) hi (by omega) (by omega) x3 y1 y2
theorem s_neg (h : RV g kn tt bb eT eB oT oB pk ca rf vs n9) {i : Nat} (hi : i < 6) : SMV kn tt bb eT eB oT oB pk ca rf vs n9 i (LO (-tt i) (bb i)) (f_setR (f_become g 6 (-tT g i) (tB g i)) i) (f_setW (f_become g 6 (-tT g i) (tB g i)) i) := by
  obtain ⟨a1, a2, a3, a4⟩ := h.1 i hi
  rw [a1, a2]
  have hn := (m_negB a3.1 (by decide)).2
  have hb := a3.2.1
  exact h.bec (lz_rf g) hi (by omega) (by omega) (m_ne0 hb) rfl rfl
theorem s_inv (h : RV g kn tt bb eT eB oT oB pk ca rf vs n9) {i : Nat} (hi : i < 6) : SMV kn tt bb eT eB oT oB pk ca rf vs n9 i (m_IV (tt i) (bb i)) (f_invR g i) (f_invW g i) := by
  obtain ⟨a1, a2, a3, a4⟩ := h.1 i hi
  unfold f_invR f_invW m_IV
  rw [a1, a2]
  have hb := a3.2
  have ht := a3.1
  by_cases z : tt i = 0
  · rw [if_pos (q_cmp0.mpr z), if_pos (q_cmp0.mpr z), if_pos z]
    exact h.no (lz_rf g) i
  · rw [if_neg (fun q => z (q_cmp0.mp q)), if_neg (fun q => z (q_cmp0.mp q)), if_neg z]
    exact h.bec (lz_rf g) hi (by omega) (by omega) z rfl rfl
theorem s_med (h : RV g kn tt bb eT eB oT oB pk ca rf vs n9) {i j k : Nat} (hi : i < 6) (hj : j < 6) (hk : k < 6) : SMV kn tt bb eT eB oT oB pk ca rf vs n9 i (LO (tt j + tt k) (bb j + bb k)) (f_setR (f_med g 6 j k) i) (f_setW (f_med g 6 j k) i) := by
  obtain ⟨a1, a2, a3, a4⟩ := h.1 j hj
  obtain ⟨c1, c2, c3, c4⟩ := h.1 k hk
  unfold f_med
  rw [a1, a2, c1, c2]
  obtain ⟨b1, b2, b3⟩ := a3
  obtain ⟨d1, d2, d3⟩ := c3
  obtain ⟨e1, e2⟩ := m_addB (x := tt j) (y := tt k) (B := 1000000000) (C := 1000000000) b1 d1 (by decide)
  obtain ⟨f1, f2⟩ := m_addB (x := bb j) (y := bb k) (B := 1000000000) (C := 1000000000) (by omega) (by omega) (by decide)
  exact h.bec (lz_rf g) hi (by omega) (by omega) (m_ne0 (by omega)) rfl rfl
end RV6
/-! ===== neighbours, side by side ===== -/
/-- fractions, held against each other in two forms -/
theorem q_lt {A B T k x y V w : Int} (hB : 0 < B) (hk : 0 < k) (hy : 0 < y) (hw : 0 < w) (h1 : A * k = T * B) (h2 : x * w = V * y) : A * y < x * B ↔ T * w < V * k := by
  have p1 : 0 < k * w := Int.mul_pos hk hw
  have p2 : 0 < B * y := Int.mul_pos hB hy
  rw [← Int.mul_lt_mul_right p1, ← Int.mul_lt_mul_right (a := B * y) (b := T * w) p2]
  have e1 : A * y * (k * w) = T * w * (B * y) := by
    have : A * y * (k * w) = (A * k) * (y * w) := by grind
    rw [this, h1]
    grind
  have e2 : x * B * (k * w) = V * k * (B * y) := by
    have : x * B * (k * w) = (x * w) * (B * k) := by grind
    rw [this, h2]
    grind
  rw [e1, e2]
theorem q_lNt {k : Nat} (hk : k < 2 ^ 31) : (lN k).toInt = (k : Int) := lN_toInt hk
/-- the ratio that a side and the class's two numbers tell -/
def q_nbI (s : Int) (x y bt bw : Int64) : Prop := L64 x y ∧ x.toInt * bw.toInt = s * bt.toInt * y.toInt ∧ 1 ≤ bw.toInt ∧ bw.toInt ≤ 200 ∧ bt.toInt.natAbs ≤ 200000000001 ∧ y.toInt ≤ 200 ∧ x.toInt.natAbs ≤ 200000000001
/-- what is tried by a bottom -/
theorem q_nbT {t b m : Int64} {s : Int} {u : Int32} (h : m_F t b) (hs : (s = 1 ∧ u = 0) ∨ (s = -1 ∧ u = 1)) (hm : m.toInt = s * t.toInt) {k : Nat} (hk : 1 ≤ k) (hk2 : k ≤ 200) :
    (m_nbT t b k u).toInt = s * (f_floorOf (m * lN k) b).toInt ∧ (f_floorOf (m * lN k) b).toInt.natAbs ≤ 200000000001 ∧ (m_nbT t b k u).toInt.natAbs ≤ 200000000001 := by
  obtain ⟨a1, a2, a3⟩ := h
  have hl := q_lNt (k := k) (by omega)
  have hm1 : m.toInt.natAbs ≤ 1000000000 := by
    rw [hm]
    rcases hs with ⟨rfl, -⟩ | ⟨rfl, -⟩ <;> omega
  obtain ⟨x1, x2⟩ := m_mulB (x := m) (y := lN k) (B := 1000000000) (C := 200) hm1 (by omega) (by decide)
  have hf := m_floorB (a := m * lN k) (b := b) (B := 1000000000 * 200) x2 (by decide) a2
  rw [q_ffl (by omega) a2]
  rcases hs with ⟨rfl, rfl⟩ | ⟨rfl, rfl⟩
  · have e : m = t := Int64.toInt_inj.mp (by omega)
    unfold m_nbT
    rw [if_pos rfl, e]
    rw [e] at hf
    omega
  · have e : m = -t := Int64.toInt_inj.mp (by rw [(m_negB a1 (by decide)).1]; omega)
    unfold m_nbT
    rw [if_neg (by decide), ← e, (m_negB hf (by decide)).1]
    omega
theorem q_nbS {t b m : Int64} {s : Int} {u : Int32} (h : m_F t b) (hs : (s = 1 ∧ u = 0) ∨ (s = -1 ∧ u = 1)) (hm : m.toInt = s * t.toInt) {k : Nat} (hk : 1 ≤ k) (hk2 : k ≤ 200) : q_nbI s (m_loT (m_nbT t b k u) (lN k)) (m_loB (m_nbT t b k u) (lN k)) (f_floorOf (m * lN k) b) (lN k) := by
  obtain ⟨e1, e2, e3⟩ := q_nbT h hs hm hk hk2
  have hl := q_lNt (k := k) (by omega)
  obtain ⟨l1, l2⟩ := q_lo (t := m_nbT t b k u) (b := lN k) (by omega) (by omega) (m_ne0 (by omega))
  obtain ⟨-, p1, p2, p3⟩ := m_loP (t := m_nbT t b k u) (b := lN k) (B := 200000000001) (C := 200) e3 (by decide) (by omega) (by omega)
  exact ⟨l1, by rw [l2, e1], by omega, by omega, e2, by omega, p3⟩
theorem q_nbL {t b m : Int64} {s : Int} {u : Int32} (h : m_F t b) (hs : (s = 1 ∧ u = 0) ∨ (s = -1 ∧ u = 1)) (hm : m.toInt = s * t.toInt) : ∀ (n k : Nat) (x y bt bw : Int64), 1 ≤ k → k + n ≤ 201 → q_nbI s x y bt bw → q_nbI s (m_nbL t b u n k x y).1 (m_nbL t b u n k x y).2 (nbL m b n k bt bw).1 (nbL m b n k bt bw).2 := by
  intro n
  induction n with
  | zero => intro k x y bt bw _ _ hi; exact hi
  | succ n ih =>
    intro k x y bt bw hk hn hi
    have hN := q_nbS h hs hm hk (show k ≤ 200 by omega)
    obtain ⟨i1, i2, i3, i4, i5, i6, i7⟩ := id hi
    obtain ⟨j1, j2, j3, j4, j5, j6, j7⟩ := id hN
    have hl := q_lNt (k := k) (by omega)
    have hy := i1.1
    have hB := j1.1
    unfold m_nbL nbL
    obtain ⟨A, hA⟩ : ∃ A, A = m_loT (m_nbT t b k u) (lN k) := ⟨_, rfl⟩
    obtain ⟨B, hBB⟩ : ∃ B, B = m_loB (m_nbT t b k u) (lN k) := ⟨_, rfl⟩
    obtain ⟨F, hF⟩ : ∃ F, F = f_floorOf (m * lN k) b := ⟨_, rfl⟩
    rw [← hA, ← hBB, ← hF] at hN j2
    rw [← hF] at j5
    rw [← hBB] at hB j6
    rw [← hA] at j7
    rw [← hA, ← hBB, ← hF]
    have z1 := (m_mulB (x := A) (y := y) (B := 200000000001) (C := 200) j7 (by omega) (by decide)).1
    have z2 := (m_mulB (x := x) (y := B) (B := 200000000001) (C := 200) i7 (by omega) (by decide)).1
    have z3 := (m_mulB (x := F) (y := bw) (B := 200000000001) (C := 200) j5 (by omega) (by decide)).1
    have z4 := (m_mulB (x := bt) (y := lN k) (B := 200000000001) (C := 200) i5 (by omega) (by decide)).1
    have o1 := q_ord1 (t := A) (b := B) (u := x) (v := y) z1 z2
    have om := q_ordm (t := A) (b := B) (u := x) (v := y) z1 z2
    have hcl := Int64.le_iff_toInt_le (x := F * bw) (y := bt * lN k)
    rw [z3, z4] at hcl
    have hX : (m_ord A B x y = if u = 0 then 1 else -1) ↔ ¬ F * bw ≤ bt * lN k := by
      rw [hcl]
      rcases hs with ⟨rfl, rfl⟩ | ⟨rfl, rfl⟩
      · rw [if_pos rfl, o1]
        have := q_lt (A := x.toInt) (B := y.toInt) (T := bt.toInt) (k := bw.toInt) (x := A.toInt) (y := B.toInt) (V := F.toInt) (w := (lN k).toInt) (by omega) (by omega) (by omega) (by omega) (by rw [i2, Int.one_mul]) (by rw [j2, Int.one_mul])
        omega
      · rw [if_neg (by decide), om]
        have := q_lt (A := A.toInt) (B := B.toInt) (T := -F.toInt) (k := (lN k).toInt) (x := x.toInt) (y := y.toInt) (V := -bt.toInt) (w := bw.toInt) (by omega) (by omega) (by omega) (by omega) (by rw [j2]; grind) (by rw [i2]; grind)
        rw [Int.neg_mul, Int.neg_mul] at this
        omega
    by_cases c : F * bw ≤ bt * lN k
    · rw [if_pos c, if_neg (fun z => (hX.mp z) c)]
      exact ih (k + 1) x y bt bw (by omega) (by omega) hi
    · rw [if_neg c, if_pos (hX.mpr c)]
      exact ih (k + 1) A B F (lN k) (by omega) (by omega) hN
/-- the neighbour itself -/
theorem q_NB {t b m : Int64} {s : Int} {u : Int32} (h : m_F t b) (hs : (s = 1 ∧ u = 0) ∨ (s = -1 ∧ u = 1)) (hm : m.toInt = s * t.toInt) {n : Nat} (h1 : 1 ≤ n) (h2 : n ≤ 200) : q_nbI s (m_NB t b n u).1 (m_NB t b n u).2 (f_nb2 m b (nI n)).1 (f_nb2 m b (nI n)).2 := by
  have h0 := q_nbS h hs hm (k := 1) (by omega) (by omega)
  have e1 : m * lN 1 = m := by rw [show lN 1 = 1 from rfl, Int64.mul_one]
  rw [e1] at h0
  unfold m_NB f_nb2
  rw [nI_toInt (by omega)]
  have h3 := q_nbL h hs hm (n - 1) 2 _ _ _ _ (by omega) (by omega) h0
  exact h3
section RV7
variable {g g1 : CS} {kn : Int32} {tt bb : Nat → Int64} {eT eB oT oB : Int64} {pk : Nat} {ca rf : Int32} {vs : Nat → Value} {n9 : Nat}
theorem q_nb {i j : Nat} {t b : Int64} (e1 : tT g j = t) (e2 : tB g j = b) (h : m_F t b) {s : Int} {u sd : Int32} (hs : (s = 1 ∧ u = 0 ∧ sd = 1) ∨ (s = -1 ∧ u = 1 ∧ sd = -1)) {n : Nat} (h1 : 1 ≤ n) (h2 : n ≤ 200) :
    tT (f_nb g i j (nI n) sd) i = (m_NB t b n u).1 ∧ tB (f_nb g i j (nI n) sd) i = (m_NB t b n u).2 ∧ L64 (m_NB t b n u).1 (m_NB t b n u).2 := by
  have hs2 : (s = 1 ∧ u = 0) ∨ (s = -1 ∧ u = 1) := by rcases hs with ⟨a, b, c⟩ | ⟨a, b, c⟩ <;> simp [a, b]
  have hsd : sd.toInt64.toInt = s := by rcases hs with ⟨rfl, -, rfl⟩ | ⟨rfl, -, rfl⟩ <;> decide
  have hs1 : s.natAbs ≤ 1 := by rcases hs with ⟨rfl, -, -⟩ | ⟨rfl, -, -⟩ <;> decide
  have hm : (sd.toInt64 * t).toInt = s * t.toInt := by
    rw [(m_mulB (x := sd.toInt64) (y := t) (B := 1) (C := 1000000000) (by rw [hsd]; exact hs1) h.1 (by decide)).1, hsd]
  obtain ⟨k1, k2, k3, k4, k5, k6, k7⟩ := q_NB h hs2 hm h1 h2
  unfold f_nb
  rw [e1, e2]
  obtain ⟨P, hP⟩ : ∃ P, P = f_nb2 (sd.toInt64 * t) b (nI n) := ⟨_, rfl⟩
  rw [← hP] at k2 k3 k4 k5 ⊢
  obtain ⟨w1, w2⟩ := m_mulB (x := sd.toInt64) (y := P.1) (B := 1) (C := 200000000001) (by rw [hsd]; exact hs1) k5 (by decide)
  obtain ⟨q1, q2⟩ := q_bec6 (t := sd.toInt64 * P.1) (b := P.2) (by omega) (by omega) (m_ne0 k3) g i
  obtain ⟨r1, r2⟩ := q_loE (t := sd.toInt64 * P.1) (b := P.2) (by omega) (by omega) (m_ne0 k3) k1 (by rw [w1, hsd, k2])
  exact ⟨q1.trans r1, q2.trans r2, k1⟩
theorem s_nb (h : RV g kn tt bb eT eB oT oB pk ca rf vs n9) {i j : Nat} (hi : i < 6) (hj : j < 6) {s : Int} {u sd : Int32} (hs : (s = 1 ∧ u = 0 ∧ sd = 1) ∨ (s = -1 ∧ u = 1 ∧ sd = -1)) {n : Nat} (h1 : 1 ≤ n) (h2 : n ≤ 200) : SMV kn tt bb eT eB oT oB pk ca rf vs n9 i (some (m_NB (tt j) (bb j) n u)) (f_setR (f_nb g 6 j (nI n) sd) i) (f_setW (f_nb g 6 j (nI n) sd) i) := by
  obtain ⟨a1, a2, a3, a4⟩ := h.1 j hj
  obtain ⟨q1, q2, q3⟩ := q_nb (i := 6) a1 a2 a3 hs h1 h2
  exact h.set (lz_nb g lzs6 j _ _) hi q1 q2 q3
theorem s_best (h : RV g kn tt bb eT eB oT oB pk ca rf vs n9) {i j : Nat} (hi : i < 6) (hj : j < 6) {n : Nat} (h1 : 1 ≤ n) (h2 : n ≤ 200) : SMV kn tt bb eT eB oT oB pk ca rf vs n9 i (some (m_BS (tt j) (bb j) n)) (f_setR (f_best g j (nI n)) i) (f_setW (f_best g j (nI n)) i) := by
  obtain ⟨a1, a2, a3, a4⟩ := h.1 j hj
  obtain ⟨q1, q2, q3⟩ := q_nb (i := 7) (s := 1) (u := 0) (sd := 1) a1 a2 a3 (Or.inl ⟨rfl, rfl, rfl⟩) h1 h2
  have l7 := lz_nb g lzs7 j (nI n) 1
  obtain ⟨g7, hg7⟩ : ∃ z, z = f_nb g 7 j (nI n) 1 := ⟨_, rfl⟩
  rw [← hg7] at q1 q2 l7
  obtain ⟨b1, b2, -, -⟩ := (h.lzv l7).1 j hj
  obtain ⟨r1, r2, r3⟩ := q_nb (g := g7) (i := 8) (s := -1) (u := 1) (sd := -1) b1 b2 a3 (Or.inr ⟨rfl, rfl, rfl⟩) h1 h2
  have l8 := l7.tr (lz_nb g7 lzs8 j (nI n) (-1))
  have q1' : tT (f_nb g7 8 j (nI n) (-1)) 7 = (m_NB (tt j) (bb j) n 0).1 := by
    rw [← q1]
    unfold f_nb f_become
    split
    · rfl
    · rfl
  have q2' : tB (f_nb g7 8 j (nI n) (-1)) 7 = (m_NB (tt j) (bb j) n 0).2 := by
    rw [← q2]
    unfold f_nb f_become
    split
    · rfl
    · rfl
  obtain ⟨g8, hg8⟩ : ∃ z, z = f_nb g7 8 j (nI n) (-1) := ⟨_, rfl⟩
  rw [← hg8] at r1 r2 q1' q2' l8
  obtain ⟨d1, d2, -, -⟩ := (h.lzv l8).1 j hj
  have eG : f_bestG g j (nI n) = g8 := by
    unfold f_bestG
    rw [← hg7, ← hg8]
  have eA : f_lbA g8 j = m_bsA (tt j) (bb j) (m_NB (tt j) (bb j) n 0) (m_NB (tt j) (bb j) n 1) := by
    unfold f_lbA m_bsA
    rw [d1, d2, q1', q2', r2]
  have eB9 : f_lbB g8 j = m_bsB (tt j) (bb j) (m_NB (tt j) (bb j) n 0) (m_NB (tt j) (bb j) n 1) := by
    unfold f_lbB m_bsB
    rw [d1, d2, r1, r2, q2']
  unfold f_best
  rw [eG]
  have hA8 : SMV kn tt bb eT eB oT oB pk ca rf vs n9 i (some (m_NB (tt j) (bb j) n 1)) (f_setR (f_assign g8 6 8) i) (f_setW (f_assign g8 6 8) i) := h.set (l8.tr (lz_asg g8 lzs6 8)) hi ((q_asT g8 6 8).trans r1) ((q_asB g8 6 8).trans r2) r3
  have hA7 : SMV kn tt bb eT eB oT oB pk ca rf vs n9 i (some (m_NB (tt j) (bb j) n 0)) (f_setR (f_assign g8 6 7) i) (f_setW (f_assign g8 6 7) i) := h.set (l8.tr (lz_asg g8 lzs6 7)) hi ((q_asT g8 6 7).trans q1') ((q_asB g8 6 7).trans q2') q3
  unfold f_lb m_BS
  rw [eA, eB9, q2', r2]
  by_cases c1 : m_bsA (tt j) (bb j) (m_NB (tt j) (bb j) n 0) (m_NB (tt j) (bb j) n 1) = m_bsB (tt j) (bb j) (m_NB (tt j) (bb j) n 0) (m_NB (tt j) (bb j) n 1)
  · have c2 : ¬ m_bsA (tt j) (bb j) (m_NB (tt j) (bb j) n 0) (m_NB (tt j) (bb j) n 1) < m_bsB (tt j) (bb j) (m_NB (tt j) (bb j) n 0) (m_NB (tt j) (bb j) n 1) := by
      rw [c1]
      exact Int64.lt_irrefl
    rw [if_pos c1, if_pos c1, if_neg c2]
    by_cases c3 : (m_NB (tt j) (bb j) n 0).2 ≤ (m_NB (tt j) (bb j) n 1).2
    · rw [if_pos c3, if_pos c3, if_neg (by decide)]
      exact hA7
    · rw [if_neg c3, if_neg c3, if_pos rfl]
      exact hA8
  · rw [if_neg c1, if_neg c1]
    by_cases c2 : m_bsA (tt j) (bb j) (m_NB (tt j) (bb j) n 0) (m_NB (tt j) (bb j) n 1) < m_bsB (tt j) (bb j) (m_NB (tt j) (bb j) n 0) (m_NB (tt j) (bb j) n 1)
    · rw [if_pos c2, if_pos c2, if_neg (by decide)]
      exact hA7
    · rw [if_neg c2, if_neg c2, if_pos rfl]
      exact hA8
end RV7
/-! ===== the next one, the one before; the row of all never comes back ===== -/
/-- the next one, as whole numbers -/
def q_nx (p : Int × Int) : Int × Int := (p.2, (2 * (p.1 / p.2) + 1) * p.2 - p.1)
def q_nxI : Nat → Int × Int → Int × Int
  | 0, p => p
  | n + 1, p => q_nxI n (q_nx p)
def q_Lf (p : Int × Int) : Int × Int := (p.1, p.1 + p.2)
def q_Rt (p : Int × Int) : Int × Int := (p.1 + p.2, p.2)
def q_ps (p : Int × Int) : Prop := 1 ≤ p.1 ∧ 1 ≤ p.2
theorem q_nx_p {p : Int × Int} (h : q_ps p) : q_ps (q_nx p) := by
  obtain ⟨t, b⟩ := p
  obtain ⟨h1, h2⟩ := h
  dsimp only at h1 h2
  have e1 := Int.emod_add_mul_ediv t b
  have e2 := Int.emod_lt_of_pos t (show 0 < b by omega)
  have e3 : (2 * (t / b) + 1) * b - t = b * (t / b) + b - (t - b * (t / b)) := by grind
  have e4 : 0 ≤ b * (t / b) := Int.mul_nonneg (by omega) (Int.ediv_nonneg (by omega) (by omega))
  refine ⟨h2, ?_⟩
  show 1 ≤ (2 * (t / b) + 1) * b - t
  rw [e3]
  omega
theorem q_nx_L {p : Int × Int} (h : q_ps p) : q_nx (q_Lf p) = q_Rt p := by
  obtain ⟨t, b⟩ := p
  obtain ⟨h1, h2⟩ := h
  dsimp only at h1 h2
  have e : t / (t + b) = 0 := Int.ediv_eq_zero_of_lt (by omega) (by omega)
  show (t + b, (2 * (t / (t + b)) + 1) * (t + b) - t) = (t + b, b)
  rw [e]
  congr 1
  omega
theorem q_nx_R {p : Int × Int} (h : q_ps p) : q_nx (q_Rt p) = q_Lf (q_nx p) := by
  obtain ⟨t, b⟩ := p
  obtain ⟨h1, h2⟩ := h
  dsimp only at h1 h2
  have e : (t + b) / b = t / b + 1 := Int.add_ediv_of_dvd_right (Int.dvd_refl b) |>.trans (by rw [Int.ediv_self (by omega)])
  show (b, (2 * ((t + b) / b) + 1) * b - (t + b)) = (b, b + ((2 * (t / b) + 1) * b - t))
  rw [e]
  congr 1
  grind
theorem q_nxI_p : ∀ (n : Nat) {p : Int × Int}, q_ps p → q_ps (q_nxI n p) := by
  intro n
  induction n with
  | zero => intro p h; exact h
  | succ n ih => intro p h; exact ih (q_nx_p h)
theorem q_nxI_s : ∀ (n : Nat) (p : Int × Int), q_nxI n (q_nx p) = q_nx (q_nxI n p) := by
  intro n
  induction n with
  | zero => intro p; rfl
  | succ n ih => intro p; exact ih (q_nx p)
theorem q_nxI_L : ∀ (j : Nat) {p : Int × Int}, q_ps p → q_nxI (2 * j) (q_Lf p) = q_Lf (q_nxI j p) ∧ q_nxI (2 * j + 1) (q_Lf p) = q_Rt (q_nxI j p) := by
  intro j
  induction j with
  | zero => intro p h; exact ⟨rfl, q_nx_L h⟩
  | succ j ih =>
    intro p h
    have h1 : ∀ m : Nat, q_nxI (m + 2) (q_Lf p) = q_nxI m (q_Lf (q_nx p)) := by
      intro m
      show q_nxI m (q_nx (q_nx (q_Lf p))) = _
      rw [q_nx_L h, q_nx_R h]
    have e1 : 2 * (j + 1) = 2 * j + 2 := by omega
    have e2 : 2 * (j + 1) + 1 = (2 * j + 1) + 2 := by omega
    rw [e2, e1, h1, h1]
    exact ih (q_nx_p h)
theorem q_nxI_1 (n : Nat) (p : Int × Int) : q_nxI (n + 1) p = q_nxI n (q_nx p) := rfl
theorem q_nx_e (t b B : Int) (h : B = (q_nx (t, b)).2) : q_nx (t, b) = (b, B) := by
  rw [h]
  rfl
/-- it never comes back -/
theorem q_nxI_ne : ∀ (N : Nat) (t b : Int), q_ps (t, b) → (t + b).toNat ≤ N → ∀ k, 1 ≤ k → q_nxI k (t, b) ≠ (t, b) := by
  intro N
  induction N with
  | zero =>
    intro t b h hN
    obtain ⟨h1, h2⟩ := h
    dsimp only at h1 h2
    omega
  | succ N ih =>
    intro t b h hN k hk he
    obtain ⟨h1, h2⟩ := id h
    dsimp only at h1 h2
    -- L or R of what is above 0 is no (x, x), and they are no other's
    have hL : ∀ q : Int × Int, q_ps q → (q_Lf q).1 < (q_Lf q).2 := by
      intro q hq
      have := hq.2
      show q.1 < q.1 + q.2
      omega
    have hR : ∀ q : Int × Int, q_ps q → (q_Rt q).2 < (q_Rt q).1 := by
      intro q hq
      have := hq.1
      show q.2 < q.1 + q.2
      omega
    rcases Int.lt_trichotomy t b with c | c | c
    · -- to the left
      have hp : q_ps (t, b - t) := ⟨h1, by show 1 ≤ b - t; omega⟩
      have e0 : (t, b) = q_Lf (t, b - t) := by
        show (t, b) = (t, t + (b - t))
        congr 1
        omega
      obtain ⟨j, hj⟩ : ∃ j, k = 2 * j ∨ k = 2 * j + 1 := ⟨k / 2, by omega⟩
      obtain ⟨l1, l2⟩ := q_nxI_L j hp
      rw [e0] at he
      rcases hj with rfl | rfl
      · rw [l1] at he
        have f1 : (q_nxI j (t, b - t)).1 = t := congrArg Prod.fst he
        have f2 : (q_nxI j (t, b - t)).1 + (q_nxI j (t, b - t)).2 = t + (b - t) := congrArg Prod.snd he
        exact ih t (b - t) hp (by omega) j (by omega) (Prod.ext f1 (by show _ = b - t; omega))
      · rw [l2] at he
        have g1 := hR _ (q_nxI_p j hp)
        have g2 := hL _ hp
        rw [he] at g1
        omega
    · subst c
      have e1 : q_nx (t, t) = q_Lf (t, t) := by
        show (t, (2 * (t / t) + 1) * t - t) = (t, t + t)
        rw [Int.ediv_self (by omega)]
        congr 1
        omega
      obtain ⟨k, rfl⟩ : ∃ k1, k = k1 + 1 := ⟨k - 1, by omega⟩
      have he : q_nxI k (q_nx (t, t)) = (t, t) := he
      rw [e1] at he
      obtain ⟨j, hj⟩ : ∃ j, k = 2 * j ∨ k = 2 * j + 1 := ⟨k / 2, by omega⟩
      obtain ⟨l1, l2⟩ := q_nxI_L j h
      rcases hj with rfl | rfl
      · rw [l1] at he
        have g1 := hL _ (q_nxI_p j h)
        rw [he] at g1
        exact absurd g1 (Int.lt_irrefl _)
      · rw [l2] at he
        have g1 := hR _ (q_nxI_p j h)
        rw [he] at g1
        exact absurd g1 (Int.lt_irrefl _)
    · have hp : q_ps (t - b, b) := ⟨by show 1 ≤ t - b; omega, h2⟩
      have e0 : (t, b) = q_Rt (t - b, b) := by
        show (t, b) = (t - b + b, b)
        congr 1
        omega
      obtain ⟨k, rfl⟩ : ∃ k1, k = k1 + 1 := ⟨k - 1, by omega⟩
      have he : q_nxI k (q_nx (t, b)) = (t, b) := he
      rw [e0, q_nx_R hp] at he
      obtain ⟨j, hj⟩ : ∃ j, k = 2 * j ∨ k = 2 * j + 1 := ⟨k / 2, by omega⟩
      obtain ⟨l1, l2⟩ := q_nxI_L j (q_nx_p hp)
      rcases hj with rfl | rfl
      · rw [l1] at he
        have g1 := hL _ (q_nxI_p j (q_nx_p hp))
        have g2 := hR _ hp
        rw [he] at g1
        omega
      · rw [l2] at he
        have f1 : (q_nxI j (q_nx (t - b, b))).1 + (q_nxI j (q_nx (t - b, b))).2 = t - b + b := congrArg Prod.fst he
        have f2 : (q_nxI j (q_nx (t - b, b))).2 = b := congrArg Prod.snd he
        exact ih (t - b) b hp (by omega) (j + 1) (by omega) (Prod.ext (by show (q_nxI j (q_nx (t - b, b))).1 = t - b; omega) f2)
/-- as the machine reckons it -/
def m_nxB (t b : Int64) : Int64 := (2 * m_floor t b + 1) * b - t
theorem q_nxB {t b : Int64} (h : m_F t b) (ht : 1 ≤ t.toInt) (hL : L64 t b) : (m_nxB t b).toInt = (q_nx (t.toInt, b.toInt)).2 ∧ 1 ≤ (m_nxB t b).toInt ∧ (m_nxB t b).toInt ≤ 2000000000 ∧ L64 b (m_nxB t b) := by
  obtain ⟨a1, a2, a3⟩ := h
  have f0 := q_mfl (a := t) (b := b) (by omega) a2
  have f1 := m_floorB a1 (by decide) a2
  have e2 : (2 : Int64).toInt = 2 := by decide
  have e1 : (1 : Int64).toInt = 1 := rfl
  obtain ⟨g1, g2⟩ := m_mulB (x := 2) (y := m_floor t b) (B := 2) (C := 1000000001) (by decide) f1 (by decide)
  obtain ⟨j1, j2⟩ := m_addB (x := 2 * m_floor t b) (y := 1) (B := 2 * 1000000001) (C := 1) g2 (by decide) (by decide)
  obtain ⟨k1, k2⟩ := m_mulB (x := 2 * m_floor t b + 1) (y := b) (B := 2 * 1000000001 + 1) (C := 1000000000) j2 (by omega) (by decide)
  obtain ⟨l1, l2⟩ := m_subB (x := (2 * m_floor t b + 1) * b) (y := t) (B := (2 * 1000000001 + 1) * 1000000000) (C := 1000000000) k2 a1 (by decide)
  have hz : (m_nxB t b).toInt = (2 * (t.toInt / b.toInt) + 1) * b.toInt - t.toInt := by
    unfold m_nxB
    rw [l1, k1, j1, g1, e2, e1, f0]
  have hp := (q_nx_p (p := (t.toInt, b.toInt)) ⟨ht, a2⟩).2
  have hp2 : 1 ≤ (m_nxB t b).toInt := by rw [hz]; exact hp
  have hq : (m_nxB t b).toInt ≤ 2000000000 := by
    rw [hz]
    have r1 := Int.emod_add_mul_ediv t.toInt b.toInt
    have r2 := Int.emod_nonneg t.toInt (show b.toInt ≠ 0 by omega)
    have r3 : (2 * (t.toInt / b.toInt) + 1) * b.toInt - t.toInt = b.toInt * (t.toInt / b.toInt) + b.toInt - (t.toInt - b.toInt * (t.toInt / b.toInt)) := by grind
    rw [r3]
    omega
  refine ⟨hz, hp2, hq, hp2, ?_⟩
  have hg : Int.gcd b.toInt t.toInt = 1 := by rw [Int.gcd_comm]; exact hL.2
  rw [hz]
  refine Int.gcd_eq_one_iff.mpr fun c hc1 hc2 => ?_
  have hc3 : c ∣ t.toInt := by
    have : t.toInt = (2 * (t.toInt / b.toInt) + 1) * b.toInt - ((2 * (t.toInt / b.toInt) + 1) * b.toInt - t.toInt) := by omega
    rw [this]
    exact Int.dvd_sub (Int.dvd_mul_of_dvd_right hc1) hc2
  exact Int.gcd_eq_one_iff.mp hg c hc1 hc3
theorem q_nxE {t b : Int64} (h : m_F t b) (ht : 1 ≤ t.toInt) (hL : L64 t b) : m_loT b (m_nxB t b) = b ∧ m_loB b (m_nxB t b) = m_nxB t b := by
  obtain ⟨h1, h2, h3, h4⟩ := q_nxB h ht hL
  obtain ⟨a1, a2, a3⟩ := h
  exact q_loL (by omega) h4
def m_nxL : Nat → Int64 → Int64 → Int64 × Int64
  | 0, t, b => (t, b)
  | n + 1, t, b => if m_fit t b = 0 then (t, b) else m_nxL n (m_loT b (m_nxB t b)) (m_loB b (m_nxB t b))
theorem m_nxLz {t b : Int64} {n : Nat} (h : m_fit t b = 0) : m_nxL n t b = (t, b) := by
  cases n with
  | zero => rfl
  | succ n =>
    unfold m_nxL
    rw [if_pos h]
theorem m_nxLs {t b : Int64} {n m : Nat} {q : Int64 × Int64} (h : ¬ m_fit t b = 0) (e : n = m + 1) (hg : m_nxL n t b = q) : m_nxL m (m_loT b ((2 * m_floor t b + 1) * b - t)) (m_loB b ((2 * m_floor t b + 1) * b - t)) = q := by
  rw [e] at hg
  unfold m_nxL at hg
  rw [if_neg h] at hg
  exact hg
def m_NX (t b : Int64) (n : Nat) : Option (Int64 × Int64) := if m_abv t = 0 then none else if m_fit (m_nxL n t b).1 (m_nxL n t b).2 = 0 then none else some (m_nxL n t b)
theorem q_abv {t : Int64} : m_abv t = 0 ↔ ¬ 1 ≤ t.toInt := by
  unfold m_abv
  have h := Int64.le_iff_toInt_le (x := t) (y := 0)
  have e0 : (0 : Int64).toInt = 0 := rfl
  rw [e0] at h
  by_cases c : t ≤ 0
  · rw [if_pos c]
    have := h.mp c
    exact ⟨fun _ => by omega, fun _ => rfl⟩
  · rw [if_neg c]
    have : ¬ t.toInt ≤ 0 := fun z => c (h.mpr z)
    exact ⟨fun z => absurd z (by decide), fun z => by omega⟩
theorem q_cmpP {t : Int64} : 0 < f_cmp t 0 ↔ 1 ≤ t.toInt := by
  unfold f_cmp
  have h := Int64.lt_iff_toInt_lt (x := t) (y := 0)
  have e0 : (0 : Int64).toInt = 0 := rfl
  rw [e0] at h
  by_cases c : t < 0
  · rw [if_pos c]
    have := h.mp c
    exact ⟨fun z => absurd z (by decide), fun z => by omega⟩
  · rw [if_neg c]
    have h1 : ¬ t.toInt < 0 := fun z => c (h.mpr z)
    by_cases c2 : t = 0
    · rw [if_pos c2, c2, e0]
      exact ⟨fun z => absurd z (by decide), fun z => by omega⟩
    · rw [if_neg c2]
      have := q_ne0 c2
      exact ⟨fun _ => by omega, fun _ => by decide⟩
theorem q_cmpN {t : Int64} : f_cmp t 0 ≤ 0 ↔ ¬ 1 ≤ t.toInt := by
  rw [← q_cmpP, Int32.not_lt]
section RV8
variable {g g1 : CS} {kn : Int32} {tt bb : Nat → Int64} {eT eB oT oB : Int64} {pk : Nat} {ca rf : Int32} {vs : Nat → Value} {n9 : Nat}
/-- the class's steps and the reference's -/
theorem q_steps : ∀ (n : Nat) (g : CS) (t b : Int64), tT g 6 = t → tB g 6 = b → m_F t b → 1 ≤ t.toInt → L64 t b →
    (∃ g1, nxL n g = .inl g1 ∧ lz g g1 ∧ m_fit (m_nxL n t b).1 (m_nxL n t b).2 = 0) ∨
    ∃ g1, nxL n g = .inr g1 ∧ lz g g1 ∧ tT g1 6 = (m_nxL n t b).1 ∧ tB g1 6 = (m_nxL n t b).2 ∧ m_F (m_nxL n t b).1 (m_nxL n t b).2 ∧ L64 (m_nxL n t b).1 (m_nxL n t b).2 ∧ ((m_nxL n t b).1.toInt, (m_nxL n t b).2.toInt) = q_nxI n (t.toInt, b.toInt) := by
  intro n
  induction n with
  | zero => intro g t b e1 e2 hF h1 hL; exact Or.inr ⟨g, rfl, lz_rf g, e1, e2, hF, hL, rfl⟩
  | succ n ih =>
    intro g t b e1 e2 hF h1 hL
    have hf := q_fit1 hF
    have ef : f_foll g 6 6 = f_become g 6 b (m_nxB t b) := by
      unfold f_foll m_nxB
      rw [e1, e2, q_ffl (by have := hF.1; omega) hF.2.1]
    obtain ⟨x1, x2, x3, x4⟩ := q_nxB hF h1 hL
    obtain ⟨y1, y2⟩ := q_nxE hF h1 hL
    have hnf : m_nxL (n + 1) t b = m_nxL n (m_loT b (m_nxB t b)) (m_loB b (m_nxB t b)) := by
      show (if m_fit t b = 0 then (t, b) else m_nxL n (m_loT b (m_nxB t b)) (m_loB b (m_nxB t b))) = _
      rw [if_neg hf]
    have hni : q_nxI (n + 1) (t.toInt, b.toInt) = q_nxI n (b.toInt, (m_nxB t b).toInt) := (q_nxI_1 _ _).trans (congrArg (q_nxI n) (q_nx_e _ _ _ x1))
    have hlow := hF.2.1
    have hup := hF.2.2
    clear x1
    generalize m_nxB t b = B at *
    rw [hnf, hni, y1, y2]
    obtain ⟨z1, z2⟩ := q_bec6 (t := b) (b := B) (by omega) (by omega) (m_ne0 x2) g 6
    rw [y1] at z1
    rw [y2] at z2
    have lz6 := lz_bec g lzs6 b B
    have hnl : nxL (n + 1) g = if f_fit (tT (f_foll g 6 6) 6) (tB (f_foll g 6 6) 6) = 0 then .inl (f_foll g 6 6) else nxL n (f_foll g 6 6) := rfl
    rw [hnl, ef]
    generalize f_become g 6 b B = g2 at *
    rw [z1, z2]
    by_cases c : m_fit b B = 0
    · have c0 : f_fit b B = 0 := c
      rw [if_pos c0]
      refine Or.inl ⟨g2, rfl, lz6, ?_⟩
      rw [m_nxLz c]
      exact c
    · have c0 : ¬ f_fit b B = 0 := c
      rw [if_neg c0]
      have hF2 : m_F b B := q_fitF c x4
      rcases ih g2 b B z1 z2 hF2 hlow x4 with ⟨g3, k1, k2, k3⟩ | ⟨g3, k1, k2, k3⟩
      · exact Or.inl ⟨g3, k1, lz6.tr k2, k3⟩
      · exact Or.inr ⟨g3, k1, lz6.tr k2, k3.1, k3.2.1, k3.2.2.1, k3.2.2.2.1, k3.2.2.2.2⟩
theorem q_or1 (x : Int32) (h : x = -9 ∨ x = 1) : x ||| 1 = x := by rcases h with rfl | rfl <;> decide
theorem s_nxt (h : RV g kn tt bb eT eB oT oB pk ca rf vs n9) {i : Nat} (hi : i < 6) {n : Nat} (h1 : 1 ≤ n) (h2 : n ≤ 50) :
    f_nextR g i (nI n) = (beR tt bb i (m_NX (tt i) (bb i) n) ||| 1) ∧ RV (f_nextW g i (nI n)) kn (beT tt i (m_NX (tt i) (bb i) n)) (beB bb i (m_NX (tt i) (bb i) n)) eT eB oT oB pk ca (beF rf (m_NX (tt i) (bb i) n)) vs n9 := by
  obtain ⟨a1, a2, a3, a4⟩ := h.1 i hi
  unfold f_nextR f_nextW m_NX
  rw [a1]
  by_cases c : 1 ≤ (tt i).toInt
  · rw [if_pos (q_cmpP.mpr c), if_pos (q_cmpP.mpr c), if_neg (fun z => (q_abv.mp z) c), nI_clamp (by omega)]
    have l6 := lz_asg g lzs6 i
    rcases q_steps n (f_assign g 6 i) (tt i) (bb i) ((q_asT g 6 i).trans a1) ((q_asB g 6 i).trans a2) a3 c a4 with ⟨g1, k1, k2, k3⟩ | ⟨g1, k1, k2, k3, k4, k5, k6, k7⟩
    · rw [k1, if_pos k3]
      obtain ⟨r1, r2⟩ := h.no (l6.tr k2) i
      exact ⟨by show (-9 : Int32) = -9 ||| 1; decide, r2⟩
    · rw [k1, if_neg (q_fit1 k5)]
      obtain ⟨r1, r2⟩ := h.set (l6.tr k2) hi k3 k4 k6
      refine ⟨?_, r2⟩
      show f_setR g1 i = _
      have hne : ¬ m_ord (tt i) (bb i) (m_nxL n (tt i) (bb i)).1 (m_nxL n (tt i) (bb i)).2 = 0 := by
        intro z
        obtain ⟨w1, w2⟩ := (q_ordE a3 k5 a4 k6).mp z
        rw [← w1, ← w2] at k7
        exact q_nxI_ne _ (tt i).toInt (bb i).toInt ⟨c, a3.2.1⟩ (Nat.le_refl _) n h1 k7.symm
      have hb : beR tt bb i (some (m_nxL n (tt i) (bb i))) = 1 := by
        simp only [beR]
        rw [if_neg (q_fit1 k5), if_neg hne]
      have r1 : f_setR g1 i = beR tt bb i (some (m_nxL n (tt i) (bb i))) := r1
      rw [r1, hb]
      decide
  · rw [if_neg (fun z => c (q_cmpP.mp z)), if_neg (fun z => c (q_cmpP.mp z)), if_pos (q_abv.mpr c)]
    obtain ⟨r1, r2⟩ := h.no (lz_rf g) i
    exact ⟨by show (-9 : Int32) = -9 ||| 1; decide, r2⟩
/-- the one before -/
def m_BF (t b : Int64) : Option (Int64 × Int64) := if m_abv t = 0 then none else if m_one t b = 0 then LO ((2 * -m_floor (-b) t - 1) * t - b) t else none
theorem s_bef (h : RV g kn tt bb eT eB oT oB pk ca rf vs n9) {i : Nat} (hi : i < 6) : SMV kn tt bb eT eB oT oB pk ca rf vs n9 i (m_BF (tt i) (bb i)) (f_befR g i) (f_befW g i) := by
  obtain ⟨a1, a2, a3, a4⟩ := h.1 i hi
  unfold f_befR f_befW m_BF
  rw [a1, a2]
  by_cases c : 1 ≤ (tt i).toInt
  · rw [if_neg (fun z => (q_cmpN.mp z) c), if_neg (fun z => (q_cmpN.mp z) c), if_neg (fun z => (q_abv.mp z) c)]
    by_cases d : m_one (tt i) (bb i) = 0
    · have d0 : f_one (tt i) (bb i) = 0 := d
      rw [if_pos d0, if_pos d0, if_pos d]
      obtain ⟨b1, b2, b3⟩ := a3
      have e1 : (1 : Int64).toInt = 1 := rfl
      have e2 : (2 : Int64).toInt = 2 := by decide
      obtain ⟨n1, n2⟩ := m_negB (x := bb i) (B := 1000000000) (by omega) (by decide)
      have f1 := m_floorB (a := -bb i) (b := tt i) n2 (by decide) c
      have v1 := q_mfl (a := -bb i) (b := tt i) (by omega) c
      obtain ⟨n3, n4⟩ := m_negB f1 (by decide)
      obtain ⟨s1, s2⟩ := m_subB (x := bb i) (y := 1) (B := 1000000000) (C := 1) (by omega) (by decide) (by decide)
      have f2 := m_floorB (a := bb i - 1) (b := tt i) s2 (by decide) c
      have v2 := q_mfl (a := bb i - 1) (b := tt i) (by omega) c
      rw [n1] at v1
      rw [s1, e1] at v2
      have hc : -((-(bb i).toInt) / (tt i).toInt) = ((bb i).toInt - 1) / (tt i).toInt + 1 := by
        have q1 := Int.emod_add_mul_ediv ((bb i).toInt - 1) (tt i).toInt
        have q2 := Int.emod_lt_of_pos ((bb i).toInt - 1) (show 0 < (tt i).toInt by omega)
        have q3 := Int.emod_nonneg ((bb i).toInt - 1) (show (tt i).toInt ≠ 0 by omega)
        have q4 : (-(bb i).toInt) / (tt i).toInt = -(((bb i).toInt - 1) / (tt i).toInt + 1) := by
          rw [Int.ediv_eq_iff_of_pos (by omega)]
          have q5 : -(((bb i).toInt - 1) / (tt i).toInt + 1) * (tt i).toInt = -((tt i).toInt * (((bb i).toInt - 1) / (tt i).toInt)) - (tt i).toInt := by grind
          rw [q5]
          omega
        rw [q4]
        omega
      have hw : m_floor (bb i - 1) (tt i) + 1 = -m_floor (-bb i) (tt i) := by
        apply Int64.toInt_inj.mp
        rw [(m_addB (x := m_floor (bb i - 1) (tt i)) (y := 1) (B := 1000000000 + 1 + 1) (C := 1) f2 (by decide) (by decide)).1, n3, v1, v2, e1, hc]
      have hx : 2 * m_floor (bb i - 1) (tt i) + 1 = 2 * -m_floor (-bb i) (tt i) - 1 := by
        rw [← hw]
        apply Int64.toInt_inj.mp
        obtain ⟨p1, p2⟩ := m_mulB (x := 2) (y := m_floor (bb i - 1) (tt i)) (B := 2) (C := 1000000000 + 1 + 1) (by decide) f2 (by decide)
        obtain ⟨p3, p4⟩ := m_addB (x := 2 * m_floor (bb i - 1) (tt i)) (y := 1) (B := 2 * (1000000000 + 1 + 1)) (C := 1) p2 (by decide) (by decide)
        obtain ⟨p5, p6⟩ := m_addB (x := m_floor (bb i - 1) (tt i)) (y := 1) (B := 1000000000 + 1 + 1) (C := 1) f2 (by decide) (by decide)
        obtain ⟨p7, p8⟩ := m_mulB (x := 2) (y := m_floor (bb i - 1) (tt i) + 1) (B := 2) (C := 1000000000 + 1 + 1 + 1) (by decide) p6 (by decide)
        obtain ⟨p9, -⟩ := m_subB (x := 2 * (m_floor (bb i - 1) (tt i) + 1)) (y := 1) (B := 2 * (1000000000 + 1 + 1 + 1)) (C := 1) p8 (by decide) (by decide)
        rw [p3, p1, p9, p7, p5, e1, e2]
        omega
      unfold f_fore
      rw [a1, a2, q_ffl (by omega) c, hx]
      obtain ⟨r1, r2⟩ := m_mulB (x := 2) (y := -m_floor (-bb i) (tt i)) (B := 2) (C := 1000000001) (by decide) n4 (by decide)
      obtain ⟨r3, r4⟩ := m_subB (x := 2 * -m_floor (-bb i) (tt i)) (y := 1) (B := 2 * 1000000001) (C := 1) r2 (by decide) (by decide)
      obtain ⟨r5, r6⟩ := m_mulB (x := 2 * -m_floor (-bb i) (tt i) - 1) (y := tt i) (B := 2 * 1000000001 + 1) (C := 1000000000) r4 b1 (by decide)
      obtain ⟨r7, r8⟩ := m_subB (x := (2 * -m_floor (-bb i) (tt i) - 1) * tt i) (y := bb i) (B := (2 * 1000000001 + 1) * 1000000000) (C := 1000000000) r6 (by omega) (by decide)
      exact h.bec (lz_rf g) hi (by omega) (by omega) (m_ne0 c) rfl rfl
    · have d0 : ¬ f_one (tt i) (bb i) = 0 := d
      rw [if_neg d0, if_neg d0, if_neg d]
      exact h.no (lz_rf g) i
  · rw [if_pos (q_cmpN.mpr c), if_pos (q_cmpN.mpr c), if_pos (q_abv.mpr c)]
    exact h.no (lz_rf g) i
end RV8
/-! ===== so many times itself ===== -/
theorem q_fitI {t b : Int64} (hb : 1 ≤ b.toInt) : ¬ m_fit t b = 0 ↔ t.toInt.natAbs ≤ 1000000000 ∧ b.toInt ≤ 1000000000 := by
  constructor
  · intro h
    obtain ⟨h1, h2, h3⟩ := m_fit1 h hb
    exact ⟨h1, h3⟩
  · rintro ⟨h1, h2⟩
    exact q_fit1 ⟨h1, hb, h2⟩
theorem q_powM {a : Nat} (j n : Nat) (hj : j ≤ n) (h : 1000000000 < a ^ j) : 1000000000 < a ^ n := by
  have ha : 0 < a := by
    rcases Nat.eq_zero_or_pos a with rfl | z
    · exfalso
      have h2 : (0 : Nat) ^ j ≤ 1 := by
        cases j with
        | zero => decide
        | succ j => rw [Nat.pow_succ, Nat.mul_zero]; decide
      omega
    · exact z
  have := Nat.pow_le_pow_right ha hj
  omega
/-- the reference's product, as powers -/
theorem q_raL {t b : Int64} (h : m_F t b) (hL : L64 t b) : ∀ (n k : Nat) (u v : Int64), u.toInt = t.toInt ^ k → v.toInt = b.toInt ^ k → 1 ≤ v.toInt → ∃ j, k ≤ j ∧ j ≤ k + n ∧ (m_raL t b n u v).1.toInt = t.toInt ^ j ∧ (m_raL t b n u v).2.toInt = b.toInt ^ j ∧ 1 ≤ (m_raL t b n u v).2.toInt ∧ (j < k + n → m_fit (m_raL t b n u v).1 (m_raL t b n u v).2 = 0) := by
  intro n
  induction n with
  | zero => intro k u v hu hv h1; exact ⟨k, Nat.le_refl _, Nat.le_refl _, hu, hv, h1, fun z => absurd z (Nat.lt_irrefl _)⟩
  | succ n ih =>
    intro k u v hu hv h1
    unfold m_raL
    by_cases c : m_fit u v = 0
    · rw [if_pos c]
      exact ⟨k, Nat.le_refl _, by omega, hu, hv, h1, fun _ => c⟩
    · rw [if_neg c]
      have hF : m_F u v := m_fit1 c h1
      obtain ⟨e1, e2, e3, e4, e5⟩ := q_mB hF h
      have x1 : (u * t).toInt = t.toInt ^ (k + 1) := by rw [e2, hu, Int.pow_succ]
      have x2 : (v * b).toInt = b.toInt ^ (k + 1) := by rw [e5, hv, Int.pow_succ]
      have hl : L64 (u * t) (v * b) := ⟨e3, by rw [x1, x2]; exact Int.pow_gcd_pow_of_gcd_eq_one hL.2⟩
      obtain ⟨y1, y2⟩ := q_loL (by omega) hl
      rw [y1, y2]
      obtain ⟨j, j1, j2, j3, j4, j5, j6⟩ := ih (k + 1) (u * t) (v * b) x1 x2 e3
      exact ⟨j, by omega, by omega, j3, j4, j5, fun z => j6 (by omega)⟩
/-- the class's power -/
theorem q_powL {b : Int64} (hb0 : 0 ≤ b.toInt) (hb : b.toInt ≤ 1000000000) : ∀ (n k : Nat) (p : Int64), p.toInt = b.toInt ^ k → 0 ≤ p.toInt → p.toInt ≤ 1000000000000000000 → ∃ j, k ≤ j ∧ j ≤ k + n ∧ (powL n b p).toInt = b.toInt ^ j ∧ 0 ≤ (powL n b p).toInt ∧ (powL n b p).toInt ≤ 1000000000000000000 ∧ (j < k + n → 1000000000 < (powL n b p).toInt) := by
  intro n
  induction n with
  | zero => intro k p hp h0 h1; exact ⟨k, Nat.le_refl _, Nat.le_refl _, hp, h0, h1, fun z => absurd z (Nat.lt_irrefl _)⟩
  | succ n ih =>
    intro k p hp h0 h1
    have hc := Int64.lt_iff_toInt_lt (x := 1000000000) (y := p)
    rw [show (1000000000 : Int64).toInt = 1000000000 by decide] at hc
    unfold powL
    by_cases c : 1000000000 < p
    · rw [if_pos c]
      exact ⟨k, Nat.le_refl _, by omega, hp, h0, h1, fun _ => hc.mp c⟩
    · rw [if_neg c]
      have hp9 : p.toInt ≤ 1000000000 := by
        have : ¬ (1000000000 : Int) < p.toInt := fun z => c (hc.mpr z)
        omega
      obtain ⟨e1, e2⟩ := m_mulB (x := p) (y := b) (B := 1000000000) (C := 1000000000) (by omega) (by omega) (by decide)
      have e3 : 0 ≤ (p * b).toInt := by rw [e1]; exact Int.mul_nonneg h0 hb0
      obtain ⟨j, j1, j2, j3, j4, j5, j6⟩ := ih (k + 1) (p * b) (by rw [e1, hp, Int.pow_succ]) e3 (by omega)
      exact ⟨j, by omega, by omega, j3, j4, j5, fun z => j6 (by omega)⟩
theorem q_pow1 {b : Int64} (hb0 : 0 ≤ b.toInt) (hb : b.toInt ≤ 1000000000) {x : Int32} {n : Nat} (hx : nn x = n) : ∃ j, j ≤ n ∧ (f_pow b x).toInt = b.toInt ^ j ∧ 0 ≤ (f_pow b x).toInt ∧ (f_pow b x).toInt ≤ 1000000000000000000 ∧ (j < n → 1000000000 < (f_pow b x).toInt) := by
  obtain ⟨j, j1, j2, j3, j4, j5, j6⟩ := q_powL hb0 hb n 0 1 (by rw [Int.pow_zero]; rfl) (by decide) (by decide)
  unfold f_pow
  have hx : x.toNatClampNeg = n := hx
  rw [hx]
  exact ⟨j, by omega, j3, j4, j5, fun z => j6 (by omega)⟩
/-- with its sign -/
theorem q_par {x : Int32} {n : Nat} (hx : x = nI n) (hn : n ≤ 6) : x &&& 1 = 1 ↔ n % 2 = 1 := by
  have hall : ∀ i : Fin 7, (nI i.val &&& 1 = 1) ↔ i.val % 2 = 1 := by decide +kernel
  rw [hx]
  exact hall ⟨n, by omega⟩
theorem q_sgn (a : Int) (j : Nat) : (-a) ^ j = if j % 2 = 1 then -(a ^ j) else a ^ j := by
  rw [Int.neg_pow]
  rcases Nat.mod_two_eq_zero_or_one j with e | e
  · rw [e, if_neg (by decide), Int.pow_zero, Int.one_mul]
  · rw [e, if_pos rfl, show (-1 : Int) ^ 1 = -1 from rfl, Int.neg_mul, Int.one_mul]
section RV9
variable {g g1 : CS} {kn : Int32} {tt bb : Nat → Int64} {eT eB oT oB : Int64} {pk : Nat} {ca rf : Int32} {vs : Nat → Value} {n9 : Nat}
/-- REFUSED, since it doesn't FIT -/
theorem SMV.nof {i : Nat} {t b : Int64} {r : Int32} (h : SMV kn tt bb eT eB oT oB pk ca rf vs n9 i (some (t, b)) r g) (hf : m_fit t b = 0) : SMV kn tt bb eT eB oT oB pk ca rf vs n9 i none r g := by
  obtain ⟨h1, h2⟩ := h
  simp only [beR, beT, beB, beF, if_pos hf] at h1 h2
  exact ⟨h1, h2⟩
/-- both powers: bounded by what FITS, or the class's are too great -/
theorem q_two {t b : Int64} (h : m_F t b) (hL : L64 t b) {x : Int32} {n : Nat} (hx : x = nI n) (hn : n ≤ 6) :
    ∃ T B : Int64, f_powT t x = T ∧ f_pow b x = B ∧ T.toInt.natAbs ≤ 1000000000000000000 ∧ 1 ≤ B.toInt ∧ B.toInt ≤ 1000000000000000000 ∧ L64 T B ∧ (t = 0 → n = 0 ∨ T = 0) ∧ (¬ t = 0 → ¬ T = 0) ∧
      ((¬ m_fit T B = 0 ∧ ¬ m_fit (m_raL t b n 1 1).1 (m_raL t b n 1 1).2 = 0 ∧ (m_raL t b n 1 1).1 = T ∧ (m_raL t b n 1 1).2 = B) ∨ (m_fit T B = 0 ∧ m_fit (m_raL t b n 1 1).1 (m_raL t b n 1 1).2 = 0 ∧ (1000000000 < T.toInt.natAbs ∨ 1000000000 < B.toInt))) := by
  obtain ⟨a1, a2, a3⟩ := id h
  have hnx : nn x = n := by rw [hx]; exact nI_clamp (by omega)
  have e1 : (1 : Int64).toInt = 1 := rfl
  have hab : (absL t).toInt = (t.toInt.natAbs : Int) := m_abs (by omega)
  obtain ⟨jt, t1, t2, t3, t4, t5⟩ := q_pow1 (b := absL t) (by omega) (by omega) hnx
  obtain ⟨jb, b1, b2, b3, b4, b5⟩ := q_pow1 (b := b) (by omega) a3 hnx
  obtain ⟨j, -, j1, j2, j3, j4, j5⟩ := q_raL h hL n 0 1 1 (by rw [Int.pow_zero]; rfl) (by rw [Int.pow_zero]; rfl) (by decide)
  rw [Nat.zero_add] at j1 j5
  have hbp : ∀ i : Nat, b.toInt ^ i = ((b.toInt.natAbs ^ i : Nat) : Int) := by
    intro i
    rw [Int.natCast_pow]
    congr 1
    omega
  have hbq : ∀ i : Nat, 1 ≤ b.toInt ^ i := by
    intro i
    rw [hbp i]
    have : 0 < b.toInt.natAbs ^ i := Nat.pow_pos_iff.mpr (Or.inl (by omega))
    omega
  have htp : ∀ i : Nat, (t.toInt ^ i).natAbs = t.toInt.natAbs ^ i := fun i => Int.natAbs_pow _ _
  -- the class's top
  have hT : (f_powT t x).toInt.natAbs = t.toInt.natAbs ^ jt ∧ (jt = n → (f_powT t x).toInt = t.toInt ^ n) ∧ (f_powT t x).toInt.natAbs = (f_pow (absL t) x).toInt.natAbs ∧ ((f_powT t x).toInt = t.toInt ^ jt ∨ (f_powT t x).toInt = -(t.toInt ^ jt)) := by
    have p1 : (f_pow (absL t) x).toInt = ((t.toInt.natAbs ^ jt : Nat) : Int) := by rw [t2, hab, Int.natCast_pow]
    obtain ⟨n1, n2⟩ := m_negB (x := f_pow (absL t) x) (B := 1000000000000000000) (by omega) (by decide)
    have hs := Int64.le_iff_toInt_le (x := 0) (y := t)
    rw [show (0 : Int64).toInt = 0 from rfl] at hs
    unfold f_powT
    by_cases c : 0 ≤ t
    · rw [if_pos c]
      have hc := hs.mp c
      have p2 : (f_pow (absL t) x).toInt = t.toInt ^ jt := by
        rw [t2, hab]
        congr 1
        omega
      exact ⟨by omega, fun e => by rw [← e]; exact p2, rfl, Or.inl p2⟩
    · rw [if_neg c]
      have hc : ¬ 0 ≤ t.toInt := fun z => c (hs.mpr z)
      have p3 : t.toInt = -((t.toInt.natAbs : Nat) : Int) := by omega
      have p4 : ∀ i : Nat, t.toInt ^ i = if i % 2 = 1 then -((t.toInt.natAbs : Int) ^ i) else (t.toInt.natAbs : Int) ^ i := by
        intro i
        have := q_sgn (t.toInt.natAbs : Int) i
        rw [← p3] at this
        exact this
      have p5 : (f_pow (absL t) x).toInt = (t.toInt.natAbs : Int) ^ jt := by rw [t2, hab]
      have hp := q_par hx hn
      by_cases d : x &&& 1 = 1
      · rw [if_pos d]
        refine ⟨by omega, fun e => ?_, by omega, ?_⟩
        · rw [n1, p5, e, p4 n, if_pos (hp.mp d)]
        · rw [n1, p5]
          have := p4 jt
          split at this
          · exact Or.inl this.symm
          · exact Or.inr (by rw [this])
      · rw [if_neg d]
        refine ⟨by omega, fun e => ?_, rfl, ?_⟩
        · rw [p5, e, p4 n, if_neg (fun z => d (hp.mpr z))]
        · rw [p5]
          have := p4 jt
          split at this
          · exact Or.inr (by rw [this, Int.neg_neg])
          · exact Or.inl this.symm
  obtain ⟨w1, w2, w3, w4⟩ := hT
  have hB1 : 1 ≤ (f_pow b x).toInt := by rw [b2]; exact hbq jb
  have hg : Int.gcd (f_powT t x).toInt (f_pow b x).toInt = 1 := by
    rw [b2]
    rcases w4 with e | e
    · rw [e]
      exact Int.pow_gcd_pow_of_gcd_eq_one hL.2
    · rw [e, Int.neg_gcd]
      exact Int.pow_gcd_pow_of_gcd_eq_one hL.2
  refine ⟨_, _, rfl, rfl, by omega, hB1, b4, ⟨hB1, hg⟩, fun z => ?_, fun z => ?_, ?_⟩
  · rcases Nat.eq_zero_or_pos n with e | e
    · exact Or.inl e
    · right
      apply Int64.toInt_inj.mp
      rw [show (0 : Int64).toInt = 0 from rfl]
      have hz : t.toInt = 0 := by rw [z]; rfl
      have hz2 : t.toInt.natAbs = 0 := by omega
      rcases Nat.eq_zero_or_pos jt with q | q
      · have : 1000000000 < (f_pow (absL t) x).toInt := t5 (by omega)
        rw [t2, q, Int.pow_zero] at this
        omega
      · obtain ⟨jt, rfl⟩ : ∃ m, jt = m + 1 := ⟨jt - 1, by omega⟩
        rw [hz2, Nat.pow_succ, Nat.mul_zero] at w1
        omega
  · intro e
    have h0 : (f_powT t x).toInt = 0 := by rw [e]; rfl
    rw [h0] at w1
    have : 0 < t.toInt.natAbs ^ jt := Nat.pow_pos_iff.mpr (Or.inl (by have := q_ne0 z; omega))
    omega
  · have hc := q_fitI (t := f_powT t x) hB1
    have hr := q_fitI (t := (m_raL t b n 1 1).1) j4
    rw [j2, htp, j3, hbp] at hr
    by_cases c : t.toInt.natAbs ^ n ≤ 1000000000 ∧ b.toInt.natAbs ^ n ≤ 1000000000
    · have k1 : jt = n := by
        rcases Nat.lt_or_ge jt n with q | q
        · have q1 := t5 q
          rw [t2, hab, ← Int.natCast_pow] at q1
          have q2 := q_powM (a := t.toInt.natAbs) jt n (by omega) (by omega)
          omega
        · omega
      have k2 : jb = n := by
        rcases Nat.lt_or_ge jb n with q | q
        · have q1 := b5 q
          rw [b2, hbp] at q1
          have q2 := q_powM (a := b.toInt.natAbs) jb n (by omega) (by omega)
          omega
        · omega
      have k3 : j = n := by
        rcases Nat.lt_or_ge j n with q | q
        · have q1 := j5 q
          have q2 : ¬ (t.toInt.natAbs ^ j ≤ 1000000000 ∧ ((b.toInt.natAbs ^ j : Nat) : Int) ≤ 1000000000) := fun z => (hr.mpr z) q1
          have q3 := q_powM (a := t.toInt.natAbs) j n (by omega)
          have q4 := q_powM (a := b.toInt.natAbs) j n (by omega)
          by_cases q5 : 1000000000 < t.toInt.natAbs ^ j
          · have := q3 q5
            omega
          · have := q4 (by omega)
            omega
        · omega
      left
      refine ⟨hc.mpr ⟨by rw [w1, k1]; exact c.1, by rw [b2, k2, hbp]; omega⟩, hr.mpr ⟨by rw [k3]; exact c.1, by rw [k3]; omega⟩, ?_, ?_⟩
      · apply Int64.toInt_inj.mp
        rw [j2, w2 k1, k3]
      · apply Int64.toInt_inj.mp
        rw [j3, b2, k2, k3]
    · right
      have hbig : 1000000000 < (f_powT t x).toInt.natAbs ∨ 1000000000 < (f_pow b x).toInt := by
        by_cases q5 : 1000000000 < t.toInt.natAbs ^ n
        · left
          rcases Nat.lt_or_ge jt n with q | q
          · have := t5 q
            omega
          · rw [w1, show jt = n by omega]
            exact q5
        · right
          rcases Nat.lt_or_ge jb n with q | q
          · exact b5 q
          · rw [b2, show jb = n by omega, hbp]
            omega
      refine ⟨?_, ?_, hbig⟩
      · exact Classical.byContradiction fun z => by
          have := hc.mp z
          omega
      · exact Classical.byContradiction fun z => by
          have z1 := hr.mp z
          have z2 : ¬ j < n := fun q => z (j5 q)
          rw [show j = n by omega] at z1
          omega
theorem s_rai (h : RV g kn tt bb eT eB oT oB pk ca rf vs n9) {i : Nat} (hi : i < 6) {x : Int32} (hx1 : -6 ≤ x.toInt) (hx2 : x.toInt ≤ 6) : SMV kn tt bb eT eB oT oB pk ca rf vs n9 i (m_RA (tt i) (bb i) x) (f_raiR g i x) (f_raiW g i x) := by
  obtain ⟨a1, a2, a3, a4⟩ := h.1 i hi
  obtain ⟨n, hn1, hn2⟩ : ∃ n : Nat, f_absI x = nI n ∧ n ≤ 6 := by
    refine m_abs6 (x := x) ?_
    unfold m_isIn
    have c1 : ¬ x < -6 := fun z => by
      have := Int32.lt_iff_toInt_lt.mp z
      rw [show (-6 : Int32).toInt = -6 by decide] at this
      omega
    have c2 : ¬ (6 : Int32) < x := fun z => by
      have := Int32.lt_iff_toInt_lt.mp z
      rw [show (6 : Int32).toInt = 6 by decide] at this
      omega
    rw [if_neg c1, if_neg c2]
    decide
  have e32 : f_abs32 x = f_absI x := rfl
  have hnn : nn (f_absI x) = n := by rw [hn1]; exact nI_clamp (by omega)
  obtain ⟨T, B, hT, hB, t1, t2, t3, t4, t5, t6, t7⟩ := q_two a3 a4 hn1 hn2
  have hs := Int32.le_iff_toInt_le (x := 0) (y := x)
  rw [show (0 : Int32).toInt = 0 from rfl] at hs
  have hl := Int32.lt_iff_toInt_lt (x := x) (y := 0)
  rw [show (0 : Int32).toInt = 0 from rfl] at hl
  unfold f_raiR f_raiW m_RA f_power
  rw [a1, a2, e32, hT, hB, hnn]
  by_cases c : 0 ≤ x
  · rw [if_pos c, if_pos c, if_pos c, if_neg (show ¬ x < 0 from fun z => by have := hs.mp c; have := hl.mp z; omega)]
    have hp := h.bec (lz_rf g) hi (t := T) (b := B) (by omega) (by omega) (m_ne0 t2) (q_loL (by omega) t4).1 (q_loL (by omega) t4).2
    rcases t7 with ⟨k1, k2, k3, k4⟩ | ⟨k1, k2, -⟩
    · rw [if_neg k2, show m_raL (tt i) (bb i) n 1 1 = (T, B) from Prod.ext k3 k4]
      exact hp
    · rw [if_pos k2]
      exact SMV.nof (t := T) (b := B) hp k1
  · rw [if_neg c, if_neg c, if_neg c, if_pos (show x < 0 from hl.mpr (by have : ¬ 0 ≤ x.toInt := fun z => c (hs.mpr z); omega))]
    have hnpos : ¬ n = 0 := by
      intro e
      rw [e] at hn1
      have hx0 : ¬ 0 ≤ x.toInt := fun z => c (hs.mpr z)
      have : f_absI x = -x := by unfold f_absI; rw [if_neg c]
      rw [this] at hn1
      have h2 := congrArg Int32.toInt hn1
      rw [Int32.toInt_neg, nI_toInt (by decide)] at h2
      simp only [Int.bmod] at h2
      split at h2 <;> omega
    by_cases d : tt i = 0
    · rw [if_pos (q_cmp0.mpr d), if_pos (q_cmp0.mpr d)]
      have hT0 : T = 0 := (t5 d).resolve_left hnpos
      have ho : (if m_fit (m_raL (tt i) (bb i) n 1 1).1 (m_raL (tt i) (bb i) n 1 1).2 = 0 then none else m_IV (m_raL (tt i) (bb i) n 1 1).1 (m_raL (tt i) (bb i) n 1 1).2) = none := by
        rcases t7 with ⟨k1, k2, k3, k4⟩ | ⟨k1, k2, -⟩
        · rw [if_neg k2, k3, hT0]
          unfold m_IV
          rw [if_pos rfl]
        · rw [if_pos k2]
      rw [ho]
      exact h.no (lz_rf g) i
    · rw [if_neg (fun z => d (q_cmp0.mp z)), if_neg (fun z => d (q_cmp0.mp z))]
      have hT0 := t6 d
      have hp := h.bec (lz_rf g) hi (t := B) (b := T) (by omega) (by omega) hT0 rfl rfl
      rcases t7 with ⟨k1, k2, k3, k4⟩ | ⟨k1, k2, k5⟩
      · rw [if_neg k2, k3, k4]
        unfold m_IV
        rw [if_neg hT0]
        exact hp
      · rw [if_pos k2]
        refine SMV.nof (t := m_loT B T) (b := m_loB B T) hp ?_
        obtain ⟨l1, l2⟩ := q_lo (t := B) (b := T) (by omega) (by omega) hT0
        have hq := (q_fitI (t := m_loT B T) l1.1)
        refine Classical.byContradiction fun z => ?_
        obtain ⟨z1, z2⟩ := hq.mp z
        -- B and T have no common divisor: they are what comes, but for the sign
        have hco : Int.gcd B.toInt T.toInt = 1 := by rw [Int.gcd_comm]; exact t4.2
        have w1 : T.toInt ∣ (m_loB B T).toInt := by
          refine Int.gcd_eq_natAbs_left_iff_dvd.mp ?_
          rw [← Int.gcd_mul_right_right_of_gcd_eq_one (show Int.gcd T.toInt B.toInt = 1 by rw [Int.gcd_comm]; exact hco) (k := (m_loB B T).toInt)]
          exact Int.gcd_eq_natAbs_left ⟨(m_loT B T).toInt, by rw [← l2, Int.mul_comm]⟩
        have w2 : T.toInt.natAbs ≤ (m_loB B T).toInt.natAbs := Nat.le_of_dvd (by have := l1.1; omega) (Int.natAbs_dvd_natAbs.mpr w1)
        have w3 : B.toInt ∣ (m_loT B T).toInt := by
          refine Int.gcd_eq_natAbs_left_iff_dvd.mp ?_
          rw [← Int.gcd_mul_left_right_of_gcd_eq_one hco (k := (m_loT B T).toInt)]
          exact Int.gcd_eq_natAbs_left ⟨(m_loB B T).toInt, l2⟩
        have w4 : (m_loT B T).toInt ≠ 0 := by
          intro e
          rw [e, Int.zero_mul] at l2
          rcases Int.mul_eq_zero.mp l2.symm with e2 | e2
          · omega
          · have := l1.1
            omega
        have w5 : B.toInt.natAbs ≤ (m_loT B T).toInt.natAbs := Nat.le_of_dvd (by omega) (Int.natAbs_dvd_natAbs.mpr w3)
        have := l1.1
        omega
end RV9
/-! ===== TERMS, side by side ===== -/
/-- what is known of a row of TERMS -/
def q_row (L : List Int64) : Prop := ∀ i, i < L.length → (L.getD i 0).toInt.natAbs ≤ 1000000001 ∧ 1 ≤ (L.getD i 0).toInt ∧ (i + 1 = L.length → 2 ≤ (L.getD i 0).toInt)
theorem q_euN : ∀ (n k : Nat) (T B : Int64), m_T k T B → 1 ≤ k → k ≤ 43 → k + n = 64 → (m_eu n T B).length + k ≤ 43 ∧ q_row (m_eu n T B) := by
  intro n
  induction n with
  | zero => intro k T B _ _ h1 h2; omega
  | succ n ih =>
    intro k T B h hk hk2 hn
    unfold m_eu
    by_cases c : B = 0
    · rw [if_pos c]
      exact ⟨by show 0 + k ≤ 43; omega, fun i hi => absurd hi (Nat.not_lt_zero i)⟩
    · rw [if_neg c]
      obtain ⟨k0, b1⟩ := m_T0 h ⟨hk, hk2⟩ c
      obtain ⟨p1, p2, p3, p4⟩ := m_T2 h ⟨hk, hk2⟩ c rfl rfl
      obtain ⟨i1, i2⟩ := ih (k + 1) _ _ p1 (by omega) (by omega) (by omega)
      refine ⟨by rw [List.length_cons]; omega, fun i hi => ?_⟩
      rw [List.length_cons] at hi ⊢
      cases i with
      | zero =>
        refine ⟨p3, p2, fun z => p4 ?_⟩
        have hl : (m_eu n B (T - m_floor T B * B)).length = 0 := by omega
        obtain ⟨n, rfl⟩ : ∃ n1, n = n1 + 1 := ⟨n - 1, by omega⟩
        refine Classical.byContradiction fun z2 => ?_
        unfold m_eu at hl
        rw [if_neg z2] at hl
        exact absurd hl (by simp)
      | succ i =>
        obtain ⟨j1, j2, j3⟩ := i2 i (by omega)
        exact ⟨j1, j2, fun z => j3 (by omega)⟩
/-- at most 43, at least one; those behind the first at least 1, the last of several at least 2 -/
theorem m_euS (n : Nat) (t b : Int64) (h : ¬ b = 0) : m_eu (n + 1) t b = m_floor t b :: m_eu n b (t - m_floor t b * b) := by
  show (if b = 0 then [] else m_floor t b :: m_eu n b (t - m_floor t b * b)) = _
  rw [if_neg h]
theorem q_TE {t b : Int64} (h : m_F t b) : 1 ≤ (m_TE t b).length ∧ (m_TE t b).length ≤ 43 ∧ (∀ i, i < (m_TE t b).length → (m_at t b i).toInt.natAbs ≤ 1000000001) ∧ (∀ i, 1 ≤ i → i < (m_TE t b).length → 1 ≤ (m_at t b i).toInt ∧ (i + 1 = (m_TE t b).length → 2 ≤ (m_at t b i).toInt)) ∧ m_at t b 0 = m_floor t b ∧ ((m_TE t b).length = 1 → t.toInt = (m_floor t b).toInt * b.toInt) := by
  obtain ⟨p1, p2⟩ := m_T1 h rfl rfl
  have e : m_TE t b = m_floor t b :: m_eu 63 b (t - m_floor t b * b) := by
    exact m_euS 63 t b (m_ne0 h.2.1)
  obtain ⟨q1, q2⟩ := q_euN 63 1 b _ p1 (by decide) (by decide) (by decide)
  unfold m_at
  rw [e, List.length_cons]
  refine ⟨by omega, by omega, fun i hi => ?_, fun i h1 hi => ?_, rfl, fun z => ?_⟩
  · cases i with
    | zero => exact p2
    | succ i => exact (q2 i (by omega)).1
  · cases i with
    | zero => omega
    | succ i => exact ⟨(q2 i (by omega)).2.1, fun z => (q2 i (by omega)).2.2 (by omega)⟩
  · have hl : (m_eu 63 b (t - m_floor t b * b)).length = 0 := by omega
    have hL : t - m_floor t b * b = 0 := by
      refine Classical.byContradiction fun z2 => ?_
      have : m_eu 63 b (t - m_floor t b * b) = m_floor b (t - m_floor t b * b) :: m_eu 62 (t - m_floor t b * b) (b - m_floor b (t - m_floor t b * b) * (t - m_floor t b * b)) := by
        exact m_euS 62 b (t - m_floor t b * b) z2
      rw [this] at hl
      exact absurd hl (by simp)
    obtain ⟨l1, -, -, -⟩ := m_left (T := t) (B := b) h.1 h.2.1 h.2.2 rfl rfl
    rw [hL, show (0 : Int64).toInt = 0 from rfl] at l1
    omega
/-- the class takes apart alike -/
theorem q_add {g : CS} {j c : Nat} (hc : tC g j = nI c) (h : c < 64) (v : Int64) : f_addLast g j v = uC (uV g j c v) j (nI (c + 1)) := by
  unfold f_addLast
  rw [hc, if_neg (nI_pos (by omega)), if_neg (nI_le64 (by omega)), nI_clamp (by omega), nI_1]
theorem q_apL {j : Nat} : ∀ (n : Nat) (g : CS) (t b : Int64) (c : Nat), tC g j = nI c → c + n ≤ 64 → t.toInt.natAbs ≤ 1000000000 → 0 ≤ b.toInt → b.toInt ≤ 1000000000 →
    tC (apartL j n g t b) j = nI (c + (m_eu n t b).length) ∧ (∀ i, i < c → tV (apartL j n g t b) j i = tV g j i) ∧ ∀ i, i < (m_eu n t b).length → tV (apartL j n g t b) j (c + i) = (m_eu n t b).getD i 0 := by
  intro n
  induction n with
  | zero => intro g t b c hc _ _ _ _; exact ⟨hc, fun _ _ => rfl, fun i hi => absurd hi (Nat.not_lt_zero i)⟩
  | succ n ih =>
    intro g t b c hc hn ht hb0 hb
    unfold apartL m_eu
    by_cases z : b = 0
    · rw [if_pos z, if_pos z]
      exact ⟨hc, fun _ _ => rfl, fun i hi => absurd hi (Nat.not_lt_zero i)⟩
    · rw [if_neg z, if_neg z]
      have hb1 : 1 ≤ b.toInt := by have := q_ne0 z; omega
      obtain ⟨l1, l2, l3, l4⟩ := m_left (T := t) (B := b) ht hb1 hb rfl rfl
      rw [q_ffl (by omega) hb1, q_add hc (by omega)]
      obtain ⟨g1, hg1⟩ : ∃ g1, g1 = uC (uV g j c (m_floor t b)) j (nI (c + 1)) := ⟨_, rfl⟩
      have k1 : tC g1 j = nI (c + 1) := by rw [hg1]; exact tC_uC _ _ _
      have k2 : ∀ i, tV g1 j i = if i = c then m_floor t b else tV g j i := by
        intro i
        rw [hg1]
        show va_up (tV g) j (vp_updL (tV g j) c (m_floor t b)) j i = _
        rw [va_up_self]
        rfl
      rw [← hg1]
      obtain ⟨i1, i2, i3⟩ := ih g1 b (t - m_floor t b * b) (c + 1) k1 (by omega) (by omega) l3 (by omega)
      rw [List.length_cons]
      refine ⟨by rw [i1]; congr 1; omega, fun i hi => ?_, fun i hi => ?_⟩
      · rw [i2 i (by omega), k2 i, if_neg (by omega)]
      · cases i with
        | zero =>
          rw [Nat.add_zero, i2 c (by omega), k2 c, if_pos rfl]
          rfl
        | succ i =>
          rw [show c + (i + 1) = c + 1 + i by omega, i3 i (by omega)]
          rfl
theorem q_apt {g : CS} {i : Nat} {t b : Int64} (e1 : tT g i = t) (e2 : tB g i = b) (h : m_F t b) : tC (f_apart g 1 i) 1 = nI (m_TE t b).length ∧ ∀ k, k < (m_TE t b).length → tV (f_apart g 1 i) 1 k = m_at t b k := by
  unfold f_apart
  rw [e1, e2]
  obtain ⟨h1, h2, h3⟩ := q_apL (j := 1) 64 (uC g 1 0) t b 0 ((tC_uC g 1 0).trans nI_0.symm) (by decide) h.1 (by have := h.2.1; omega) h.2.2
  rw [Nat.zero_add] at h1
  refine ⟨h1, fun k hk => ?_⟩
  have := h3 k hk
  rw [Nat.zero_add] at this
  exact this
/-! FOLDED alike -/
theorem q_at {g : CS} {j c : Nat} (hc : tC g j = nI c) (h : c ≤ 64) {k : Nat} (hk : k < c) : f_at g j (nI k) = tV g j k := by
  unfold f_at
  rw [if_neg (nI_pos (by omega)), hc, if_neg (fun z => absurd ((nI_leI (by omega) (by omega)).mp z) (by omega)), if_neg (nI_le64 (by omega)), nI_clamp (by omega)]
theorem q_lt1 {x : Int64} : x < 1 ↔ x.toInt < 1 := by
  rw [Int64.lt_iff_toInt_lt]
  rfl
theorem q_fdL {g : CS} {j c : Nat} (hc : tC g j = nI c) (hc2 : c ≤ 64) {a : Nat → Int64} (ha : ∀ k, k < c → tV g j k = a k) (h1 : ∀ k, 1 ≤ k → k < c → 1 ≤ (a k).toInt) : ∀ (n : Nat), n < c → ∀ t b : Int64, (foldL g j n t b = none ∧ m_fdL a n t b = none) ∨ ∃ x y : Int64, foldL g j n t b = some (x, y) ∧ m_fdL a n t b = LO x y := by
  intro n
  induction n with
  | zero => intro _ t b; exact Or.inr ⟨t, b, rfl, rfl⟩
  | succ n ih =>
    intro hn t b
    unfold foldL m_fdL
    rw [q_at hc hc2 hn, ha (n + 1) hn, q_at hc hc2 (show n < c by omega), ha n (by omega), if_neg (fun z => by
      have := q_lt1.mp z
      have := h1 (n + 1) (by omega) hn
      omega)]
    by_cases c4 : 4000000000 < t
    · rw [if_pos c4, if_pos c4]
      exact Or.inl ⟨rfl, rfl⟩
    · rw [if_neg c4, if_neg c4]
      exact ih (by omega) _ _
/-- the two numbers stay small, and the lower one above 0 -/
theorem q_fdB {g : CS} {j c : Nat} (hc : tC g j = nI c) (hc2 : c ≤ 64) {a : Nat → Int64} (ha : ∀ k, k < c → tV g j k = a k) (h1 : ∀ k, 1 ≤ k → k < c → 1 ≤ (a k).toInt) (h2 : ∀ k, k < c → (a k).toInt.natAbs ≤ 1000000002) : ∀ (n : Nat), n < c → ∀ t b x y : Int64, (1 ≤ n → 1 ≤ t.toInt) → t.toInt.natAbs ≤ 9000000000000000000 → 1 ≤ b.toInt → b.toInt ≤ 4000000000 → foldL g j n t b = some (x, y) → x.toInt.natAbs ≤ 9000000000000000000 ∧ 1 ≤ y.toInt ∧ y.toInt ≤ 4000000000 := by
  intro n
  induction n with
  | zero =>
    intro _ t b x y _ ht hb hb2 h
    cases h
    exact ⟨ht, hb, hb2⟩
  | succ n ih =>
    intro hn t b x y h0 ht hb hb2 h
    unfold foldL at h
    rw [q_at hc hc2 hn, ha (n + 1) hn, q_at hc hc2 (show n < c by omega), ha n (by omega), if_neg (fun z => by
      have := q_lt1.mp z
      have := h1 (n + 1) (by omega) hn
      omega)] at h
    have ht1 := h0 (by omega)
    have hc4 := Int64.lt_iff_toInt_lt (x := 4000000000) (y := t)
    rw [show (4000000000 : Int64).toInt = 4000000000 by decide] at hc4
    by_cases c4 : 4000000000 < t
    · rw [if_pos c4] at h
      cases h
    · rw [if_neg c4] at h
      have ht4 : t.toInt ≤ 4000000000 := by
        have : ¬ (4000000000 : Int) < t.toInt := fun z => c4 (hc4.mpr z)
        omega
      have han := h2 n (by omega)
      obtain ⟨e1, e2⟩ := m_mulB (x := a n) (y := t) (B := 1000000002) (C := 4000000000) han (by omega) (by decide)
      obtain ⟨f1, f2⟩ := m_addB (x := a n * t) (y := b) (B := 1000000002 * 4000000000) (C := 4000000000) e2 (by omega) (by decide)
      refine ih (by omega) _ _ _ _ (fun z => ?_) (by omega) ht1 ht4 h
      rw [f1, e1]
      have := h1 n z (by omega)
      have h8 : 0 ≤ (a n).toInt * t.toInt := Int.mul_nonneg (by omega) (by omega)
      omega
section RV10
variable {g g1 : CS} {kn : Int32} {tt bb : Nat → Int64} {eT eB oT oB : Int64} {pk : Nat} {ca rf : Int32} {vs : Nat → Value} {n9 : Nat}
/-- a row of TERMS is FOLDED into a RATIO -/
theorem RV.fold (h : RV g kn tt bb eT eB oT oB pk ca rf vs n9) (hz : lz g g1) {i : Nat} (hi : i < 6) {j c : Nat} (hc : tC g1 j = nI c) (hc1 : 1 ≤ c) (hc2 : c ≤ 64) {a : Nat → Int64} (ha : ∀ k, k < c → tV g1 j k = a k) (h1 : ∀ k, 1 ≤ k → k < c → 1 ≤ (a k).toInt) (h2 : ∀ k, k < c → (a k).toInt.natAbs ≤ 1000000002) :
    SMV kn tt bb eT eB oT oB pk ca rf vs n9 i (m_FD a c) (f_fsR g1 j i) (f_fsW g1 j i) := by
  have hf : f_fold g1 j = foldL g1 j (c - 1) (a (c - 1)) 1 := by
    unfold f_fold
    have e1 : nI c - 1 = nI (c - 1) := by
      obtain ⟨d, rfl⟩ : ∃ d, c = d + 1 := ⟨c - 1, by omega⟩
      rw [nI_pred]
      rfl
    rw [hc, if_pos (show (1 : Int32) ≤ nI c from (nI_leI (a := 1) (by decide) (by omega)).mpr hc1), e1, nI_clamp (by omega), q_at hc hc2 (by omega), ha (c - 1) (by omega)]
  have hB := q_fdB hc hc2 ha h1 h2 (c - 1) (by omega) (a (c - 1)) 1
  unfold f_fsR f_fsW f_foldR f_foldW m_FD
  rcases q_fdL hc hc2 ha h1 (c - 1) (by omega) (a (c - 1)) 1 with ⟨k1, k2⟩ | ⟨x, y, k1, k2⟩
  · rw [hf, k1, k2]
    dsimp only
    rw [if_pos rfl, if_pos rfl]
    exact h.no hz i
  · obtain ⟨b1, b2, b3⟩ := hB x y (fun z => h1 (c - 1) z (by omega)) (by have := h2 (c - 1) (by omega); omega) (by decide) (by decide) k1
    rw [hf, k1, k2]
    dsimp only
    rw [if_neg (by decide), if_neg (by decide)]
    exact h.bec hz hi (by omega) (by omega) (m_ne0 b2) rfl rfl
def m_CV (t b : Int64) (x : Int32) : Option (Int64 × Int64) := if nI (m_TE t b).length ≤ x then none else m_FD (m_at t b) (nn x + 1)
def m_TM (t b : Int64) (x : Int32) : Int32 := if nI (m_TE t b).length ≤ x then -9 else (m_at t b (nn x)).toInt32
theorem s_con (h : RV g kn tt bb eT eB oT oB pk ca rf vs n9) {i j : Nat} (hi : i < 6) (hj : j < 6) {x : Int32} (hx : 0 ≤ x) : SMV kn tt bb eT eB oT oB pk ca rf vs n9 i (m_CV (tt j) (bb j) x) (f_conR (f_apart g 1 j) i x) (f_conW (f_apart g 1 j) i x) := by
  obtain ⟨a1, a2, a3, a4⟩ := h.1 j hj
  obtain ⟨p1, p2⟩ := q_apt a1 a2 a3
  obtain ⟨t1, t2, t3, t4, t5, t6⟩ := q_TE a3
  have l1 := lz_apt g j
  unfold f_conR f_conW m_CV
  rw [p1]
  by_cases c : nI (m_TE (tt j) (bb j)).length ≤ x
  · rw [if_pos c, if_pos c, if_pos c]
    exact h.no l1 i
  · rw [if_neg c, if_neg c, if_neg c]
    obtain ⟨k, rfl, hk⟩ := m_ix hx c (by omega)
    rw [nI_1]
    have hnn : nn (nI k) = k := nI_clamp (by omega)
    rw [hnn]
    by_cases e : k + 1 = (m_TE (tt j) (bb j)).length
    · have ek : f_keep (f_apart g 1 j) 1 (nI (k + 1)) = f_apart g 1 j := by
        unfold f_keep
        rw [if_neg (nI_pos (by omega)), p1, if_pos ((nI_leI (by omega) (by omega)).mpr (by omega))]
      rw [ek, e]
      exact h.fold l1 hi p1 (by omega) (by omega) p2 (fun q q1 q2 => (t4 q q1 q2).1) (fun q q1 => by have := t3 q q1; omega)
    · have ek : f_keep (f_apart g 1 j) 1 (nI (k + 1)) = uC (f_apart g 1 j) 1 (nI (k + 1)) := by
        unfold f_keep
        rw [if_neg (nI_pos (by omega)), p1, if_neg (fun z => absurd ((nI_leI (by omega) (by omega)).mp z) (by omega))]
      rw [ek]
      exact h.fold (l1.tr (lz_sm (tx_smC _ _))) hi (tC_uC _ _ _) (by omega) (by omega) (fun q hq => p2 q (by omega)) (fun q q1 q2 => (t4 q q1 (by omega)).1) (fun q q1 => by have := t3 q (by omega); omega)
theorem s_trm (h : RV g kn tt bb eT eB oT oB pk ca rf vs n9) {j : Nat} (hj : j < 6) {x : Int32} (hx : 0 ≤ x) : f_term (f_apart g 1 j) x = m_TM (tt j) (bb j) x := by
  obtain ⟨a1, a2, a3, a4⟩ := h.1 j hj
  obtain ⟨p1, p2⟩ := q_apt a1 a2 a3
  obtain ⟨t1, t2, t3, t4, t5, t6⟩ := q_TE a3
  unfold f_term m_TM
  rw [p1]
  by_cases c : nI (m_TE (tt j) (bb j)).length ≤ x
  · rw [if_pos c, if_pos c]
  · rw [if_neg c, if_neg c]
    obtain ⟨k, rfl, hk⟩ := m_ix hx c (by omega)
    rw [q_at p1 (by omega) hk, p2 k hk, show nn (nI k) = k from nI_clamp (by omega)]
/-! up, down -/
theorem q_adT {g : CS} {j c : Nat} (hc : tC g j = nI c) (h1 : 1 ≤ c) (h2 : c ≤ 64) (v : Int64) : f_addTo g j v = uV g j (c - 1) (tV g j (c - 1) + v) := by
  have e1 : nI c - 1 = nI (c - 1) := by
    obtain ⟨d, rfl⟩ : ∃ d, c = d + 1 := ⟨c - 1, by omega⟩
    rw [nI_pred]
    rfl
  unfold f_addTo
  rw [hc, e1, if_neg (nI_pos (by omega)), if_neg (nI_le64 (by omega)), nI_clamp (by omega)]
theorem q_uV (g : CS) (j k : Nat) (v : Int64) (i : Nat) : tV (uV g j k v) j i = va_up (tV g j) k v i := by
  show va_up (tV g) j (vp_updL (tV g j) k v) j i = _
  rw [va_up_self]
  rfl
theorem q_lz1 (g : CS) (k : Nat) (v : Int64) : lz g (uV g 1 k v) := lz_sm (tx_smV g k v)
def m_UP (t b : Int64) : Option (Int64 × Int64) := if m_abv t = 0 then none else if m_one t b = 0 then m_WL t b (-1) else none
theorem q_bump {x v : Int64} (h : x.toInt.natAbs ≤ 1000000001) (hv : v.toInt.natAbs ≤ 1) : (x + v).toInt = x.toInt + v.toInt := (m_addB (B := 1000000001) (C := 1) h hv (by decide)).1
theorem s_up (h : RV g kn tt bb eT eB oT oB pk ca rf vs n9) {i : Nat} (hi : i < 6) : SMV kn tt bb eT eB oT oB pk ca rf vs n9 i (m_UP (tt i) (bb i)) (f_upR g i) (f_upX g i) := by
  obtain ⟨a1, a2, a3, a4⟩ := h.1 i hi
  obtain ⟨p1, p2⟩ := q_apt a1 a2 a3
  obtain ⟨t1, t2, t3, t4, t5, t6⟩ := q_TE a3
  unfold f_upR f_upX m_UP
  rw [a1, a2]
  by_cases c : 1 ≤ (tt i).toInt
  · rw [if_neg (fun z => (q_cmpN.mp z) c), if_neg (fun z => (q_cmpN.mp z) c), if_neg (fun z => (q_abv.mp z) c)]
    by_cases d : m_one (tt i) (bb i) = 0
    · have d0 : f_one (tt i) (bb i) = 0 := d
      rw [if_pos d0, if_pos d0, if_pos d]
      have hn1 : (-1 : Int64).toInt = -1 := by decide
      have ht3 := t3 ((m_TE (tt i) (bb i)).length - 1) (by omega)
      have hbm := q_bump (v := -1) ht3 (by decide)
      have eW : f_upW g i = uV (f_apart g 1 i) 1 ((m_TE (tt i) (bb i)).length - 1) (m_at (tt i) (bb i) ((m_TE (tt i) (bb i)).length - 1) + -1) := by
        unfold f_upW
        rw [q_adT p1 t1 (by omega), p2 _ (by omega)]
      have hF := h.fold ((lz_apt g i).tr (q_lz1 _ ((m_TE (tt i) (bb i)).length - 1) (m_at (tt i) (bb i) ((m_TE (tt i) (bb i)).length - 1) + -1))) hi (j := 1) (c := (m_TE (tt i) (bb i)).length) (a := va_up (m_at (tt i) (bb i)) ((m_TE (tt i) (bb i)).length - 1) (m_at (tt i) (bb i) ((m_TE (tt i) (bb i)).length - 1) + -1)) p1 t1 (by omega)
        (fun k hk => by
          rw [q_uV]
          by_cases e : k = (m_TE (tt i) (bb i)).length - 1
          · rw [e, va_up_self, va_up_self]
          · rw [va_up_ne _ _ e, va_up_ne _ _ e]
            exact p2 k hk)
        (fun k k1 k2 => by
          by_cases e : k = (m_TE (tt i) (bb i)).length - 1
          · rw [e, va_up_self, hbm, hn1]
            have := (t4 ((m_TE (tt i) (bb i)).length - 1) (by omega) (by omega)).2 (by omega)
            omega
          · rw [va_up_ne _ _ e]
            exact (t4 k k1 k2).1)
        (fun k hk => by
          by_cases e : k = (m_TE (tt i) (bb i)).length - 1
          · rw [e, va_up_self, hbm, hn1]
            omega
          · rw [va_up_ne _ _ e]
            have := t3 k hk
            omega)
      rw [← eW] at hF
      exact hF
    · have d0 : ¬ f_one (tt i) (bb i) = 0 := d
      rw [if_neg d0, if_neg d0, if_neg d]
      exact h.no (lz_rf g) i
  · rw [if_pos (q_cmpN.mpr c), if_pos (q_cmpN.mpr c), if_pos (q_abv.mpr c)]
    exact h.no (lz_rf g) i
end RV10
/-! ===== down: which one is the greater ===== -/
/-- Euclid's tops -/
theorem q_euT : ∀ (n k : Nat) (T B : Int64), m_T k T B → 1 ≤ k → k ≤ 43 → k + n = 64 → ∃ S : Nat → Int, S 0 = T.toInt ∧ S 1 = B.toInt ∧ S ((m_eu n T B).length + 1) = 0 ∧ (∀ i, i < (m_eu n T B).length → ((m_eu n T B).getD i 0).toInt * S (i + 1) + S (i + 2) = S i) ∧ ∀ i, i ≤ (m_eu n T B).length → 1 ≤ S i ∧ S i ≤ 1000000000 := by
  intro n
  induction n with
  | zero => intro k T B _ _ h1 h2; omega
  | succ n ih =>
    intro k T B h hk hk2 hn
    unfold m_eu
    by_cases c : B = 0
    · rw [if_pos c]
      obtain ⟨a1, a2, a3, a4⟩ := h
      have e0 : B.toInt = 0 := by rw [c]; rfl
      refine ⟨fun i => if i = 0 then T.toInt else 0, rfl, by rw [e0]; rfl, rfl, fun i hi => absurd hi (Nat.not_lt_zero i), fun i hi => ?_⟩
      have : i = 0 := Nat.le_zero.mp hi
      rw [this]
      show 1 ≤ T.toInt ∧ T.toInt ≤ 1000000000
      omega
    · rw [if_neg c]
      obtain ⟨k0, b1⟩ := m_T0 h ⟨hk, hk2⟩ c
      obtain ⟨p1, p2, p3, p4⟩ := m_T2 h ⟨hk, hk2⟩ c rfl rfl
      obtain ⟨S, s0, s1, s2, s3, s4⟩ := ih (k + 1) _ _ p1 (by omega) (by omega) (by omega)
      obtain ⟨a1, a2, a3, a4⟩ := h
      obtain ⟨l1, -, -, -⟩ := m_left (T := T) (B := B) (by omega) b1 (by omega) rfl rfl
      rw [List.length_cons]
      refine ⟨fun i => if i = 0 then T.toInt else S (i - 1), rfl, s0, s2, fun i hi => ?_, fun i hi => ?_⟩
      · cases i with
        | zero =>
          show (m_floor T B).toInt * S 0 + S 1 = T.toInt
          rw [s0, s1, l1]
          omega
        | succ i => exact s3 i (by omega)
      · cases i with
        | zero =>
          show 1 ≤ T.toInt ∧ T.toInt ≤ 1000000000
          omega
        | succ i => exact s4 i (by omega)
theorem q_TET {t b : Int64} (h : m_F t b) : ∃ S : Nat → Int, S 0 = t.toInt ∧ S 1 = b.toInt ∧ S ((m_TE t b).length + 1) = 0 ∧ (∀ i, i < (m_TE t b).length → (m_at t b i).toInt * S (i + 1) + S (i + 2) = S i) ∧ ∀ i, 1 ≤ i → i ≤ (m_TE t b).length → 1 ≤ S i ∧ S i ≤ 1000000000 := by
  obtain ⟨p1, p2⟩ := m_T1 h rfl rfl
  have e : m_TE t b = m_floor t b :: m_eu 63 b (t - m_floor t b * b) := by
    exact m_euS 63 t b (m_ne0 h.2.1)
  obtain ⟨S, s0, s1, s2, s3, s4⟩ := q_euT 63 1 b _ p1 (by decide) (by decide) (by decide)
  obtain ⟨l1, -, -, -⟩ := m_left (T := t) (B := b) h.1 h.2.1 h.2.2 rfl rfl
  unfold m_at
  rw [e, List.length_cons]
  refine ⟨fun i => if i = 0 then t.toInt else S (i - 1), rfl, s0, s2, fun i hi => ?_, fun i h1 hi => ?_⟩
  · cases i with
    | zero =>
      show (m_floor t b).toInt * S 0 + S 1 = t.toInt
      rw [s0, s1, l1]
      omega
    | succ i => exact s3 i (by omega)
  · cases i with
    | zero => omega
    | succ i => exact s4 i (by omega)
/-- FOLDED side by side: neither grows beyond twice the tops, and what lies between them only turns its sign -/
theorem q_fd2 {a a2 d : Nat → Int64} {S : Nat → Int} : ∀ (n : Nat), (∀ k, k < n → a k = d k ∧ a2 k = d k ∧ 0 ≤ (d k).toInt ∧ (1 ≤ k → 1 ≤ (d k).toInt) ∧ (d k).toInt.natAbs ≤ 1000000001 ∧ (d k).toInt * S (k + 1) + S (k + 2) = S k) → (∀ k, k ≤ n + 1 → 0 ≤ S k ∧ S k ≤ 1000000000) →
    ∀ t b t2 b2 : Int64, 0 ≤ t.toInt → t.toInt ≤ 2 * S n → 1 ≤ b.toInt → b.toInt ≤ 2 * S (n + 1) → (1 ≤ n → 1 ≤ t.toInt) → 0 ≤ t2.toInt → t2.toInt ≤ 2 * S n → 1 ≤ b2.toInt → b2.toInt ≤ 2 * S (n + 1) → (1 ≤ n → 1 ≤ t2.toInt) →
    ∃ x y x2 y2 : Int64, m_fdL a n t b = LO x y ∧ m_fdL a2 n t2 b2 = LO x2 y2 ∧ 0 ≤ x.toInt ∧ x.toInt ≤ 2 * S 0 ∧ 1 ≤ y.toInt ∧ y.toInt ≤ 2 * S 1 ∧ 0 ≤ x2.toInt ∧ x2.toInt ≤ 2 * S 0 ∧ 1 ≤ y2.toInt ∧ y2.toInt ≤ 2 * S 1 ∧ x.toInt * y2.toInt - x2.toInt * y.toInt = (if n % 2 = 0 then 1 else -1) * (t.toInt * b2.toInt - t2.toInt * b.toInt) := by
  intro n
  induction n with
  | zero =>
    intro _ _ t b t2 b2 h1 h2 h3 h4 _ h6 h7 h8 h9 _
    exact ⟨t, b, t2, b2, rfl, rfl, h1, h2, h3, h4, h6, h7, h8, h9, by rw [if_pos rfl, Int.one_mul]⟩
  | succ n ih =>
    intro hd hS t b t2 b2 h1 h2 h3 h4 h5 h6 h7 h8 h9 h10
    obtain ⟨d1, d2, d3, d4, d5, d6⟩ := hd n (by omega)
    have s1 := hS (n + 1) (by omega)
    have s2 : 0 ≤ S (n + 1 + 1) ∧ S (n + 1 + 1) ≤ 1000000000 := hS (n + 2) (by omega)
    have d6 : (d n).toInt * S (n + 1) + S (n + 1 + 1) = S n := d6
    have hc4 : ∀ z : Int64, z.toInt ≤ 2000000000 → ¬ (4000000000 : Int64) < z := by
      intro z hz q
      have := Int64.lt_iff_toInt_lt.mp q
      rw [show (4000000000 : Int64).toInt = 4000000000 by decide] at this
      omega
    unfold m_fdL
    rw [if_neg (hc4 t (by omega)), if_neg (hc4 t2 (by omega)), d1, d2]
    obtain ⟨e1, e2⟩ := m_mulB (x := d n) (y := t) (B := 1000000001) (C := 2000000000) d5 (by omega) (by decide)
    obtain ⟨f1, -⟩ := m_addB (x := d n * t) (y := b) (B := 1000000001 * 2000000000) (C := 2000000000) e2 (by omega) (by decide)
    obtain ⟨g1, g2⟩ := m_mulB (x := d n) (y := t2) (B := 1000000001) (C := 2000000000) d5 (by omega) (by decide)
    obtain ⟨j1, -⟩ := m_addB (x := d n * t2) (y := b2) (B := 1000000001 * 2000000000) (C := 2000000000) g2 (by omega) (by decide)
    have k1 : (d n).toInt * t.toInt ≤ (d n).toInt * (2 * S (n + 1)) := Int.mul_le_mul_of_nonneg_left h2 d3
    have k2 : (d n).toInt * t2.toInt ≤ (d n).toInt * (2 * S (n + 1)) := Int.mul_le_mul_of_nonneg_left h7 d3
    have k3 : (d n).toInt * (2 * S (n + 1)) = 2 * ((d n).toInt * S (n + 1)) := by grind
    have k4 : 0 ≤ (d n).toInt * t.toInt := Int.mul_nonneg d3 h1
    have k5 : 0 ≤ (d n).toInt * t2.toInt := Int.mul_nonneg d3 h6
    obtain ⟨x, y, x2, y2, r1, r2, r3, r4, r5, r6, r7, r8, r9, r10, r11⟩ := ih (fun k hk => hd k (by omega)) (fun k hk => hS k (by omega)) (d n * t + b) t (d n * t2 + b2) t2 (by rw [f1, e1]; omega) (by rw [f1, e1]; omega) (h5 (by omega)) h2 (fun _ => by rw [f1, e1]; omega) (by rw [j1, g1]; omega) (by rw [j1, g1]; omega) (h10 (by omega)) h7 (fun _ => by rw [j1, g1]; omega)
    refine ⟨x, y, x2, y2, r1, r2, r3, r4, r5, r6, r7, r8, r9, r10, ?_⟩
    rw [r11, f1, e1, j1, g1]
    rcases Nat.mod_two_eq_zero_or_one n with e | e
    · rw [if_pos e, if_neg (show ¬ (n + 1) % 2 = 0 by omega)]
      grind
    · rw [if_neg (show ¬ n % 2 = 0 by omega), if_pos (show (n + 1) % 2 = 0 by omega)]
      grind
theorem q_d1 {z y : Int} (h : z.natAbs ≤ 1000000001) (e : y = z + -1) : y.natAbs ≤ 1000000002 := by omega
theorem q_dz {z s u w : Int} (h1 : 1 ≤ z) (h2 : z ≤ s) (e1 : u = z + 1) (e2 : w = 2 * z - 1) : (0 ≤ u ∧ u ≤ 2 * s ∧ 1 ≤ u) ∧ (0 ≤ w ∧ w ≤ 2 * s ∧ 1 ≤ w) := by omega
theorem q_d2 {s x : Int} (h : x ≤ 2 * s) (k : s ≤ 1000000000) : x ≤ 2000000000 := by omega
theorem q_d3 {z : Int} : (z + -1) * 2 + 1 = 2 * z - 1 := by omega
theorem q_d4 {s : Int} (h : 1 ≤ s) : 1 ≤ 2 * s := by omega
theorem q_d5 {s : Int} (h : 1 ≤ s) : 2 ≤ 2 * s := by omega
theorem q_d6 {z : Int} : (z + 1) * 2 - (2 * z - 1) * 1 = 3 := by omega
theorem q_d7 {t : Int} (h : t.natAbs ≤ 1000000000) (k : 1 ≤ t) : 0 ≤ t ∧ t ≤ 1000000000 := by omega
/-- the two ways down, of any row of TERMS -/
theorem q_dnA {a : Nat → Int64} {S : Nat → Int} {c : Nat} {t b f : Int64} (ht9 : t.toInt.natAbs ≤ 1000000000) (ht : 1 ≤ t.toInt) (hfl : 0 ≤ f.toInt) (t3 : ∀ i, i < c + 1 → (a i).toInt.natAbs ≤ 1000000001) (t4 : ∀ i, 1 ≤ i → i < c + 1 → 1 ≤ (a i).toInt) (t5 : a 0 = f) (t6 : c = 0 → t.toInt = f.toInt * b.toInt)
    (s0 : S 0 = t.toInt) (s2 : S (c + 1 + 1) = 0) (s3 : ∀ i, i < c + 1 → (a i).toInt * S (i + 1) + S (i + 2) = S i) (s4 : ∀ i, 1 ≤ i → i ≤ c + 1 → 1 ≤ S i ∧ S i ≤ 1000000000) :
    ∃ x y x2 y2 : Int64, m_fdL (va_up a c (a c + 1)) c (a c + 1) 1 = LO x y ∧ m_fdL (va_up (va_up a c (a c + -1)) (c + 1) 2) c ((a c + -1) * 2 + 1) 2 = LO x2 y2 ∧ (0 ≤ x.toInt ∧ x.toInt ≤ 2000000000 ∧ 1 ≤ y.toInt ∧ y.toInt ≤ 2000000000) ∧ (0 ≤ x2.toInt ∧ x2.toInt ≤ 2000000000 ∧ 1 ≤ y2.toInt ∧ y2.toInt ≤ 2000000000) ∧ x.toInt * y2.toInt - x2.toInt * y.toInt = (if c % 2 = 0 then 1 else -1) * 3 := by
  obtain ⟨z, hz⟩ : ∃ z, z = a c := ⟨_, rfl⟩
  have hz3 := t3 c (Nat.lt_succ_self c)
  rw [← hz] at hz3
  have e1 : (1 : Int64).toInt = 1 := rfl
  have en : (-1 : Int64).toInt = -1 := by decide
  have e2 : (2 : Int64).toInt = 2 := by decide
  have z1 := q_bump (x := z) (v := 1) hz3 (by decide)
  have z2 := q_bump (x := z) (v := -1) hz3 (by decide)
  rw [e1] at z1
  rw [en] at z2
  have ha0 : ∀ k, k < c + 1 → 0 ≤ (a k).toInt := by
    intro k hk
    rcases Nat.eq_zero_or_pos k with e | e
    · rw [e, t5]; exact hfl
    · exact Int.le_trans (by decide) (t4 k e hk)
  have hS0 : ∀ k, k ≤ c + 1 → 0 ≤ S k ∧ S k ≤ 1000000000 := by
    intro k hk
    rcases Nat.eq_zero_or_pos k with e | e
    · rw [e, s0]; exact q_d7 ht9 ht
    · exact ⟨Int.le_trans (by decide) (s4 k e hk).1, (s4 k e hk).2⟩
  have hsc := s3 c (Nat.lt_succ_self c)
  rw [show c + 2 = c + 1 + 1 from rfl, s2, Int.add_zero, ← hz] at hsc
  have hsc1 := s4 (c + 1) (Nat.succ_le_succ (Nat.zero_le c)) (Nat.le_refl _)
  have hzp : 1 ≤ z.toInt := by
    rcases Nat.eq_zero_or_pos c with e | e
    · have h9 := t6 e
      rw [hz, e, t5]
      rcases Int.lt_or_le 0 f.toInt with y | y
      · exact y
      · rw [Int.le_antisymm y hfl, Int.zero_mul] at h9
        rw [h9] at ht
        exact absurd ht (by decide)
    · rw [hz]
      exact t4 c e (Nat.lt_succ_self c)
  have hzS : z.toInt ≤ S c := by
    have h9 := Int.mul_le_mul_of_nonneg_left hsc1.1 (show 0 ≤ z.toInt from Int.le_trans (by decide) hzp)
    rw [hsc, Int.mul_one] at h9
    exact h9
  obtain ⟨hs1, hs2⟩ := hsc1
  obtain ⟨w1, w2⟩ := m_mulB (x := z + -1) (y := 2) (B := 1000000002) (C := 2) (q_d1 hz3 z2) (by decide) (by decide)
  obtain ⟨w3, -⟩ := m_addB (x := (z + -1) * 2) (y := 1) (B := 1000000002 * 2) (C := 1) w2 (by decide) (by decide)
  have w4 : ((z + -1) * 2 + 1).toInt = 2 * z.toInt - 1 := by rw [w3, w1, z2, e2, e1]; exact q_d3
  obtain ⟨q1, q2⟩ := q_dz hzp hzS z1 w4
  obtain ⟨x, y, x2, y2, r1, r2, r3, r4, r5, r6, r7, r8, r9, r10, r11⟩ := q_fd2 (a := va_up a c (z + 1)) (a2 := va_up (va_up a c (z + -1)) (c + 1) 2) (d := a) (S := S) c
    (fun k hk => ⟨va_up_ne _ _ (Nat.ne_of_lt hk), (va_up_ne (va_up a c (z + -1)) 2 (Nat.ne_of_lt (Nat.lt_succ_of_lt hk))).trans (va_up_ne a (z + -1) (Nat.ne_of_lt hk)), ha0 k (Nat.lt_succ_of_lt hk), fun k1 => t4 k k1 (Nat.lt_succ_of_lt hk), t3 k (Nat.lt_succ_of_lt hk), s3 k (Nat.lt_succ_of_lt hk)⟩) (fun k hk => hS0 k hk) (z + 1) 1 ((z + -1) * 2 + 1) 2
    q1.1 q1.2.1 (by decide) (by rw [e1]; exact q_d4 hs1) (fun _ => q1.2.2) q2.1 q2.2.1 (by decide) (by rw [e2]; exact q_d5 hs1) (fun _ => q2.2.2)
  have hs01 := (hS0 1 (Nat.succ_le_succ (Nat.zero_le c))).2
  rw [s0] at r4 r8
  rw [← hz]
  refine ⟨x, y, x2, y2, r1, r2, ⟨r3, q_d2 r4 (q_d7 ht9 ht).2, r5, q_d2 r6 hs01⟩, ⟨r7, q_d2 r8 (q_d7 ht9 ht).2, r9, q_d2 r10 hs01⟩, ?_⟩
  rw [r11, z1, w4, e1, e2, q_d6]
/-- the two ways down -/
theorem q_dn {t b : Int64} (h : m_F t b) (ht : 1 ≤ t.toInt) : ∃ p q : Int64 × Int64, m_WL t b 1 = some p ∧ m_W2 t b = some q ∧ L64 p.1 p.2 ∧ L64 q.1 q.2 ∧ (0 < m_ord p.1 p.2 q.1 q.2 ↔ (m_TE t b).length % 2 = 1) := by
  obtain ⟨t1, t2, t3, t4, t5, t6⟩ := q_TE h
  obtain ⟨S, s0, s1, s2, s3, s4⟩ := q_TET h
  obtain ⟨hb1, hb2, hb3⟩ := h
  have hfl : 0 ≤ (m_floor t b).toInt := by
    rw [q_mfl (by omega) hb2]
    exact Int.ediv_nonneg (by omega) (by omega)
  have c1 : m_WL t b 1 = m_FD (va_up (m_at t b) ((m_TE t b).length - 1) (m_at t b ((m_TE t b).length - 1) + 1)) (m_TE t b).length := rfl
  have c2 : m_W2 t b = m_FD (va_up (va_up (m_at t b) ((m_TE t b).length - 1) (m_at t b ((m_TE t b).length - 1) + -1)) (m_TE t b).length 2) ((m_TE t b).length + 1) := rfl
  rw [c1, c2]
  clear c1 c2
  generalize (m_TE t b).length = L at *
  generalize m_at t b = a at *
  generalize m_floor t b = f at *
  obtain ⟨c, rfl⟩ : ∃ c, L = c + 1 := ⟨L - 1, by omega⟩
  rw [Nat.add_sub_cancel]
  obtain ⟨x, y, x2, y2, r1, r2, ⟨x1, x2b, y1, y2b⟩, ⟨x3, x4, y3, y4⟩, hd⟩ := q_dnA (a := a) (S := S) (c := c) (t := t) (b := b) (f := f) hb1 ht hfl t3 (fun i h1 h2 => (t4 i h1 h2).1) t5 (fun z => t6 (by rw [z])) s0 s2 s3 s4
  have c1 : m_FD (va_up a c (a c + 1)) (c + 1) = LO x y := by
    unfold m_FD
    rw [Nat.add_sub_cancel, va_up_self]
    exact r1
  have c2 : m_FD (va_up (va_up a c (a c + -1)) (c + 1) 2) (c + 1 + 1) = LO x2 y2 := by
    unfold m_FD
    rw [Nat.add_sub_cancel, va_up_self]
    show (if (4000000000 : Int64) < 2 then none else m_fdL (va_up (va_up a c (a c + -1)) (c + 1) 2) c (va_up (va_up a c (a c + -1)) (c + 1) 2 c * 2 + 1) 2) = _
    rw [if_neg (by decide), va_up_ne (va_up a c (a c + -1)) (2 : Int64) (show c ≠ c + 1 by omega), va_up_self]
    exact r2
  clear t1 t2 t3 t4 t5 t6 s0 s1 s2 s3 s4 r1 r2 hfl
  obtain ⟨l1, l2⟩ := q_lo (t := x) (b := y) (by omega) (by omega) (m_ne0 y1)
  obtain ⟨l3, l4⟩ := q_lo (t := x2) (b := y2) (by omega) (by omega) (m_ne0 y3)
  obtain ⟨-, m1, m2, m3⟩ := m_loP (t := x) (b := y) (B := 2000000000) (C := 2000000000) (by omega) (by decide) y1 (by omega)
  obtain ⟨-, n1, n2, n3⟩ := m_loP (t := x2) (b := y2) (B := 2000000000) (C := 2000000000) (by omega) (by decide) y3 (by omega)
  refine ⟨_, _, c1, c2, l1, l3, ?_⟩
  dsimp only
  obtain ⟨o1, -⟩ := m_mulB (x := m_loT x y) (y := m_loB x2 y2) (B := 2000000000) (C := 2000000000) m3 (by omega) (by decide)
  obtain ⟨o2, -⟩ := m_mulB (x := m_loT x2 y2) (y := m_loB x y) (B := 2000000000) (C := 2000000000) n3 (by omega) (by decide)
  have g1 := q_ord1 o1 o2
  have g0 := q_ord0 o1 o2
  have gm := q_ordm o1 o2
  have hlt := q_lt (A := (m_loT x2 y2).toInt) (B := (m_loB x2 y2).toInt) (T := x2.toInt) (k := y2.toInt) (x := (m_loT x y).toInt) (y := (m_loB x y).toInt) (V := x.toInt) (w := y.toInt) (by omega) (by omega) (by omega) (by omega) l4 l2
  have hpos : 0 < m_ord (m_loT x y) (m_loB x y) (m_loT x2 y2) (m_loB x2 y2) ↔ m_ord (m_loT x y) (m_loB x y) (m_loT x2 y2) (m_loB x2 y2) = 1 := by
    unfold m_ord
    split
    · exact ⟨fun z => absurd z (by decide), fun z => absurd z (by decide)⟩
    · split
      · exact ⟨fun _ => rfl, fun _ => by decide⟩
      · exact ⟨fun z => absurd z (by decide), fun z => absurd z (by decide)⟩
  rw [hpos, g1, hlt]
  rcases Nat.mod_two_eq_zero_or_one c with e | e
  · rw [if_pos e] at hd
    constructor
    · intro _
      omega
    · intro _
      omega
  · rw [if_neg (show ¬ c % 2 = 0 by omega)] at hd
    constructor
    · intro q
      omega
    · intro q
      omega
def m_DN (t b : Int64) (x : Int32) : Option (Int64 × Int64) := if m_abv t = 0 then none else if (if (m_TE t b).length % 2 = 1 then (1 : Int32) else 0) = x then m_WL t b 1 else m_W2 t b
theorem q_DN {t b : Int64} {x : Int32} {r : Int64 × Int64} (h : m_F t b) (ht : 1 ≤ t.toInt) (hv : ∃ p q : Int64 × Int64, m_WL t b 1 = some p ∧ m_W2 t b = some q ∧ r = if (if 0 < m_ord p.1 p.2 q.1 q.2 then (1 : Int32) else 0) = x then p else q) : some r = m_DN t b x := by
  obtain ⟨p, q, h1, h2, h3⟩ := hv
  obtain ⟨p2, q2, k1, k2, -, -, k5⟩ := q_dn h ht
  have e1 : p = p2 := Option.some.inj (h1.symm.trans k1)
  have e2 : q = q2 := Option.some.inj (h2.symm.trans k2)
  subst e1 e2
  have ha : ¬ m_abv t = 0 := fun z => (q_abv.mp z) ht
  unfold m_DN
  rw [if_neg ha, h3]
  by_cases c : (m_TE t b).length % 2 = 1
  · rw [if_pos (k5.mpr c), if_pos c]
    by_cases d : (1 : Int32) = x
    · rw [if_pos d, if_pos d, h1]
    · rw [if_neg d, if_neg d, h2]
  · rw [if_neg (fun z => c (k5.mp z)), if_neg c]
    by_cases d : (0 : Int32) = x
    · rw [if_pos d, if_pos d, h1]
    · rw [if_neg d, if_neg d, h2]
section RV11
variable {g g1 : CS} {kn : Int32} {tt bb : Nat → Int64} {eT eB oT oB : Int64} {pk : Nat} {ca rf : Int32} {vs : Nat → Value} {n9 : Nat}
theorem q_odd {c : Nat} (h : c ≤ 64) : nI c &&& 1 = 1 ↔ c % 2 = 1 := by
  have hall : ∀ i : Fin 65, (nI i.val &&& 1 = 1) ↔ i.val % 2 = 1 := by decide +kernel
  exact hall ⟨c, by omega⟩
theorem q_b1 {x y : Int} (h : x.natAbs ≤ 1000000001) (e : y = x + 1) : y.natAbs ≤ 1000000002 := by omega
theorem q_b2 {x : Int} (h : x.natAbs ≤ 1000000001) : x.natAbs ≤ 1000000002 := by omega
theorem q_b3 {x y : Int} (h : 1 ≤ x) (e : y = x + 1) : 1 ≤ y := by omega
theorem q_b4 {x y : Int} (h : 2 ≤ x) (e : y = x + -1) : 1 ≤ y := by omega
theorem q_dF1 (h : RV g kn tt bb eT eB oT oB pk ca rf vs n9) {i : Nat} (hi : i < 6) {X : CS} (l1 : lz g X) {L : Nat} {a : Nat → Int64} (p1 : tC X 1 = nI L) (p2 : ∀ k, k < L → tV X 1 k = a k) (t1 : 1 ≤ L) (t2 : L ≤ 43) (t3 : ∀ i, i < L → (a i).toInt.natAbs ≤ 1000000001) (t4 : ∀ i, 1 ≤ i → i < L → 1 ≤ (a i).toInt ∧ (i + 1 = L → 2 ≤ (a i).toInt)) : SMV kn tt bb eT eB oT oB pk ca rf vs n9 i (m_FD (va_up a (L - 1) (a (L - 1) + 1)) L) (f_fsR (f_addTo X 1 1) 1 i) (f_fsW (f_addTo X 1 1) 1 i) := by
  have hp1 : (1 : Int64).toInt = 1 := rfl
  have hL1 : L - 1 < L := by omega
  have ht3 := t3 (L - 1) hL1
  have hb1 := q_bump (v := 1) ht3 (by decide)
  rw [hp1] at hb1
  rw [q_adT p1 t1 (by omega), p2 _ hL1]
  have l2 := l1.tr (q_lz1 X (L - 1) (a (L - 1) + 1))
  have p3 : ∀ k, k < L → tV (uV X 1 (L - 1) (a (L - 1) + 1)) 1 k = va_up a (L - 1) (a (L - 1) + 1) k := by
    intro k hk
    rw [q_uV]
    by_cases e : k = L - 1
    · rw [e, va_up_self, va_up_self]
    · rw [va_up_ne _ _ e, va_up_ne _ _ e]
      exact p2 k hk
  have p4 : tC (uV X 1 (L - 1) (a (L - 1) + 1)) 1 = nI L := p1
  refine h.fold l2 hi p4 t1 (by omega) p3 (fun k k1 k2 => ?_) (fun k hk => ?_)
  · by_cases e : k = L - 1
    · rw [e, va_up_self]
      rw [e] at k1
      exact q_b3 (t4 (L - 1) k1 hL1).1 hb1
    · rw [va_up_ne _ _ e]
      exact (t4 k k1 k2).1
  · by_cases e : k = L - 1
    · rw [e, va_up_self]
      exact q_b1 ht3 hb1
    · rw [va_up_ne _ _ e]
      exact q_b2 (t3 k hk)
theorem q_dG1 {X : CS} {L : Nat} {a : Nat → Int64} (p1 : tC X 1 = nI L) (p2 : ∀ k, k < L → tV X 1 k = a k) (t1 : 1 ≤ L) (t2 : L ≤ 43) : f_addLast (f_addTo X 1 (-1)) 1 2 = uC (uV (uV X 1 (L - 1) (a (L - 1) + -1)) 1 L 2) 1 (nI (L + 1)) := by
  have hL1 : L - 1 < L := by omega
  have hL2 : L < 64 := by omega
  have p4 : tC (uV X 1 (L - 1) (a (L - 1) + -1)) 1 = nI L := p1
  rw [q_adT p1 t1 (by omega), p2 _ hL1, q_add p4 hL2 2]
theorem q_dG2 {X Y : CS} {L : Nat} (l2 : lz X Y) : lz X (uC (uV Y 1 L 2) 1 (nI (L + 1))) := l2.tr ((q_lz1 Y L 2).tr (lz_sm (tx_smC _ (nI (L + 1)))))
theorem q_dG3 {Y : CS} {b : Nat → Int64} {L : Nat} (q3 : ∀ k, k < L → tV Y 1 k = b k) : ∀ k, k < L + 1 → tV (uC (uV Y 1 L 2) 1 (nI (L + 1))) 1 k = va_up b L 2 k := by
    intro k hk
    show tV (uV Y 1 L 2) 1 k = _
    rw [q_uV]
    by_cases e : k = L
    · rw [e, va_up_self, va_up_self]
    · rw [va_up_ne _ _ e, va_up_ne _ _ e]
      exact q3 k (by omega)
theorem q_dG4 {a : Nat → Int64} {L : Nat} (t1 : 1 ≤ L) (t4 : ∀ i, 1 ≤ i → i < L → 1 ≤ (a i).toInt ∧ (i + 1 = L → 2 ≤ (a i).toInt)) (hb2 : (a (L - 1) + -1).toInt = (a (L - 1)).toInt + -1) : ∀ k, 1 ≤ k → k < L + 1 → 1 ≤ (va_up (va_up a (L - 1) (a (L - 1) + -1)) L 2 k).toInt := by
  intro k k1 k2
  have hL1 : L - 1 < L := by omega
  by_cases e : k = L
  · rw [e, va_up_self]
    decide
  · rw [va_up_ne _ _ e]
    by_cases e2 : k = L - 1
    · rw [e2, va_up_self]
      rw [e2] at k1
      exact q_b4 ((t4 (L - 1) k1 hL1).2 (by omega)) hb2
    · rw [va_up_ne _ _ e2]
      exact (t4 k k1 (by omega)).1
theorem q_dG5 {a : Nat → Int64} {L : Nat} (ht3 : (a (L - 1)).toInt.natAbs ≤ 1000000001) (t3 : ∀ i, i < L → (a i).toInt.natAbs ≤ 1000000001) (hb2 : (a (L - 1) + -1).toInt = (a (L - 1)).toInt + -1) : ∀ k, k < L + 1 → (va_up (va_up a (L - 1) (a (L - 1) + -1)) L 2 k).toInt.natAbs ≤ 1000000002 := by
  intro k hk
  by_cases e : k = L
  · rw [e, va_up_self]
    rw [show (2 : Int64).toInt = 2 by decide]
    exact Nat.le_of_ble_eq_true rfl
  · rw [va_up_ne _ _ e]
    by_cases e2 : k = L - 1
    · rw [e2, va_up_self]
      exact q_d1 ht3 hb2
    · rw [va_up_ne _ _ e2]
      exact q_b2 (t3 k (by omega))
theorem q_dF2 (h : RV g kn tt bb eT eB oT oB pk ca rf vs n9) {i : Nat} (hi : i < 6) {X : CS} (l1 : lz g X) {L : Nat} {a : Nat → Int64} (p1 : tC X 1 = nI L) (p2 : ∀ k, k < L → tV X 1 k = a k) (t1 : 1 ≤ L) (t2 : L ≤ 43) (t3 : ∀ i, i < L → (a i).toInt.natAbs ≤ 1000000001) (t4 : ∀ i, 1 ≤ i → i < L → 1 ≤ (a i).toInt ∧ (i + 1 = L → 2 ≤ (a i).toInt)) : SMV kn tt bb eT eB oT oB pk ca rf vs n9 i (m_FD (va_up (va_up a (L - 1) (a (L - 1) + -1)) L 2) (L + 1)) (f_fsR (f_addLast (f_addTo X 1 (-1)) 1 2) 1 i) (f_fsW (f_addLast (f_addTo X 1 (-1)) 1 2) 1 i) := by
  have hn1 : (-1 : Int64).toInt = -1 := by decide
  have hL1 : L - 1 < L := by omega
  have ht3 := t3 (L - 1) hL1
  have hb2 := q_bump (v := -1) ht3 (by decide)
  rw [hn1] at hb2
  have l2 := q_dG2 (L := L) (l1.tr (q_lz1 X (L - 1) (a (L - 1) + -1)))
  have q3 : ∀ k, k < L → tV (uV X 1 (L - 1) (a (L - 1) + -1)) 1 k = va_up a (L - 1) (a (L - 1) + -1) k := by
    intro k hk
    rw [q_uV]
    by_cases e : k = L - 1
    · rw [e, va_up_self, va_up_self]
    · rw [va_up_ne _ _ e, va_up_ne _ _ e]
      exact p2 k hk
  rw [q_dG1 p1 p2 t1 t2]
  exact h.fold l2 hi (tC_uC (uV (uV X 1 (L - 1) (a (L - 1) + -1)) 1 L 2) 1 (nI (L + 1))) (Nat.succ_le_succ (Nat.zero_le L)) (Nat.le_trans (Nat.succ_le_succ t2) (by decide)) (q_dG3 q3) (q_dG4 t1 t4 hb2) (q_dG5 ht3 t3 hb2)
theorem q_fsR (g : CS) (j i : Nat) : f_fsR g j i = if f_foldR g j = 0 then -9 else f_setR (f_foldW g j 6) i := rfl
theorem q_fsW (g : CS) (j i : Nat) : f_fsW g j i = if f_foldR g j = 0 then f_refW (f_foldW g j 6) else f_setW (f_foldW g j 6) i := rfl
theorem s_dn (h : RV g kn tt bb eT eB oT oB pk ca rf vs n9) {i : Nat} (hi : i < 6) {x : Int32} (hx : x = 0 ∨ x = 1) : SMV kn tt bb eT eB oT oB pk ca rf vs n9 i (m_DN (tt i) (bb i) x) (f_dnR g i x) (f_dnX g i x) := by
  obtain ⟨a1, a2, a3, a4⟩ := h.1 i hi
  unfold f_dnR f_dnX m_DN
  rw [a1]
  by_cases c : 1 ≤ (tt i).toInt
  · rw [if_neg (fun z => (q_cmpN.mp z) c), if_neg (fun z => (q_cmpN.mp z) c), if_neg (fun z => (q_abv.mp z) c)]
    obtain ⟨p1, p2⟩ := q_apt a1 a2 a3
    obtain ⟨t1, t2, t3, t4, -, -⟩ := q_TE a3
    have hWL : m_WL (tt i) (bb i) 1 = m_FD (va_up (m_at (tt i) (bb i)) ((m_TE (tt i) (bb i)).length - 1) (m_at (tt i) (bb i) ((m_TE (tt i) (bb i)).length - 1) + 1)) (m_TE (tt i) (bb i)).length := rfl
    have hW2 : m_W2 (tt i) (bb i) = m_FD (va_up (va_up (m_at (tt i) (bb i)) ((m_TE (tt i) (bb i)).length - 1) (m_at (tt i) (bb i) ((m_TE (tt i) (bb i)).length - 1) + -1)) (m_TE (tt i) (bb i)).length 2) ((m_TE (tt i) (bb i)).length + 1) := rfl
    have F1 := q_dF1 h hi (lz_apt g i) p1 p2 t1 t2 t3 t4
    have F2 := q_dF2 h hi (lz_apt g i) p1 p2 t1 t2 t3 t4
    rw [← hWL] at F1
    rw [← hW2] at F2
    rw [q_fsR, q_fsW] at F1 F2
    unfold f_stDR f_stDW
    have ho := q_odd (c := (m_TE (tt i) (bb i)).length) (by omega)
    clear hWL hW2 p2 t1 t2 t3 t4
    unfold f_dnG
    rw [p1]
    generalize f_apart g 1 i = X at *
    generalize (m_TE (tt i) (bb i)).length = L at *
    by_cases d : L % 2 = 1
    · rw [if_pos (ho.mpr d), if_pos d]
      rcases hx with rfl | rfl
      · rw [if_neg (show ¬ (0 : Int32) = 1 by decide), if_neg (show ¬ (1 : Int32) = 0 by decide)]
        exact F2
      · rw [if_pos rfl, if_pos rfl]
        exact F1
    · rw [if_neg (fun z => d (ho.mp z)), if_neg d]
      rcases hx with rfl | rfl
      · rw [if_pos rfl, if_pos rfl]
        exact F1
      · rw [if_neg (show ¬ (1 : Int32) = 0 by decide), if_neg (show ¬ (0 : Int32) = 1 by decide)]
        exact F2
  · rw [if_pos (q_cmpN.mpr c), if_pos (q_cmpN.mpr c), if_pos (q_abv.mpr c)]
    exact h.no (lz_rf g) i
/-! DEPTH -/
theorem q_sm : ∀ (l : List Int64) (a c : Int64), m_sm l (a + c) = m_sm l a + c := by
  intro l
  induction l with
  | nil => intro a c; rfl
  | cons x l ih =>
    intro a c
    unfold m_sm
    rw [Int64.add_assoc, Int64.add_comm c x, ← Int64.add_assoc]
    exact ih (a + x) c
theorem q_tot {g : CS} {c : Nat} (hc : tC g 1 = nI c) (hc2 : c ≤ 64) {L : List Int64} (hl : L.length = c) (ha : ∀ k, k < c → tV g 1 k = L.getD k 0) : ∀ (n k : Nat) (a : Int64), k + n = c → totL g 1 n k a = m_sm (L.drop k) a := by
  intro n
  induction n with
  | zero =>
    intro k a h
    rw [List.drop_eq_nil_of_le (by omega)]
    rfl
  | succ n ih =>
    intro k a h
    have hk : k < L.length := by omega
    unfold totL
    rw [ih (k + 1) _ (by omega), q_at hc hc2 (by omega), ha k (by omega), List.drop_eq_getElem_cons hk]
    rw [List.getD_eq_getElem?_getD, List.getElem?_eq_getElem hk]
    rfl
theorem s_dep (h : RV g kn tt bb eT eB oT oB pk ca rf vs n9) {i : Nat} (hi : i < 6) : (f_depR g i).toInt32 = m_DP (tt i) (bb i) := by
  obtain ⟨a1, a2, a3, a4⟩ := h.1 i hi
  obtain ⟨p1, p2⟩ := q_apt a1 a2 a3
  obtain ⟨t1, t2, t3, t4, t5, t6⟩ := q_TE a3
  unfold f_depR m_DP
  rw [a1]
  by_cases c : 1 ≤ (tt i).toInt
  · rw [if_neg (fun z => (q_cmpN.mp z) c), if_neg (fun z => (q_abv.mp z) c)]
    congr 1
    unfold f_total
    rw [p1, nI_clamp (by omega), q_tot p1 (by omega) rfl p2 _ 0 0 (by omega), List.drop_zero]
    have := q_sm (m_TE (tt i) (bb i)) 0 (-1)
    rw [Int64.zero_add] at this
    rw [this, Int64.sub_eq_add_neg]
  · rw [if_pos (q_cmpN.mpr c), if_pos (q_abv.mpr c)]
    rfl
end RV11
/-! ===== cuts, side by side ===== -/
def q_up (L R B : Int) (md : Int32) : Prop := (md = 0 ∧ L < 0) ∨ md = 2 ∨ (md = 3 ∧ (B < 2 * R ∨ (2 * R = B ∧ 0 ≤ L))) ∨ (md = 4 ∧ (B < 2 * R ∨ (2 * R = B ∧ L % 2 = 1)))
/-- what a number is cut to -/
def q_cP (T B p : Int) (md : Int32) (w : Int) : Prop := (T * p - T * p / B * B = 0 ∧ w = T * p / B) ∨ (0 < T * p - T * p / B * B ∧ q_up (T * p / B) (T * p - T * p / B * B) B md ∧ w = T * p / B + 1) ∨ (0 < T * p - T * p / B * B ∧ ¬ q_up (T * p / B) (T * p - T * p / B * B) B md ∧ w = T * p / B)
theorem q_cP1 {T B p : Int} {md : Int32} {w v : Int} (h : q_cP T B p md w) (k : q_cP T B p md v) : w = v := by
  rcases h with ⟨a1, a2⟩ | ⟨a1, a2, a3⟩ | ⟨a1, a2, a3⟩ <;> rcases k with ⟨b1, b2⟩ | ⟨b1, b2, b3⟩ | ⟨b1, b2, b3⟩ <;> first | omega | exact absurd a2 b2 | exact absurd b2 a2
theorem q_cPe (T B p : Int) (md : Int32) (hB : 0 < B) : ∃ w, q_cP T B p md w := by
  have h1 := Int.emod_add_mul_ediv (T * p) B
  have h2 := Int.emod_nonneg (T * p) (show B ≠ 0 by omega)
  rw [Int.mul_comm B (T * p / B)] at h1
  by_cases c : T * p - T * p / B * B = 0
  · exact ⟨_, Or.inl ⟨c, rfl⟩⟩
  · have hp : 0 < T * p - T * p / B * B := by omega
    by_cases u : q_up (T * p / B) (T * p - T * p / B * B) B md
    · exact ⟨_, Or.inr (Or.inl ⟨hp, u, rfl⟩)⟩
    · exact ⟨_, Or.inr (Or.inr ⟨hp, u, rfl⟩)⟩
theorem q_cPb {T B p : Int} {md : Int32} {w : Int} (h : q_cP T B p md w) : T * p / B ≤ w ∧ w ≤ T * p / B + 1 := by
  rcases h with ⟨a1, a2⟩ | ⟨a1, a2, a3⟩ | ⟨a1, a2, a3⟩ <;> omega
theorem q_upM {L R B R2 B2 : Int} {md : Int32} (hB : 0 < B) (hB2 : 0 < B2) (h : R * B2 ≤ R2 * B) (hu : q_up L R B md) : q_up L R2 B2 md := by
  have lt : B < 2 * R → B2 < 2 * R2 := by
    intro z
    have z1 := Int.mul_lt_mul_of_pos_right z hB2
    have z2 : B2 * B < 2 * R2 * B := by
      have e1 : 2 * R * B2 = 2 * (R * B2) := by grind
      have e2 : 2 * R2 * B = 2 * (R2 * B) := by grind
      have e3 : B2 * B = B * B2 := Int.mul_comm _ _
      omega
    exact Int.lt_of_mul_lt_mul_right z2 (by omega)
  have eq : 2 * R = B → B2 ≤ 2 * R2 := by
    intro z
    have z2 : B2 * B ≤ 2 * R2 * B := by
      have e1 : B * B2 = 2 * (R * B2) := by rw [← z]; grind
      have e2 : 2 * R2 * B = 2 * (R2 * B) := by grind
      have e3 : B2 * B = B * B2 := Int.mul_comm _ _
      omega
    exact Int.le_of_mul_le_mul_right z2 hB
  rcases hu with h1 | h1 | ⟨h1, h2 | ⟨h2, h3⟩⟩ | ⟨h1, h2 | ⟨h2, h3⟩⟩
  · exact Or.inl h1
  · exact Or.inr (Or.inl h1)
  · exact Or.inr (Or.inr (Or.inl ⟨h1, Or.inl (lt h2)⟩))
  · have := eq h2
    rcases Int.lt_or_eq_of_le this with z | z
    · exact Or.inr (Or.inr (Or.inl ⟨h1, Or.inl z⟩))
    · exact Or.inr (Or.inr (Or.inl ⟨h1, Or.inr ⟨z.symm, h3⟩⟩))
  · exact Or.inr (Or.inr (Or.inr ⟨h1, Or.inl (lt h2)⟩))
  · have := eq h2
    rcases Int.lt_or_eq_of_le this with z | z
    · exact Or.inr (Or.inr (Or.inr ⟨h1, Or.inl z⟩))
    · exact Or.inr (Or.inr (Or.inr ⟨h1, Or.inr ⟨z.symm, h3⟩⟩))
/-- what is greater is cut to what is no less -/
theorem q_cPm {T B T2 B2 p : Int} {md : Int32} {w w2 : Int} (hB : 0 < B) (hB2 : 0 < B2) (hp : 0 < p) (h : q_cP T B p md w) (k : q_cP T2 B2 p md w2) (hle : T * B2 ≤ T2 * B) : w ≤ w2 := by
  have b1 := q_cPb h
  have b2 := q_cPb k
  have hm : T * B2 * p ≤ T2 * B * p := Int.mul_le_mul_of_nonneg_right hle (by omega)
  have hm1 : T * p * B2 ≤ T2 * p * B := by
    have e1 : T * p * B2 = T * B2 * p := by grind
    have e2 : T2 * p * B = T2 * B * p := by grind
    omega
  have d1 := Int.emod_add_mul_ediv (T * p) B
  have d2 := Int.emod_nonneg (T * p) (show B ≠ 0 by omega)
  rw [Int.mul_comm B (T * p / B)] at d1
  have hL : T * p / B ≤ T2 * p / B2 := by
    rw [Int.le_ediv_iff_mul_le hB2]
    have z : T * p / B * B2 * B ≤ T2 * p * B := by
      have z1 : T * p / B * B * B2 ≤ T * p * B2 := Int.mul_le_mul_of_nonneg_right (by omega) (by omega)
      have e1 : T * p / B * B2 * B = T * p / B * B * B2 := by grind
      omega
    exact Int.le_of_mul_le_mul_right z hB
  rcases Int.lt_or_eq_of_le hL with z | z
  · omega
  · have hR : (T * p - T * p / B * B) * B2 ≤ (T2 * p - T2 * p / B2 * B2) * B := by
      rw [← z]
      have e1 : (T * p - T * p / B * B) * B2 = T * p * B2 - T * p / B * (B * B2) := by grind
      have e2 : (T2 * p - T * p / B * B2) * B = T2 * p * B - T * p / B * (B * B2) := by grind
      omega
    rcases h with ⟨a1, a2⟩ | ⟨a1, a2, a3⟩ | ⟨a1, a2, a3⟩
    · omega
    · have r2 : 0 < T2 * p - T2 * p / B2 * B2 := by
        rcases Int.lt_or_le 0 (T2 * p - T2 * p / B2 * B2) with y | y
        · exact y
        · have y1 := Int.mul_le_mul_of_nonneg_right y (show 0 ≤ B by omega)
          have y2 := Int.mul_pos a1 hB2
          omega
      have hu := q_upM hB hB2 hR a2
      rw [z] at hu
      rcases k with ⟨c1, c2⟩ | ⟨c1, c2, c3⟩ | ⟨c1, c2, c3⟩
      · omega
      · omega
      · exact absurd hu c2
    · omega
/-! the machine's cuts -/
theorem q_and1 (x : Int64) : x &&& 1 = 1 ↔ x.toInt % 2 = 1 := by
  have h1 : (x &&& 1 = 1) ↔ (x &&& 1).toBitVec = (1 : Int64).toBitVec := ⟨fun h => by rw [h], fun h => Int64.toBitVec_inj.mp h⟩
  rw [h1, Int64.toBitVec_and]
  have h2 : (x.toBitVec &&& (1 : Int64).toBitVec = (1 : Int64).toBitVec) ↔ (x.toBitVec &&& (1 : Int64).toBitVec).toNat = (1 : Int64).toBitVec.toNat := ⟨fun h => by rw [h], fun h => BitVec.eq_of_toNat_eq h⟩
  rw [h2, BitVec.toNat_and, show (1 : Int64).toBitVec.toNat = 1 from rfl, Nat.and_one_is_mod]
  have h3 : x.toInt = x.toBitVec.toInt := rfl
  have h4 := BitVec.toInt_eq_toNat_cond x.toBitVec
  rw [h3, h4]
  have h5 := x.toBitVec.isLt
  split <;> omega
theorem q_ev (x : Int64) : x - x / 2 * 2 = 0 ↔ ¬ x.toInt % 2 = 1 := by
  have h0 : ¬ (2 : Int64) = 0 := by decide
  have h1 := m_rem (u := x) h0
  rw [show (2 : Int64).toInt = 2 by decide] at h1
  have h2 : (x - x / 2 * 2 = 0) ↔ (x - x / 2 * 2).toInt = 0 := ⟨fun h => by rw [h]; rfl, fun h => Int64.toInt_inj.mp (by rw [h]; rfl)⟩
  rw [h2, h1, ← Int.dvd_iff_tmod_eq_zero]
  omega
theorem q_cutI {T B : Int64} {k : Nat} (hk : k ≤ 9) {md : Int32} (hmd : md = 0 ∨ md = 1 ∨ md = 2 ∨ md = 3 ∨ md = 4) (hT : T.toInt.natAbs * (m_pow (nI k)).toInt.natAbs < 2305843009213693952) (hB : 1 ≤ B.toInt) (hB2 : B.toInt < 2305843009213693952) :
    q_cP T.toInt B.toInt (m_pow (nI k)).toInt md (m_cut T B (nI k) md).toInt ∧ f_cutNum T B (nI k) md = m_cut T B (nI k) md := by
  have hp := q_powB hk
  obtain ⟨p, hpd⟩ : ∃ p, p = m_pow (nI k) := ⟨_, rfl⟩
  unfold f_cutNum m_cut
  rw [q_pow hk]
  rw [← hpd] at hp hT ⊢
  obtain ⟨x1, x2⟩ := m_mulB (x := T) (y := p) (B := T.toInt.natAbs) (C := p.toInt.natAbs) (Nat.le_refl _) (Nat.le_refl _) (by omega)
  have f0 := q_ffl (a := T * p) (b := B) (by omega) hB
  have f1 := q_mfl (a := T * p) (b := B) (by omega) hB
  have f2 := m_floorB (a := T * p) (b := B) (B := 2305843009213693951) (by omega) (by decide) hB
  have f3 := m_flr (a := T * p) (b := B) (B := 2305843009213693951) (by omega) (by decide) hB
  rw [f0]
  obtain ⟨L, hL⟩ : ∃ L, L = m_floor (T * p) B := ⟨_, rfl⟩
  rw [← hL] at f1 f2 f3 ⊢
  -- what is left
  have hLB : (L * B).toInt = L.toInt * B.toInt := by
    rw [Int64.toInt_mul]
    generalize L.toInt * B.toInt = z at *
    simp only [Int.bmod]
    split <;> omega
  have hR : (T * p - L * B).toInt = (T * p).toInt - L.toInt * B.toInt := by
    rw [Int64.toInt_sub, hLB]
    generalize L.toInt * B.toInt = z at *
    simp only [Int.bmod]
    split <;> omega
  obtain ⟨R, hRd⟩ : ∃ R, R = T * p - L * B := ⟨_, rfl⟩
  rw [← hRd] at hR ⊢
  have hR0 : 0 ≤ R.toInt ∧ R.toInt < B.toInt := by omega
  have e1 : (1 : Int64).toInt = 1 := rfl
  have e2 : (2 : Int64).toInt = 2 := by decide
  have e0 : (0 : Int64).toInt = 0 := rfl
  have h2R : (2 * R).toInt = 2 * R.toInt := by rw [(m_mulB (x := 2) (y := R) (B := 2) (C := 2305843009213693952) (by decide) (by omega) (by decide)).1, e2]
  have hL1 : (L + 1).toInt = L.toInt + 1 := (m_addB (x := L) (y := 1) (B := 2305843009213693952) (C := 1) (by omega) (by decide) (by decide)).1
  -- the conditions
  have cR0 : R = 0 ↔ R.toInt = 0 := ⟨fun h => by rw [h]; rfl, fun h => Int64.toInt_inj.mp (by rw [h]; rfl)⟩
  have cRle : R ≤ 0 ↔ R.toInt ≤ 0 := Int64.le_iff_toInt_le
  have cT : 0 ≤ T ↔ 0 ≤ T.toInt := Int64.le_iff_toInt_le
  have cL : L < 0 ↔ L.toInt < 0 := Int64.lt_iff_toInt_lt
  have cL0 : 0 ≤ L ↔ 0 ≤ L.toInt := Int64.le_iff_toInt_le
  have cB : B < 2 * R ↔ B.toInt < 2 * R.toInt := by rw [Int64.lt_iff_toInt_lt, h2R]
  have cBle : B ≤ 2 * R ↔ B.toInt ≤ 2 * R.toInt := by rw [Int64.le_iff_toInt_le, h2R]
  have cE : 2 * R = B ↔ 2 * R.toInt = B.toInt := by rw [← Int64.toInt_inj, h2R]
  have cO := q_and1 L
  have cV := q_ev L
  -- the sign of the top is the sign of the FLOOR
  have hsg : 0 ≤ T.toInt ↔ 0 ≤ L.toInt := by
    constructor
    · intro z
      rw [f1, x1]
      exact Int.ediv_nonneg (Int.mul_nonneg z (by omega)) (by omega)
    · intro z
      have h8 : 0 ≤ L.toInt * B.toInt := Int.mul_nonneg z (by omega)
      rcases Int.lt_or_le T.toInt 0 with y | y
      · have := Int.mul_lt_mul_of_pos_right y (show 0 < p.toInt by omega)
        rw [Int.zero_mul] at this
        omega
      · exact y
  have hval : ∀ w : Int64, ((R.toInt = 0 ∧ w = L) ∨ (0 < R.toInt ∧ q_up L.toInt R.toInt B.toInt md ∧ w = L + 1) ∨ (0 < R.toInt ∧ ¬ q_up L.toInt R.toInt B.toInt md ∧ w = L)) → q_cP T.toInt B.toInt p.toInt md w.toInt := by
    intro w h
    unfold q_cP
    rw [← x1, ← f1, ← hR]
    rcases h with ⟨a, b⟩ | ⟨a, b, c⟩ | ⟨a, b, c⟩
    · exact Or.inl ⟨a, by rw [b]⟩
    · exact Or.inr (Or.inl ⟨a, b, by rw [c, hL1]⟩)
    · exact Or.inr (Or.inr ⟨a, b, by rw [c]⟩)
  -- whether it goes upward, both ways
  have hM : m_cut3 T B L R md = if R.toInt = 0 then L else (if md = 0 then (if L.toInt < 0 then L + 1 else L) else if md = 1 then L else if md = 2 then L + 1 else if md = 3 then (if B.toInt < 2 * R.toInt then L + 1 else if 2 * R.toInt = B.toInt then (if 0 ≤ L.toInt then L + 1 else L) else L) else (if B.toInt < 2 * R.toInt then L + 1 else if 2 * R.toInt = B.toInt then (if L.toInt % 2 = 1 then L + 1 else L) else L)) := by
    unfold m_cut3
    rcases hmd with rfl | rfl | rfl | rfl | rfl
    · by_cases c1 : R.toInt = 0
      · simp [cR0, c1]
      · by_cases c2 : 0 ≤ L.toInt
        · simp [cR0, c1, cT, hsg, c2, show ¬ L.toInt < 0 by omega]
        · simp [cR0, c1, cT, hsg, c2, show L.toInt < 0 by omega]
    · by_cases c1 : R.toInt = 0 <;> simp [cR0, c1]
    · by_cases c1 : R.toInt = 0 <;> simp [cR0, c1]
    · by_cases c1 : R.toInt = 0
      · simp [cR0, c1]
      · by_cases c2 : 2 * R.toInt = B.toInt
        · by_cases c3 : 0 ≤ L.toInt <;> simp [cR0, c1, cT, hsg, cE, c2, c3, Int.lt_irrefl]
        · by_cases c3 : B.toInt < 2 * R.toInt
          · simp [cR0, c1, cE, cBle, c2, c3, show B.toInt ≤ 2 * R.toInt by omega]
          · simp [cR0, c1, cE, cBle, c2, c3, show ¬ B.toInt ≤ 2 * R.toInt by omega]
    · by_cases c1 : R.toInt = 0
      · simp [cR0, c1]
      · by_cases c2 : 2 * R.toInt = B.toInt
        · by_cases c3 : L.toInt % 2 = 1 <;> simp [cR0, c1, cE, c2, cV, c3, Int.lt_irrefl]
        · by_cases c3 : B.toInt < 2 * R.toInt
          · simp [cR0, c1, cE, cBle, c2, c3, show B.toInt ≤ 2 * R.toInt by omega]
          · simp [cR0, c1, cE, cBle, c2, c3, show ¬ B.toInt ≤ 2 * R.toInt by omega]
  have hC : f_cut2 (T * p) L B md = if R.toInt = 0 then L else (if md = 0 then (if L.toInt < 0 then L + 1 else L) else if md = 1 then L else if md = 2 then L + 1 else if md = 3 then (if B.toInt < 2 * R.toInt then L + 1 else if 2 * R.toInt = B.toInt then (if 0 ≤ L.toInt then L + 1 else L) else L) else (if B.toInt < 2 * R.toInt then L + 1 else if 2 * R.toInt = B.toInt then (if L.toInt % 2 = 1 then L + 1 else L) else L)) := by
    unfold f_cut2 f_cutUp
    rw [← hRd]
    by_cases c1 : R.toInt = 0
    · rw [if_pos (cRle.mpr (by omega)), if_pos c1]
    · rw [if_neg (fun z => by have := cRle.mp z; omega), if_neg c1]
      rcases hmd with rfl | rfl | rfl | rfl | rfl
      · by_cases c2 : L.toInt < 0 <;> simp [cL, c2]
      · simp
      · simp
      · by_cases c2 : B.toInt < 2 * R.toInt
        · simp [cB, c2]
        · by_cases c3 : 2 * R.toInt = B.toInt
          · by_cases c4 : 0 ≤ L.toInt <;> simp [cB, c2, cE, c3, cL0, c4]
          · simp [cB, c2, cE, c3]
      · by_cases c2 : B.toInt < 2 * R.toInt
        · simp [cB, c2]
        · by_cases c3 : 2 * R.toInt = B.toInt
          · by_cases c4 : L.toInt % 2 = 1 <;> simp [cB, c2, cE, c3, cO, c4]
          · simp [cB, c2, cE, c3]
  refine ⟨hval _ ?_, by rw [hC, hM]⟩
  rw [hM]
  unfold q_up
  by_cases c1 : R.toInt = 0
  · rw [if_pos c1]
    exact Or.inl ⟨c1, rfl⟩
  · rw [if_neg c1]
    have hp0 : 0 < R.toInt := by omega
    rcases hmd with rfl | rfl | rfl | rfl | rfl
    · by_cases c2 : L.toInt < 0
      · exact Or.inr (Or.inl ⟨hp0, Or.inl ⟨rfl, c2⟩, by simp [c2]⟩)
      · refine Or.inr (Or.inr ⟨hp0, ?_, by simp [c2]⟩)
        rintro (⟨-, z⟩ | z | ⟨z, -⟩ | ⟨z, -⟩)
        · exact c2 z
        · exact absurd z (by decide)
        · exact absurd z (by decide)
        · exact absurd z (by decide)
    · refine Or.inr (Or.inr ⟨hp0, ?_, by simp⟩)
      rintro (⟨z, -⟩ | z | ⟨z, -⟩ | ⟨z, -⟩)
      · exact absurd z (by decide)
      · exact absurd z (by decide)
      · exact absurd z (by decide)
      · exact absurd z (by decide)
    · exact Or.inr (Or.inl ⟨hp0, Or.inr (Or.inl rfl), by simp⟩)
    · by_cases c2 : B.toInt < 2 * R.toInt
      · exact Or.inr (Or.inl ⟨hp0, Or.inr (Or.inr (Or.inl ⟨rfl, Or.inl c2⟩)), by simp [c2]⟩)
      · by_cases c3 : 2 * R.toInt = B.toInt ∧ 0 ≤ L.toInt
        · exact Or.inr (Or.inl ⟨hp0, Or.inr (Or.inr (Or.inl ⟨rfl, Or.inr c3⟩)), by simp [c2, c3.1, c3.2]⟩)
        · refine Or.inr (Or.inr ⟨hp0, ?_, ?_⟩)
          · rintro (⟨z, -⟩ | z | ⟨-, z | z⟩ | ⟨z, -⟩)
            · exact absurd z (by decide)
            · exact absurd z (by decide)
            · exact c2 z
            · exact c3 z
            · exact absurd z (by decide)
          · by_cases c4 : 2 * R.toInt = B.toInt
            · have c5 : ¬ 0 ≤ L.toInt := fun z => c3 ⟨c4, z⟩
              simp [c2, c4, c5]
            · simp [c2, c4]
    · by_cases c2 : B.toInt < 2 * R.toInt
      · exact Or.inr (Or.inl ⟨hp0, Or.inr (Or.inr (Or.inr ⟨rfl, Or.inl c2⟩)), by simp [c2]⟩)
      · by_cases c3 : 2 * R.toInt = B.toInt ∧ L.toInt % 2 = 1
        · exact Or.inr (Or.inl ⟨hp0, Or.inr (Or.inr (Or.inr ⟨rfl, Or.inr c3⟩)), by simp [c2, c3.1, c3.2]⟩)
        · refine Or.inr (Or.inr ⟨hp0, ?_, ?_⟩)
          · rintro (⟨z, -⟩ | z | ⟨z, -⟩ | ⟨-, z | z⟩)
            · exact absurd z (by decide)
            · exact absurd z (by decide)
            · exact absurd z (by decide)
            · exact c2 z
            · exact c3 z
          · by_cases c4 : 2 * R.toInt = B.toInt
            · have c5 : ¬ L.toInt % 2 = 1 := fun z => c3 ⟨c4, z⟩
              simp [c2, c4, c5]
            · simp [c2, c4]
