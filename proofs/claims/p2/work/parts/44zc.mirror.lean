/-! ===== what a call that only reckons leaves as it is ===== -/
def lz (g g1 : CS) : Prop := (∀ i, i < 6 ∨ i = 9 ∨ i = 10 → tT g1 i = tT g i ∧ tB g1 i = tB g i) ∧ tC g1 0 = tC g 0 ∧ tV g1 0 = tV g 0 ∧ tI g1 = tI g
theorem lz_rf (g : CS) : lz g g := ⟨fun _ _ => ⟨rfl, rfl⟩, rfl, rfl, rfl⟩
theorem lz.tr {a b c : CS} (h : lz a b) (k : lz b c) : lz a c := ⟨fun i hi => ⟨(k.1 i hi).1.trans (h.1 i hi).1, (k.1 i hi).2.trans (h.1 i hi).2⟩, k.2.1.trans h.2.1, k.2.2.1.trans h.2.2.1, k.2.2.2.trans h.2.2.2⟩
theorem lz_ite {g a b : CS} {w : Prop} {d : Decidable w} (h : lz g a) (k : lz g b) : lz g (@ite CS w d a b) := by
  cases d with
  | isTrue _ => exact h
  | isFalse _ => exact k
theorem lz_it2 {g : CS} {a b : Int32 × CS} {w : Prop} {d : Decidable w} (h : lz g a.2) (k : lz g b.2) : lz g (@ite (Int32 × CS) w d a b).2 := by
  cases d with
  | isTrue _ => exact h
  | isFalse _ => exact k
theorem lz_p0 {g x : CS} {r : Int32} (h : lz g x) : lz g (r, x).2 := h
theorem lz_sm {g g1 : CS} (h : tx_sm g g1) : lz g g1 := ⟨fun i _ => ⟨by rw [h.1], by rw [h.2.1]⟩, h.2.2.1, h.2.2.2.2, h.2.2.2.1⟩
def lzs (i : Nat) : Prop := 6 ≤ i ∧ i ≠ 9 ∧ i ≠ 10
theorem lzs_ne {i : Nat} (h : lzs i) {k : Nat} (hk : k < 6 ∨ k = 9 ∨ k = 10) : k ≠ i := by
  unfold lzs at h
  omega
theorem lz_T (g : CS) {i : Nat} (hi : lzs i) (v : Int64) : lz g (uT g i v) := ⟨fun k hk => ⟨va_up_ne _ _ (lzs_ne hi hk), rfl⟩, rfl, rfl, rfl⟩
theorem lz_B (g : CS) {i : Nat} (hi : lzs i) (v : Int64) : lz g (uB g i v) := ⟨fun k hk => ⟨rfl, va_up_ne _ _ (lzs_ne hi hk)⟩, rfl, rfl, rfl⟩
theorem lz_bec (g : CS) {i : Nat} (hi : lzs i) (t b : Int64) : lz g (f_become g i t b) := by
  unfold f_become
  exact lz_ite (lz_rf g) ((lz_T g hi _).tr (lz_B _ hi _))
theorem lz_asg (g : CS) {i : Nat} (hi : lzs i) (j : Nat) : lz g (f_assign g i j) := (lz_T g hi _).tr (lz_B _ hi _)
theorem lz_gat (g : CS) {i : Nat} (hi : lzs i) (t b u v : Int64) : lz g (f_gather g i t b u v) := lz_bec g hi _ _
theorem lz_sum (g : CS) {i : Nat} (hi : lzs i) (j k : Nat) : lz g (f_sum g i j k) := lz_gat g hi _ _ _ _
theorem lz_dif (g : CS) {i : Nat} (hi : lzs i) (j k : Nat) : lz g (f_dif g i j k) := lz_gat g hi _ _ _ _
theorem lz_mul (g : CS) {i : Nat} (hi : lzs i) (j k : Nat) : lz g (f_mul g i j k) := lz_bec g hi _ _
theorem lz_quo (g : CS) {i : Nat} (hi : lzs i) (j k : Nat) : lz g (f_quo g i j k) := lz_bec g hi _ _
theorem lz_med (g : CS) {i : Nat} (hi : lzs i) (j k : Nat) : lz g (f_med g i j k) := lz_bec g hi _ _
theorem lz_foll (g : CS) {i : Nat} (hi : lzs i) (j : Nat) : lz g (f_foll g i j) := lz_bec g hi _ _
theorem lz_fore (g : CS) {i : Nat} (hi : lzs i) (j : Nat) : lz g (f_fore g i j) := lz_bec g hi _ _
theorem lz_nb (g : CS) {i : Nat} (hi : lzs i) (j : Nat) (bd sd : Int32) : lz g (f_nb g i j bd sd) := lz_bec g hi _ _
theorem lz_pow (g : CS) {i : Nat} (hi : lzs i) (j : Nat) (x : Int32) : lz g (f_power g i j x) := by
  unfold f_power
  exact lz_ite (lz_bec g hi _ _) (lz_bec g hi _ _)
theorem lz_last (g : CS) (v : Int64) : lz g (f_addLast g 1 v) := lz_sm (tx_smL g v)
theorem lz_add (g : CS) (v : Int64) : lz g (f_addTo g 1 v) := lz_sm (tx_smA g v)
theorem lz_apt (g : CS) (i : Nat) : lz g (f_apart g 1 i) := lz_sm (tx_smp g i)
theorem lz_keep (g : CS) (k : Int32) : lz g (f_keep g 1 k) := by
  unfold f_keep
  exact lz_ite (lz_rf g) (lz_ite (lz_rf g) (lz_sm (tx_smC g k)))
theorem lz_fw (g : CS) (j : Nat) {i : Nat} (hi : lzs i) : lz g (f_foldW g j i) := by
  unfold f_foldW
  split
  · exact lz_rf g
  · exact lz_bec g hi _ _
theorem lzs6 : lzs 6 := ⟨by decide, by decide, by decide⟩
theorem lzs7 : lzs 7 := ⟨by decide, by decide, by decide⟩
theorem lzs8 : lzs 8 := ⟨by decide, by decide, by decide⟩
theorem lz_upW (g : CS) (i : Nat) : lz g (f_upW g i) := (lz_apt g i).tr (lz_add _ _)
theorem lz_stU (g : CS) (i : Nat) : lz g (f_stUW g i) := (lz_upW g i).tr (lz_fw _ 1 lzs6)
theorem lz_dnG (g : CS) (b : Int32) : lz g (f_dnG g b) := by
  unfold f_dnG
  exact lz_ite (lz_ite (lz_add g 1) ((lz_add g (-1)).tr (lz_last _ 2))) (lz_ite (lz_add g 1) ((lz_add g (-1)).tr (lz_last _ 2)))
theorem lz_stD (g : CS) (i : Nat) (b : Int32) : lz g (f_stDW g i b) := ((lz_apt g i).tr (lz_dnG _ b)).tr (lz_fw _ 1 lzs6)
theorem lz_depW (g : CS) (i : Nat) : lz g (f_depW g i) := lz_sm (tx_smD g i)
theorem lz_bestG (g : CS) (j : Nat) (n : Int32) : lz g (f_bestG g j n) := (lz_nb g lzs7 j n 1).tr (lz_nb _ lzs8 j n (-1))
theorem lz_best (g : CS) (j : Nat) (n : Int32) : lz g (f_best g j n) := by
  unfold f_best
  exact lz_ite ((lz_bestG g j n).tr (lz_asg _ lzs6 8)) ((lz_bestG g j n).tr (lz_asg _ lzs6 7))
theorem lz_smp (g : CS) (j : Nat) (pl md : Int32) : lz g (f_sm g 6 j pl md) := by
  unfold f_sm
  split
  · exact lz_rf g
  · exact lz_bec g lzs6 _ _
/-! soundness -/
theorem lz_fsnd (g : CS) (i : Nat) : lz g (f_fsndW g i) := by
  unfold f_fsndW
  exact lz_ite ((lz_apt g i).tr (lz_fw _ 1 lzs6)) (lz_apt g i)
theorem lz_nsG (g : CS) (i k : Nat) : lz g (f_nsG g i k) := (lz_nb g lzs7 i _ 1).tr (lz_nb _ lzs8 i _ (-1))
theorem lz_nsL (i : Nat) : ∀ (n k : Nat) (g : CS), lz g (nsL i n k g).2 := by
  intro n
  induction n with
  | zero => intro k g; exact lz_rf g
  | succ n ih =>
    intro k g
    unfold nsL
    exact lz_it2 ((lz_nsG g i k).tr (ih _ _)) (lz_nsG g i k)
theorem lz_ts1 (g : CS) (i : Nat) (b : Int32) : lz g (f_ts1 g i b).2 := by
  have h1 := lz_stD g i b
  have h2 := (h1.tr (lz_asg _ lzs7 6)).tr (lz_stU _ 7)
  unfold f_ts1
  refine lz_it2 (lz_p0 h1) ?_
  refine lz_it2 (lz_p0 h2) ?_
  exact lz_it2 (lz_p0 h2) (lz_p0 h2)
theorem lz_ts2 (g : CS) (i : Nat) : lz g (f_ts2 g i).2 := (lz_foll g lzs7 i).tr (lz_fore _ lzs6 7)
theorem lz_tree (g : CS) (i : Nat) : lz g (f_tree g i).2 := by
  have h1 := lz_ts1 g i 0
  have h2 := h1.tr (lz_ts1 (f_ts1 g i 0).2 i 1)
  unfold f_tree
  exact lz_it2 (lz_it2 h1 (lz_it2 h2 (h2.tr (lz_ts2 _ i)))) (lz_rf g)
theorem lz_pr1 (g : CS) (a b : Nat) : lz g (f_pr1 g a b).2 := (lz_sum g lzs7 a b).tr (lz_dif _ lzs6 7 b)
theorem lz_inL (a : Nat) : ∀ (n b : Nat) (g : CS), lz g (inL a n b g).2 := by
  intro n
  induction n with
  | zero => intro b g; exact lz_rf g
  | succ n ih =>
    intro b g
    unfold inL
    exact lz_it2 (lz_pr1 g a b) ((lz_pr1 g a b).tr (ih _ _))
theorem lz_ouL : ∀ (n a : Nat) (g : CS), lz g (ouL n a g).2 := by
  intro n
  induction n with
  | zero => intro a g; exact lz_rf g
  | succ n ih =>
    intro a g
    unfold ouL
    exact lz_it2 (lz_inL a _ _ g) ((lz_inL a _ _ g).tr (ih _ _))
theorem lz_pairs (g : CS) : lz g (f_pairs g).2 := lz_ouL 6 0 g
theorem lz_snd1 (g : CS) (k : Nat) : lz g (f_snd1 g k).2 := by
  have h1 := lz_fsnd g k
  have h2 := h1.tr (lz_nsL k 12 1 (f_fsndW g k))
  have h3 := h2.tr (lz_tree (f_nsnd (f_fsndW g k) k).2 k)
  unfold f_snd1
  refine lz_it2 (lz_p0 h1) ?_
  refine lz_it2 (lz_p0 h2) ?_
  refine lz_it2 (lz_p0 h2) ?_
  refine lz_it2 (lz_p0 h2) ?_
  exact lz_it2 (lz_p0 h3) (lz_p0 h3)
theorem lz_sdL : ∀ (n k : Nat) (g : CS), lz g (sdL n k g).2 := by
  intro n
  induction n with
  | zero => intro k g; exact lz_rf g
  | succ n ih =>
    intro k g
    unfold sdL
    exact lz_it2 (lz_snd1 g k) ((lz_snd1 g k).tr (ih _ _))
theorem lz_fin (g : CS) : lz g (f_fin g).2 := by
  have h1 := lz_pairs g
  have h2 := h1.tr (lz_sum (f_pairs g).2 lzs6 10 11)
  unfold f_fin
  refine lz_it2 (lz_p0 h1) ?_
  exact lz_it2 (lz_p0 h2) (lz_p0 h2)
theorem lz_isS (g : CS) : lz g (f_isS g).2 := by
  have h1 := lz_sdL 6 0 g
  unfold f_isS
  exact lz_it2 h1 (h1.tr (lz_fin _))
theorem lz_dgL : ∀ (n k : Nat) (g : CS), lz g (tx_dgL n k g) := by
  intro n
  induction n with
  | zero => intro k g; exact lz_rf g
  | succ n ih =>
    intro k g
    unfold tx_dgL
    exact (lz_sm (tx_smR g k)).tr (ih _ _)
theorem lz_dgW (g : CS) : lz g (tx_dgW g) := (lz_dgL 6 0 g).tr (lz_isS _)
theorem nI_le64 {c : Nat} (h : c < 64) : ¬ (64 : Int32) ≤ nI c := fun z => absurd ((nI_leI (a := 64) (b := c) (by decide) (by omega)).mp z) (by omega)
theorem tC_uC (g : CS) (j : Nat) (v : Int32) : tC (uC g j v) j = v := va_up_self (tC g) j v
