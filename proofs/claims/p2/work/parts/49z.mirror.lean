/-! ===== the start of the reference, and the class's state over the law's calls ===== -/
theorem m_F00 : m_F 0 1 := ⟨by decide +kernel, by decide +kernel, by decide +kernel⟩
theorem m_D00 : m_D4 1 := by
  have e : (1 : Int64).toInt.natAbs = 1 := by decide +kernel
  unfold m_D4
  rw [e]
  exact Nat.one_dvd _
/-! what all calls of the class leave as it is: the tops of the RATIOS and of ROUNDED, the ROW's count, the knocks, the places -/
def lk (g g1 : CS) : Prop := (∀ i, i < 6 ∨ i = 10 → tT g1 i = tT g i) ∧ tC g1 0 = tC g 0 ∧ tI g1 1 = tI g 1 ∧ tI g1 3 = tI g 3
theorem lk_rf (g : CS) : lk g g := ⟨fun _ _ => rfl, rfl, rfl, rfl⟩
theorem lk.tr {a b c : CS} (h : lk a b) (k : lk b c) : lk a c := ⟨fun i hi => (k.1 i hi).trans (h.1 i hi), k.2.1.trans h.2.1, k.2.2.1.trans h.2.2.1, k.2.2.2.trans h.2.2.2⟩
theorem lk_ite {g a b : CS} {w : Prop} {d : Decidable w} (h : lk g a) (k : lk g b) : lk g (@ite CS w d a b) := by
  cases d with
  | isTrue _ => exact h
  | isFalse _ => exact k
theorem lk_it2 {g : CS} {a b : Int32 × CS} {w : Prop} {d : Decidable w} (h : lk g a.2) (k : lk g b.2) : lk g (@ite (Int32 × CS) w d a b).2 := by
  cases d with
  | isTrue _ => exact h
  | isFalse _ => exact k
theorem lk_p0 {g x : CS} {r : Int32} (h : lk g x) : lk g (r, x).2 := h
theorem lk_sm {g g1 : CS} (h : tx_sm g g1) : lk g g1 := ⟨fun i _ => by rw [h.1], h.2.2.1, by rw [h.2.2.2.1], by rw [h.2.2.2.1]⟩
def lks (i : Nat) : Prop := 6 ≤ i ∧ i ≠ 10
theorem lks_ne {i : Nat} (h : lks i) {k : Nat} (hk : k < 6 ∨ k = 10) : k ≠ i := by
  unfold lks at h
  omega
theorem lk_T (g : CS) {i : Nat} (hi : lks i) (v : Int64) : lk g (uT g i v) := ⟨fun k hk => va_up_ne _ _ (lks_ne hi hk), rfl, rfl, rfl⟩
theorem lk_B (g : CS) (i : Nat) (v : Int64) : lk g (uB g i v) := ⟨fun _ _ => rfl, rfl, rfl, rfl⟩
theorem lk_I (g : CS) {j : Nat} (h1 : 1 ≠ j) (h3 : 3 ≠ j) (v : Int32) : lk g (uI g j v) := ⟨fun _ _ => rfl, rfl, va_up_ne _ _ h1, va_up_ne _ _ h3⟩
theorem lk_bec (g : CS) {i : Nat} (hi : lks i) (t b : Int64) : lk g (f_become g i t b) := by
  unfold f_become
  exact lk_ite (lk_rf g) ((lk_T g hi _).tr (lk_B _ i _))
theorem lk_asg (g : CS) {i : Nat} (hi : lks i) (j : Nat) : lk g (f_assign g i j) := (lk_T g hi _).tr (lk_B _ i _)
theorem lk_ref (g : CS) : lk g (f_refW g) := lk_I g (by decide) (by decide) _
theorem lk_gat (g : CS) {i : Nat} (hi : lks i) (t b u v : Int64) : lk g (f_gather g i t b u v) := lk_bec g hi _ _
theorem lk_sum (g : CS) {i : Nat} (hi : lks i) (j k : Nat) : lk g (f_sum g i j k) := lk_gat g hi _ _ _ _
theorem lk_dif (g : CS) {i : Nat} (hi : lks i) (j k : Nat) : lk g (f_dif g i j k) := lk_gat g hi _ _ _ _
theorem lk_mul (g : CS) {i : Nat} (hi : lks i) (j k : Nat) : lk g (f_mul g i j k) := lk_bec g hi _ _
theorem lk_quo (g : CS) {i : Nat} (hi : lks i) (j k : Nat) : lk g (f_quo g i j k) := lk_bec g hi _ _
theorem lk_med (g : CS) {i : Nat} (hi : lks i) (j k : Nat) : lk g (f_med g i j k) := lk_bec g hi _ _
theorem lk_foll (g : CS) {i : Nat} (hi : lks i) (j : Nat) : lk g (f_foll g i j) := lk_bec g hi _ _
theorem lk_fore (g : CS) {i : Nat} (hi : lks i) (j : Nat) : lk g (f_fore g i j) := lk_bec g hi _ _
theorem lk_nb (g : CS) {i : Nat} (hi : lks i) (j : Nat) (bd sd : Int32) : lk g (f_nb g i j bd sd) := lk_bec g hi _ _
theorem lk_pow (g : CS) {i : Nat} (hi : lks i) (j : Nat) (x : Int32) : lk g (f_power g i j x) := by
  unfold f_power
  exact lk_ite (lk_bec g hi _ _) (lk_bec g hi _ _)
theorem lk_last (g : CS) (v : Int64) : lk g (f_addLast g 1 v) := lk_sm (tx_smL g v)
theorem lk_add (g : CS) (v : Int64) : lk g (f_addTo g 1 v) := lk_sm (tx_smA g v)
theorem lk_apt (g : CS) (i : Nat) : lk g (f_apart g 1 i) := lk_sm (tx_smp g i)
theorem lk_keep (g : CS) (k : Int32) : lk g (f_keep g 1 k) := by
  unfold f_keep
  exact lk_ite (lk_rf g) (lk_ite (lk_rf g) (lk_sm (tx_smC g k)))
theorem lk_fw (g : CS) (j : Nat) {i : Nat} (hi : lks i) : lk g (f_foldW g j i) := by
  unfold f_foldW
  split
  · exact lk_rf g
  · exact lk_bec g hi _ _
theorem lks6 : lks 6 := ⟨by decide, by decide⟩
theorem lks7 : lks 7 := ⟨by decide, by decide⟩
theorem lks8 : lks 8 := ⟨by decide, by decide⟩
theorem lk_upW (g : CS) (i : Nat) : lk g (f_upW g i) := (lk_apt g i).tr (lk_add _ _)
theorem lk_stU (g : CS) (i : Nat) : lk g (f_stUW g i) := (lk_upW g i).tr (lk_fw _ 1 lks6)
theorem lk_dnG (g : CS) (b : Int32) : lk g (f_dnG g b) := by
  unfold f_dnG
  exact lk_ite (lk_ite (lk_add g 1) ((lk_add g (-1)).tr (lk_last _ 2))) (lk_ite (lk_add g 1) ((lk_add g (-1)).tr (lk_last _ 2)))
theorem lk_stD (g : CS) (i : Nat) (b : Int32) : lk g (f_stDW g i b) := ((lk_apt g i).tr (lk_dnG _ b)).tr (lk_fw _ 1 lks6)
theorem lk_depW (g : CS) (i : Nat) : lk g (f_depW g i) := lk_sm (tx_smD g i)
theorem lk_bestG (g : CS) (j : Nat) (n : Int32) : lk g (f_bestG g j n) := (lk_nb g lks7 j n 1).tr (lk_nb _ lks8 j n (-1))
theorem lk_best (g : CS) (j : Nat) (n : Int32) : lk g (f_best g j n) := by
  unfold f_best
  exact lk_ite ((lk_bestG g j n).tr (lk_asg _ lks6 8)) ((lk_bestG g j n).tr (lk_asg _ lks6 7))
theorem lk_smp (g : CS) (j : Nat) (pl md : Int32) : lk g (f_sm g 6 j pl md) := by
  unfold f_sm
  split
  · exact lk_rf g
  · exact lk_bec g lks6 _ _
/-! soundness -/
theorem lk_fsnd (g : CS) (i : Nat) : lk g (f_fsndW g i) := by
  unfold f_fsndW
  exact lk_ite ((lk_apt g i).tr (lk_fw _ 1 lks6)) (lk_apt g i)
theorem lk_nsG (g : CS) (i k : Nat) : lk g (f_nsG g i k) := (lk_nb g lks7 i _ 1).tr (lk_nb _ lks8 i _ (-1))
theorem lk_nsL (i : Nat) : ∀ (n k : Nat) (g : CS), lk g (nsL i n k g).2 := by
  intro n
  induction n with
  | zero => intro k g; exact lk_rf g
  | succ n ih =>
    intro k g
    unfold nsL
    exact lk_it2 ((lk_nsG g i k).tr (ih _ _)) (lk_nsG g i k)
theorem lk_ts1 (g : CS) (i : Nat) (b : Int32) : lk g (f_ts1 g i b).2 := by
  have h1 := lk_stD g i b
  have h2 := (h1.tr (lk_asg _ lks7 6)).tr (lk_stU _ 7)
  unfold f_ts1
  refine lk_it2 (lk_p0 h1) ?_
  refine lk_it2 (lk_p0 h2) ?_
  exact lk_it2 (lk_p0 h2) (lk_p0 h2)
theorem lk_ts2 (g : CS) (i : Nat) : lk g (f_ts2 g i).2 := (lk_foll g lks7 i).tr (lk_fore _ lks6 7)
theorem lk_tree (g : CS) (i : Nat) : lk g (f_tree g i).2 := by
  have h1 := lk_ts1 g i 0
  have h2 := h1.tr (lk_ts1 (f_ts1 g i 0).2 i 1)
  unfold f_tree
  exact lk_it2 (lk_it2 h1 (lk_it2 h2 (h2.tr (lk_ts2 _ i)))) (lk_rf g)
theorem lk_pr1 (g : CS) (a b : Nat) : lk g (f_pr1 g a b).2 := (lk_sum g lks7 a b).tr (lk_dif _ lks6 7 b)
theorem lk_inL (a : Nat) : ∀ (n b : Nat) (g : CS), lk g (inL a n b g).2 := by
  intro n
  induction n with
  | zero => intro b g; exact lk_rf g
  | succ n ih =>
    intro b g
    unfold inL
    exact lk_it2 (lk_pr1 g a b) ((lk_pr1 g a b).tr (ih _ _))
theorem lk_ouL : ∀ (n a : Nat) (g : CS), lk g (ouL n a g).2 := by
  intro n
  induction n with
  | zero => intro a g; exact lk_rf g
  | succ n ih =>
    intro a g
    unfold ouL
    exact lk_it2 (lk_inL a _ _ g) ((lk_inL a _ _ g).tr (ih _ _))
theorem lk_pairs (g : CS) : lk g (f_pairs g).2 := lk_ouL 6 0 g
theorem lk_snd1 (g : CS) (k : Nat) : lk g (f_snd1 g k).2 := by
  have h1 := lk_fsnd g k
  have h2 := h1.tr (lk_nsL k 12 1 (f_fsndW g k))
  have h3 := h2.tr (lk_tree (f_nsnd (f_fsndW g k) k).2 k)
  unfold f_snd1
  refine lk_it2 (lk_p0 h1) ?_
  refine lk_it2 (lk_p0 h2) ?_
  refine lk_it2 (lk_p0 h2) ?_
  refine lk_it2 (lk_p0 h2) ?_
  exact lk_it2 (lk_p0 h3) (lk_p0 h3)
theorem lk_sdL : ∀ (n k : Nat) (g : CS), lk g (sdL n k g).2 := by
  intro n
  induction n with
  | zero => intro k g; exact lk_rf g
  | succ n ih =>
    intro k g
    unfold sdL
    exact lk_it2 (lk_snd1 g k) ((lk_snd1 g k).tr (ih _ _))
theorem lk_fin (g : CS) : lk g (f_fin g).2 := by
  have h1 := lk_pairs g
  have h2 := h1.tr (lk_sum (f_pairs g).2 lks6 10 11)
  unfold f_fin
  refine lk_it2 (lk_p0 h1) ?_
  exact lk_it2 (lk_p0 h2) (lk_p0 h2)
theorem lk_isS (g : CS) : lk g (f_isS g).2 := by
  have h1 := lk_sdL 6 0 g
  unfold f_isS
  exact lk_it2 h1 (h1.tr (lk_fin _))
theorem lk_dgL : ∀ (n k : Nat) (g : CS), lk g (tx_dgL n k g) := by
  intro n
  induction n with
  | zero => intro k g; exact lk_rf g
  | succ n ih =>
    intro k g
    unfold tx_dgL
    exact (lk_sm (tx_smR g k)).tr (ih _ _)
theorem lk_dgW (g : CS) : lk g (tx_dgW g) := (lk_dgL 6 0 g).tr (lk_isS _)
/-! the state: what FITS, the ROW's count, the knocks, the places -/
def CI (g : CS) (kn : Int32) : Prop := (∀ i, i < 6 ∨ i = 10 → (tT g i).toInt.natAbs ≤ 1000000000) ∧ (0 ≤ tC g 0 ∧ tC g 0 ≤ 16) ∧ tI g 1 = kn ∧ ∃ kp : Nat, kp ≤ 4 ∧ tI g 3 = nI kp
theorem CI_0 : CI cs0 0 := ⟨fun _ _ => Nat.le_of_ble_eq_true rfl, ⟨by decide, by decide⟩, rfl, 0, by decide, rfl⟩
theorem CI_lk {g g1 : CS} {kn : Int32} (h : CI g kn) (k : lk g g1) : CI g1 kn := by
  refine ⟨fun i hi => by rw [k.1 i hi]; exact h.1 i hi, by rw [k.2.1]; exact h.2.1, k.2.2.1.trans h.2.2.1, ?_⟩
  obtain ⟨kp, h1, h2⟩ := h.2.2.2
  exact ⟨kp, h1, k.2.2.2.trans h2⟩
theorem CI_ite {a b : CS} {kn : Int32} {w : Prop} {d : Decidable w} (h : w → CI a kn) (k : ¬ w → CI b kn) : CI (@ite CS w d a b) kn := by
  cases d with
  | isTrue z => exact h z
  | isFalse z => exact k z
theorem fit_T {t b : Int64} (h : ¬ f_fit t b = 0) : t.toInt.natAbs ≤ 1000000000 := by
  have e1 : (1000000000 : Int64).toInt = 1000000000 := by decide
  have e2 : (-1000000000 : Int64).toInt = -1000000000 := by decide
  unfold f_fit at h
  by_cases h1 : t < -1000000000
  · rw [if_pos h1] at h
    exact absurd rfl h
  · rw [if_neg h1] at h
    by_cases h2 : 1000000000 < t
    · rw [if_pos h2] at h
      exact absurd rfl h
    · have a := Int64.le_iff_toInt_le.mp (Int64.not_lt.mp h1)
      have b := Int64.le_iff_toInt_le.mp (Int64.not_lt.mp h2)
      omega
theorem CI_T {g : CS} {kn : Int32} (h : CI g kn) (i : Nat) {t : Int64} (ht : t.toInt.natAbs ≤ 1000000000) (b : Int64) : CI (uB (uT g i t) i b) kn := by
  refine ⟨fun k hk => ?_, h.2.1, h.2.2.1, h.2.2.2⟩
  show (va_up g.1 i t k).toInt.natAbs ≤ 1000000000
  by_cases e : k = i
  · rw [e, va_up_self]; exact ht
  · rw [va_up_ne _ _ e]; exact h.1 k hk
theorem CI_asg {g : CS} {kn : Int32} (h : CI g kn) (i j : Nat) (ht : (tT g j).toInt.natAbs ≤ 1000000000) : CI (f_assign g i j) kn := CI_T h i ht _
theorem CI_set {g : CS} {kn : Int32} (h : CI g kn) (i : Nat) : CI (f_setW g i) kn := by
  unfold f_setW
  exact CI_ite (fun _ => CI_lk h (lk_ref g)) (fun z => CI_ite (fun _ => CI_asg h i 6 (fit_T z)) (fun _ => h))
theorem CI_ref {g : CS} {kn : Int32} (h : CI g kn) : CI (f_refW g) kn := CI_lk h (lk_ref g)
theorem CI_swap {g : CS} {kn : Int32} (h : CI g kn) {i k : Nat} (hi : i < 6) (hk : k < 6) : CI (f_swap g i k) kn := by
  have h1 := CI_asg h 6 k (h.1 k (Or.inl hk))
  exact CI_asg h1 k i (h1.1 i (Or.inl hi))
theorem CI_over {g : CS} {kn : Int32} (h : CI g kn) (i j k : Nat) : CI (f_overW g i j k) kn := by
  unfold f_overW
  exact CI_ite (fun _ => CI_ref h) (fun _ => CI_set (CI_lk h (lk_quo g lks6 j k)) i)
theorem CI_inv {g : CS} {kn : Int32} (h : CI g kn) (i : Nat) : CI (f_invW g i) kn := by
  unfold f_invW
  exact CI_ite (fun _ => CI_ref h) (fun _ => CI_set (CI_lk h (lk_bec g lks6 _ _)) i)
theorem CI_rai {g : CS} {kn : Int32} (h : CI g kn) (i : Nat) (x : Int32) : CI (f_raiW g i x) kn := by
  have h1 := CI_set (CI_lk h (lk_pow g lks6 i x)) i
  unfold f_raiW
  exact CI_ite (fun _ => h1) (fun _ => CI_ite (fun _ => CI_ref h) (fun _ => h1))
theorem CI_fs {g : CS} {kn : Int32} (h : CI g kn) (j i : Nat) : CI (f_fsW g j i) kn := by
  have h1 := CI_lk h (lk_fw g j lks6)
  unfold f_fsW
  exact CI_ite (fun _ => CI_ref h1) (fun _ => CI_set h1 i)
theorem CI_con {g : CS} {kn : Int32} (h : CI g kn) (i : Nat) (k : Int32) : CI (f_conW g i k) kn := by
  unfold f_conW
  exact CI_ite (fun _ => CI_ref h) (fun _ => CI_fs (CI_lk h (lk_keep g (k + 1))) 1 i)
theorem CI_up {g : CS} {kn : Int32} (h : CI g kn) (i : Nat) : CI (f_upX g i) kn := by
  have h1 := CI_lk h (lk_stU g i)
  unfold f_upX
  exact CI_ite (fun _ => CI_ref h) (fun _ => CI_ite (fun _ => CI_ite (fun _ => CI_ref h1) (fun _ => CI_set h1 i)) (fun _ => CI_ref h))
theorem CI_dn {g : CS} {kn : Int32} (h : CI g kn) (i : Nat) (b : Int32) : CI (f_dnX g i b) kn := by
  have h1 := CI_lk h (lk_stD g i b)
  unfold f_dnX
  exact CI_ite (fun _ => CI_ref h) (fun _ => CI_ite (fun _ => CI_ref h1) (fun _ => CI_set h1 i))
theorem CI_bef {g : CS} {kn : Int32} (h : CI g kn) (i : Nat) : CI (f_befW g i) kn := by
  have h1 := CI_set (CI_lk h (lk_fore g lks6 i)) i
  unfold f_befW
  exact CI_ite (fun _ => CI_ref h) (fun _ => CI_ite (fun _ => h1) (fun _ => CI_ref h))
theorem CI_nxL {kn : Int32} (i : Nat) : ∀ (n : Nat) (g : CS), CI g kn → CI (f_nxW (nxL n g) i) kn := by
  intro n
  induction n with
  | zero => intro g h; exact CI_set h i
  | succ n ih =>
    intro g h
    have h1 := CI_lk h (lk_foll g lks6 6)
    unfold nxL
    by_cases e : f_fit (tT (f_foll g 6 6) 6) (tB (f_foll g 6 6) 6) = 0
    · rw [if_pos e]; exact CI_ref h1
    · rw [if_neg e]; exact ih _ h1
theorem CI_next {g : CS} {kn : Int32} (h : CI g kn) (i : Nat) (m : Int32) : CI (f_nextW g i m) kn := by
  unfold f_nextW
  exact CI_ite (fun _ => CI_nxL i _ _ (CI_lk h (lk_asg g lks6 i))) (fun _ => CI_ref h)
theorem CI_say {g : CS} {kn : Int32} (h : CI g kn) (v : Int64) (hn : tC g 0 < 16) : CI (f_addLast g 0 v) kn := by
  unfold f_addLast
  refine CI_ite (fun _ => h) (fun z => CI_ite (fun _ => h) (fun _ => ⟨h.1, ?_, h.2.2.1, h.2.2.2⟩))
  show 0 ≤ va_up (tC g) 0 (tC g 0 + 1) 0 ∧ va_up (tC g) 0 (tC g 0 + 1) 0 ≤ 16
  rw [va_up_self]
  obtain ⟨j, hj, e⟩ := nI_of2 (M := 16) (n := 16) (by decide) z h.2.1.2
  rw [e] at hn ⊢
  have h1 := (nI_ltI (a := j) (b := 16) (by omega) (by decide)).mp hn
  rw [nI_1]
  exact ⟨nI_le (a := 0) (Nat.zero_le _) (by omega), nI_le (b := 16) (by omega) (by decide)⟩
theorem CI_kp {g : CS} {kn : Int32} (h : CI g kn) (k : Int32) : CI (f_keep g 0 k) kn := by
  unfold f_keep
  refine CI_ite (fun _ => h) (fun z => CI_ite (fun _ => h) (fun y => ⟨h.1, ?_, h.2.2.1, h.2.2.2⟩))
  show 0 ≤ va_up (tC g) 0 k 0 ∧ va_up (tC g) 0 k 0 ≤ 16
  rw [va_up_self]
  exact ⟨Int32.not_lt.mp z, Int32.le_trans (Int32.le_of_lt (Int32.not_le.mp y)) h.2.1.2⟩
theorem CI_uns {g : CS} {kn : Int32} (h : CI g kn) (x : Int32) : CI (f_uns g x) kn := by
  unfold f_uns
  exact CI_ite (fun _ => CI_kp h _) (fun _ => CI_kp h _)
theorem CI_I3 {g : CS} {kn : Int32} (h : CI g kn) {z : Nat} (hz : z ≤ 4) : CI (uI g 3 (nI z)) kn := ⟨h.1, h.2.1, (va_up_ne (k := 3) (j := 1) (tI g) (nI z) (by decide)).trans h.2.2.1, z, hz, va_up_self (tI g) 3 _⟩
theorem CI_b0 {g : CS} {kn : Int32} (h : CI g kn) (i : Nat) : CI (f_become g i 0 1) kn := by
  unfold f_become
  exact CI_ite (fun _ => h) (fun _ => CI_T h i (by decide +kernel) _)
theorem CI_clr {g : CS} {kn : Int32} (h : CI g kn) : CI (f_clr g) kn := CI_I3 (z := 0) (CI_lk (CI_b0 (CI_b0 (CI_b0 h 9) 10) 11) (lk_I _ (by decide) (by decide) 0)) (by decide)
theorem CI_kno {g : CS} {kn : Int32} (h : CI g kn) : CI (uI g 1 (tI g 1 + 1)) (kn + 1) := by
  refine ⟨h.1, h.2.1, ?_, ?_⟩
  · show va_up (tI g) 1 (tI g 1 + 1) 1 = kn + 1
    rw [va_up_self, h.2.2.1]
  · obtain ⟨kp, h1, h2⟩ := h.2.2.2
    exact ⟨kp, h1, (va_up_ne (k := 1) (j := 3) (tI g) (tI g 1 + 1) (by decide)).trans h2⟩
theorem lks12 : lks 12 := ⟨by decide, by decide⟩
theorem lks13 : lks 13 := ⟨by decide, by decide⟩
theorem lks14 : lks 14 := ⟨by decide, by decide⟩
theorem CI_tk1 {g : CS} {kn : Int32} (h : CI g kn) (i : Nat) (np md : Int32) : CI (f_tk1 g i np md) kn := CI_lk h ((lk_sum g lks12 9 i).tr (lk_gat _ lks13 _ _ _ _))
theorem dif_T (g : CS) (j k : Nat) : tT (f_dif g 14 j k) 13 = tT g 13 := by
  unfold f_dif f_gather f_become
  split
  · rfl
  · rfl
theorem CI_tk3 {g : CS} {kn : Int32} (h : CI g kn) (h13 : (tT g 13).toInt.natAbs ≤ 1000000000) {np : Int32} (hnp : bW np 0 4 = 0) : CI (f_tk3 g np) kn := by
  have h4 : CI (f_tk4 g) kn := by
    have k1 := CI_lk h (lk_asg g (i := 9) ⟨by decide, by decide⟩ 12)
    have k2 := CI_asg k1 10 13 h13
    exact CI_lk k2 (lk_asg _ (i := 11) ⟨by decide, by decide⟩ 14)
  obtain ⟨kp, q1, q2⟩ := h4.2.2.2
  obtain ⟨n1, n2⟩ := bW_k (k := 4) (by decide) hnp
  obtain ⟨z, z1, z2⟩ := m_max (a := kp) (b := nn np) (by omega) (by omega)
  unfold f_tk3
  have e : f_max (tI (f_tk4 g) 3) np = nI z := by rw [q2, n1]; exact z1
  rw [e]
  exact CI_lk (CI_I3 h4 (z := z) (by omega)) (lk_I _ (by decide) (by decide) _)
theorem CI_tk2 {g : CS} {kn : Int32} (h : CI g kn) {np : Int32} (hnp : bW np 0 4 = 0) : CI (f_tk2W g np) kn := by
  have h1 := CI_lk h (lk_dif g lks14 12 13)
  unfold f_tk2W
  exact CI_ite (fun _ => h) (fun _ => CI_ite (fun _ => h) (fun z => CI_ite (fun _ => h1) (fun _ => CI_tk3 h1 (by rw [dif_T]; exact fit_T z) hnp)))
theorem CI_tal {g : CS} {kn : Int32} (h : CI g kn) (i : Nat) {np : Int32} (hnp : bW np 0 4 = 0) (md : Int32) : CI (f_talW g i np md) kn := by
  have h1 := CI_tk2 (CI_tk1 h i np md) hnp
  unfold f_talW
  exact CI_ite (fun _ => CI_ref h1) (fun _ => h1)
/-! what the SIMPLEST and the decimals ask -/
theorem fl_B {x d : Int64} {B : Nat} (hx : x.toInt.natAbs ≤ B) (hB : B < 4611686018427387904) : (f_floorOf x d).toInt.natAbs ≤ B + 1 := by
  have q : (x / d).toInt.natAbs ≤ B := by
    rw [Int64.toInt_div]
    have h1 : (x.toInt.tdiv d.toInt).natAbs = x.toInt.natAbs / d.toInt.natAbs := Int.natAbs_tdiv _ _
    have h2 : x.toInt.natAbs / d.toInt.natAbs ≤ x.toInt.natAbs := Nat.div_le_self _ _
    generalize x.toInt.tdiv d.toInt = z at *
    simp only [Int.bmod]
    split <;> omega
  have e1 : (1 : Int64).toInt = 1 := rfl
  have e0 : (0 : Int64).toInt = 0 := rfl
  have h2 : (x / d - 1).toInt.natAbs ≤ B + 1 := by
    rw [Int64.toInt_sub, e1]
    generalize (x / d).toInt = z at *
    simp only [Int.bmod]
    split <;> omega
  unfold f_floorOf fdv
  split
  · rw [e0]; exact Nat.zero_le _
  · split
    · omega
    · split <;> omega
theorem CI_sm {g : CS} {kn : Int32} (h : CI g kn) : ∀ i, i < 6 → smOk g i := by
  intro i hi k hk
  have e : (lN k).toInt.natAbs ≤ 1000000000 := by rw [pk_lT (by omega)]; omega
  have h1 := (m_mulB (h.1 i (Or.inl hi)) e (by decide)).2
  have h2 := fl_B (d := tB g i) h1 (by decide)
  omega
theorem x_nn {a d : Int64} (ha : 0 ≤ a.toInt) (hd : 0 ≤ d.toInt) : 0 ≤ a ^^^ d := by
  have h1 := a.toInt_lt
  have h2 := d.toInt_lt
  have ea : a = lN a.toInt.toNat := Int64.toInt_inj.mp (by rw [pk_lT (by omega)]; omega)
  have ed : d = lN d.toInt.toNat := Int64.toInt_inj.mp (by rw [pk_lT (by omega)]; omega)
  have e : lN a.toInt.toNat ^^^ lN d.toInt.toNat = lN (a.toInt.toNat ^^^ d.toInt.toNat) := by
    apply Int64.toBitVec_inj.mp
    rw [Int64.toBitVec_xor]
    show BitVec.ofNat 64 a.toInt.toNat ^^^ BitVec.ofNat 64 d.toInt.toNat = BitVec.ofNat 64 (a.toInt.toNat ^^^ d.toInt.toNat)
    apply BitVec.eq_of_getLsbD_eq
    intro i hi
    simp [BitVec.getLsbD_ofNat, Nat.testBit_xor, hi]
  have h3 : a.toInt.toNat ^^^ d.toInt.toNat < 2 ^ 63 := Nat.xor_lt_two_pow (by omega) (by omega)
  rw [ea, ed, e, Int64.le_iff_toInt_le, pk_lT h3]
  exact Int.natCast_nonneg _
theorem fl_nn {a d : Int64} (ha : 0 ≤ a.toInt) (hd : 1 ≤ d.toInt) : 0 ≤ f_floorOf a d := by
  have h1 := (m_tdv (x := a) (y := d) (by omega) hd).1
  unfold f_floorOf fdv
  split
  · exact Int64.le_refl _
  · rw [if_pos (x_nn ha (by omega)), Int64.le_iff_toInt_le, h1]
    show (0 : Int) ≤ _
    rw [Int.tdiv_eq_ediv_of_nonneg ha]
    exact Int.ediv_nonneg ha (by omega)
theorem txD_of {x : Int64} (hx : -9223372036854775808 < x.toInt) (kp : Nat) : txD x kp := by
  intro k _
  have e : 0 ≤ (absL x).toInt := by
    have h := m_abs (a := x) hx
    have e9 : absL x = f_absJ x := rfl
    rw [e9, h]
    omega
  exact fl_nn e (f_p10_bd (nI k)).1
theorem CI_tx {g : CS} {kn : Int32} (h : CI g kn) {i : Nat} (hi : i < 6 ∨ i = 10) (pl md : Int32) (kp : Nat) : txD (f_cutNum (tT g i) (tB g i) pl md) kp := by
  have hp := f_p10_bd pl
  have h1 := (m_mulB (y := f_p10 pl) (C := 1000000000) (h.1 i hi) (by omega) (by decide)).2
  have h2 := fl_B (d := tB g i) h1 (by decide)
  have e1 : (1 : Int64).toInt = 1 := rfl
  apply txD_of
  unfold f_cutNum
  generalize f_floorOf (tT g i * f_p10 pl) (tB g i) = w at *
  have h3 : (w + 1).toInt = w.toInt + 1 := by
    rw [Int64.toInt_add, e1]
    simp only [Int.bmod]
    split <;> omega
  unfold f_cut2
  split
  · omega
  · split
    · omega
    · rw [h3]; omega
