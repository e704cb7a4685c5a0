/-! ===== the class's texts: how long they are, and what the builder's room is then: (letters, capacity) ===== -/
def inC2 (ad : Nat → Nat) (a v sz : Nat) : Nat → Prop := fun q => cwA ad sz q ∨ q = a ∨ q = v
theorem inC2.to {A0 : Nat → Prop} {ad : Nat → Nat} {a v sz : Nat} (hc9 : ∀ q, cwA ad sz q → A0 q) (h : A0 a) (h2 : A0 v) : ∀ q, q < sz → inC2 ad a v sz q → A0 q :=
  fun q _ z => z.elim (hc9 q) (fun w => w.elim (fun e => e ▸ h) (fun e => e ▸ h2))
theorem cwN {ad : Nat → Nat} {sz q : Nat} (hw : ∀ k, k < 22 → ad k ≠ q) (hq : q < sz) : ¬ cwA ad sz q := by
  rintro (⟨k, hk, e⟩ | w)
  · exact hw k hk e.symm
  · omega
theorem cw_cl {D : va_G} {tk : Nat → ClassId} {ad : Nat → Nat} {g : CS} {H : Heap} (h : CW D tk ad g H) {k : Nat} (hk : k < 22) : (∃ ci, 8 ≤ ci ∧ ci ≤ 11 ∧ clA (ad k) (D.1 ci) H) ∨ clA (ad k) (tk 0) H ∨ clA (ad k) (tk 2) H := by
  rcases Nat.lt_or_ge k 15 with z | z
  · exact Or.inl ⟨8, by decide, by decide, (h.fr z).cl⟩
  · obtain rfl | rfl | rfl | rfl | rfl | rfl | rfl : k = 15 ∨ k = 16 ∨ k = 17 ∨ k = 18 ∨ k = 19 ∨ k = 20 ∨ k = 21 := by omega
    · exact Or.inl ⟨11, by decide, by decide, h.obj.cl⟩
    · exact Or.inr (Or.inr h.row.cla)
    · exact Or.inl ⟨10, by decide, by decide, (h.tm (j := 0) (by decide)).cl⟩
    · exact Or.inr (Or.inl (h.vl (j := 0) (by decide)).cla)
    · exact Or.inl ⟨10, by decide, by decide, (h.tm (j := 1) (by decide)).cl⟩
    · exact Or.inr (Or.inl (h.vl (j := 1) (by decide)).cla)
    · exact Or.inl ⟨9, by decide, by decide, h.tal.cl⟩
theorem cwO {D : va_G} {tk : Nat → ClassId} {N0 : Nat} {sa : Nat → Nat} {s : State} {ad : Nat → Nat} {g : CS} {H : Heap} (hC : Ctx D tk N0 sa s) (h : CW D tk ad g H) {a : Nat} (ha : clA a (D.1 1) H) : ∀ k, k < 22 → ad k ≠ a := by
  intro k hk
  rcases cw_cl h hk with ⟨ci, h1, h2, hc⟩ | hc | hc
  · obtain rfl | rfl | rfl | rfl : ci = 8 ∨ ci = 9 ∨ ci = 10 ∨ ci = 11 := by omega
    · exact clA.ne hc ha (hC.oo 8 1 rfl rfl (by decide))
    · exact clA.ne hc ha (hC.oo 9 1 rfl rfl (by decide))
    · exact clA.ne hc ha (hC.oo 10 1 rfl rfl (by decide))
    · exact clA.ne hc ha (hC.oo 11 1 rfl rfl (by decide))
  · exact clA.ne hc ha (hC.ao 1 0 rfl rfl)
  · exact clA.ne hc ha (hC.ao 1 2 rfl rfl)
theorem cwB {D : va_G} {tk : Nat → ClassId} {N0 : Nat} {sa : Nat → Nat} {s : State} {ad : Nat → Nat} {g : CS} {H : Heap} (hC : Ctx D tk N0 sa s) (h : CW D tk ad g H) {a : Nat} (ha : clA a (tk 1) H) : ∀ k, k < 22 → ad k ≠ a := by
  intro k hk
  rcases cw_cl h hk with ⟨ci, h1, h2, hc⟩ | hc | hc
  · obtain rfl | rfl | rfl | rfl : ci = 8 ∨ ci = 9 ∨ ci = 10 ∨ ci = 11 := by omega
    · exact clA.ne hc ha (hC.oa 8 1 rfl rfl)
    · exact clA.ne hc ha (hC.oa 9 1 rfl rfl)
    · exact clA.ne hc ha (hC.oa 10 1 rfl rfl)
    · exact clA.ne hc ha (hC.oa 11 1 rfl rfl)
  · exact clA.ne hc ha (hC.aa 0 1 rfl rfl (show FieldType.long ≠ FieldType.byte by decide))
  · exact clA.ne hc ha (hC.aa 2 1 rfl rfl (show FieldType.object "Bestratios$Fraction" ≠ FieldType.byte by decide))
theorem tx_gb (c9 q : Nat) : q ≤ sbC c9 q ∧ c9 ≤ sbC c9 q ∧ sbC c9 q ≤ max c9 (2 * q) ∧ c9 + sbK c9 q ≤ sbC c9 q ∧ 2 * c9 + sbS c9 q ≤ 2 * sbC c9 q := by
  unfold sbC sbK sbS
  split <;> omega
theorem tx_gz (c9 : Nat) : sbC c9 0 = c9 ∧ sbK c9 0 = 0 ∧ sbS c9 0 = 0 := ⟨if_pos (Nat.zero_le _), if_pos (Nat.zero_le _), if_pos (Nat.zero_le _)⟩
def tx_ap (q : Nat × Nat) (k : Nat) : Nat × Nat := (q.1 + k, sbC q.2 (q.1 + k))
/-- not shorter, not longer than by N; room for all, not less than before, not more than twice the letters -/
def tx_ok (N : Nat) (q r : Nat × Nat) : Prop := q.1 ≤ r.1 ∧ r.1 ≤ q.1 + N ∧ r.1 ≤ r.2 ∧ q.2 ≤ r.2 ∧ r.2 ≤ max q.2 (2 * r.1)
theorem tx_ok.rf {q : Nat × Nat} (h : q.1 ≤ q.2) : tx_ok 0 q q := by
  unfold tx_ok; omega
theorem tx_ok.mono {N M : Nat} {q r : Nat × Nat} (h : tx_ok N q r) (hN : N ≤ M) : tx_ok M q r := by
  unfold tx_ok at *; omega
theorem tx_ok.ap {N k K : Nat} {q r : Nat × Nat} (h : tx_ok N q r) (hk : k ≤ K) : tx_ok (N + K) q (tx_ap r k) := by
  unfold tx_ok tx_ap at *
  have := tx_gb r.2 (r.1 + k)
  dsimp only
  omega
theorem tx_ok.tr {N M : Nat} {q r t : Nat × Nat} (h : tx_ok N q r) (h2 : tx_ok M r t) : tx_ok (N + M) q t := by
  unfold tx_ok at *; omega
theorem tx_ap_m (q : Nat × Nat) (k : Nat) : q.2 ≤ (tx_ap q k).2 := (tx_gb q.2 (q.1 + k)).2.1
/-- a RATIO's text -/
def tx_wf (t b : Int64) (q : Nat × Nat) : Nat × Nat := if b = 1 then tx_ap q (dgI t.toInt32) else tx_ap (tx_ap (tx_ap q (dgI t.toInt32)) 1) (dgI b.toInt32)
theorem tx_wf_ok (t b : Int64) {q : Nat × Nat} (h : q.1 ≤ q.2) : tx_ok 43 q (tx_wf t b q) := by
  unfold tx_wf
  split
  · exact ((tx_ok.rf h).ap (dgI_le _)).mono (by decide)
  · exact ((((tx_ok.rf h).ap (dgI_le _)).ap (Nat.le_refl 1)).ap (dgI_le _)).mono (by decide)
theorem tx_wf_m1 (t b : Int64) (q : Nat × Nat) : (tx_ap q (dgI t.toInt32)).2 ≤ (tx_wf t b q).2 := by
  unfold tx_wf
  split
  · exact Nat.le_refl _
  · exact Nat.le_trans (tx_ap_m _ _) (tx_ap_m _ _)
theorem tx_wf_m (t b : Int64) (q : Nat × Nat) : q.2 ≤ (tx_wf t b q).2 := Nat.le_trans (tx_ap_m _ _) (tx_wf_m1 t b q)
/-- a decimal -/
def tx_wdL : Nat → Nat × Nat → Nat × Nat
  | 0, q => q
  | n + 1, q => tx_wdL n (tx_ap q 1)
theorem tx_wdL_m : ∀ (n : Nat) (q : Nat × Nat), q.2 ≤ (tx_wdL n q).2 := by
  intro n
  induction n with
  | zero => intro q; exact Nat.le_refl _
  | succ n ih => intro q; exact Nat.le_trans (tx_ap_m q 1) (ih _)
theorem tx_wdL_ok : ∀ (n N : Nat) (q0 q : Nat × Nat), tx_ok N q0 q → tx_ok (N + n) q0 (tx_wdL n q) := by
  intro n
  induction n with
  | zero => intro N q0 q h; exact h
  | succ n ih => intro N q0 q h; exact (ih (N + 1) q0 _ (h.ap (Nat.le_refl 1))).mono (by omega)
def tx_wd1 (x : Int64) (q : Nat × Nat) : Nat × Nat := if 0 ≤ x then q else tx_ap q 1
def tx_wd2 (x : Int64) (kp : Nat) (q : Nat × Nat) : Nat × Nat := tx_ap (tx_wd1 x q) (dgI (f_floorOf (absL x) (f_p10 (nI kp))).toInt32)
def tx_wd3 (x : Int64) (kp : Nat) (q : Nat × Nat) : Nat × Nat := if kp = 0 then tx_wd2 x kp q else tx_ap (tx_wd2 x kp q) 1
def tx_wd (x : Int64) (kp : Nat) (q : Nat × Nat) : Nat × Nat := tx_wdL kp (tx_wd3 x kp q)
theorem tx_wd1_m (x : Int64) (q : Nat × Nat) : q.2 ≤ (tx_wd1 x q).2 := by
  unfold tx_wd1; split
  · exact Nat.le_refl _
  · exact tx_ap_m _ _
theorem tx_wd2_m (x : Int64) (kp : Nat) (q : Nat × Nat) : (tx_wd1 x q).2 ≤ (tx_wd2 x kp q).2 := tx_ap_m _ _
theorem tx_wd3_m (x : Int64) (kp : Nat) (q : Nat × Nat) : (tx_wd2 x kp q).2 ≤ (tx_wd3 x kp q).2 := by
  unfold tx_wd3; split
  · exact Nat.le_refl _
  · exact tx_ap_m _ _
theorem tx_wd_m3 (x : Int64) (kp : Nat) (q : Nat × Nat) : (tx_wd3 x kp q).2 ≤ (tx_wd x kp q).2 := tx_wdL_m _ _
theorem tx_wd_m2 (x : Int64) (kp : Nat) (q : Nat × Nat) : (tx_wd2 x kp q).2 ≤ (tx_wd x kp q).2 := Nat.le_trans (tx_wd3_m x kp q) (tx_wd_m3 x kp q)
theorem tx_wd_m1 (x : Int64) (kp : Nat) (q : Nat × Nat) : (tx_wd1 x q).2 ≤ (tx_wd x kp q).2 := Nat.le_trans (tx_wd2_m x kp q) (tx_wd_m2 x kp q)
theorem tx_wd_m (x : Int64) (kp : Nat) (q : Nat × Nat) : q.2 ≤ (tx_wd x kp q).2 := Nat.le_trans (tx_wd1_m x q) (tx_wd_m1 x kp q)
theorem tx_wd_ok (x : Int64) (kp : Nat) {q : Nat × Nat} (h : q.1 ≤ q.2) : tx_ok (23 + kp) q (tx_wd x kp q) := by
  have h1 : tx_ok 1 q (tx_wd1 x q) := by
    unfold tx_wd1; split
    · exact (tx_ok.rf h).mono (by decide)
    · exact ((tx_ok.rf h).ap (Nat.le_refl 1)).mono (by decide)
  have h2 : tx_ok 22 q (tx_wd2 x kp q) := (h1.ap (dgI_le _)).mono (by decide)
  have h3 : tx_ok 23 q (tx_wd3 x kp q) := by
    unfold tx_wd3; split
    · exact h2.mono (by decide)
    · exact (h2.ap (Nat.le_refl 1)).mono (by decide)
  exact tx_wdL_ok kp 23 q _ h3
/-- the places of x's amount are no negative numbers -/
def txD (x : Int64) (kp : Nat) : Prop := ∀ k, k < kp → 0 ≤ f_floorOf (absL x) (f_p10 (nI k))
theorem tx_dig {a : Int64} (h : 0 ≤ a) : ∃ kc, kc < 256 ∧ (((48 : Int64) + (a - a / 10 * 10)).toInt32.toUInt32 % 65536).toInt32 = nI kc := by
  have h0 : 0 ≤ a.toInt := by have := Int64.le_iff_toInt_le.mp h; simpa using this
  have h9 := a.toInt_lt
  have hd : (a / 10).toInt = a.toInt / 10 := by
    rw [Int64.toInt_div]
    have e : a.toInt.tdiv (Int64.toInt 10) = a.toInt / 10 := by
      show a.toInt.tdiv 10 = _
      rw [Int.tdiv_eq_ediv_of_nonneg h0]
    rw [e]
    simp only [Int.bmod]
    split <;> omega
  have e1 : (a / 10 * 10).toInt = a.toInt / 10 * 10 := by
    rw [Int64.toInt_mul, hd]
    show (a.toInt / 10 * 10 : Int).bmod (2 ^ 64) = _
    simp only [Int.bmod]
    split <;> omega
  have e2 : (a - a / 10 * 10).toInt = a.toInt % 10 := by
    rw [Int64.toInt_sub, e1]
    simp only [Int.bmod]
    split <;> omega
  have hall : ∀ i : Fin 10, (((48 : Int64) + Int64.ofInt (i.val : Int)).toInt32.toUInt32 % 65536).toInt32 = nI (48 + i.val) := by decide +kernel
  have hof : ∀ i : Fin 10, (Int64.ofInt (i.val : Int)).toInt = (i.val : Int) := by decide +kernel
  have hi : (a.toInt % 10).toNat < 10 := by omega
  have e3 : a - a / 10 * 10 = Int64.ofInt ((⟨(a.toInt % 10).toNat, hi⟩ : Fin 10).val : Int) := by
    apply Int64.toInt_inj.mp
    rw [e2, hof]
    show a.toInt % 10 = (((a.toInt % 10).toNat : Nat) : Int)
    omega
  rw [e3]
  exact ⟨48 + (a.toInt % 10).toNat, by omega, hall _⟩
/-- a row of numbers -/
def tx_rtS (g : CS) (j k : Nat) (q : Nat × Nat) : Nat × Nat := tx_ap (if k = 0 then q else tx_ap q 1) (dgI (f_at g j (nI k)).toInt32)
def tx_rtL (g : CS) (j : Nat) : Nat → Nat → Nat × Nat → Nat × Nat
  | 0, _, q => q
  | n + 1, k, q => tx_rtL g j n (k + 1) (tx_rtS g j k q)
theorem tx_rtS_m (g : CS) (j k : Nat) (q : Nat × Nat) : q.2 ≤ (tx_rtS g j k q).2 := by
  unfold tx_rtS; split
  · exact tx_ap_m _ _
  · exact Nat.le_trans (tx_ap_m _ _) (tx_ap_m _ _)
theorem tx_rtL_m (g : CS) (j : Nat) : ∀ (n k : Nat) (q : Nat × Nat), q.2 ≤ (tx_rtL g j n k q).2 := by
  intro n
  induction n with
  | zero => intro k q; exact Nat.le_refl _
  | succ n ih => intro k q; exact Nat.le_trans (tx_rtS_m g j k q) (ih _ _)
theorem tx_rtS_ok (g : CS) (j k : Nat) {N : Nat} {q0 q : Nat × Nat} (h : tx_ok N q0 q) : tx_ok (N + 22) q0 (tx_rtS g j k q) := by
  unfold tx_rtS; split
  · exact (h.ap (dgI_le _)).mono (by omega)
  · exact ((h.ap (Nat.le_refl 1)).ap (dgI_le _)).mono (by omega)
theorem tx_rtL_ok (g : CS) (j : Nat) : ∀ (n k N : Nat) (q0 q : Nat × Nat), tx_ok N q0 q → tx_ok (N + 22 * n) q0 (tx_rtL g j n k q) := by
  intro n
  induction n with
  | zero => intro k N q0 q h; exact h.mono (by omega)
  | succ n ih => intro k N q0 q h; exact (ih (k + 1) _ q0 _ (tx_rtS_ok g j k h)).mono (by omega)
def tx_rt (g : CS) (j : Nat) : Nat × Nat := tx_rtL g j (tC g j).toNatClampNeg 0 (0, 16)
/-- a way -/
def tx_wyS (g : CS) (k : Nat) (q : Nat × Nat) : Nat × Nat := if f_at g 1 (nI k) ≤ 0 then q else tx_ap (tx_ap (if q.1 = 0 then q else tx_ap q 1) 1) (dgI (f_at g 1 (nI k)).toInt32)
def tx_wyL (g : CS) : Nat → Nat → Nat × Nat → Nat × Nat
  | 0, _, q => q
  | n + 1, k, q => tx_wyL g n (k + 1) (tx_wyS g k q)
theorem tx_wyS_m (g : CS) (k : Nat) (q : Nat × Nat) : q.2 ≤ (tx_wyS g k q).2 := by
  unfold tx_wyS; split
  · exact Nat.le_refl _
  · split
    · exact Nat.le_trans (tx_ap_m _ _) (tx_ap_m _ _)
    · exact Nat.le_trans (tx_ap_m _ _) (Nat.le_trans (tx_ap_m _ _) (tx_ap_m _ _))
theorem tx_wyL_m (g : CS) : ∀ (n k : Nat) (q : Nat × Nat), q.2 ≤ (tx_wyL g n k q).2 := by
  intro n
  induction n with
  | zero => intro k q; exact Nat.le_refl _
  | succ n ih => intro k q; exact Nat.le_trans (tx_wyS_m g k q) (ih _ _)
theorem tx_wyS_ok (g : CS) (k : Nat) {N : Nat} {q0 q : Nat × Nat} (h : tx_ok N q0 q) : tx_ok (N + 23) q0 (tx_wyS g k q) := by
  unfold tx_wyS; split
  · exact h.mono (by omega)
  · split
    · exact ((h.ap (Nat.le_refl 1)).ap (dgI_le _)).mono (by omega)
    · exact (((h.ap (Nat.le_refl 1)).ap (Nat.le_refl 1)).ap (dgI_le _)).mono (by omega)
theorem tx_wyL_ok (g : CS) : ∀ (n k N : Nat) (q0 q : Nat × Nat), tx_ok N q0 q → tx_ok (N + 23 * n) q0 (tx_wyL g n k q) := by
  intro n
  induction n with
  | zero => intro k N q0 q h; exact h.mono (by omega)
  | succ n ih => intro k N q0 q h; exact (ih (k + 1) _ q0 _ (tx_wyS_ok g k h)).mono (by omega)
def tx_wyg (g : CS) (i : Nat) : CS := f_addTo (f_apart g 1 i) 1 (-1)
def tx_wyW (g : CS) (i : Nat) : CS := if f_cmp (tT g i) 0 ≤ 0 then g else tx_wyg g i
def tx_wy (g : CS) (i : Nat) (q : Nat × Nat) : Nat × Nat := if f_cmp (tT g i) 0 ≤ 0 then tx_ap q 1 else tx_wyL (tx_wyg g i) (tC (tx_wyg g i) 1).toNatClampNeg 0 q
theorem tx_wy_m (g : CS) (i : Nat) (q : Nat × Nat) : q.2 ≤ (tx_wy g i q).2 := by
  unfold tx_wy; split
  · exact tx_ap_m _ _
  · exact tx_wyL_m _ _ _ _
/-- at most 64 TERMS -/
theorem tx_last (g : CS) (j : Nat) (v : Int64) (h : (tC g j).toNatClampNeg ≤ 64) : (tC (f_addLast g j v) j).toNatClampNeg ≤ 64 := by
  unfold f_addLast
  split
  · exact h
  · split
    · exact h
    · rename_i h1 h2
      have h3 := Int32.lt_iff_toInt_lt.mp (Int32.not_le.mp h2)
      have h4 : 0 ≤ (tC g j).toInt := by have := Int32.le_iff_toInt_le.mp (Int32.not_lt.mp h1); simpa using this
      have e6 : (64 : Int32).toInt = 64 := by decide
      have e7 : tC (uC (uV g j (tC g j).toNatClampNeg v) j (tC g j + 1)) j = tC g j + 1 := by simp [tC, uC, uV, va_up]
      rw [e7]
      have e8 : (tC g j + 1).toInt = (tC g j).toInt + 1 := by
        rw [Int32.toInt_add]
        show ((tC g j).toInt + 1 : Int).bmod (2 ^ 32) = _
        simp only [Int.bmod]
        split <;> omega
      show (tC g j + 1).toInt.toNat ≤ 64
      omega
theorem tx_aprtL (j : Nat) : ∀ (n : Nat) (g : CS) (t b : Int64), (tC g j).toNatClampNeg ≤ 64 → (tC (apartL j n g t b) j).toNatClampNeg ≤ 64 := by
  intro n
  induction n with
  | zero => intro g t b h; exact h
  | succ n ih =>
    intro g t b h
    unfold apartL
    split
    · exact h
    · exact ih _ _ _ (tx_last g j _ h)
theorem tx_aprt (g : CS) (j i : Nat) : (tC (f_apart g j i) j).toNatClampNeg ≤ 64 := by
  unfold f_apart
  refine tx_aprtL j 64 _ _ _ ?_
  have e7 : tC (uC g j 0) j = 0 := by simp [tC, uC, va_up]
  rw [e7]
  decide
theorem tx_addTo (g : CS) (j k : Nat) (v : Int64) : tC (f_addTo g j v) k = tC g k := by
  unfold f_addTo
  split
  · rfl
  · split <;> rfl
theorem tx_wyc (g : CS) (i : Nat) : (tC (tx_wyg g i) 1).toNatClampNeg ≤ 64 := by
  unfold tx_wyg
  rw [tx_addTo]
  exact tx_aprt g 1 i
theorem tx_wy_ok (g : CS) (i : Nat) {q : Nat × Nat} (h : q.1 ≤ q.2) : tx_ok 1472 q (tx_wy g i q) := by
  have := tx_wyc g i
  unfold tx_wy; split
  · exact ((tx_ok.rf h).ap (Nat.le_refl 1)).mono (by decide)
  · exact (tx_wyL_ok _ _ 0 0 q q (tx_ok.rf h)).mono (by omega)
theorem bW_k {x : Int32} {k : Nat} {K : Int32} (hK : K.toInt = (k : Int)) (h : bW x 0 K = 0) : x = nI (nn x) ∧ nn x ≤ k := by
  unfold bW at h
  split at h
  · cases h
  · split at h
    · rename_i h1 h2
      have h3 := Int32.le_iff_toInt_le.mp h2
      have h4 : 0 ≤ x.toInt := by have := Int32.le_iff_toInt_le.mp (Int32.not_lt.mp h1); simpa using this
      have h5 : nn x = x.toInt.toNat := rfl
      have h6 : nn x < 2 ^ 31 := Int32.toNatClampNeg_lt x
      refine ⟨?_, by omega⟩
      apply Int32.toInt_inj.mp
      rw [nI_toInt h6]
      omega
    · cases h

