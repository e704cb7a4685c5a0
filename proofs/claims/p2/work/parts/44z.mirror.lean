/-! ===== what the reference's calls make, in bounds ===== -/
theorem m_i32 (x : Int32) : x.toInt64.toInt.natAbs ≤ 2147483648 := by
  rw [Int32.toInt_toInt64]
  have h1 := x.toInt_lt
  have h2 := x.le_toInt
  omega
theorem m_lo32 {t b : Int32} (h : ¬ b = 0) : ¬ m_div t.toInt64 b.toInt64 = 0 ∧ 1 ≤ (m_loB t.toInt64 b.toInt64).toInt := by
  have h1 := m_i32 t
  have h2 := m_i32 b
  have h0 : ¬ b.toInt64 = 0 := fun z => h (Int32.toInt_inj.mp (by have := congrArg Int64.toInt z; rw [Int32.toInt_toInt64] at this; rw [this]; rfl))
  obtain ⟨q1, q2, -, -⟩ := m_lo (t := t.toInt64) (b := b.toInt64) (by omega) (by omega) h0
  exact ⟨q1, q2⟩
theorem m_sumP {ta ba tb bb : Int64} (sg : Int32) (h : m_F ta ba) (h2 : m_F tb bb) (hs : sg = 1 ∨ sg = -1) : ¬ m_div (ta * bb + sg.toInt64 * (tb * ba)) (ba * bb) = 0 ∧ 1 ≤ (m_loB (ta * bb + sg.toInt64 * (tb * ba)) (ba * bb)).toInt ∧ (m_loB (ta * bb + sg.toInt64 * (tb * ba)) (ba * bb)).toInt ≤ 1000000000000000000 ∧ (m_loT (ta * bb + sg.toInt64 * (tb * ba)) (ba * bb)).toInt.natAbs ≤ 2000000000000000000 := by
  obtain ⟨a1, a2, a3⟩ := h
  obtain ⟨b1, b2, b3⟩ := h2
  have hsg : sg.toInt64.toInt.natAbs ≤ 1 := by rcases hs with rfl | rfl <;> decide
  obtain ⟨e1, e2⟩ := m_mulB (x := ta) (y := bb) (B := 1000000000) (C := 1000000000) a1 (by omega) (by decide)
  obtain ⟨g1, g2⟩ := m_mulB (x := tb) (y := ba) (B := 1000000000) (C := 1000000000) b1 (by omega) (by decide)
  obtain ⟨k1, k2⟩ := m_mulB (x := sg.toInt64) (y := tb * ba) (B := 1) (C := 1000000000 * 1000000000) hsg g2 (by decide)
  obtain ⟨j1, j2⟩ := m_addB (x := ta * bb) (y := sg.toInt64 * (tb * ba)) (B := 1000000000 * 1000000000) (C := 1 * (1000000000 * 1000000000)) e2 k2 (by decide)
  obtain ⟨f1, f2⟩ := m_mulB (x := ba) (y := bb) (B := 1000000000) (C := 1000000000) (by omega) (by omega) (by decide)
  have h0 : 1 * 1 ≤ ba.toInt * bb.toInt := Int.mul_le_mul a2 b2 (by decide) (by omega)
  have h3 : 1 ≤ (ba * bb).toInt := by rw [f1]; omega
  exact m_loP (B := 2000000000000000000) (C := 1000000000000000000) (by omega) (by decide) h3 (by omega)
theorem m_btwP {ta ba tb bb : Int64} (h : m_F ta ba) (h2 : m_F tb bb) : ¬ m_div (ta + tb) (ba + bb) = 0 ∧ 1 ≤ (m_loB (ta + tb) (ba + bb)).toInt := by
  obtain ⟨a1, a2, a3⟩ := h
  obtain ⟨b1, b2, b3⟩ := h2
  obtain ⟨e1, e2⟩ := m_addB (x := ta) (y := tb) (B := 1000000000) (C := 1000000000) a1 b1 (by decide)
  obtain ⟨f1, f2⟩ := m_addB (x := ba) (y := bb) (B := 1000000000) (C := 1000000000) (by omega) (by omega) (by decide)
  obtain ⟨q1, q2, -, -⟩ := m_loP (t := ta + tb) (b := ba + bb) (B := 2000000000) (C := 2000000000) (by omega) (by decide) (by omega) (by omega)
  exact ⟨q1, q2⟩
theorem m_negP {t b : Int64} (h : m_F t b) : ¬ m_div (-t) b = 0 ∧ 1 ≤ (m_loB (-t) b).toInt := by
  obtain ⟨a1, a2, a3⟩ := h
  have := (m_negB a1 (by decide)).2
  obtain ⟨q1, q2, -, -⟩ := m_loP (t := -t) (b := b) (B := 1000000000) (C := 1000000000) this (by decide) a2 (by omega)
  exact ⟨q1, q2⟩
theorem m_invP {t b : Int64} (h : m_F t b) (h0 : ¬ t = 0) : m_F (m_loT b t) (m_loB b t) := by
  obtain ⟨q1, q2, q3, q4⟩ := m_inv h h0
  exact ⟨q4, q2, q3⟩
theorem m_abs6 {x : Int32} (h : ¬ m_isIn x (-6) 6 = 0) : ∃ k : Nat, f_absI x = nI k ∧ k ≤ 6 := by
  obtain ⟨h1, h2⟩ := m_inS h
  have e1 : (-6 : Int32).toInt = -6 := by decide
  have e2 : (6 : Int32).toInt = 6 := by decide
  rw [e1] at h1
  rw [e2] at h2
  have hx : x = Int32.ofInt x.toInt := by simp
  obtain ⟨z, hz⟩ : ∃ z, z = x.toInt := ⟨_, rfl⟩
  rw [← hz] at hx h1 h2
  have hall : ∀ i : Fin 13, f_absI (Int32.ofInt ((i.val : Int) - 6)) = nI (((i.val : Int) - 6).natAbs) := by decide +kernel
  have h3 : f_absI (Int32.ofInt ((((z + 6).toNat : Nat) : Int) - 6)) = nI (((((z + 6).toNat : Nat) : Int) - 6).natAbs) := hall ⟨(z + 6).toNat, by omega⟩
  have e3 : (((z + 6).toNat : Nat) : Int) - 6 = z := by omega
  rw [e3] at h3
  exact ⟨z.natAbs, by rw [hx]; exact h3, by omega⟩
theorem m_loT1 {t b : Int64} (ht : t.toInt < 9223372036854775807) (h1 : 1 ≤ t.toInt) (hb : b.toInt < 9223372036854775807) (h2 : 1 ≤ b.toInt) : 1 ≤ (m_loT t b).toInt := by
  have hg := m_divI (a := t) (b := b) (by omega) (by omega)
  have hg1 : 0 < Nat.gcd b.toInt.natAbs t.toInt.natAbs := Nat.gcd_pos_of_pos_left _ (by omega)
  have hg2 : Nat.gcd b.toInt.natAbs t.toInt.natAbs ≤ t.toInt.natAbs := Nat.le_of_dvd (by omega) (Nat.gcd_dvd_right _ _)
  obtain ⟨d1, d2⟩ := m_tdv (x := t) (y := m_div t b) (by omega) (by omega)
  have h0 : (0 : Int64) ≤ b := Int64.le_iff_toInt_le.mpr (by show (0 : Int) ≤ b.toInt; omega)
  have q2 := Nat.div_le_self t.toInt.natAbs (m_div t b).toInt.natAbs
  have e : (m_loT t b).toInt = (t / m_div t b).toInt := by
    unfold m_loT
    rw [m_sgI (by omega), if_pos h0]
  have hgn : (m_div t b).toInt.natAbs = Nat.gcd b.toInt.natAbs t.toInt.natAbs := by omega
  have q1 : 1 ≤ t.toInt.natAbs / (m_div t b).toInt.natAbs := by
    rw [hgn]
    exact (Nat.one_le_div_iff hg1).mpr hg2
  have q3 : 0 ≤ (t / m_div t b).toInt := by rw [d1]; exact Int.tdiv_nonneg (by omega) (by omega)
  rw [e]
  omega
/-- the next one -/
theorem m_nxtP {t b : Int64} (h : m_F t b) (ht : 1 ≤ t.toInt) : ¬ b = 0 ∧ ¬ m_div b ((2 * m_floor t b + 1) * b - t) = 0 ∧ 1 ≤ (m_loB b ((2 * m_floor t b + 1) * b - t)).toInt ∧ 1 ≤ (m_loT b ((2 * m_floor t b + 1) * b - t)).toInt := by
  obtain ⟨a1, a2, a3⟩ := h
  have f1 := m_floorB a1 (by decide) a2
  obtain ⟨f2, f3⟩ := m_flr a1 (by decide) a2
  have e2 : (2 : Int64).toInt = 2 := by decide
  have e1 : (1 : Int64).toInt = 1 := rfl
  obtain ⟨g1, g2⟩ := m_mulB (x := 2) (y := m_floor t b) (B := 2) (C := 1000000001) (by decide) f1 (by decide)
  obtain ⟨j1, j2⟩ := m_addB (x := 2 * m_floor t b) (y := 1) (B := 2 * 1000000001) (C := 1) g2 (by decide) (by decide)
  obtain ⟨k1, k2⟩ := m_mulB (x := 2 * m_floor t b + 1) (y := b) (B := 2 * 1000000001 + 1) (C := 1000000000) j2 (by omega) (by decide)
  obtain ⟨l1, l2⟩ := m_subB (x := (2 * m_floor t b + 1) * b) (y := t) (B := (2 * 1000000001 + 1) * 1000000000) (C := 1000000000) k2 a1 (by decide)
  have hz : ((2 * m_floor t b + 1) * b - t).toInt = 2 * ((m_floor t b).toInt * b.toInt) + b.toInt - t.toInt := by
    rw [l1, k1, j1, g1, e2, e1, Int.add_mul, Int.mul_assoc, Int.one_mul]
  have hf : 0 ≤ (m_floor t b).toInt * b.toInt := by
    rcases Int.lt_or_le (m_floor t b).toInt 0 with z | z
    · have := Int.mul_le_mul_of_nonneg_right (show (m_floor t b).toInt ≤ -1 by omega) (show 0 ≤ b.toInt by omega)
      omega
    · exact Int.mul_nonneg z (by omega)
  have hc : 1 ≤ ((2 * m_floor t b + 1) * b - t).toInt := by rw [hz]; omega
  have hd : ((2 * m_floor t b + 1) * b - t).toInt ≤ 2000000000 := by rw [hz]; omega
  obtain ⟨q1, q2, q3, q4⟩ := m_loP (t := b) (b := (2 * m_floor t b + 1) * b - t) (B := 1000000000) (C := 2000000000) (by omega) (by decide) hc (by omega)
  refine ⟨m_ne0 a2, q1, q2, ?_⟩
  exact m_loT1 (by omega) a2 (by omega) hc
theorem PT.pv {n : Nat} {w : Nat → Value} {b : Int64} (h : PT n w b) : PV n w := fun i hi => by
  obtain ⟨x, x1, x2, -, -⟩ := h i hi
  exact ⟨x, x1, by omega⟩
theorem PT.pf {n : Nat} {w : Nat → Value} {b : Int64} (h : PT n w b) : PF n w := fun i hi => by
  obtain ⟨x, x1, x2, x3, -⟩ := h i hi
  exact ⟨x, x1, by omega, x3⟩
theorem m_ix {x : Int32} {n : Nat} (h0 : 0 ≤ x) (h : ¬ nI n ≤ x) (hn : n ≤ 100000) : ∃ j : Nat, x = nI j ∧ j < n := by
  have g2 := Int32.le_iff_toInt_le.mp h0
  have g3 := Int32.lt_iff_toInt_lt.mp (Int32.not_le.mp h)
  have e0 : (0 : Int32).toInt = 0 := rfl
  rw [e0] at g2
  rw [nI_toInt (by omega)] at g3
  refine ⟨x.toInt.toNat, Int32.toInt_inj.mp ?_, by omega⟩
  rw [nI_toInt (by omega)]
  omega
theorem m_abv1 {t : Int64} (h : ¬ m_abv t = 0) : 1 ≤ t.toInt := by
  unfold m_abv at h
  split at h
  · exact absurd rfl h
  · rename_i h1
    have := Int64.lt_iff_toInt_lt.mp (Int64.not_le.mp h1)
    have e0 : (0 : Int64).toInt = 0 := rfl
    omega
/-- the one before -/
theorem m_befP {t b : Int64} (h : m_F t b) (ht : 1 ≤ t.toInt) : ¬ t = 0 ∧ ¬ m_div ((2 * -m_floor (-b) t - 1) * t - b) t = 0 ∧ 1 ≤ (m_loB ((2 * -m_floor (-b) t - 1) * t - b) t).toInt := by
  obtain ⟨a1, a2, a3⟩ := h
  have n1 := (m_negB (x := b) (B := 1000000000) (by omega) (by decide)).2
  have f1 := m_floorB n1 (by decide) ht
  have n2 := (m_negB f1 (by decide)).2
  obtain ⟨g1, g2⟩ := m_mulB (x := 2) (y := -m_floor (-b) t) (B := 2) (C := 1000000001) (by decide) n2 (by decide)
  obtain ⟨j1, j2⟩ := m_subB (x := 2 * -m_floor (-b) t) (y := 1) (B := 2 * 1000000001) (C := 1) g2 (by decide) (by decide)
  obtain ⟨k1, k2⟩ := m_mulB (x := 2 * -m_floor (-b) t - 1) (y := t) (B := 2 * 1000000001 + 1) (C := 1000000000) j2 a1 (by decide)
  obtain ⟨l1, l2⟩ := m_subB (x := (2 * -m_floor (-b) t - 1) * t) (y := b) (B := (2 * 1000000001 + 1) * 1000000000) (C := 1000000000) k2 (by omega) (by decide)
  obtain ⟨q1, q2, -, -⟩ := m_loP (t := (2 * -m_floor (-b) t - 1) * t - b) (b := t) (B := (2 * 1000000001 + 1) * 1000000000 + 1000000000) (C := 1000000000) l2 (by decide) ht (by omega)
  exact ⟨m_ne0 ht, q1, q2⟩
theorem m_dgA {x : Int64} {k : Nat} (h : x.toInt.natAbs < 10 ^ (k + 1)) (h2 : -9223372036854775808 < x.toInt) : dgJ (f_absJ x) ≤ k + 1 := by
  have e := m_abs h2
  have h1 := m_ndg 19 k (f_absJ x).toInt.natAbs (by rw [e]; exact h)
  have h0 : ¬ f_absJ x < 0 := fun z => by
    have := Int64.lt_iff_toInt_lt.mp z
    have e0 : (0 : Int64).toInt = 0 := rfl
    omega
  unfold dgJ
  rw [if_neg h0]
  exact h1
theorem m_F01 : m_F (m_loT 0 1) (m_loB 0 1) := ⟨by decide +kernel, by decide +kernel, by decide +kernel⟩
theorem m_D01 : m_D4 (m_loB 0 1) := by
  have e : (m_loB 0 1).toInt.natAbs = 1 := by decide +kernel
  unfold m_D4
  rw [e]
  exact Nat.one_dvd _
theorem m_div01 : ¬ m_div 0 1 = 0 := by decide +kernel
theorem m_powD {kp : Nat} (h : kp ≤ 4) : 1 ≤ (m_pow (nI kp)).toInt ∧ (m_pow (nI kp)).toInt ≤ 10000 ∧ (m_pow (nI kp)).toInt.natAbs ∣ 10000 := by
  have hall : ∀ i : Fin 5, 1 ≤ (m_pow (nI i.val)).toInt ∧ (m_pow (nI i.val)).toInt ≤ 10000 ∧ (m_pow (nI i.val)).toInt.natAbs ∣ 10000 := by decide +kernel
  exact hall ⟨kp, by omega⟩
theorem m_max {a b : Nat} (ha : a ≤ 1000) (hb : b ≤ 1000) : ∃ z : Nat, f_max (nI a) (nI b) = nI z ∧ (z = a ∨ z = b) := by
  unfold f_max
  split
  · exact ⟨_, rfl, by first | exact Or.inl rfl | exact Or.inr rfl⟩
  · exact ⟨_, rfl, by first | exact Or.inl rfl | exact Or.inr rfl⟩
theorem RW.obj {D : va_G} {tk : Nat → ClassId} {sa : Nat → Nat} {P : Nat → Prop} {rl n : Nat} {vs : Nat → Value} {H : Heap} (h : RW D tk sa P rl n vs H) : ∃ (md : Int32) (b : Nat), c1 D rl (.inr (7, [.int md, .ref b, .int (nI n)])) H := by
  rcases h with ⟨h0, md, h1⟩ | ⟨md, b, cap, f, hb, h1, -⟩
  · rw [h0]
    exact ⟨md, _, h1⟩
  · exact ⟨md, b, h1⟩
section LR17
variable {p : Program} {l : Launch} {e : Env} {R : Room} {s : State} {m : MethodId} {args : Array Value} {below : List Frame} {meth : Method} {c : Code} {H : Heap} {locs : List Loc} {cells slots : Nat} {Q : State → Prop}
variable {cc : ByteArray} {pc nL : Nat} {ls : Array Slot} {rest : List Value} {Ts : List Cond} {own : String} {D : va_G} {tk : Nat → ClassId} {N0 : Nat} {sa : Nat → Nat} {A0 : Nat → Prop}
theorem w_ai9 : Cond.arrayClass .int ∈ GW := gw_t 1795 (by decide +kernel) rfl
theorem r_newi {w0 : Cond} (E : CallFix p m c cc nL s args (w0 :: GW) own) (hC : Ctx D tk N0 sa s) (hS : va_S A0 s.heap H locs) {n : Int32} {N : Nat} (hn : ¬ n < 0) (hN : n.toNatClampNeg = N) (hbytes : N * 4 ≤ 536870912) (hcells : cells + 1 ≤ R.cells) (hslots : slots + N ≤ R.slots) (hdg : decode cc pc = .ok (.newarray .int, 2))
    (kk : ∀ (q : Nat) (H1 : Heap), q = H.size → c1 D q (.inl (tk 5, N, .inl (fun _ => 0))) H1 → (∀ x : Nat, x < H.size → H1[x]? = H[x]?) → va_S A0 s.heap H1 locs → W p l e R s m args below meth c H1 locs (cells + 1) (slots + N) Q (F0 m (pc + 2) ls (.ref q :: rest))) : W p l e R s m args below meth c H locs cells slots Q (F0 m pc ls (.int n :: rest)) := by
  refine va_newaK (atype := .int) E.1 E.2.1 (E.2.2.2.2 _ (List.mem_cons_of_mem _ w_ai9)) rfl hdg rfl hn hN hbytes hcells hslots rfl fun H1 cA e1 z1 o1 hAr hNm => ?_
  have hcA : cA = tk 5 := Option.some.inj (hNm.symm.trans (hC.1.2 5 (tk 5, .int) rfl).2)
  subst hcA
  refine kk H.size H1 rfl ?_ o1 ⟨Nat.le_trans hS.1 (by omega), fun x h1 h2 => (o1 x (Nat.lt_of_lt_of_le h1 hS.1)).trans (hS.2.1 x h1 h2), hS.2.2⟩
  show H1[H.size]? = some (vp_cell _ _)
  rw [vp_cell_i]
  exact e1
/-- an array of ints, whatever it holds -/
def IA (D : va_G) (tk : Nat → ClassId) (a n : Nat) (H : Heap) : Prop := ∃ f : Nat → Int32, c1 D a (.inl (tk 5, n, .inl f)) H
theorem r_iald (E : CallFix p m c cc nL s args Ts own) (hC : Ctx D tk N0 sa s) {a n : Nat} {f : Nat → Int32} (h : c1 D a (.inl (tk 5, n, .inl f)) H) {i : Int32} (hin : vp_in i n) (hdg : decode cc pc = .ok (.iaload, 1))
    (kk : W p l e R s m args below meth c H locs cells slots Q (F0 m (pc + 1) ls (.int (f i.toNatClampNeg) :: rest))) : W p l e R s m args below meth c H locs cells slots Q (F0 m pc ls (.int i :: .ref a :: rest)) :=
  va_iald E.1 E.2.1 hC.1 h.P 0 5 rfl rfl hin hdg kk
theorem r_iast (E : CallFix p m c cc nL s args Ts own) (hC : Ctx D tk N0 sa s) {a n : Nat} {f : Nat → Int32} (h : c1 D a (.inl (tk 5, n, .inl f)) H) (hS : va_S A0 s.heap H locs) (hA : A0 a) {i : Int32} {x : Int32} (hin : vp_in i n) (hdg : decode cc pc = .ok (.iastore, 1))
    (kk : ∀ (H1 : Heap) (locs1 : List Loc), c1 D a (.inl (tk 5, n, .inl (va_up f i.toNatClampNeg x))) H1 → (∀ q, q ≠ a → H1[q]? = H[q]?) → H1.size = H.size → va_S A0 s.heap H1 locs1 → W p l e R s m args below meth c H1 locs1 cells slots Q (F0 m (pc + 1) ls rest)) : W p l e R s m args below meth c H locs cells slots Q (F0 m pc ls (.int x :: .int i :: .ref a :: rest)) := by
  have hK := hC.1
  refine W.iast E.1 E.2.1 h ((hK.2 5 (tk 5, .int) rfl).1 n (fun j => .int (f j))) (fun q => by cases q) (by show ¬ (i < 0 ∨ (arrV _ _ _).slots.size ≤ _); rw [arrV_size]; exact hin) rfl rfl hdg fun H1 e z oq => ?_
  refine kk H1 _ ?_ oq z (hS.put z oq hA)
  show H1[a]? = some (vp_cell _ _)
  rw [e]
  rw [vp_cell_i, vp_cell_i, arrV_store]
  congr 2
  funext q
  by_cases hq : q = i.toNatClampNeg
  · subst hq
    simp [updV, va_up]
  · simp [updV, va_up, hq]
end LR17
/-! its ROW, told and folded -/
def m_say (x : Int32) (n : Nat) (r : Int32) (n1 : Nat) (th : Int32) : Prop := (m_isIn x (-99999) 99999 = 0 ∧ r = 0 ∧ n1 = n ∧ th = 1) ∨ (¬ m_isIn x (-99999) 99999 = 0 ∧ n = 16 ∧ r = 0 ∧ n1 = n ∧ th = 2) ∨ (¬ m_isIn x (-99999) 99999 = 0 ∧ n ≠ 16 ∧ r = nI (n + 1) ∧ n1 = n + 1 ∧ th = 0)
def m_uns (x : Int32) (n : Nat) (r : Int32) (n1 : Nat) (th : Int32) : Prop := (m_isIn x 0 16 = 0 ∧ r = 0 ∧ n1 = n ∧ th = 1) ∨ (∃ km : Nat, x = nI km ∧ km ≤ 16 ∧ r = nI n1 ∧ n1 = n - km ∧ th = 0)
theorem m_said {x : Int32} (h : ¬ m_isIn x (-99999) 99999 = 0) : x.toInt.natAbs ≤ 99999 := by
  obtain ⟨h1, h2⟩ := m_inS h
  have e1 : (-99999 : Int32).toInt = -99999 := by decide
  have e2 : (99999 : Int32).toInt = 99999 := by decide
  omega
theorem PI.one {w : Nat → Value} {x : Int32} (h : x.toInt.natAbs ≤ 99999) : PI 1 (va_up w 0 (.int x)) := by
  intro i hi
  have e : i = 0 := by omega
  rw [e]
  exact ⟨x, va_up_self _ _ _, h⟩
theorem PI.add {n : Nat} {w : Nat → Value} {x : Int32} (h : PI n w) (h2 : x.toInt.natAbs ≤ 99999) : PI (n + 1) (va_up w n (.int x)) := by
  intro i hi
  by_cases e : i = n
  · rw [e]
    exact ⟨x, va_up_self _ _ _, h2⟩
  · obtain ⟨x2, g1, g2⟩ := h i (by omega)
    exact ⟨x2, by rw [va_up_ne _ _ e]; exact g1, g2⟩
theorem PI.le {n k : Nat} {w : Nat → Value} (h : PI n w) (hk : k ≤ n) : PI k w := fun i hi => h i (Nat.lt_of_lt_of_le hi hk)
/-- the same numbers, as longs -/
def PQ (n : Nat) (vs w : Nat → Value) : Prop := ∀ i, i < n → ∃ x : Int32, vs i = .int x ∧ w i = .long x.toInt64
theorem PQ.one {vs w : Nat → Value} {x : Int32} {y : Int64} (h : vs 0 = .int x) (hy : y = x.toInt64) : PQ 1 vs (va_up w 0 (.long y)) := by
  intro i hi
  have e : i = 0 := by omega
  rw [e]
  exact ⟨x, h, by rw [va_up_self, hy]⟩
theorem PQ.add {n : Nat} {vs w : Nat → Value} {x : Int32} {y : Int64} (h : PQ n vs w) (h2 : vs n = .int x) (hy : y = x.toInt64) : PQ (n + 1) vs (va_up w n (.long y)) := by
  intro i hi
  by_cases e : i = n
  · rw [e]
    exact ⟨x, h2, by rw [va_up_self, hy]⟩
  · obtain ⟨x2, g1, g2⟩ := h i (by omega)
    exact ⟨x2, g1, by rw [va_up_ne _ _ e]; exact g2⟩
theorem PQ.pv {n : Nat} {vs w : Nat → Value} (h : PQ n vs w) (hp : PI n vs) : PV n w := by
  intro i hi
  obtain ⟨x, x1, x2⟩ := h i hi
  obtain ⟨y, y1, y2⟩ := hp i hi
  have e : x = y := by rw [x1] at y1; exact Value.int.inj y1
  refine ⟨x.toInt64, x2, ?_⟩
  rw [Int32.toInt_toInt64, e]
  omega
theorem PQ.pf {n : Nat} {vs w : Nat → Value} (h : PQ n vs w) (hp : PI n vs) (h1 : ∀ i, 1 ≤ i → i < n → ∃ x : Int32, vs i = .int x ∧ 1 ≤ x.toInt) : PF n w := by
  intro i hi
  obtain ⟨x, x1, x2⟩ := h i hi
  obtain ⟨y, y1, y2⟩ := hp i hi
  have e : x = y := by rw [x1] at y1; exact Value.int.inj y1
  refine ⟨x.toInt64, x2, ?_, fun z => ?_⟩
  · rw [Int32.toInt_toInt64, e]
    omega
  · obtain ⟨u, u1, u2⟩ := h1 i z hi
    have e2 : x = u := by rw [x1] at u1; exact Value.int.inj u1
    rw [Int32.toInt_toInt64, e2]
    exact u2
theorem m_and1 {z : Int32} (h : z = 0 ∨ z = 1) : z &&& 1 = z := by
  rcases h with rfl | rfl <;> decide
theorem m_and0 (z : Int32) : z &&& 0 = 0 := Int32.and_zero
def m_isz (vs : Nat → Value) (k : Nat) (z : Int32) : Prop := (z = 0 ∧ ∃ i, 1 ≤ i ∧ i < k ∧ (m_rw vs i).toInt < 1) ∨ (z = 1 ∧ ∀ i, 1 ≤ i → i < k → ∃ x : Int32, vs i = .int x ∧ 1 ≤ x.toInt)
theorem m_isz.add {vs : Nat → Value} {k : Nat} {z y x : Int32} (h : m_isz vs k z) (hx : vs k = .int x) (h1 : 1 ≤ x) (hy : y = z &&& 1) : m_isz vs (k + 1) y := by
  have h9 : z = 0 ∨ z = 1 := h.elim (fun w => Or.inl w.1) (fun w => Or.inr w.1)
  rw [m_and1 h9] at hy
  rw [hy]
  rcases h with ⟨h0, i, i1, i2, i3⟩ | ⟨h0, h2⟩
  · exact Or.inl ⟨h0, i, i1, by omega, i3⟩
  · refine Or.inr ⟨h0, fun i g1 g2 => ?_⟩
    by_cases e : i = k
    · rw [e]
      have := Int32.le_iff_toInt_le.mp h1
      have e1 : (1 : Int32).toInt = 1 := rfl
      exact ⟨x, hx, by omega⟩
    · exact h2 i g1 (by omega)
theorem m_isz.bad {vs : Nat → Value} {k : Nat} {z y x : Int32} (_ : m_isz vs k z) (hk : 1 ≤ k) (hx : vs k = .int x) (h1 : x < 1) (hy : y = 0) : m_isz vs (k + 1) y := by
  refine Or.inl ⟨hy, k, hk, by omega, ?_⟩
  have := Int32.lt_iff_toInt_lt.mp h1
  have e1 : (1 : Int32).toInt = 1 := rfl
  rw [q_rw hx, Int32.toInt_toInt64]
  omega
theorem m_isz.fo0 {vs : Nat → Value} {n : Nat} {z : Int32} (h : m_isz vs n z) (hz : z = 0) (hn : n ≠ 0) : m_FO n vs none := by
  rcases h with ⟨-, i, i1, i2, i3⟩ | ⟨h0, -⟩
  · exact Or.inr (Or.inl ⟨hn, ⟨i, i1, i2, i3⟩, rfl⟩)
  · rw [hz] at h0
    exact absurd h0 (by decide)
theorem m_isz.fo1 {vs : Nat → Value} {n : Nat} {z : Int32} {o : Option (Int64 × Int64)} (h : m_isz vs n z) (hz : ¬ z = 0) (hn : n ≠ 0) (ho : m_FD (m_rw vs) n = o) : m_FO n vs o := by
  refine Or.inr (Or.inr ⟨hn, fun i i1 i2 => ?_, ho.symm⟩)
  obtain ⟨x, x1, x2⟩ := (h.resolve_left (fun q => hz q.1)).2 i i1 i2
  rw [q_rw x1, Int32.toInt_toInt64]
  exact x2
theorem PQ.rw {n : Nat} {vs w : Nat → Value} (h : PQ n vs w) : ∀ i, i < n → w i = .long (m_rw vs i) := by
  intro i hi
  obtain ⟨x, x1, x2⟩ := h i hi
  rw [x2, q_rw x1]
theorem m_nle0 {j : Nat} (h : j < 2 ^ 31) (h2 : nI j ≤ 0) : j = 0 := by
  have h3 := Int32.le_iff_toInt_le.mp h2
  rw [nI_toInt h] at h3
  have e0 : (0 : Int32).toInt = 0 := rfl
  omega
/-! the TALLY: the bottom of what was rounded goes on dividing 10000 -/
theorem m_dvd4 {N tT u : Int} {o v tp bt g : Nat} (ho : o ∣ 10000) (hv : v ∣ 10000) (hN : N = 10000) (hg : (o : Int) * v = bt * g) (ht : tT * v + u * o = (tp : Int) * g ∨ tT * v + u * o = -((tp : Int) * g)) (hg0 : 0 < g) (hc : Nat.Coprime bt tp) (ho0 : 0 < o) (hv0 : 0 < v) : bt ∣ 10000 := by
  obtain ⟨a, ha⟩ := ho
  obtain ⟨b, hb⟩ := hv
  -- 10000 * top = bottom * something
  have e1 : (10000 : Int) = o * a := by rw [← Int.natCast_mul, ← ha]; rfl
  have e2 : (10000 : Int) = v * b := by rw [← Int.natCast_mul, ← hb]; rfl
  have h1 : (10000 : Int) * (tT * v + u * o) = (o * v) * (tT * a + u * b) := by
    rw [Int.mul_add, Int.mul_add]
    have q1 : (10000 : Int) * (tT * v) = o * v * (tT * a) := by rw [e1]; ac_rfl
    have q2 : (10000 : Int) * (u * o) = o * v * (u * b) := by rw [e2]; ac_rfl
    rw [q1, q2]
  rw [hg] at h1
  have hz : (bt : Int) ∣ 10000 * (tp : Int) := by
    have hgi : (g : Int) ≠ 0 := by omega
    rcases ht with h | h
    · rw [h] at h1
      refine ⟨tT * a + u * b, Int.eq_of_mul_eq_mul_right hgi ?_⟩
      rw [show (10000 : Int) * tp * g = 10000 * (tp * g) by ac_rfl, h1]
      ac_rfl
    · rw [h] at h1
      refine ⟨-(tT * a + u * b), Int.eq_of_mul_eq_mul_right hgi ?_⟩
      have h2 : (10000 : Int) * (tp * g) = -(bt * g * (tT * a + u * b)) := by rw [← h1, Int.mul_neg, Int.neg_neg]
      rw [show (10000 : Int) * tp * g = 10000 * (tp * g) by ac_rfl, h2, Int.mul_neg, Int.neg_mul]
      congr 1
      ac_rfl
  have hn : bt ∣ 10000 * tp := by
    have := Int.natAbs_dvd_natAbs.mpr hz
    simpa [Int.natAbs_mul] using this
  exact Nat.Coprime.dvd_of_dvd_mul_right hc hn
/-- in lowest terms: what it is made of -/
theorem m_loE {t b : Int64} {B : Nat} (ht : t.toInt.natAbs ≤ B) (hB : B < 9223372036854775808) (hb : 1 ≤ b.toInt) : ∃ g : Nat, 0 < g ∧ b.toInt = (m_loB t b).toInt * g ∧ t.toInt = (m_loT t b).toInt * g ∧ Nat.Coprime (m_loB t b).toInt.natAbs (m_loT t b).toInt.natAbs := by
  have h9 := b.toInt_lt
  have hg := m_divI (a := t) (b := b) (by omega) (by omega)
  have hg1 : 0 < Nat.gcd b.toInt.natAbs t.toInt.natAbs := Nat.gcd_pos_of_pos_left _ (by omega)
  obtain ⟨g, hgg⟩ : ∃ g, g = Nat.gcd b.toInt.natAbs t.toInt.natAbs := ⟨_, rfl⟩
  rw [← hgg] at hg hg1
  obtain ⟨d1, d2⟩ := m_tdv (x := b) (y := m_div t b) (by omega) (by omega)
  obtain ⟨e1, e2⟩ := m_tdv (x := t) (y := m_div t b) (by omega) (by omega)
  have h0 : (0 : Int64) ≤ b := Int64.le_iff_toInt_le.mpr (by show (0 : Int) ≤ b.toInt; omega)
  have qB := Nat.div_le_self b.toInt.natAbs (m_div t b).toInt.natAbs
  have qT := Nat.div_le_self t.toInt.natAbs (m_div t b).toInt.natAbs
  have eB : (m_loB t b).toInt = (b / m_div t b).toInt := by
    unfold m_loB
    rw [m_sgI (by omega), if_pos h0]
  have eT : (m_loT t b).toInt = (t / m_div t b).toInt := by
    unfold m_loT
    rw [m_sgI (by omega), if_pos h0]
  have v1 : (g : Int) ∣ b.toInt := Int.ofNat_dvd_left.mpr (by rw [hgg]; exact Nat.gcd_dvd_left _ _)
  have v2 : (g : Int) ∣ t.toInt := Int.ofNat_dvd_left.mpr (by rw [hgg]; exact Nat.gcd_dvd_right _ _)
  refine ⟨g, hg1, ?_, ?_, ?_⟩
  · rw [eB, d1, hg]
    exact (Int.tdiv_mul_cancel v1).symm
  · rw [eT, e1, hg]
    exact (Int.tdiv_mul_cancel v2).symm
  · rw [eB, eT, d2, e2, hg, Int.natAbs_natCast, hgg]
    exact Nat.coprime_div_gcd_div_gcd (by rw [← hgg]; exact hg1)
theorem m_loD {t b : Int64} {B : Nat} (ht : t.toInt.natAbs ≤ B) (hB : B < 9223372036854775808) (hb : 1 ≤ b.toInt) (hd : b.toInt.natAbs ∣ 10000) : m_D4 (m_loB t b) := by
  obtain ⟨g, g1, g2, -, -⟩ := m_loE ht hB hb
  unfold m_D4
  refine Nat.dvd_trans ⟨g, ?_⟩ hd
  rw [g2, Int.natAbs_mul, Int.natAbs_natCast]
/-- what is added to it -/
theorem m_tlP {oT oB t b : Int64} (h : m_F oT oB) (hd : m_D4 oB) (ht : t.toInt.natAbs ≤ 10000000000002) (hb : 1 ≤ b.toInt) (hb2 : b.toInt ≤ 10000) (hd2 : m_D4 b) :
    ¬ m_div (oT * b + (1 : Int32).toInt64 * (t * oB)) (oB * b) = 0 ∧ 1 ≤ (m_loB (oT * b + (1 : Int32).toInt64 * (t * oB)) (oB * b)).toInt ∧ m_D4 (m_loB (oT * b + (1 : Int32).toInt64 * (t * oB)) (oB * b)) := by
  obtain ⟨a1, a2, a3⟩ := h
  have ho : oB.toInt.natAbs ≤ 10000 := Nat.le_of_dvd (by decide) hd
  have hs : (1 : Int32).toInt64 = 1 := by decide
  rw [hs, Int64.one_mul]
  obtain ⟨e1, e2⟩ := m_mulB (x := oT) (y := b) (B := 1000000000) (C := 10000) a1 (by omega) (by decide)
  obtain ⟨g1, g2⟩ := m_mulB (x := t) (y := oB) (B := 10000000000002) (C := 10000) ht ho (by decide)
  obtain ⟨j1, j2⟩ := m_addB (x := oT * b) (y := t * oB) (B := 1000000000 * 10000) (C := 10000000000002 * 10000) e2 g2 (by decide)
  obtain ⟨f1, f2⟩ := m_mulB (x := oB) (y := b) (B := 10000) (C := 10000) ho (by omega) (by decide)
  have h0 : 1 * 1 ≤ oB.toInt * b.toInt := Int.mul_le_mul a2 hb (by decide) (by omega)
  have h3 : 1 ≤ (oB * b).toInt := by rw [f1]; omega
  obtain ⟨q1, q2, -, -⟩ := m_loP (t := oT * b + t * oB) (b := oB * b) (B := 1000000000 * 10000 + 10000000000002 * 10000) (C := 10000 * 10000) j2 (by decide) h3 (by omega)
  refine ⟨q1, q2, ?_⟩
  obtain ⟨g, k1, k2, k3, k4⟩ := m_loE (t := oT * b + t * oB) (b := oB * b) j2 (by decide) h3
  rw [f1] at k2
  rw [j1, e1, g1] at k3
  unfold m_D4
  refine m_dvd4 (N := 10000) (tT := oT.toInt) (u := t.toInt) (o := oB.toInt.natAbs) (v := b.toInt.natAbs) (tp := (m_loT (oT * b + t * oB) (oB * b)).toInt.natAbs) (g := g) hd hd2 rfl ?_ ?_ k1 k4 (by omega) (by omega)
  · rw [show ((oB.toInt.natAbs : Nat) : Int) = oB.toInt by omega, show ((b.toInt.natAbs : Nat) : Int) = b.toInt by omega, k2, show (((m_loB (oT * b + t * oB) (oB * b)).toInt.natAbs : Nat) : Int) = (m_loB (oT * b + t * oB) (oB * b)).toInt by omega]
  · rw [show ((oB.toInt.natAbs : Nat) : Int) = oB.toInt by omega, show ((b.toInt.natAbs : Nat) : Int) = b.toInt by omega, k3]
    rcases Int.natAbs_eq (m_loT (oT * b + t * oB) (oB * b)).toInt with h | h
    · exact Or.inl (by rw [← h])
    · refine Or.inr ?_
      rw [← Int.neg_mul, ← h]
/-! the way's length: at most 3 signs a TERM and 9 -/
theorem m_E9 {E : Nat} {T : Int} (h : ((10 ^ E : Nat) : Int) * T ≤ 1000000000) (hT : 1 ≤ T) : E ≤ 9 := by
  rcases Nat.lt_or_ge 9 E with z | z
  · have h1 : 10 ^ 10 ≤ 10 ^ E := Nat.pow_le_pow_right (by decide) z
    have h2 : 10 ^ 10 = 10000000000 := by decide
    rw [h2] at h1
    generalize 10 ^ E = A at h h1
    have h3 := Int.mul_le_mul_of_nonneg_left hT (show (0 : Int) ≤ (A : Int) by omega)
    omega
  · exact z
theorem m_E0 {t : Int} (h : t ≤ 1000000000) : ((10 ^ 0 : Nat) : Int) * t ≤ 1000000000 := by
  rw [Nat.pow_zero]
  omega
theorem m_ndgL : ∀ (f k : Nat), 1 ≤ k → 10 ^ (ndg f k - 1) ≤ k := by
  intro f
  induction f with
  | zero => intro k h; exact h
  | succ f ih =>
    intro k h
    unfold ndg
    split
    · exact h
    · have h2 := ih (k / 10) (by omega)
      have h3 := ndg_pos f (k / 10)
      rw [Nat.add_sub_cancel]
      have e : ndg f (k / 10) = (ndg f (k / 10) - 1) + 1 := by omega
      rw [e, Nat.pow_succ]
      omega
theorem m_dgL {x : Int64} (h : 1 ≤ x.toInt) : 1 ≤ dgJ x ∧ ((10 ^ (dgJ x - 1) : Nat) : Int) ≤ x.toInt := by
  have h0 : ¬ x < 0 := fun z => by
    have := Int64.lt_iff_toInt_lt.mp z
    have e0 : (0 : Int64).toInt = 0 := rfl
    omega
  have e : dgJ x = ndg 19 x.toInt.natAbs := by
    unfold dgJ
    rw [if_neg h0, Nat.add_zero]
  have h2 := m_ndgL 19 x.toInt.natAbs (by omega)
  rw [e]
  exact ⟨ndg_pos _ _, by omega⟩
theorem m_stE {E d : Nat} {T0 T1 T2 x y : Int} (h : ((10 ^ E : Nat) : Int) * T0 ≤ 1000000000) (hx : x * T1 + T2 = T0) (h1 : 1 ≤ T1) (h2 : 0 ≤ T2) (hd : ((10 ^ d : Nat) : Int) ≤ y) (hy : y ≤ x) : ((10 ^ (E + d) : Nat) : Int) * T1 ≤ 1000000000 := by
  rw [Nat.pow_add, Int.natCast_mul]
  generalize 10 ^ E = A at h
  generalize 10 ^ d = B at hd
  have q1 : (B : Int) * T1 ≤ x * T1 := Int.mul_le_mul_of_nonneg_right (by omega) (by omega)
  have q2 : (A : Int) * (B * T1) ≤ A * T0 := Int.mul_le_mul_of_nonneg_left (by omega) (by omega)
  rw [Int.mul_assoc]
  omega
theorem EU.step {n k : Nat} {w : Nat → Value} {T : Nat → Int} {x : Int64} (u2 : T (n + 1) = 0) (u3 : ∀ i, i < n → ∃ x : Int64, w i = .long x ∧ x.toInt * T (i + 1) + T (i + 2) = T i) (u4 : ∀ i, 1 ≤ i → i ≤ n → 1 ≤ T i ∧ T i ≤ 1000000000) (hk : k < n) (hx : w k = .long x) : x.toInt * T (k + 1) + T (k + 2) = T k ∧ 1 ≤ T (k + 1) ∧ T (k + 1) ≤ 1000000000 ∧ 0 ≤ T (k + 2) := by
  obtain ⟨x1, y1, y2⟩ := u3 k hk
  have ex : x1 = x := by rw [hx] at y1; exact (Value.long.inj y1).symm
  rw [ex] at y2
  have h1 := u4 (k + 1) (by omega) (by omega)
  refine ⟨y2, h1.1, h1.2, ?_⟩
  rcases Nat.lt_or_ge (k + 2) (n + 1) with z | z
  · have := (u4 (k + 2) (by omega) (by omega)).1
    omega
  · have e : k + 2 = n + 1 := by omega
    rw [e, u2]
    exact Int.le_refl _
theorem m_many {x r y : Int64} {b : Int32} (hr : r = x) (hy : y = r - b.toInt64) (hb : b = 0 ∨ b = 1) (hx : x.toInt.natAbs ≤ 1000000010) : y.toInt ≤ x.toInt ∧ x.toInt ≤ y.toInt + 1 ∧ y.toInt.natAbs < 10000000000 := by
  have e0 : (0 : Int32).toInt64.toInt = 0 := by decide
  have e1 : (1 : Int32).toInt64.toInt = 1 := by decide
  have h2 : b.toInt64.toInt.natAbs ≤ 1 := by rcases hb with rfl | rfl <;> decide
  obtain ⟨k1, k2⟩ := m_subB (x := x) (y := b.toInt64) (B := 1000000010) (C := 1) hx h2 (by decide)
  rw [hy, hr]
  rcases hb with rfl | rfl
  · rw [e0] at k1
    omega
  · rw [e1] at k1
    omega
/-- what a way's telling takes -/
def m_wS : Nat → Nat
  | 0 => 0
  | k + 1 => m_wS k + (12 * k + 74)
theorem m_wSB {k : Nat} (h : k ≤ 43) : m_wS k ≤ 14018 := by
  have hall : ∀ i : Fin 44, m_wS i.val ≤ 14018 := by decide +kernel
  exact hall ⟨k, by omega⟩
/-! cuts in bounds -/
theorem m_cut3B {t b : Int64} (h : m_F t b) (md : Int32) : (m_cut t b 3 md).toInt.natAbs ≤ 1000000000002 := by
  have hp : (m_pow 3).toInt = 1000 := by decide +kernel
  obtain ⟨e1, e2⟩ := m_mulB (x := t) (y := m_pow 3) (B := 1000000000) (C := 1000) h.1 (by omega) (by decide)
  exact m_cutB (B := 1000000000000) (by omega) (by decide) h.2.1
theorem m_cut4B {t b : Int64} (h : m_F t b) {pl : Int32} {kp : Nat} (hp : pl = nI kp) (hk : kp ≤ 4) (md : Int32) : (m_cut t b pl md).toInt.natAbs ≤ 10000000000002 := by
  have h1 := m_powD hk
  rw [← hp] at h1
  obtain ⟨e1, e2⟩ := m_mulB (x := t) (y := m_pow pl) (B := 1000000000) (C := 10000) h.1 (by omega) (by decide)
  exact m_cutB (B := 10000000000000) (by omega) (by decide) h.2.1
theorem m_cut9B {t b : Int64} (h : m_F t b) {pl : Int32} {kp : Nat} (hp : pl = nI kp) (hk : kp ≤ 9) (md : Int32) : (m_cut t b pl md).toInt.natAbs ≤ 1000000000000000002 := by
  have h1 := m_powB hk
  rw [← hp] at h1
  obtain ⟨e1, e2⟩ := m_mulB (x := t) (y := m_pow pl) (B := 1000000000) (C := 1000000000) h.1 (by omega) (by decide)
  exact m_cutB (B := 1000000000000000000) (by omega) (by decide) h.2.1
theorem m_dg13 {x : Int64} (h : x.toInt.natAbs ≤ 1000000000002) : dgJ (f_absJ x) ≤ 13 := m_dgA (k := 12) (by omega) (by omega)
theorem m_dg14 {x : Int64} (h : x.toInt.natAbs ≤ 10000000000002) : dgJ (f_absJ x) ≤ 14 := m_dgA (k := 13) (by omega) (by omega)
theorem m_dg20 {x : Int64} (h : x.toInt.natAbs ≤ 1000000000000000002) : dgJ (f_absJ x) ≤ 20 := Nat.le_trans (m_dgA (k := 18) (by omega) (by omega)) (by decide)
/-- what is rounded, told -/
theorem m_rndB {t b u : Int64} {r : Int64} {kp : Nat} (h : m_F t b) (hr : r = m_pow (nI kp)) (hk : kp ≤ 4) (hu : u = t * (r / b)) : dgJ (f_absJ u) ≤ 14 := by
  have h1 := m_powD hk
  rw [← hr] at h1
  obtain ⟨d1, d2⟩ := m_tdv (x := r) (y := b) (by omega) h.2.1
  have q2 : r.toInt.natAbs / b.toInt.natAbs ≤ r.toInt.natAbs := Nat.div_le_self _ _
  obtain ⟨e1, e2⟩ := m_mulB (x := t) (y := r / b) (B := 1000000000) (C := 10000) h.1 (by omega) (by decide)
  exact m_dg14 (by rw [hu]; omega)
/-- what is added to the TALLY, in lowest terms -/
theorem m_addP {x r : Int64} {kp : Nat} (hx : x.toInt.natAbs ≤ 10000000000002) (hr : r = m_pow (nI kp)) (hk : kp ≤ 4) : ¬ m_div x r = 0 ∧ 1 ≤ (m_loB x r).toInt ∧ (m_loB x r).toInt ≤ 10000 ∧ (m_loT x r).toInt.natAbs ≤ 10000000000002 ∧ m_D4 (m_loB x r) := by
  have h1 := m_powD hk
  rw [← hr] at h1
  obtain ⟨q1, q2, q3, q4⟩ := m_loP (t := x) (b := r) (B := 10000000000002) (C := 10000) hx (by decide) h1.1 (by omega)
  exact ⟨q1, q2, q3, q4, m_loD hx (by decide) h1.1 h1.2.2⟩
