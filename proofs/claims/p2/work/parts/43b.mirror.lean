/-! ===== what the reference's acts make of its numbers ===== -/
def beR (tt bb : Nat → Int64) (k : Nat) : Option (Int64 × Int64) → Int32
  | none => -9
  | some q => if m_fit q.1 q.2 = 0 then -9 else if m_ord (tt k) (bb k) q.1 q.2 = 0 then 0 else 1
def beT (tt : Nat → Int64) (k : Nat) : Option (Int64 × Int64) → Nat → Int64
  | none => tt
  | some q => if m_fit q.1 q.2 = 0 then tt else va_up tt k q.1
def beB (bb : Nat → Int64) (k : Nat) : Option (Int64 × Int64) → Nat → Int64
  | none => bb
  | some q => if m_fit q.1 q.2 = 0 then bb else va_up bb k q.2
def beF (rf : Int32) : Option (Int64 × Int64) → Int32
  | none => rf + 1
  | some q => if m_fit q.1 q.2 = 0 then rf + 1 else rf
/-- a RATIO becomes that, or is REFUSED -/
def BE (tt bb : Nat → Int64) (rf : Int32) (k : Nat) (o : Option (Int64 × Int64)) (r : Int32) (tt1 bb1 : Nat → Int64) (rf1 : Int32) : Prop := r = beR tt bb k o ∧ tt1 = beT tt k o ∧ bb1 = beB bb k o ∧ rf1 = beF rf o
theorem BE.cast {tt bb : Nat → Int64} {rf : Int32} {k : Nat} {o o1 : Option (Int64 × Int64)} {r : Int32} {tt1 bb1 : Nat → Int64} {rf1 : Int32} (h : BE tt bb rf k o r tt1 bb1 rf1) (e : o = o1) : BE tt bb rf k o1 r tt1 bb1 rf1 := e ▸ h
/-- an act: which exception, and what it makes without one -/
def AC (a b : Int32) (tt bb : Nat → Int64) (rf : Int32) (k : Nat) (o : Option (Int64 × Int64)) (r th : Int32) (tt1 bb1 : Nat → Int64) (rf1 : Int32) : Prop := th = m_th a b ∧ (m_fl a b = 0 → BE tt bb rf k o r tt1 bb1 rf1) ∧ (¬ m_fl a b = 0 → tt1 = tt ∧ bb1 = bb ∧ rf1 = rf)
/-- a question: which exception, and the answer without one -/
def QU (a b : Int32) (x r th : Int32) : Prop := th = m_th a b ∧ (m_fl a b = 0 → r = x)
def m_or (a b : Int32) : Int32 := if a = 0 then (if b = 0 then 0 else 1) else 1
def m_not (a : Int32) : Int32 := if a = 0 then 1 else 0
def m_is0 (a : Int32) : Int32 := if a = 0 then 1 else 0
def m_lt0 (a : Int32) : Int32 := if a < 0 then 1 else 0
def m_OV (t b u v : Int64) : Option (Int64 × Int64) := if u = 0 then none else LO (t * m_loT v u) (b * m_loB v u)
theorem AC.fail {A B a b : Int32} {tt bb : Nat → Int64} {rf : Int32} {k : Nat} {o : Option (Int64 × Int64)} {r : Int32} (hA : a = A) (hB : b = B) (h : ¬ m_fl a b = 0) : AC A B tt bb rf k o r (m_th a b) tt bb rf := by
  subst hA hB
  exact ⟨rfl, fun z => absurd z h, fun _ => ⟨rfl, rfl, rfl⟩⟩
theorem AC.ok {A B a b : Int32} {tt bb tt1 bb1 : Nat → Int64} {rf rf1 : Int32} {k : Nat} {o : Option (Int64 × Int64)} {r : Int32} (hA : a = A) (hB : b = B) (h : m_fl a b = 0) (hb : BE tt bb rf k o r tt1 bb1 rf1) : AC A B tt bb rf k o r (m_th a b) tt1 bb1 rf1 := by
  subst hA hB
  exact ⟨rfl, fun _ => hb, fun z => absurd h z⟩
theorem QU.fail {A B a b x r : Int32} (hA : a = A) (hB : b = B) (h : ¬ m_fl a b = 0) : QU A B x r (m_th a b) := by
  subst hA hB
  exact ⟨rfl, fun z => absurd z h⟩
theorem QU.ok {A B a b x r : Int32} (hA : a = A) (hB : b = B) (_ : m_fl a b = 0) (hx : r = x) : QU A B x r (m_th a b) := by
  subst hA hB
  exact ⟨rfl, fun _ => hx⟩
/-- two RATIOS change places -/
def m_sw (tt bb : Nat → Int64) (i k : Nat) : Int32 := if m_ord (va_up (va_up tt i (tt k)) k (tt i) i) (va_up (va_up bb i (bb k)) k (bb i) i) (tt i) (bb i) = 0 then 0 else 1
def SW (a b : Int32) (tt bb : Nat → Int64) (i k : Nat) (r th : Int32) (tt1 bb1 : Nat → Int64) : Prop := th = m_th a b ∧ (m_fl a b = 0 → r = m_sw tt bb i k ∧ tt1 = va_up (va_up tt i (tt k)) k (tt i) ∧ bb1 = va_up (va_up bb i (bb k)) k (bb i)) ∧ (¬ m_fl a b = 0 → tt1 = tt ∧ bb1 = bb)
theorem SW.fail {A B a b : Int32} {tt bb : Nat → Int64} {i k : Nat} {r : Int32} (hA : a = A) (hB : b = B) (h : ¬ m_fl a b = 0) : SW A B tt bb i k r (m_th a b) tt bb := by
  subst hA hB
  exact ⟨rfl, fun z => absurd z h, fun _ => ⟨rfl, rfl⟩⟩
theorem SW.ok {A B a b : Int32} {tt bb : Nat → Int64} {i k : Nat} {r : Int32} (hA : a = A) (hB : b = B) (h : m_fl a b = 0) (hr : r = m_sw tt bb i k) : SW A B tt bb i k r (m_th a b) (va_up (va_up tt i (tt k)) k (tt i)) (va_up (va_up bb i (bb k)) k (bb i)) := by
  subst hA hB
  exact ⟨rfl, fun _ => ⟨hr, rfl, rfl⟩, fun z => absurd h z⟩
/-- a part of a RATIO; NEXT to each other -/
def m_pt (t b : Int64) (k : Nat) : Int64 := if k = 0 then t else if k = 1 then b else if k = 2 then (f_cmp t 0).toInt64 else m_floor t b
def m_nx1 (t b u v : Int64) : Int32 := if f_absJ (t * v - u * b) = 1 then 1 else 0
theorem m_nx1o {t b u v : Int64} {r : Int32} (e : r = m_nx1 t b u v) (h : ¬ r = 0) : 1 = m_nx1 t b u v := by
  rw [e] at h
  unfold m_nx1 at h ⊢
  split
  · rfl
  · rename_i c
    rw [if_neg c] at h
    exact absurd rfl h
/-- an act whose answer is 1 at the least, where none is REFUSED -/
def AN (a b : Int32) (tt bb : Nat → Int64) (rf : Int32) (k : Nat) (o : Option (Int64 × Int64)) (r th : Int32) (tt1 bb1 : Nat → Int64) (rf1 : Int32) : Prop := th = m_th a b ∧ (m_fl a b = 0 → r = beR tt bb k o ||| 1 ∧ tt1 = beT tt k o ∧ bb1 = beB bb k o ∧ rf1 = beF rf o) ∧ (¬ m_fl a b = 0 → tt1 = tt ∧ bb1 = bb ∧ rf1 = rf)
theorem AN.fail {A B a b : Int32} {tt bb : Nat → Int64} {rf : Int32} {k : Nat} {o : Option (Int64 × Int64)} {r : Int32} (hA : a = A) (hB : b = B) (h : ¬ m_fl a b = 0) : AN A B tt bb rf k o r (m_th a b) tt bb rf := by
  subst hA hB
  exact ⟨rfl, fun z => absurd z h, fun _ => ⟨rfl, rfl, rfl⟩⟩
theorem AN.ok {A B a b : Int32} {tt bb tt1 bb1 : Nat → Int64} {rf rf1 : Int32} {k : Nat} {o : Option (Int64 × Int64)} {r r0 : Int32} (hA : a = A) (hB : b = B) (h : m_fl a b = 0) (hb : BE tt bb rf k o r0 tt1 bb1 rf1) (hr : r = r0 ||| 1) : AN A B tt bb rf k o r (m_th a b) tt1 bb1 rf1 := by
  subst hA hB
  exact ⟨rfl, fun _ => ⟨by rw [hr, hb.1], hb.2⟩, fun z => absurd h z⟩
theorem AN.no {A B a b : Int32} {tt bb : Nat → Int64} {rf : Int32} {k : Nat} {o : Option (Int64 × Int64)} {r : Int32} (hA : a = A) (hB : b = B) (h : m_fl a b = 0) (ho : o = none) (hr : r = -9) : AN A B tt bb rf k o r (m_th a b) tt bb (rf + 1) := by
  subst hA hB ho hr
  exact ⟨rfl, fun _ => ⟨by show (-9 : Int32) = -9 ||| 1; decide, rfl, rfl, rfl⟩, fun z => absurd h z⟩
/-- the ROW as longs -/
def m_rw (vs : Nat → Value) (k : Nat) : Int64 := match vs k with
  | .int x => x.toInt64
  | _ => 0
/-- what the ROW is FOLDED to -/
def m_FO (n : Nat) (vs : Nat → Value) (o : Option (Int64 × Int64)) : Prop := (n = 0 ∧ o = none) ∨ (n ≠ 0 ∧ (∃ i, 1 ≤ i ∧ i < n ∧ (m_rw vs i).toInt < 1) ∧ o = none) ∨ (n ≠ 0 ∧ (∀ i, 1 ≤ i → i < n → 1 ≤ (m_rw vs i).toInt) ∧ o = m_FD (m_rw vs) n)
theorem q_rw {vs : Nat → Value} {k : Nat} {x : Int32} (h : vs k = .int x) : m_rw vs k = x.toInt64 := by
  unfold m_rw
  rw [h]
/-- the depth, term by term -/
def m_sm : List Int64 → Int64 → Int64
  | [], a => a
  | x :: l, a => m_sm l (a + x)
def m_DP (t b : Int64) : Int32 := if m_abv t = 0 then -9 else (m_sm (m_TE t b) (-1)).toInt32
theorem m_smS {t b x d : Int64} {k : Nat} {q : Int64} (hk : k < (m_TE t b).length) (h : m_sm ((m_TE t b).drop k) d = q) (hx : x = d + m_at t b k) : m_sm ((m_TE t b).drop (k + 1)) x = q := by
  rw [← h, List.drop_eq_getElem_cons hk, hx]
  unfold m_at
  rw [List.getD_eq_getElem?_getD, List.getElem?_eq_getElem hk]
  rfl
theorem m_smE {t b d : Int64} {k : Nat} {q : Int64} (hk : (m_TE t b).length ≤ k) (h : m_sm ((m_TE t b).drop k) d = q) : d = q := by
  rw [← h, List.drop_eq_nil_of_le hk]
  rfl
/-- the house -/
def m_whL (bb : Nat → Int64) : Nat → Nat → Int32 → Int32
  | 0, _, a => a
  | n + 1, k, a => m_whL bb n (k + 1) (a + if bb k = 1 then 1 else 0)
def m_HS (bb : Nat → Int64) (rf kn : Int32) (n9 : Nat) (ca : Int32) (k : Nat) : Int32 := if k = 0 then m_whL bb 6 0 0 else if k = 1 then rf else if k = 2 then kn else if k = 3 then nI n9 else ca
theorem m_whS {bb : Nat → Int64} {n m k : Nat} {a x y q : Int32} (e : n = m + 1) (h : m_whL bb n k a = q) (hy : y = if bb k = 1 then 1 else 0) (hx : x = a + y) : m_whL bb m (k + 1) x = q := by
  subst e
  rw [← h, hx, hy]
  rfl
/-- the TALLY -/
def m_TLe (eT eB t b : Int64) : Int64 × Int64 := (m_loT (eT * b + (1 : Int32).toInt64 * (t * eB)) (eB * b), m_loB (eT * b + (1 : Int32).toInt64 * (t * eB)) (eB * b))
def m_TLc (t b : Int64) (pl md : Int32) : Int64 × Int64 := (m_loT (m_cut t b pl md) (m_pow pl), m_loB (m_cut t b pl md) (m_pow pl))
def m_df (p q : Int64 × Int64) : Int64 × Int64 := (m_loT (p.1 * q.2 + (-1 : Int32).toInt64 * (q.1 * p.2)) (p.2 * q.2), m_loB (p.1 * q.2 + (-1 : Int32).toInt64 * (q.1 * p.2)) (p.2 * q.2))
def m_TLo (oT oB t b : Int64) (pl md : Int32) : Int64 × Int64 := m_TLe oT oB (m_TLc t b pl md).1 (m_TLc t b pl md).2
/-- whether all the sums FIT -/
def m_TLf (E R : Int64 × Int64) : Prop := ¬ m_fit E.1 E.2 = 0 ∧ ¬ m_fit R.1 R.2 = 0 ∧ ¬ m_fit (m_df E R).1 (m_df E R).2 = 0
/-- the act: what is told and what stands then (EXACT, ROUNDED, places, how many, REFUSED) -/
def TL (a b : Int32) (eT eB oT oB : Int64) (pk : Nat) (ca rf : Int32) (t bt : Int64) (pl md : Int32) (r th : Int32) (eT1 eB1 oT1 oB1 : Int64) (pk1 : Nat) (ca1 rf1 : Int32) : Prop := th = m_th a b ∧
  (¬ m_fl a b = 0 → eT1 = eT ∧ eB1 = eB ∧ oT1 = oT ∧ oB1 = oB ∧ pk1 = pk ∧ ca1 = ca ∧ rf1 = rf) ∧
  (m_fl a b = 0 → (m_TLf (m_TLe eT eB t bt) (m_TLo oT oB t bt pl md) ∧ r = ca + 1 ∧ (eT1, eB1) = m_TLe eT eB t bt ∧ (oT1, oB1) = m_TLo oT oB t bt pl md ∧ f_max (nI pk) pl = nI pk1 ∧ ca1 = ca + 1 ∧ rf1 = rf) ∨
    (¬ m_TLf (m_TLe eT eB t bt) (m_TLo oT oB t bt pl md) ∧ r = -9 ∧ eT1 = eT ∧ eB1 = eB ∧ oT1 = oT ∧ oB1 = oB ∧ pk1 = pk ∧ ca1 = ca ∧ rf1 = rf + 1))
theorem TL.fail {A B a b : Int32} {eT eB oT oB : Int64} {pk : Nat} {ca rf : Int32} {t bt : Int64} {pl md r : Int32} (hA : a = A) (hB : b = B) (h : ¬ m_fl a b = 0) : TL A B eT eB oT oB pk ca rf t bt pl md r (m_th a b) eT eB oT oB pk ca rf := by
  subst hA hB
  exact ⟨rfl, fun _ => ⟨rfl, rfl, rfl, rfl, rfl, rfl, rfl⟩, fun z => absurd z h⟩
theorem TL.no {A B a b : Int32} {eT eB oT oB : Int64} {pk : Nat} {ca rf : Int32} {t bt : Int64} {pl md r : Int32} (hA : a = A) (hB : b = B) (h : m_fl a b = 0) (hn : ¬ m_TLf (m_TLe eT eB t bt) (m_TLo oT oB t bt pl md)) (hr : r = -9) : TL A B eT eB oT oB pk ca rf t bt pl md r (m_th a b) eT eB oT oB pk ca (rf + 1) := by
  subst hA hB
  exact ⟨rfl, fun z => absurd h z, fun _ => Or.inr ⟨hn, hr, rfl, rfl, rfl, rfl, rfl, rfl, rfl⟩⟩
theorem TL.ok {A B a b : Int32} {eT eB oT oB : Int64} {pk pk1 : Nat} {ca rf : Int32} {t bt : Int64} {pl md r : Int32} {eT1 eB1 oT1 oB1 : Int64} (hA : a = A) (hB : b = B) (h : m_fl a b = 0) (hn : m_TLf (m_TLe eT eB t bt) (m_TLo oT oB t bt pl md)) (hE : (eT1, eB1) = m_TLe eT eB t bt) (hR : (oT1, oB1) = m_TLo oT oB t bt pl md) (hp : f_max (nI pk) pl = nI pk1) (hr : r = ca + 1) : TL A B eT eB oT oB pk ca rf t bt pl md r (m_th a b) eT1 eB1 oT1 oB1 pk1 (ca + 1) rf := by
  subst hA hB
  exact ⟨rfl, fun z => absurd h z, fun _ => Or.inl ⟨hn, hr, hE, hR, hp, rfl, rfl⟩⟩
theorem AC7 {A B a b : Int32} (hA : a = A) (hB : b = B) (h : ¬ m_fl a b = 0) : ¬ m_fl A B = 0 := by
  subst hA hB
  exact h
