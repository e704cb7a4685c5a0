/-! ===== the reference: its numbers ===== -/
def m_isIn (v lo hi_ : Int32) : Int32 := if v < lo then 0 else if hi_ < v then 0 else 1
def m_bit (b : Int32) : Int32 := if b = 0 then 0 else 1
def m_isNo (v : Int32) : Int32 := if m_isIn v 0 5 = 0 then 1 else 0
def m_areNo (a b : Int32) : Int32 := if m_isNo a = 0 then (if m_isNo b = 0 then 0 else 1) else 1
def m_powL : Nat → Int64 → Int64
  | 0, u => u
  | n + 1, u => m_powL n (u * 10)
def m_pow (x : Int32) : Int64 := m_powL x.toNatClampNeg 1
def m_floor (a b : Int64) : Int64 := if a - a / b * b = 0 then a / b else if 0 ≤ a - a / b * b then (if 0 ≤ b then a / b else a / b - 1) else (if 0 ≤ b then a / b - 1 else a / b)
def m_div (a b : Int64) : Int64 := gcdL ((f_absJ b).toInt.natAbs + 1) (f_absJ a) (f_absJ b)
theorem m_rem {u v : Int64} (hv : ¬ v = 0) : (u - u / v * v).toInt = u.toInt.tmod v.toInt := by
  have hv0 : v.toInt ≠ 0 := fun z => hv (Int64.toInt_inj.mp (by rw [z]; rfl))
  have h1 : (u.toInt.tmod v.toInt).natAbs < v.toInt.natAbs := by
    rw [Int.natAbs_tmod]
    exact Nat.mod_lt _ (by omega)
  have h2 := v.le_toInt
  have h3 := v.toInt_lt
  have hd : u.toInt - u.toInt.tdiv v.toInt * v.toInt = u.toInt.tmod v.toInt := by
    have := Int.mul_tdiv_add_tmod u.toInt v.toInt
    rw [Int.mul_comm] at this
    omega
  have e : (u - u / v * v).toInt = (u.toInt - u.toInt.tdiv v.toInt * v.toInt).bmod (2 ^ 64) := by
    rw [Int64.toInt_sub, Int64.toInt_mul, Int64.toInt_div]
    simp
  rw [e, hd]
  simp only [Int.bmod]
  split <;> omega
theorem m_rem_lt {u v : Int64} (hv : ¬ v = 0) : (u - u / v * v).toInt.natAbs < v.toInt.natAbs := by
  have hv0 : v.toInt ≠ 0 := fun z => hv (Int64.toInt_inj.mp (by rw [z]; rfl))
  rw [m_rem hv, Int.natAbs_tmod]
  exact Nat.mod_lt _ (by omega)
/-! ===== its ratios: two numbers, never written again ===== -/
def pr2 (t b : Int64) : Nat → Int64 := vp_updL (vp_updL (fun _ => 0) 0 t) 1 b
abbrev L2 (D : va_G) (tk : Nat → ClassId) (a : Nat) (t b : Int64) (H : Heap) : Prop := c1 D a (.inl (tk 0, 2, .inr (.inl (pr2 t b)))) H
theorem L2.to {D : va_G} {tk : Nat → ClassId} {a : Nat} {t b t1 b1 : Int64} {H : Heap} (h : L2 D tk a t b H) (e1 : t = t1) (e2 : b = b1) : L2 D tk a t1 b1 H := by
  subst e1 e2; exact h
def nv : Option Nat → Value
  | none => .null
  | some a => .ref a
def kQo (Rr : Option Nat → Heap → Prop) (A : Nat → Prop) : Array Value → State → Outcome → State → Prop := fun _ st oc t => (∃ v : Option Nat, oc = .returned (some (nv v)) ∧ Rr v t.heap) ∧ va_F A st t
section LR12
variable {p : Program} {l : Launch} {e : Env} {R : Room} {s : State} {m : MethodId} {args : Array Value} {below : List Frame} {meth : Method} {c : Code} {H : Heap} {locs : List Loc} {cells slots : Nat} {Q : State → Prop}
variable {cc : ByteArray} {pc nL : Nat} {ls : Array Slot} {rest st0 : List Value} {Ts : List Cond} {own : String} {D : va_G} {tk : Nat → ClassId} {N0 : Nat} {sa : Nat → Nat} {A0 A1 : Nat → Prop} {mc ms : Nat} {a : Array Value}
theorem r_l0 (E : CallFix p m c cc nL s args Ts own) (hC : Ctx D tk N0 sa s) {q : Nat} {t b : Int64} (h : L2 D tk q t b H) (hdg : decode cc pc = .ok (.laload, 1))
    (kk : W p l e R s m args below meth c H locs cells slots Q (F0 m (pc + 1) ls (.long t :: rest))) : W p l e R s m args below meth c H locs cells slots Q (F0 m pc ls (.int 0 :: .ref q :: rest)) :=
  r_lald E hC h (by unfold vp_in; decide) hdg kk
theorem r_l1 (E : CallFix p m c cc nL s args Ts own) (hC : Ctx D tk N0 sa s) {q : Nat} {t b : Int64} (h : L2 D tk q t b H) (hdg : decode cc pc = .ok (.laload, 1))
    (kk : W p l e R s m args below meth c H locs cells slots Q (F0 m (pc + 1) ls (.long b :: rest))) : W p l e R s m args below meth c H locs cells slots Q (F0 m pc ls (.int 1 :: .ref q :: rest)) :=
  r_lald E hC h (by unfold vp_in; decide) hdg kk
theorem r_oret (E : CallFix p m c cc nL s args Ts own) {rt : FieldType} (hr : meth.sig.returnType = some rt) (hrt : (∃ n, rt = .object n) ∨ ∃ t, rt = .array t) (hlk : meth.locks = false) (hS : va_S A0 s.heap H locs) {mc ms : Nat} (hc : cells ≤ mc) (hs : slots ≤ ms) (v : Option Nat) {Rr : Option Nat → Heap → Prop} (hR : Rr v H) (hdg : decode cc pc = .ok (.areturn, 1)) : W p l e R s m args below meth c H locs cells slots (MQ below (kQo Rr A0) args s mc ms A0) (F0 m pc ls [nv v]) :=
  W.widen hc hs (W.aret E.1 E.2.1 hr hrt (by cases v with | none => exact Or.inl rfl | some q => exact Or.inr ⟨q, rfl⟩) (fun t ht _ => ⟨⟨v, rfl, by rw [ht]; exact hR⟩, hS.F ht⟩) hS.2.2 hdg hlk)
theorem k_o {Rr : Option Nat → Heap → Prop} (hr : va_Run p l e R s m args below meth c H locs cells slots mc ms (F0 m pc ls st0) rest (kQo Rr A1 a) A1) (hS : va_S A0 s.heap H locs) (hAA : ∀ q, q < H.size → A1 q → A0 q) (hnew : ∀ q, s.heap.size ≤ q → A0 q)
    (kk : ∀ (r : Option Nat) (H1 : Heap) (locs1 : List Loc), Rr r H1 → H.size ≤ H1.size → (∀ q : Nat, q < H.size → ¬ A1 q → H1[q]? = H[q]?) → va_S A0 s.heap H1 locs1 → W p l e R s m args below meth c H1 locs1 (cells + mc) (slots + ms) Q (F0 m (pc + 3) ls (nv r :: rest))) : W p l e R s m args below meth c H locs cells slots Q (F0 m pc ls st0) := by
  have hf : ∀ q, A1 q → A0 q := fun q h => by
    rcases Nat.lt_or_ge q H.size with z | z
    · exact hAA q z h
    · exact hnew q (Nat.le_trans hS.1 z)
  intro T hT X
  obtain ⟨v, st₀, t, T', L, h0, X', hL, e1, e2, ⟨⟨u, hv, hp⟩, hz, hk⟩, st⟩ := hr T hT X
  cases hv
  rw [h0] at hz hk
  obtain ⟨t2, a1, b1⟩ := kk u T'.heap (locs ++ L) (by rw [e1]; exact hp) (by rw [e1]; exact hz) (fun q h1 h2 => by rw [e1]; exact hk q h1 h2)
    ⟨Nat.le_trans hS.1 (by rw [e1]; exact hz), fun q h1 h2 => by rw [e1, hk q (Nat.lt_of_lt_of_le h1 hS.1) (fun z => h2 (hAA q (Nat.lt_of_lt_of_le h1 hS.1) z))]; exact hS.2.1 q h1 h2, fun q hq => by
      rcases List.mem_append.mp hq with h | h
      · exact hS.2.2 q h
      · exact hf _ (hL q h)⟩ T' rfl X'
  exact ⟨t2, st t2 a1, b1⟩
end LR12
/-- lowest terms -/
def m_sg (b : Int64) : Int64 := if 0 ≤ b then 1 else -1
def m_loT (t b : Int64) : Int64 := m_sg b * (t / m_div t b)
def m_loB (t b : Int64) : Int64 := m_sg b * (b / m_div t b)
def m_fit (t b : Int64) : Int32 := if t < -1000000000 then 0 else if 1000000000 < t then 0 else if 1000000000 < b then 0 else 1
def m_ord (t b t2 b2 : Int64) : Int32 := if t * b2 < t2 * b then -1 else if t2 * b < t * b2 then 1 else 0
def m_cut3 (t b low left : Int64) (md : Int32) : Int64 := if left = 0 then low else if md = 1 then low else if md = 2 then low + 1 else if md = 0 then (if 0 ≤ t then low else low + 1) else if 2 * left = b then (if md = 3 then (if 0 ≤ t then low + 1 else low) else if low - low / 2 * 2 = 0 then low else low + 1) else if b ≤ 2 * left then low + 1 else low
def m_cut (t b : Int64) (pl md : Int32) : Int64 := m_cut3 t b (m_floor (t * m_pow pl) b) (t * m_pow pl - m_floor (t * m_pow pl) b * b) md
def m_one (t b : Int64) : Int32 := if t = 1 then (if b = 1 then 1 else 0) else 0
def m_abv (t : Int64) : Int32 := if t ≤ 0 then 0 else 1
