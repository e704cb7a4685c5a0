/-! ===== the reference's world: its object, its RATIOS, its ROW, its TALLY ===== -/
theorem w_oj : Cond.arrayOver (.array .long) ∈ tables_1 := List.mem_of_getElem? (i := 1169) (by decide +kernel)
theorem m_nmJ : (FieldType.array .long).toString = "[J" := by decide +kernel
section LR16
variable {p : Program} {l : Launch} {e : Env} {R : Room} {s : State} {m : MethodId} {args : Array Value} {below : List Frame} {meth : Method} {c : Code} {H : Heap} {locs : List Loc} {cells slots : Nat} {Q : State → Prop}
variable {cc : ByteArray} {pc nL : Nat} {ls : Array Slot} {rest : List Value} {Ts : List Cond} {own : String} {D : va_G} {tk : Nat → ClassId} {N0 : Nat} {sa : Nat → Nat} {A0 : Nat → Prop} {w0 : Cond}
/-- a reference out of the row of rows -/
theorem r_aaldJ (E : CallFix p m c cc nL s args Ts own) (hC : Ctx D tk N0 sa s) {a n : Nat} {f : Nat → Option Nat} (h : c1 D a (.inl (tk 3, n, .inr (.inr (.inr (.inr f))))) H) {i : Int32} (k : Nat) (hi : i = nI k) (hk : k < n) (hn : n < 2 ^ 31) {q : Nat} (hq : f k = some q) (hdg : decode cc pc = .ok (.aaload, 1))
    (kk : W p l e R s m args below meth c H locs cells slots Q (F0 m (pc + 1) ls (.ref q :: rest))) : W p l e R s m args below meth c H locs cells slots Q (F0 m pc ls (.int i :: .ref a :: rest)) := by
  have hin : vp_in i n := by rw [hi]; exact vp_in_nI hk hn
  have hk9 : i.toNatClampNeg = k := by rw [hi]; exact nI_clamp (by omega)
  have hlt : i.toNatClampNeg < n := by rw [hk9]; exact hk
  exact W.aald (v := .ref q) (ty := .array .long) E.1 E.2.1 h ((hC.1.2 3 (tk 3, .array .long) rfl).1 n (fun j => va_rf (f j))) rfl (fun q => by cases q) (by show ¬ (i < 0 ∨ (arrV _ _ _).slots.size ≤ _); rw [arrV_size]; exact hin) (by show (arrV (tk 3) n (fun j => va_rf (f j))).slots[_]? = _; rw [arrV_read _ _ hlt]; show some (va_rf (f i.toNatClampNeg)) = _; rw [hk9, hq]; rfl) rfl rfl hdg kk
/-- the classes of the rows -/
theorem Ctx.jj (hC : Ctx D tk N0 sa s) : ∃ (kA kJ : Class), s.vm.classes[tk 3]? = some kA ∧ kA.kind = .array (tk 0) (.array .long) ∧ s.vm.classes[tk 0]? = some kJ := by
  obtain ⟨comp, cA, kA, h1, -, h3, h4, h5⟩ := arrayOverA_spec (ao_vm (A := #[]) (A' := #[]) (U := s) rfl (hC.2.2.2.2.2.1 _ w_oj))
  have e3 : s.vm.findClass ("[" ++ (FieldType.array .long).toString) = some (tk 3) := (hC.1.2 3 (tk 3, .array .long) rfl).2
  have e0 : s.vm.findClass (FieldType.array .long).toString = some (tk 0) := (hC.1.2 0 (tk 0, .long) rfl).2
  cases e3.symm.trans h5
  cases e0.symm.trans h1
  obtain ⟨kJ, hkJ, -⟩ := Vm.findClass_spec h1
  exact ⟨kA, kJ, h3, h4, hkJ⟩
theorem r_aastJ (E : CallFix p m c cc nL s args Ts own) (hC : Ctx D tk N0 sa s) {a n v : Nat} {t b : Int64} {f : Nat → Option Nat} (h : c1 D a (.inl (tk 3, n, .inr (.inr (.inr (.inr f))))) H) (hv : L2 D tk v t b H) (hS : va_S A0 s.heap H locs) (hA : A0 a) {i : Int32} (k : Nat) (hi : i = nI k) (hk : k < n) (hn : n < 2 ^ 31) (hdg : decode cc pc = .ok (.aastore, 1))
    (kk : ∀ (H1 : Heap) (locs1 : List Loc), c1 D a (.inl (tk 3, n, .inr (.inr (.inr (.inr (va_up f k (some v))))))) H1 → (∀ q, q ≠ a → H1[q]? = H[q]?) → H1.size = H.size → va_S A0 s.heap H1 locs1 → W p l e R s m args below meth c H1 locs1 cells slots Q (F0 m (pc + 1) ls rest)) : W p l e R s m args below meth c H locs cells slots Q (F0 m pc ls (.ref v :: .int i :: .ref a :: rest)) := by
  have hin : vp_in i n := by rw [hi]; exact vp_in_nI hk hn
  have hk9 : i.toNatClampNeg = k := by rw [hi]; exact nI_clamp (by omega)
  subst hk9
  have hlt : i.toNatClampNeg < n := hk
  have h0 : ¬ i < 0 := fun q => hin (Or.inl q)
  obtain ⟨kA, kJ, k1, k2, k3⟩ := hC.jj
  have hvc : H[v]? = some (vp_cell (tk 0) (2, .inr (.inl (pr2 t b)))) := hv
  have hac : H[a]? = some (vp_cell (tk 3) (n, .inr (.inr (.inr (.inr f))))) := h
  refine W.aast E.1 E.2.1 hac (fun q h => by cases h) (fun h => by cases h) k1 k2 rfl k3 ⟨h0, by show _ < (arrV _ _ _).slots.size; rw [arrV_size]; exact hlt⟩ hvc (fun q h => by cases h) k3 (va_asg _ _) rfl rfl hdg fun H1 e z oq => ?_
  refine kk H1 _ ?_ oq z (hS.put z oq hA)
  show H1[a]? = some (vp_cell _ _)
  rw [e]
  rw [vp_cell_q, vp_cell_q, arrV_store]
  congr 2
  funext q
  by_cases hq : q = i.toNatClampNeg
  · subst hq
    simp [updV, va_up, va_rf]
  · simp [updV, va_up, hq]
theorem r_anewJ (E : CallFix p m c cc nL s args (w0 :: GW) own) (hC : Ctx D tk N0 sa s) (hS : va_S A0 s.heap H locs) {index : Nat} (w1 : Cond.classLink own index "[J" ∈ GW) {n : Int32} {N : Nat} (hn : ¬ n < 0) (hN : n.toNatClampNeg = N) (hbytes : N * 4 ≤ 536870912) (hcells : cells + 1 ≤ R.cells) (hslots : slots + N ≤ R.slots) (hdg : decode cc pc = .ok (.anewarray index, 3))
    (kk : ∀ (q : Nat) (H1 : Heap), q = H.size → c1 D q (.inl (tk 3, N, .inr (.inr (.inr (.inr (fun _ => none)))))) H1 → (∀ x : Nat, x < H.size → H1[x]? = H[x]?) → va_S A0 s.heap H1 locs → W p l e R s m args below meth c H1 locs (cells + 1) (slots + N) Q (F0 m (pc + 3) ls (.ref q :: rest))) : W p l e R s m args below meth c H locs cells slots Q (F0 m pc ls (.int n :: rest)) := by
  subst hN
  have hcl : (Cond.classLink own index (FieldType.array .long).toString).before args s = true := by rw [m_nmJ]; exact E.2.2.2.2 _ (List.mem_cons_of_mem _ w1)
  refine W.anewA (t := .long) E.1 E.2.1 E.2.2.2.1 hcl (ao_vm (A := #[]) (A' := args) (U := s) rfl (hC.2.2.2.2.2.1 _ w_oj)) rfl hdg rfl hn hbytes hcells hslots fun cA kA comp f1 f2 f3 f4 => ?_
  have h2 : s.vm.findClass ("[" ++ (FieldType.array .long).toString) = some (tk 3) := (hC.1.2 3 (tk 3, .array .long) rfl).2
  have hcA : cA = tk 3 := Option.some.inj (f1.symm.trans h2)
  subst hcA
  generalize hH1 : H.push ({ cls := tk 3, slots := Array.replicate n.toNatClampNeg .null, vm := .none } : Cell) = H1
  have z1 : H1.size = H.size + 1 := by rw [← hH1, Array.size_push]
  have e1 : H1[H.size]? = some (arrV (tk 3) n.toNatClampNeg (fun _ => .null)) := by rw [← hH1, Array.getElem?_push_size, ← arrV_new]
  have o1 : ∀ q : Nat, q < H.size → H1[q]? = H[q]? := fun q hq => by rw [← hH1, Array.getElem?_push, if_neg (Nat.ne_of_lt hq)]
  refine kk H.size H1 rfl ?_ o1 ⟨Nat.le_trans hS.1 (by omega), fun x h1 h2 => (o1 x (Nat.lt_of_lt_of_le h1 hS.1)).trans (hS.2.1 x h1 h2), hS.2.2⟩
  show H1[H.size]? = some (vp_cell _ _)
  rw [vp_cell_q]
  exact e1
end LR16
/-- its six RATIOS -/
def MK (D : va_G) (tk : Nat → ClassId) (rt : Nat → Nat) (tt bb : Nat → Int64) (H : Heap) : Prop := ∀ k, k < 6 → L2 D tk (rt k) (tt k) (bb k) H
theorem MK.kept {D : va_G} {tk : Nat → ClassId} {rt : Nat → Nat} {tt bb : Nat → Int64} {H H1 : Heap} (h : MK D tk rt tt bb H) (ho : ∀ k, k < 6 → H1[rt k]? = H[rt k]?) : MK D tk rt tt bb H1 := fun k hk => (h k hk).kept (ho k hk)
theorem MK.new {D : va_G} {tk : Nat → ClassId} {rt : Nat → Nat} {tt bb : Nat → Int64} {H H1 : Heap} (h : MK D tk rt tt bb H) (hk : ∀ q : Nat, q < H.size → ¬ nwA H.size q → H1[q]? = H[q]?) : MK D tk rt tt bb H1 := fun k hk9 => (h k hk9).new hk
theorem MK.upd {D : va_G} {tk : Nat → ClassId} {rt : Nat → Nat} {tt bb : Nat → Int64} {H : Heap} (h : MK D tk rt tt bb H) {q : Nat} {t b : Int64} (hL : L2 D tk q t b H) (i : Nat) : MK D tk (va_up rt i q) (va_up tt i t) (va_up bb i b) H := by
  intro k hk
  by_cases e : k = i
  · rw [e, va_up_self, va_up_self, va_up_self]
    exact hL
  · rw [va_up_ne _ _ e, va_up_ne _ _ e, va_up_ne _ _ e]
    exact h k hk
theorem c1.upJ {D : va_G} {tk : Nat → ClassId} {a n i q : Nat} {rt : Nat → Nat} {H : Heap} (h : c1 D a (.inl (tk 3, n, .inr (.inr (.inr (.inr (va_up (fun k => some (rt k)) i (some q))))))) H) : c1 D a (.inl (tk 3, n, .inr (.inr (.inr (.inr (fun k => some (va_up rt i q k))))))) H := by
  have e : va_up (fun k => some (rt k)) i (some q) = fun k => some (va_up rt i q k) := by
    funext k
    by_cases e : k = i
    · rw [e, va_up_self, va_up_self]
    · rw [va_up_ne _ _ e, va_up_ne _ _ e]
  rw [e] at h
  exact h
theorem m_upP {P : Nat → Prop} {rt : Nat → Nat} (h : ∀ k, k < 6 → P (rt k)) {q : Nat} (hq : P q) (i : Nat) : ∀ k, k < 6 → P (va_up rt i q k) := by
  intro k hk
  by_cases e : k = i
  · rw [e, va_up_self]; exact hq
  · rw [va_up_ne _ _ e]; exact h k hk
theorem m_upF {tt bb : Nat → Int64} (h : ∀ k, k < 6 → m_F (tt k) (bb k)) {t b : Int64} (hq : m_F t b) (i : Nat) : ∀ k, k < 6 → m_F (va_up tt i t k) (va_up bb i b k) := by
  intro k hk
  by_cases e : k = i
  · rw [e, va_up_self, va_up_self]; exact hq
  · rw [va_up_ne _ _ e, va_up_ne _ _ e]; exact h k hk
/-- its ROW -/
def PI (n : Nat) (w : Nat → Value) : Prop := ∀ i, i < n → ∃ x : Int32, w i = .int x ∧ x.toInt.natAbs ≤ 99999
def RW (D : va_G) (tk : Nat → ClassId) (sa : Nat → Nat) (P : Nat → Prop) (rl n : Nat) (vs : Nat → Value) (H : Heap) : Prop := (n = 0 ∧ ∃ md : Int32, c1 D rl (.inr (7, [.int md, .ref (sa 1), .int 0])) H) ∨ ∃ (md : Int32) (b cap : Nat) (f : Nat → Option Nat), P b ∧ c1 D rl (.inr (7, [.int md, .ref b, .int (nI n)])) H ∧ c1 D b (.inl (tk 4, cap, .inr (.inr (.inr (.inr f))))) H ∧ EL D 2 n f vs H ∧ PI n vs ∧ n ≤ cap ∧ m_cap cap
theorem RW.kept {D : va_G} {tk : Nat → ClassId} {sa : Nat → Nat} {P : Nat → Prop} {rl n : Nat} {vs : Nat → Value} {H H1 : Heap} {S : Nat → Prop} (h : RW D tk sa P rl n vs H) (hq : ∀ q : Nat, q < H.size → ¬ S q → H1[q]? = H[q]?) (n7 : ∀ q, clA q (D.1 7) H → q < H.size → (P q ∨ q = rl) → ¬ S q) (n4 : ∀ q, clA q (tk 4) H → q < H.size → P q → ¬ S q) (n2 : ∀ q, clA q (D.1 2) H → q < H.size → ¬ S q) : RW D tk sa P rl n vs H1 := by
  rcases h with ⟨h0, md, h1⟩ | ⟨md, b, cap, f, hb, h1, h2, h3, h4⟩
  · exact Or.inl ⟨h0, md, h1.kept (hq _ h1.lt (n7 _ h1.cl h1.lt (Or.inr rfl)))⟩
  · exact Or.inr ⟨md, b, cap, f, hb, h1.kept (hq _ h1.lt (n7 _ h1.cl h1.lt (Or.inr rfl))), h2.kept (hq _ h2.lt (n4 _ h2.cla h2.lt hb)), h3.kept hq n2, h4⟩
theorem RW.new {D : va_G} {tk : Nat → ClassId} {sa : Nat → Nat} {P : Nat → Prop} {rl n : Nat} {vs : Nat → Value} {H H1 : Heap} (h : RW D tk sa P rl n vs H) (hk : ∀ q : Nat, q < H.size → ¬ nwA H.size q → H1[q]? = H[q]?) : RW D tk sa P rl n vs H1 := h.kept hk (fun _ _ hl _ => Nat.not_le.mpr hl) (fun _ _ hl _ => Nat.not_le.mpr hl) (fun _ _ hl => Nat.not_le.mpr hl)
theorem RW.old {D : va_G} {tk : Nat → ClassId} {sa : Nat → Nat} {P : Nat → Prop} {rl n : Nat} {vs : Nat → Value} {H H1 : Heap} (h : RW D tk sa P rl n vs H) (hk : ∀ q : Nat, q < H.size → H1[q]? = H[q]?) : RW D tk sa P rl n vs H1 := h.kept (S := fun _ => False) (fun q hl _ => hk q hl) (fun _ _ _ _ => id) (fun _ _ _ _ => id) (fun _ _ _ => id)
theorem RW.put {D : va_G} {tk : Nat → ClassId} {sa : Nat → Nat} {P : Nat → Prop} {rl n w : Nat} {vs : Nat → Value} {H H1 : Heap} (h : RW D tk sa P rl n vs H) (ho : ∀ q : Nat, q ≠ w → H1[q]? = H[q]?) (n7 : ∀ q, clA q (D.1 7) H → q ≠ w) (n4 : ∀ q, clA q (tk 4) H → q ≠ w) (n2 : ∀ q, clA q (D.1 2) H → q ≠ w) : RW D tk sa P rl n vs H1 := h.kept (S := fun q => q = w) (fun q _ hn => ho q hn) (fun q hc _ _ => n7 q hc) (fun q hc _ _ => n4 q hc) (fun q hc _ => n2 q hc)
theorem RW.keep1 {D : va_G} {tk : Nat → ClassId} {sa : Nat → Nat} {P : Nat → Prop} {rl n w : Nat} {vs : Nat → Value} {H H1 : Heap} (h : RW D tk sa P rl n vs H) (hk : ∀ q : Nat, q < H.size → ¬ inA1 w H.size q → H1[q]? = H[q]?) (n7 : ∀ q, clA q (D.1 7) H → q ≠ w) (n4 : ∀ q, clA q (tk 4) H → q ≠ w) (n2 : ∀ q, clA q (D.1 2) H → q ≠ w) : RW D tk sa P rl n vs H1 := h.kept hk (fun q hc hl _ => inA1.not (n7 q hc) hl) (fun q hc hl _ => inA1.not (n4 q hc) hl) (fun q hc hl => inA1.not (n2 q hc) hl)
def MP (P : Nat → Prop) (mo ra rl ex ro : Nat) (rt : Nat → Nat) : Prop := P mo ∧ P ra ∧ P rl ∧ P ex ∧ P ro ∧ ∀ k, k < 6 → P (rt k)
/-- the bottom of what was rounded divides 10000 -/
def m_D4 (b : Int64) : Prop := b.toInt.natAbs ∣ 10000
def MF (tt bb : Nat → Int64) (eT eB oT oB : Int64) (pk n9 : Nat) : Prop := (∀ k, k < 6 → m_F (tt k) (bb k)) ∧ m_F eT eB ∧ (m_F oT oB ∧ m_D4 oB) ∧ pk ≤ 4 ∧ n9 ≤ 16
def MI (D : va_G) (tk : Nat → ClassId) (sa : Nat → Nat) (P : Nat → Prop) (mo : Nat) (tt bb : Nat → Int64) (eT eB oT oB : Int64) (pk : Nat) (ca rf : Int32) (vs : Nat → Value) (kn : Int32) (n9 : Nat) (th : Int32) (H : Heap) : Prop := ∃ (ra rl ex ro : Nat) (rt : Nat → Nat),
  c1 D mo (.inr (13, [.ref ra, .ref rl, .ref ex, .ref ro, .int (nI pk), .int ca, .int rf, .int kn, .int th])) H ∧ c1 D ra (.inl (tk 3, 6, .inr (.inr (.inr (.inr (fun k => some (rt k))))))) H ∧ MK D tk rt tt bb H ∧ L2 D tk ex eT eB H ∧ L2 D tk ro oT oB H ∧ RW D tk sa P rl n9 vs H ∧ MP P mo ra rl ex ro rt ∧ MF tt bb eT eB oT oB pk n9
/-! what it asks of its arguments -/
theorem m_inS {x a b : Int32} (h : ¬ m_isIn x a b = 0) : a.toInt ≤ x.toInt ∧ x.toInt ≤ b.toInt := by
  unfold m_isIn at h
  split at h
  · exact absurd rfl h
  · split at h
    · exact absurd rfl h
    · rename_i h2 h3
      exact ⟨Int32.le_iff_toInt_le.mp (Int32.not_lt.mp h2), Int32.le_iff_toInt_le.mp (Int32.not_lt.mp h3)⟩
theorem m_no {x : Int32} (h : m_isNo x = 0) : ∃ k : Nat, x = nI k ∧ k < 6 := by
  unfold m_isNo at h
  by_cases h1 : m_isIn x 0 5 = 0
  · rw [if_pos h1] at h
    exact absurd h (by decide)
  · obtain ⟨g2, g3⟩ := m_inS h1
    have e0 : (0 : Int32).toInt = 0 := rfl
    have e5 : (5 : Int32).toInt = 5 := rfl
    rw [e0] at g2
    rw [e5] at g3
    refine ⟨x.toInt.toNat, Int32.toInt_inj.mp ?_, by omega⟩
    rw [nI_toInt (by omega)]
    omega
theorem m_ano {a b : Int32} (h : m_areNo a b = 0) : m_isNo a = 0 ∧ m_isNo b = 0 := by
  unfold m_areNo at h
  split at h
  · rename_i h1
    split at h
    · rename_i h2
      exact ⟨h1, h2⟩
    · exact absurd h (by decide)
  · exact absurd h (by decide)
theorem m_in {x : Int32} {hi_ : Nat} (hh : hi_ ≤ 1000) (h : ¬ m_isIn x 0 (nI hi_) = 0) : ∃ k : Nat, x = nI k ∧ k ≤ hi_ := by
  unfold m_isIn at h
  split at h
  · exact absurd rfl h
  · split at h
    · exact absurd rfl h
    · rename_i h2 h3
      have g2 := Int32.le_iff_toInt_le.mp (Int32.not_lt.mp h2)
      have g3 := Int32.le_iff_toInt_le.mp (Int32.not_lt.mp h3)
      have e0 : (0 : Int32).toInt = 0 := rfl
      rw [e0] at g2
      rw [nI_toInt (by omega)] at g3
      refine ⟨x.toInt.toNat, Int32.toInt_inj.mp ?_, by omega⟩
      rw [nI_toInt (by omega)]
      omega
theorem m_in1 {x : Int32} {hi_ : Nat} (hh : hi_ ≤ 1000) (h : ¬ m_isIn x 1 (nI hi_) = 0) : ∃ k : Nat, x = nI k ∧ 1 ≤ k ∧ k ≤ hi_ := by
  unfold m_isIn at h
  split at h
  · exact absurd rfl h
  · split at h
    · exact absurd rfl h
    · rename_i h2 h3
      have g2 := Int32.le_iff_toInt_le.mp (Int32.not_lt.mp h2)
      have g3 := Int32.le_iff_toInt_le.mp (Int32.not_lt.mp h3)
      have e0 : (1 : Int32).toInt = 1 := rfl
      rw [e0] at g2
      rw [nI_toInt (by omega)] at g3
      refine ⟨x.toInt.toNat, Int32.toInt_inj.mp ?_, by omega, by omega⟩
      rw [nI_toInt (by omega)]
      omega
theorem m_noN {x : Int32} (h : m_isNo x = 0) : x = nI (nn x) ∧ nn x < 6 := by
  obtain ⟨k, e, hk⟩ := m_no h
  have e2 : nn x = k := by
    rw [e]
    exact nI_clamp (by omega)
  rw [e2]
  exact ⟨e, hk⟩
def m_fl (a b : Int32) : Int32 := if a = 0 then (if b = 0 then 0 else 1) else 1
def m_th (a b : Int32) : Int32 := if a = 0 then (if b = 0 then 0 else 2) else 1
theorem m_fl0 {a b : Int32} (h : m_fl a b = 0) : a = 0 ∧ b = 0 := by
  unfold m_fl at h
  split at h
  · rename_i h1
    split at h
    · rename_i h2
      exact ⟨h1, h2⟩
    · exact absurd h (by decide)
  · exact absurd h (by decide)
theorem m_fl1 (a : Int32) : m_fl a 1 = 1 := by
  unfold m_fl
  split <;> rfl
