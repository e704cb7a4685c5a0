/-! ===== boxes, arrays of Objects, ArrayList, its iterator ===== -/
theorem Ctx.lca {D : va_G} {tk : Nat → ClassId} {N0 : Nat} {sa : Nat → Nat} {U : State} (h : Ctx D tk N0 sa U) : ZT N0 "java/lang/Long$LongCache" "cache" "[Ljava/lang/Long;" (.object "java/lang/Long") (sa 4) 256 (fun j => .ref (sa (1000 + j))) U U.heap := h.2.2.2.2.2.2.2.2.2.2.1
theorem Ctx.ica {D : va_G} {tk : Nat → ClassId} {N0 : Nat} {sa : Nat → Nat} {U : State} (h : Ctx D tk N0 sa U) : ZT N0 "java/lang/Integer$IntegerCache" "cache" "[Ljava/lang/Integer;" (.object "java/lang/Integer") (sa 5) 256 (fun j => .ref (sa (2000 + j))) U U.heap := h.2.2.2.2.2.2.2.2.2.2.2.2.1
theorem Ctx.ihi {D : va_G} {tk : Nat → ClassId} {N0 : Nat} {sa : Nat → Nat} {U : State} (h : Ctx D tk N0 sa U) : va_Z "java/lang/Integer$IntegerCache" "high" "I" (.int 127) (NA N0) U U.heap := h.2.2.2.2.2.2.2.2.2.2.2.2.2.2.1
theorem box_of {D : va_G} {tk : Nat → ClassId} {N0 : Nat} {sa : Nat → Nat} {s : State} {A0 : Nat → Prop} {H : Heap} {locs : List Loc} (hC : Ctx D tk N0 sa s) (hS : va_S A0 s.heap H locs) (hA : ∀ q, A0 q → N0 ≤ q) {ci : Nat} {r : vw_C} (hc : vwCl[ci]? = some r) (h1 : (r.2.1 0).1 = r.1) {d : String} (h2 : (r.2.1 0).2.1 = "value" ∧ (r.2.1 0).2.2.1 = d) (hN : 0 < r.2.2) {v : Nat → Value} {ad : Nat → Nat} (hb : bxC N0 r.1 d v ad s s.heap) {j : Nat} (hj : j < 256) : xf D ci (ad j) 0 (v j) H := by
  have keep : ∀ a : Nat, a < s.heap.size → ¬ NA N0 a → H[a]? = s.heap[a]? := fun a h1 h2 => hS.2.1 a h1 (fun z => h2 (hA a z))
  obtain ⟨c0, o1, o2, o3, -⟩ := (hb.1 j hj).kept keep
  obtain ⟨cf, kf, i, f, cell, p1, p2, p3, p4, p5, -⟩ := (hb.2 j hj).kept keep
  obtain ⟨hSl, hfc, -⟩ := hC.1.1 ci r hc
  obtain ⟨cf', kf', fi', f', hi', hs'⟩ := hSl 0 hN
  rw [h1, h2.1, h2.2] at hi'
  cases p1.symm.trans hi'
  cases o1.symm.trans p3
  refine ⟨c0, o1, (Option.some.inj (hfc.symm.trans o3)).symm, o2, p4, ?_⟩
  rw [← hs']; exact p5
theorem Ctx.boxJ {D : va_G} {tk : Nat → ClassId} {N0 : Nat} {sa : Nat → Nat} {s : State} {A0 : Nat → Prop} {H : Heap} {locs : List Loc} (hC : Ctx D tk N0 sa s) (hS : va_S A0 s.heap H locs) (hA : ∀ q, A0 q → N0 ≤ q) {j : Nat} (hj : j < 256) : xf D 3 (sa (1000 + j)) 0 (.long (Int64.ofNat j - 128)) H :=
  box_of hC hS hA (ci := 3) (r := (RJ13, TJ13, 1)) rfl rfl ⟨rfl, rfl⟩ (by decide) (v := fun j => .long (Int64.ofNat j - 128)) (ad := fun j => sa (1000 + j)) hC.2.2.2.2.2.2.2.2.2.2.2.1 hj
theorem Ctx.boxI {D : va_G} {tk : Nat → ClassId} {N0 : Nat} {sa : Nat → Nat} {s : State} {A0 : Nat → Prop} {H : Heap} {locs : List Loc} (hC : Ctx D tk N0 sa s) (hS : va_S A0 s.heap H locs) (hA : ∀ q, A0 q → N0 ≤ q) {j : Nat} (hj : j < 256) : xf D 2 (sa (2000 + j)) 0 (.int (Int32.ofNat j - 128)) H :=
  box_of hC hS hA (ci := 2) (r := (RJ6, TJ6, 1)) rfl rfl ⟨rfl, rfl⟩ (by decide) (v := fun j => .int (Int32.ofNat j - 128)) (ad := fun j => sa (2000 + j)) hC.2.2.2.2.2.2.2.2.2.2.2.2.2.1 hj
theorem bxj {x : Int64} (h1 : ¬ x < (-128)) (h2 : ¬ 127 < x) : ∃ j : Nat, j < 256 ∧ x.toInt32 + 128 = nI j ∧ x = Int64.ofNat j - 128 := by
  have a1 : -128 ≤ x.toInt := by have := Int64.le_iff_toInt_le.mp (Int64.not_lt.mp h1); simpa using this
  have a2 : x.toInt ≤ 127 := by have := Int64.le_iff_toInt_le.mp (Int64.not_lt.mp h2); simpa using this
  refine ⟨(x.toInt + 128).toNat, by omega, ?_, ?_⟩
  · apply Int32.toInt_inj.mp
    rw [nI_toIntS (by omega), Int32.toInt_add, Int64.toInt_toInt32]
    show (x.toInt.bmod (2 ^ 32) + 128).bmod (2 ^ 32) = _
    simp only [Int.bmod]
    split <;> split <;> omega
  · apply Int64.toInt_inj.mp
    rw [Int64.toInt_sub, Int64.toInt_ofNat_of_lt (by omega)]
    show _ = (((x.toInt + 128).toNat : Int) - 128).bmod (2 ^ 64)
    simp only [Int.bmod]
    split <;> omega
/-- the elements of a row: all there, with their values -/
def EL (D : va_G) (ce n : Nat) (f : Nat → Option Nat) (vs : Nat → Value) (H : Heap) : Prop := ∀ i, i < n → ∃ q, f i = some q ∧ xf D ce q 0 (vs i) H
theorem EL.kept {D : va_G} {ce n : Nat} {f : Nat → Option Nat} {vs : Nat → Value} {P : Nat → Prop} {H H1 : Heap} (h : EL D ce n f vs H) (hq : ∀ q : Nat, q < H.size → ¬ P q → H1[q]? = H[q]?) (hp : ∀ q, clA q (D.1 ce) H → q < H.size → ¬ P q) : EL D ce n f vs H1 := fun i hi => by
  obtain ⟨q, h1, h2⟩ := h i hi
  exact ⟨q, h1, h2.kept (hq q h2.lt (hp q h2.cl h2.lt))⟩
theorem EL.new {D : va_G} {ce n : Nat} {f : Nat → Option Nat} {vs : Nat → Value} {H H1 : Heap} (h : EL D ce n f vs H) (hk : ∀ q : Nat, q < H.size → ¬ nwA H.size q → H1[q]? = H[q]?) : EL D ce n f vs H1 := h.kept hk (fun _ _ hl => Nat.not_le.mpr hl)
theorem EL.old {D : va_G} {ce n : Nat} {f : Nat → Option Nat} {vs : Nat → Value} {H H1 : Heap} (h : EL D ce n f vs H) (hk : ∀ q : Nat, q < H.size → H1[q]? = H[q]?) : EL D ce n f vs H1 := h.kept (P := fun _ => False) (fun q hl _ => hk q hl) (fun _ _ _ => id)
theorem EL.put {D : va_G} {ce n w : Nat} {f : Nat → Option Nat} {vs : Nat → Value} {H H1 : Heap} (h : EL D ce n f vs H) (ho : ∀ q : Nat, q ≠ w → H1[q]? = H[q]?) (hp : ∀ q, clA q (D.1 ce) H → q ≠ w) : EL D ce n f vs H1 := h.kept (P := fun q => q = w) (fun q _ hn => ho q hn) (fun q hc _ => hp q hc)
theorem EL.keep1 {D : va_G} {ce n w : Nat} {f : Nat → Option Nat} {vs : Nat → Value} {H H1 : Heap} (h : EL D ce n f vs H) (hk : ∀ q : Nat, q < H.size → ¬ inA1 w H.size q → H1[q]? = H[q]?) (hp : ∀ q, clA q (D.1 ce) H → q ≠ w) : EL D ce n f vs H1 := h.kept (P := inA1 w H.size) hk (fun q hc hl => inA1.not (hp q hc) hl)
theorem EL.keep2 {D : va_G} {ce n w u : Nat} {f : Nat → Option Nat} {vs : Nat → Value} {H H1 : Heap} (h : EL D ce n f vs H) (hk : ∀ q : Nat, q < H.size → ¬ inA2 w u H.size q → H1[q]? = H[q]?) (hp : ∀ q, clA q (D.1 ce) H → q ≠ w) (hu : ∀ q, clA q (D.1 ce) H → q ≠ u) : EL D ce n f vs H1 := h.kept (P := inA2 w u H.size) hk (fun q hc hl => inA2.not (hp q hc) (hu q hc) hl)
theorem EL.to {D : va_G} {ce n : Nat} {f g : Nat → Option Nat} {vs ws : Nat → Value} {H : Heap} (h : EL D ce n f vs H) (hf : ∀ i, i < n → g i = f i) (hv : ∀ i, i < n → ws i = vs i) : EL D ce n g ws H := fun i hi => by
  obtain ⟨q, h1, h2⟩ := h i hi
  exact ⟨q, (hf i hi).trans h1, by rw [hv i hi]; exact h2⟩
theorem EL.le {D : va_G} {ce n k : Nat} {f : Nat → Option Nat} {vs : Nat → Value} {H : Heap} (h : EL D ce n f vs H) (hk : k ≤ n) : EL D ce k f vs H := fun i hi => h i (Nat.lt_of_lt_of_le hi hk)
theorem EL.add {D : va_G} {ce n q : Nat} {f : Nat → Option Nat} {vs : Nat → Value} {w : Value} {H : Heap} (h : EL D ce n f vs H) (hx : xf D ce q 0 w H) : EL D ce (n + 1) (va_up f n (some q)) (va_up vs n w) H := fun i hi => by
  by_cases e : i = n
  · subst e
    exact ⟨q, va_up_self _ _ _, by rw [va_up_self]; exact hx⟩
  · obtain ⟨p, h1, h2⟩ := h i (by omega)
    exact ⟨p, by rw [va_up_ne _ _ e]; exact h1, by rw [va_up_ne _ _ e]; exact h2⟩
theorem EL.set {D : va_G} {ce n k q : Nat} {f : Nat → Option Nat} {vs : Nat → Value} {w : Value} {H : Heap} (h : EL D ce n f vs H) (hx : xf D ce q 0 w H) : EL D ce n (va_up f k (some q)) (va_up vs k w) H := fun i hi => by
  by_cases e : i = k
  · subst e
    exact ⟨q, va_up_self _ _ _, by rw [va_up_self]; exact hx⟩
  · obtain ⟨p, h1, h2⟩ := h i hi
    exact ⟨p, by rw [va_up_ne _ _ e]; exact h1, by rw [va_up_ne _ _ e]; exact h2⟩
theorem EL.nil {D : va_G} {ce : Nat} {f : Nat → Option Nat} {vs : Nat → Value} {H : Heap} : EL D ce 0 f vs H := fun i hi => absurd hi (Nat.not_lt_zero i)
/-- boxes' class is none of the others' -/
theorem Ctx.ceo {D : va_G} {tk : Nat → ClassId} {N0 : Nat} {sa : Nat → Nat} {s : State} (hC : Ctx D tk N0 sa s) {ce : Nat} (hce : ce = 3 ∨ ce = 2) (ci : Nat) {q : vw_C} (hc : vwCl[ci]? = some q) (hne : "java/lang/Long" ≠ q.1 ∧ "java/lang/Integer" ≠ q.1) : D.1 ce ≠ D.1 ci := by
  rcases hce with rfl | rfl
  · exact hC.oo 3 ci (q := (RJ13, TJ13, 1)) rfl hc hne.1
  · exact hC.oo 2 ci (q := (RJ6, TJ6, 1)) rfl hc hne.2
theorem Ctx.cea {D : va_G} {tk : Nat → ClassId} {N0 : Nat} {sa : Nat → Nat} {s : State} (hC : Ctx D tk N0 sa s) {ce : Nat} (hce : ce = 3 ∨ ce = 2) (j : Nat) {t : ClassId × FieldType} (ht : (tyG tk)[j]? = some t) : D.1 ce ≠ t.1 := by
  rcases hce with rfl | rfl
  · exact hC.oa 3 j (q := (RJ13, TJ13, 1)) rfl ht
  · exact hC.oa 2 j (q := (RJ6, TJ6, 1)) rfl ht
theorem BX.nec {D : va_G} {tk : Nat → ClassId} {N0 : Nat} {sa : Nat → Nat} {s : State} {b n a ce : Nat} {H : Heap} (h : BX tk b n H) (hC : Ctx D tk N0 sa s) (hce : ce = 3 ∨ ce = 2) (ha : clA a (D.1 ce) H) : b ≠ a := by
  rcases hce with rfl | rfl
  · exact h.neo hC ha (q := (RJ13, TJ13, 1)) rfl
  · exact h.neo hC ha (q := (RJ6, TJ6, 1)) rfl
theorem w_oo : Cond.arrayOver (.object "java/lang/Object") ∈ tables_1 := List.mem_of_getElem? (i := 1479) (by decide +kernel)
theorem w_cj : Cond.castable "java/lang/Long" "java/lang/Object" ∈ tables_1 := List.mem_of_getElem? (i := 1825) (by decide +kernel)
theorem w_cI : Cond.castable "java/lang/Integer" "java/lang/Object" ∈ tables_1 := List.mem_of_getElem? (i := 1826) (by decide +kernel)
theorem w_gs : Cond.selects "[Ljava/lang/Object;" ⟨"java/lang/Object", "getClass", "()Ljava/lang/Class;"⟩ ⟨"java/lang/Object", "getClass", "()Ljava/lang/Class;"⟩ ∈ GW := gw_t 1843 (by decide +kernel) rfl
theorem w_gi : Cond.instanceMethod ⟨"java/lang/Object", "getClass", "()Ljava/lang/Class;"⟩ ∈ GW := gw_t 1455 (by decide +kernel) rfl
theorem w_gn : Cond.native ⟨"java/lang/Object", "getClass", "()Ljava/lang/Class;"⟩ ∈ GW := gw_t 1474 (by decide +kernel) rfl
theorem w_gd : Cond.declares ⟨"java/lang/Object", "getClass", "()Ljava/lang/Class;"⟩ ∈ tables_1 := List.mem_of_getElem? (i := 1844) (by decide +kernel)
section LR9
variable {p : Program} {l : Launch} {e : Env} {R : Room} {s : State} {m : MethodId} {args : Array Value} {below : List Frame} {meth : Method} {c : Code} {H : Heap} {locs : List Loc} {cells slots : Nat} {Q : State → Prop}
variable {cc : ByteArray} {pc nL : Nat} {ls : Array Slot} {rest st0 : List Value} {Ts : List Cond} {own : String} {D : va_G} {tk : Nat → ClassId} {N0 : Nat} {sa : Nat → Nat} {A0 A1 : Nat → Prop} {w0 : Cond}
theorem xf.any {ce q k : Nat} {v : Value} (hC : Ctx D tk N0 sa s) (hce : ce = 3 ∨ ce = 2) (h : xf D ce q k v H) : va_Any "java/lang/Object" s H q := by
  obtain ⟨cell, q1, q2, q3, -⟩ := h
  have key : ∀ (r : vw_C), vwCl[ce]? = some r → Cond.castable r.1 "java/lang/Object" ∈ tables_1 → va_Any "java/lang/Object" s H q := by
    intro r hc hw
    have hf := (hC.1.1 ce r hc).2.1
    obtain ⟨kC, hkC, -⟩ := Vm.findClass_spec hf
    refine ⟨cell, q1, q3, ⟨kC, by rw [q2]; exact hkC⟩, fun comp hcomp => ?_⟩
    rw [q2]
    exact vb_asgC (hC.2.2.2.1 _ hw rfl) comp _ hcomp hf
  rcases hce with rfl | rfl
  · exact key (RJ13, TJ13, 1) rfl w_cj
  · exact key (RJ6, TJ6, 1) rfl w_cI
theorem r_aastM (E : CallFix p m c cc nL s args Ts own) (hC : Ctx D tk N0 sa s) {a v n : Nat} {f : Nat → Option Nat} (h : c1 D a (.inl (tk 4, n, .inr (.inr (.inr (.inr f))))) H) (hr : va_Any "java/lang/Object" s H v) (hS : va_S A0 s.heap H locs) (hA : A0 a) {i : Int32} (k : Nat) (hi : i = nI k) (hk : k < n) (hn : n < 2 ^ 31) (hdg : decode cc pc = .ok (.aastore, 1))
    (kk : ∀ (H1 : Heap) (locs1 : List Loc), c1 D a (.inl (tk 4, n, .inr (.inr (.inr (.inr (va_up f k (some v))))))) H1 → (∀ q, q ≠ a → H1[q]? = H[q]?) → H1.size = H.size → va_S A0 s.heap H1 locs1 → W p l e R s m args below meth c H1 locs1 cells slots Q (F0 m (pc + 1) ls rest)) : W p l e R s m args below meth c H locs cells slots Q (F0 m pc ls (.ref v :: .int i :: .ref a :: rest)) := by
  have hin : vp_in i n := by rw [hi]; exact vp_in_nI hk hn
  have hk9 : i.toNatClampNeg = k := by rw [hi]; exact nI_clamp (by omega)
  subst hk9
  have hK := hC.1
  have hlt : i.toNatClampNeg < n := Nat.not_le.mp fun q => hin (Or.inr q)
  have h0 : ¬ i < 0 := fun q => hin (Or.inl q)
  obtain ⟨cellV, g1, g3, ⟨kC, hkC⟩, hasg⟩ := hr
  obtain ⟨kA, comp, k1, k2, k3, -⟩ := (hK.2 4 (tk 4, .object "java/lang/Object") rfl).2
  obtain ⟨kE, hkE, -⟩ := Vm.findClass_spec k3
  refine W.aast E.1 E.2.1 h (fun q h => by cases h) (fun h => by cases h) k1 k2 rfl hkE ⟨h0, by show _ < (arrV _ _ _).slots.size; rw [arrV_size]; exact hlt⟩ g1 (fun q h => by rw [h] at g3; cases g3) hkC (hasg _ k3) rfl rfl hdg fun H1 e z oq => ?_
  refine kk H1 _ ?_ oq z (hS.put z oq hA)
  show H1[a]? = some (vp_cell _ _)
  rw [e]
  rw [vp_cell_q, vp_cell_q, arrV_store]
  congr 2
  funext q
  by_cases hq : q = i.toNatClampNeg
  · subst hq
    simp [updV, va_up, va_rf]
  · simp [updV, va_up, hq]
theorem r_aastNul (E : CallFix p m c cc nL s args Ts own) (hC : Ctx D tk N0 sa s) {a n : Nat} {f : Nat → Option Nat} (h : c1 D a (.inl (tk 4, n, .inr (.inr (.inr (.inr f))))) H) (hS : va_S A0 s.heap H locs) (hA : A0 a) {i : Int32} (k : Nat) (hi : i = nI k) (hk : k < n) (hn : n < 2 ^ 31) (hdg : decode cc pc = .ok (.aastore, 1))
    (kk : ∀ (H1 : Heap) (locs1 : List Loc), c1 D a (.inl (tk 4, n, .inr (.inr (.inr (.inr (va_up f k none)))))) H1 → (∀ q, q ≠ a → H1[q]? = H[q]?) → H1.size = H.size → va_S A0 s.heap H1 locs1 → W p l e R s m args below meth c H1 locs1 cells slots Q (F0 m (pc + 1) ls rest)) : W p l e R s m args below meth c H locs cells slots Q (F0 m pc ls (.null :: .int i :: .ref a :: rest)) := by
  have hin : vp_in i n := by rw [hi]; exact vp_in_nI hk hn
  have hk9 : i.toNatClampNeg = k := by rw [hi]; exact nI_clamp (by omega)
  subst hk9
  have hK := hC.1
  refine va_WaastN (C := "java/lang/Object") E.1 E.2.1 h ((hK.2 4 (tk 4, .object "java/lang/Object") rfl).1 n (fun j => va_rf (f j))) (fun h => by cases h) (by show ¬ (i < 0 ∨ (arrV _ _ _).slots.size ≤ _); rw [arrV_size]; exact hin) rfl rfl hdg fun H1 e z oq => ?_
  refine kk H1 _ ?_ oq z (hS.put z oq hA)
  show H1[a]? = some (vp_cell _ _)
  rw [e]
  rw [vp_cell_q, vp_cell_q, arrV_store]
  congr 2
  funext q
  by_cases hq : q = i.toNatClampNeg
  · subst hq
    simp [updV, va_up, va_rf]
  · simp [updV, va_up, hq]
theorem r_aaldM (E : CallFix p m c cc nL s args Ts own) (hC : Ctx D tk N0 sa s) {a n t0 : Nat} {C : String} {ct : ClassId} (ht : (tyG tk)[t0]? = some (ct, .object C)) {f : Nat → Option Nat} (h : c1 D a (.inl (ct, n, .inr (.inr (.inr (.inr f))))) H) {i : Int32} (k : Nat) (hi : i = nI k) (hk : k < n) (hn : n < 2 ^ 31) {q : Nat} (hq : f k = some q) (hdg : decode cc pc = .ok (.aaload, 1))
    (kk : W p l e R s m args below meth c H locs cells slots Q (F0 m (pc + 1) ls (.ref q :: rest))) : W p l e R s m args below meth c H locs cells slots Q (F0 m pc ls (.int i :: .ref a :: rest)) := by
  have hin : vp_in i n := by rw [hi]; exact vp_in_nI hk hn
  have hk9 : i.toNatClampNeg = k := by rw [hi]; exact nI_clamp (by omega)
  refine va_aldq E.1 E.2.1 hC.1 h.P 0 t0 rfl ht hin hdg ?_
  rw [hk9, hq]
  exact kk
theorem r_anewO (E : CallFix p m c cc nL s args (w0 :: GW) own) (hC : Ctx D tk N0 sa s) (hS : va_S A0 s.heap H locs) {index : Nat} (w1 : Cond.classLink own index "java/lang/Object" ∈ GW) {n : Int32} {N : Nat} (hn : ¬ n < 0) (hN : n.toNatClampNeg = N) (hbytes : N * 4 ≤ 536870912) (hcells : cells + 1 ≤ R.cells) (hslots : slots + N ≤ R.slots) (hdg : decode cc pc = .ok (.anewarray index, 3))
    (kk : ∀ (q : Nat) (H1 : Heap), q = H.size → c1 D q (.inl (tk 4, N, .inr (.inr (.inr (.inr (fun _ => none)))))) H1 → (∀ x : Nat, x < H.size → H1[x]? = H[x]?) → va_S A0 s.heap H1 locs → W p l e R s m args below meth c H1 locs (cells + 1) (slots + N) Q (F0 m (pc + 3) ls (.ref q :: rest))) : W p l e R s m args below meth c H locs cells slots Q (F0 m pc ls (.int n :: rest)) := by
  subst hN
  refine W.anew E.1 E.2.1 E.2.2.2.1 (E.2.2.2.2 _ (List.mem_cons_of_mem _ w1)) (va_AO.use (va_AO.of (hC.2.2.2.2.2.1 _ w_oo))) rfl hdg rfl hn hbytes hcells hslots fun cA kA comp f1 f2 f3 f4 => ?_
  obtain ⟨kA2, comp2, -, -, -, h2⟩ := (hC.1.2 4 (tk 4, .object "java/lang/Object") rfl).2
  have hcA : cA = tk 4 := Option.some.inj (f1.symm.trans h2)
  subst hcA
  generalize hH1 : H.push ({ cls := tk 4, slots := Array.replicate n.toNatClampNeg .null, vm := .none } : Cell) = H1
  have z1 : H1.size = H.size + 1 := by rw [← hH1, Array.size_push]
  have e1 : H1[H.size]? = some (arrV (tk 4) n.toNatClampNeg (fun _ => .null)) := by rw [← hH1, Array.getElem?_push_size, ← arrV_new]
  have o1 : ∀ q : Nat, q < H.size → H1[q]? = H[q]? := fun q hq => by rw [← hH1, Array.getElem?_push, if_neg (Nat.ne_of_lt hq)]
  refine kk H.size H1 rfl ?_ o1 ⟨Nat.le_trans hS.1 (by omega), fun x h1 h2 => (o1 x (Nat.lt_of_lt_of_le h1 hS.1)).trans (hS.2.1 x h1 h2), hS.2.2⟩
  show H1[H.size]? = some (vp_cell _ _)
  rw [vp_cell_q]
  exact e1
theorem r_acpyQ (E : CallFix p m c cc nL s args (w0 :: GW) own) (hC : Ctx D tk N0 sa s) (hl : ls.size = nL) {b0 n0 a n1 index ce N : Nat} {f g : Nat → Option Nat} {vs : Nat → Value} (hce : ce = 3 ∨ ce = 2) (h0 : c1 D b0 (.inl (tk 4, n0, .inr (.inr (.inr (.inr f))))) H) (hE : EL D ce N f vs H) (h1 : c1 D a (.inl (tk 4, n1, .inr (.inr (.inr (.inr g))))) H) (hS : va_S A0 s.heap H locs) (hA : A0 a) {n : Int32} (hn : n = nI N) (k4 : N ≤ n0) (k5 : N ≤ n1) (k6 : n0 < 2 ^ 31) (w1 : Cond.methodLink own index arraycopyName ∈ GW)
    (hframes : 1 ≤ R.frames) (hcat : (rest.map fun v => v.category).sum ≤ 8) (hlocals : 8 + (nativeFrameWords "java/lang/System" "arraycopy" 5 + 11) ≤ R.locals) (hdg : decode cc pc = .ok (.invokestatic index, 3))
    (kk : ∀ (H1 : Heap) (locs1 : List Loc), c1 D a (.inl (tk 4, n1, .inr (.inr (.inr (.inr (va_cpy f g 0 0 N)))))) H1 → (∀ q, q ≠ a → H1[q]? = H[q]?) → H1.size = H.size → va_S A0 s.heap H1 locs1 → W p l e R s m args below meth c H1 locs1 cells slots Q (F0 m (pc + 3) ls rest)) : W p l e R s m args below meth c H locs cells slots Q (F0 m pc ls (.int n :: .int 0 :: .ref a :: .int 0 :: .ref b0 :: rest)) := by
  have hw : ∀ w ∈ GW, w.before args s = true := fun w h => E.2.2.2.2 _ (List.mem_cons_of_mem _ h)
  have hb := E.2.1
  have hK := hC.1
  have hcl : n.toNatClampNeg = N := by rw [hn]; exact nI_clamp (by omega)
  have hti : n.toInt = (N : Int) := by rw [hn]; exact nI_toInt (by omega)
  intro T hT X
  have hc0 : H[b0]? = some (vp_cell (tk 4) (n0, .inr (.inr (.inr (.inr f))))) := h0
  have hc1 : H[a]? = some (vp_cell (tk 4) (n1, .inr (.inr (.inr (.inr g))))) := h1
  obtain ⟨-, k1, hk1, cm1, hkk1⟩ := (hK.2 4 (tk 4, .object "java/lang/Object") rfl).1 n1 (fun j => va_rf (g j))
  obtain ⟨vm', X', step⟩ := X.arraycopy E.1 E.2.2.2.1 (hw _ w1) (hw _ w_nc) (hw _ w_sc) (hw _ w_is) (src := b0) (dst := a) (cs := vp_cell (tk 4) (n0, .inr (.inr (.inr (.inr f))))) (cd := vp_cell (tk 4) (n1, .inr (.inr (.inr (.inr g))))) (srcPos := 0) (destPos := 0) (n := n) (by rw [hT]; exact hc0) (by rw [hT]; exact hc1)
    (fun _ h => by cases h) (fun _ h => by cases h) (fun h => by cases h) (fun h => by cases h) hk1 hk1 hkk1 hkk1 rfl (by decide) (by decide) (by rw [hn]; exact nI_pos (by omega))
    (by rw [hti]; show ¬ (0 + (N : Int)) > ((arrV (tk 4) n0 (fun j => va_rf (f j))).slots.size : Int); rw [arrV_size]; omega)
    (by rw [hti]; show ¬ (0 + (N : Int)) > ((arrV (tk 4) n1 (fun j => va_rf (g j))).slots.size : Int); rw [arrV_size]; omega)
    (fun vm₁ hal i hi => by
      rw [hcl] at hi
      have e : (vp_cell (tk 4) (n0, .inr (.inr (.inr (.inr f))))).slots.getD ((0 : Int32).toNatClampNeg + i) .null = va_rf (f i) := by
        show (arrV (tk 4) n0 (fun j => va_rf (f j))).slots.getD _ _ = _
        rw [sb_cl0, Nat.zero_add, Array.getD_eq_getD_getElem?, arrV_read _ _ (by omega)]
        rfl
      rw [e]
      obtain ⟨y, hy, hx9⟩ := hE i hi
      rw [hy]
      obtain ⟨cellV, g1, g2, ⟨kC, hkC⟩, hasg⟩ := hx9.any hC hce
      obtain ⟨kA, comp, r1, r2, r3, -⟩ := (hK.2 4 (tk 4, .object "java/lang/Object") rfl).2
      have hk1' : s.vm.classes[tk 4]? = some k1 := hk1
      cases hk1'.symm.trans r1
      cases hkk1.symm.trans r2
      obtain ⟨kE, hkE, -⟩ := Vm.findClass_spec r3
      obtain ⟨kC', hkC', -⟩ := hal.2.2 _ _ hkC
      obtain ⟨kE', hkE', -⟩ := hal.2.2 _ _ hkE
      refine ⟨rfl, cellV, (show T.heap[y]? = some cellV by rw [hT]; exact g1), (fun q h => by rw [h] at g2; cases g2), ⟨kC', hkC'⟩, ?_, ?_⟩
      · exact ⟨kE', hkE'⟩
      · show vm₁.assignable _ _ = true
        rw [hal.assignable]
        exact hasg _ r3)
    (g := F0 m pc ls (.int n :: .int 0 :: .ref a :: .int 0 :: .ref b0 :: rest)) rfl (by show ls.size = _; rw [hl]; exact E.2.2.1.symm) (rest := rest) rfl (by rw [hb]; exact hdg) hframes (by show 2 * 0 + _ + _ ≤ _; omega)
  have e1 : copied (vp_cell (tk 4) (n0, .inr (.inr (.inr (.inr f))))) (vp_cell (tk 4) (n1, .inr (.inr (.inr (.inr g))))) 0 0 n = vp_cell (tk 4) (n1, .inr (.inr (.inr (.inr (va_cpy f g 0 0 N))))) := by
    rw [vp_cell_q, vp_cell_q, vp_cell_q]
    have h4 : (0 : Int32).toNatClampNeg + n.toNatClampNeg ≤ n0 := by rw [hcl, sb_cl0]; omega
    have h5 : copied (arrV (tk 4) n0 (fun j => va_rf (f j))) (arrV (tk 4) n1 (fun j => va_rf (g j))) 0 0 n = arrV (tk 4) n1 (fun j => va_rf (va_cpy f g (0 : Int32).toNatClampNeg (0 : Int32).toNatClampNeg n.toNatClampNeg j)) := va_copied (fun z => va_rf z) (tk 4) (tk 4) f g h4
    rw [hcl, sb_cl0] at h5
    exact h5
  rw [e1] at X' step
  have hl2 : a < H.size := (Array.getElem?_eq_some_iff.mp hc1).1
  have hheap : ((T.setVm vm').setCell a (vp_cell (tk 4) (n1, .inr (.inr (.inr (.inr (va_cpy f g 0 0 N))))))).heap = H.setIfInBounds a (vp_cell (tk 4) (n1, .inr (.inr (.inr (.inr (va_cpy f g 0 0 N)))))) := by rw [← hT]; rfl
  have oq : ∀ q : Nat, q ≠ a → (H.setIfInBounds a (vp_cell (tk 4) (n1, .inr (.inr (.inr (.inr (va_cpy f g 0 0 N)))))))[q]? = H[q]? := fun q hq => by simp [Array.getElem?_setIfInBounds, Ne.symm hq]
  have hl3 : (H.setIfInBounds a (vp_cell (tk 4) (n1, .inr (.inr (.inr (.inr (va_cpy f g 0 0 N)))))))[a]? = some (vp_cell (tk 4) (n1, .inr (.inr (.inr (.inr (va_cpy f g 0 0 N)))))) := by simp [Array.getElem?_setIfInBounds, hl2]
  obtain ⟨t, a1, b1⟩ := kk (H.setIfInBounds a (vp_cell (tk 4) (n1, .inr (.inr (.inr (.inr (va_cpy f g 0 0 N))))))) _ hl3 oq (by simp) ⟨by simp; exact hS.1, fun q g1 g2 => by
      rw [oq q (fun e => g2 (by rw [e]; exact hA))]
      exact hS.2.1 q g1 g2, fun q hq => by
      rcases List.mem_append.mp hq with h | h
      · exact hS.2.2 q h
      · obtain ⟨z, -, hz⟩ := List.mem_map.mp h
        rw [← hz]
        exact hA⟩ _ hheap X'
  exact ⟨t, step t a1, b1⟩
/-- the class of an array of Objects -/
theorem r_getCls (E : CallFix p m c cc nL s args (w0 :: GW) own) (hC : Ctx D tk N0 sa s) (hl : ls.size = nL) {a n index : Nat} {f : Nat → Option Nat} (h : c1 D a (.inl (tk 4, n, .inr (.inr (.inr (.inr f))))) H) (w1 : Cond.methodLink own index ⟨"java/lang/Object", "getClass", "()Ljava/lang/Class;"⟩ ∈ GW)
    (hframes : 1 ≤ R.frames) (hcat : (rest.map fun v => v.category).sum ≤ 8) (hlocals : 22 ≤ R.locals) (hdg : decode cc pc = .ok (.invokevirtual index, 3))
    (k : W p l e R s m args below meth c H locs cells slots Q (F0 m (pc + 3) ls (.ref (sa 6) :: rest))) : W p l e R s m args below meth c H locs cells slots Q (F0 m pc ls (.ref a :: rest)) := by
  have hw : ∀ w ∈ GW, w.before args s = true := fun w h => E.2.2.2.2 _ (List.mem_cons_of_mem _ h)
  refine va_getC (C := "[Ljava/lang/Object;") E.1 E.2.1 (by rw [hl]; exact E.2.2.1) E.2.2.2.1 (hw _ w1) (va_Nw.use rfl (hC.2.2.2.1 _ w_gd rfl)) (hw _ w_gs) (hw _ w_gi) (hw _ w_gn) hC.xt.1 ⟨_, h, rfl, ?_⟩ hframes (by omega) hdg k
  exact va_nmO (hC.1.2 4 (tk 4, .object "java/lang/Object") rfl).2 rfl
end LR9
section KF
variable {p : Program} {l : Launch} {e : Env} {R : Room} {s : State} {m : MethodId} {args : Array Value} {below : List Frame} {meth : Method} {c : Code} {H : Heap} {locs : List Loc} {cells slots : Nat} {Q : State → Prop}
variable {cc : ByteArray} {pc nL : Nat} {ls : Array Slot} {rest st0 : List Value} {own : String} {D : va_G} {tk : Nat → ClassId} {N0 : Nat} {sa : Nat → Nat} {A0 A1 : Nat → Prop}
variable {x y : MethodName} {bytes : ByteArray} {maxL mc ms n index count : Nat} {ret : Option FieldType} {rm : Room} {F : Heap → Prop} {Qc : Array Value → State → Outcome → State → Prop} {As : List Value} {w0 : Cond} {b : Nat} {a : Array Value}
/-- a call through an interface -/
theorem k_F {ci : Nat} {q : vw_C} (hc : vwCl[ci]? = some q) (hW : va_Fw q.1 x y s) (E : CallFix p m c cc nL s args (w0 :: GW) own) (hC : Ctx D tk N0 sa s) (hS : va_S A0 s.heap H locs) (hA : ∀ q, A0 q → N0 ≤ q) (hl : ls.size = nL) (hrecv : ∃ cell : Cell, H[b]? = some cell ∧ cell.vm.isStatics = false ∧ s.vm.findClass q.1 = some cell.cls)
    (hM : Met l y (wsy y bytes maxL ret) rm (cP D tk N0 sa (.ref b :: As) H.size F) Qc mc ms A1) (w1 : Cond.methodLink own index x ∈ GW) (w2 : Cond.instanceMethod y ∈ GW) (w3 : Cond.selects q.1 x y ∈ GW) (w5 : Cond.initialized y.cls ∈ GW) (w4 : Cond.code y bytes maxL ret ∈ GW) (hd : okD x n = true) (hlen : As.length = n) (hR : okR rm R maxL mc ms cells slots)
    (hst : st0 = As.reverse ++ .ref b :: rest) (hcat : (rest.map fun v => v.category).sum ≤ 8) (hF : F H) (hdg : decode cc pc = .ok (.invokeinterface index count, 5)) :
    va_Run5 p l e R s m args below meth c H locs cells slots mc ms (F0 m pc ls st0) rest (Qc (Value.ref b :: As).toArray) A1 := by
  have hw : ∀ w ∈ GW, w.before args s = true := fun w h => E.2.2.2.2 _ (List.mem_cons_of_mem _ h)
  have hG : GoodIn (w0 :: GW) (wsy y bytes maxL ret) := gw_in w4
  refine va_runF (n := As.length) (C := q.1) (hC.1.1 ci q hc).2 E hM ⟨⟨hR.1.1, hR.1.2, hR.2.1.1, hR.2.1.2, pay_in E.2.2.2.2 hG, List.mem_cons_self⟩, hw _ w1, va_any rfl hW.1, va_any rfl hW.2.1, hw _ w3, hw _ w2, va_any rfl hW.2.2.1, va_any rfl hW.2.2.2.1, va_any rfl hW.2.2.2.2, hw _ w5, hw _ w4, ⟨(okD.of hd).1, (okD.of hd).2.1⟩, fun sig h => ?_⟩ ⟨(cP_pre hC hS hA hF).1, hrecv, (cP_pre hC hS hA hF).2⟩ rfl rfl hl hst (lv_room hcat) hdg hR.2.2
  have h2 := (okD.of (hlen ▸ hd)).2.2
  rw [h] at h2
  exact (Option.some.inj h2).symm
theorem k5_i {Rr : Int32 → Heap → Prop} (hr : va_Run5 p l e R s m args below meth c H locs cells slots mc ms (F0 m pc ls st0) rest (kQi Rr A1 a) A1) (hS : va_S A0 s.heap H locs) (hAA : ∀ q, q < H.size → A1 q → A0 q) (hnew : ∀ q, s.heap.size ≤ q → A0 q)
    (kk : ∀ (r : Int32) (H1 : Heap) (locs1 : List Loc), Rr r H1 → H.size ≤ H1.size → (∀ q : Nat, q < H.size → ¬ A1 q → H1[q]? = H[q]?) → va_S A0 s.heap H1 locs1 → W p l e R s m args below meth c H1 locs1 (cells + mc) (slots + ms) Q (F0 m (pc + 5) ls (.int r :: rest))) : W p l e R s m args below meth c H locs cells slots Q (F0 m pc ls st0) :=
  va_callFi hr hS hAA (fun q h => by
    rcases Nat.lt_or_ge q H.size with z | z
    · exact hAA q z h
    · exact hnew q (Nat.le_trans hS.1 z)) (fun r u t H1 locs1 ht _ hp hb hz hk hS1 => by
    have e9 : u = H1 := hb.symm.trans ht
    subst e9
    exact kk r u locs1 hp hz hk hS1)
theorem k5_r {Rr : Nat → Heap → Prop} (hr : va_Run5 p l e R s m args below meth c H locs cells slots mc ms (F0 m pc ls st0) rest (kQr Rr A1 a) A1) (hS : va_S A0 s.heap H locs) (hAA : ∀ q, q < H.size → A1 q → A0 q) (hnew : ∀ q, s.heap.size ≤ q → A0 q)
    (kk : ∀ (r : Nat) (H1 : Heap) (locs1 : List Loc), Rr r H1 → H.size ≤ H1.size → (∀ q : Nat, q < H.size → ¬ A1 q → H1[q]? = H[q]?) → va_S A0 s.heap H1 locs1 → W p l e R s m args below meth c H1 locs1 (cells + mc) (slots + ms) Q (F0 m (pc + 5) ls (.ref r :: rest))) : W p l e R s m args below meth c H locs cells slots Q (F0 m pc ls st0) :=
  va_callFr hr hS hAA (fun q h => by
    rcases Nat.lt_or_ge q H.size with z | z
    · exact hAA q z h
    · exact hnew q (Nat.le_trans hS.1 z)) (fun u ra t H1 locs1 ht _ _ hb hz hk hS1 => by
    have e9 : u = H1 := hb.1.symm.trans ht
    subst e9
    exact kk ra u locs1 hb.2 hz hk hS1)
end KF
theorem growlen {x2 mn : Int32} {cap : Nat} (hx : x2 = nI cap) (hm : mn = nI (cap + 1)) (h2 : 2 ≤ cap) (hc : cap ≤ 40000) : x2 + f_max (mn - x2) (x2 >>> ((1 : Int32) &&& 31)) = nI (cap + cap / 2) := by
  have e1 : mn - x2 = nI 1 := by
    rw [hm, hx, pk_sub (by omega)]
    congr 1
    omega
  have e2 : x2 >>> ((1 : Int32) &&& 31) = nI (cap / 2) := by
    have k := pk_shrN (n := cap) (by omega) ((1 : Int32) &&& 31) 1 (by decide)
    rw [Nat.pow_one] at k
    rw [hx]
    exact k
  rw [e1, e2, hx]
  have e3 : f_max (nI 1) (nI (cap / 2)) = nI (cap / 2) := by
    unfold f_max
    split
    · rfl
    · rename_i h
      rcases Nat.lt_or_ge 1 (cap / 2) with z | z
      · exact absurd (nI_lt z (by omega)) h
      · have : cap / 2 = 1 := by omega
        rw [this]
  rw [e3]
  exact nI_add cap (cap / 2)
