/-! ===== heap facts that constants and made cells share; cells of different classes are apart ===== -/
theorem BA.bx {D : va_G} {tk : Nat → ClassId} {b n : Nat} {H : Heap} (h : BA D tk b n H) : BX tk b n H := by
  obtain ⟨f, hf, h⟩ := h
  have h : H[b]? = some (vp_cell (tk 1) (n, .inl f)) := h
  rw [vp_cell_i] at h
  exact ⟨f, _, hf, h, Or.inl rfl, rfl, (fun z => by cases z), Nat.le_of_eq (arrV_size _ _ _).symm, by rw [arrV_size], fun j hj => by rw [arrV_read _ _ hj]⟩
/-- a field of an object, whatever else it holds -/
def xf (D : va_G) (ci a k : Nat) (v : Value) (H : Heap) : Prop := ∃ cell : Cell, H[a]? = some cell ∧ cell.cls = D.1 ci ∧ cell.vm.isStatics = false ∧ cell.vm ≠ .unknown ∧ cell.slots[D.2 ci k]? = some v
theorem xf.kept {D : va_G} {ci a k : Nat} {v : Value} {H H1 : Heap} (h : xf D ci a k v H) (hq : H1[a]? = H[a]?) : xf D ci a k v H1 := h.elim fun c z => ⟨c, hq.trans z.1, z.2⟩
theorem xf.lt {D : va_G} {ci a k : Nat} {v : Value} {H : Heap} (h : xf D ci a k v H) : a < H.size := h.elim fun _ z => (Array.getElem?_eq_some_iff.mp z.1).1
theorem c1.xf {D : va_G} {a ci : Nat} {fs : List Value} {H : Heap} (h : c1 D a (.inr (ci, fs)) H) {q : vw_C} (hc : vwCl[ci]? = some q) (k : Nat) (hk : k < q.2.2) {v : Value} (hv : fs[k]? = some v) : xf D ci a k v H := by
  obtain ⟨r, h1, cell, q1, q2, q3, q4⟩ := h
  have hr : r = q := Option.some.inj (h1.symm.trans hc)
  subst hr
  refine ⟨cell, q1, q2, by rw [q3]; rfl, by rw [q3]; exact (fun z => by cases z), ?_⟩
  have := q4 k hk
  rw [this]
  simp [vp_V, hv]
/-- a String at a of n letters, all Latin-1, its bytes at b: a constant or made -/
def SX (D : va_G) (tk : Nat → ClassId) (a n : Nat) (H : Heap) : Prop := ∃ b : Nat, xf D 0 a 0 (.ref b) H ∧ xf D 0 a 1 (.int 0) H ∧ BX tk b n H
theorem SX.kept {D : va_G} {tk : Nat → ClassId} {a n : Nat} {P : Nat → Prop} {H H1 : Heap} (h : SX D tk a n H) (hq : ∀ q : Nat, q < H.size → ¬ P q → H1[q]? = H[q]?) (ha : ¬ P a) (hb : ∀ b n, BX tk b n H → ¬ P b) : SX D tk a n H1 := by
  obtain ⟨b, h1, h2, h3⟩ := h
  exact ⟨b, h1.kept (hq _ h1.lt ha), h2.kept (hq _ h2.lt ha), h3.kept (hq _ h3.lt (hb b n h3))⟩
theorem SX.new {D : va_G} {tk : Nat → ClassId} {a n : Nat} {H H1 : Heap} (h : SX D tk a n H) (hk : ∀ q : Nat, q < H.size → ¬ nwA H.size q → H1[q]? = H[q]?) : SX D tk a n H1 := by
  obtain ⟨b, h1, h2, h3⟩ := h
  exact ⟨b, h1.kept (hk _ h1.lt (Nat.not_le.mpr h1.lt)), h2.kept (hk _ h2.lt (Nat.not_le.mpr h2.lt)), h3.kept (hk _ h3.lt (Nat.not_le.mpr h3.lt))⟩
theorem SX.lt {D : va_G} {tk : Nat → ClassId} {a n : Nat} {H : Heap} (h : SX D tk a n H) : a < H.size := h.elim fun _ z => z.1.lt
/-- a made String -/
abbrev SM (D : va_G) (tk : Nat → ClassId) (a b n : Nat) (H : Heap) : Prop := c1 D a (.inr (0, [.ref b, .int 0, .int 0, .int 0])) H ∧ BA D tk b n H
theorem SM.sx {D : va_G} {tk : Nat → ClassId} {a b n : Nat} {H : Heap} (h : SM D tk a b n H) : SX D tk a n H := ⟨b, h.1.xf rfl 0 (by decide) rfl, h.1.xf rfl 1 (by decide) rfl, h.2.bx⟩
/-- whose class -/
def clA (b : Nat) (c : ClassId) (H : Heap) : Prop := ∃ cell : Cell, H[b]? = some cell ∧ cell.cls = c
theorem clA.ne {a b : Nat} {c d : ClassId} {H : Heap} (h1 : clA a c H) (h2 : clA b d H) (hne : c ≠ d) : a ≠ b := by
  intro e
  subst e
  obtain ⟨x, p1, p2⟩ := h1
  obtain ⟨y, q1, q2⟩ := h2
  cases p1.symm.trans q1
  exact hne (p2.symm.trans q2)
theorem xf.cl {D : va_G} {ci a k : Nat} {v : Value} {H : Heap} (h : xf D ci a k v H) : clA a (D.1 ci) H := h.elim fun c z => ⟨c, z.1, z.2.1⟩
theorem c1.cl {D : va_G} {a ci : Nat} {fs : List Value} {H : Heap} (h : c1 D a (.inr (ci, fs)) H) : clA a (D.1 ci) H := by
  obtain ⟨r, h1, cell, q1, q2, -⟩ := h
  exact ⟨cell, q1, q2⟩
theorem c1.cla {D : va_G} {a : Nat} {c : ClassId} {x : vp_A} {H : Heap} (h : c1 D a (.inl (c, x)) H) : clA a c H := by
  refine ⟨_, h, ?_⟩
  obtain ⟨n, f | f | f | f | f⟩ := x <;> rfl
theorem BA.cl {D : va_G} {tk : Nat → ClassId} {b n : Nat} {H : Heap} (h : BA D tk b n H) : clA b (tk 1) H := h.elim fun _ z => z.2.cla
/-- bytes are an array of bytes, whatever their class: no object, no array of another kind -/
theorem Ctx.xt {D : va_G} {tk : Nat → ClassId} {N0 : Nat} {sa : Nat → Nat} {s : State} (h : Ctx D tk N0 sa s) : XT tk N0 sa s s.heap := h.2.2.2.2.2.2.2.2.2.2.2.2.2.2.2
theorem isArrX {D : va_G} {tk : Nat → ClassId} {N0 : Nat} {sa : Nat → Nat} {s : State} (hC : Ctx D tk N0 sa s) {cell : Cell} (hcl : tyB tk cell.cls) (hst : cell.vm.isStatics = false) : s.isArrayOf cell .byte := by
  refine ⟨(fun q h => by rw [h] at hst; cases hst), ?_⟩
  rcases hcl with hcl | ⟨j, hj, hcl⟩
  · obtain ⟨-, k, hk, comp, hkk⟩ := (hC.1.2 1 (tk 1, .byte) rfl).1 0 (fun _ => .null)
    exact ⟨k, by rw [hcl]; exact hk, comp, hkk⟩
  · obtain ⟨c0, -, -, h3, h4, -⟩ := hC.xt.2.2.1 j hj
    obtain ⟨-, k, hk, comp, hkk⟩ := h4
    exact ⟨k, by rw [hcl, ← h3]; exact hk, comp, hkk⟩
theorem BX.neo {D : va_G} {tk : Nat → ClassId} {N0 : Nat} {sa : Nat → Nat} {s : State} {b n a ci : Nat} {H : Heap} (h : BX tk b n H) (hC : Ctx D tk N0 sa s) (ha : clA a (D.1 ci) H) {q : vw_C} (hc : vwCl[ci]? = some q) : b ≠ a := by
  obtain ⟨f, cell, -, h2, h3, h4, -⟩ := h
  obtain ⟨x, p1, p2⟩ := ha
  intro e
  subst e
  cases h2.symm.trans p1
  obtain ⟨-, k, hk, comp, hkk⟩ := isArrX hC h3 h4
  obtain ⟨-, -, k2, hk2, hkind⟩ := hC.1.1 ci q hc
  rw [p2, hk2] at hk
  cases hk
  rw [hkind] at hkk
  cases hkk
theorem BX.nea {D : va_G} {tk : Nat → ClassId} {N0 : Nat} {sa : Nat → Nat} {s : State} {b n a : Nat} {H : Heap} (h : BX tk b n H) (hC : Ctx D tk N0 sa s) (j : Nat) {t : ClassId × FieldType} (ha : clA a t.1 H) (ht : (tyG tk)[j]? = some t) (hne : t.2 ≠ .byte) : b ≠ a := by
  obtain ⟨f, cell, -, h2, h3, h4, -⟩ := h
  obtain ⟨x, p1, p2⟩ := ha
  intro e
  subst e
  cases h2.symm.trans p1
  obtain ⟨-, k, hk, comp, hkk⟩ := isArrX hC h3 h4
  obtain ⟨t1, t2⟩ := t
  obtain ⟨-, kA, hkA, compA, hA⟩ := (hC.1.2 j (t1, t2) ht).1 0 (fun _ => .null)
  have hkA : s.vm.classes[t1]? = some kA := hkA
  rw [p2, hkA] at hk
  cases hk
  rw [hkk] at hA
  injection hA with z1 z2
  exact hne z2.symm
theorem Ctx.oa {D : va_G} {tk : Nat → ClassId} {N0 : Nat} {sa : Nat → Nat} {s : State} (hC : Ctx D tk N0 sa s) (ci j : Nat) {q : vw_C} {t : ClassId × FieldType} (hc : vwCl[ci]? = some q) (ht : (tyG tk)[j]? = some t) : D.1 ci ≠ t.1 := by
  intro e
  obtain ⟨-, -, k, hk, hkind⟩ := hC.1.1 ci q hc
  obtain ⟨-, kA, hkA, comp, hA⟩ := (hC.1.2 j t ht).1 0 (fun _ => .null)
  have hkA : s.vm.classes[t.1]? = some kA := hkA
  rw [← e, hk] at hkA
  cases hkA
  rw [hkind] at hA
  cases hA
theorem Ctx.ao {D : va_G} {tk : Nat → ClassId} {N0 : Nat} {sa : Nat → Nat} {s : State} (hC : Ctx D tk N0 sa s) (ci j : Nat) {q : vw_C} {t : ClassId × FieldType} (hc : vwCl[ci]? = some q) (ht : (tyG tk)[j]? = some t) : t.1 ≠ D.1 ci := fun z => hC.oa ci j hc ht z.symm
theorem Ctx.oo {D : va_G} {tk : Nat → ClassId} {N0 : Nat} {sa : Nat → Nat} {s : State} (hC : Ctx D tk N0 sa s) (ci cj : Nat) {q q' : vw_C} (hc : vwCl[ci]? = some q) (hd : vwCl[cj]? = some q') (hne : q.1 ≠ q'.1) : D.1 ci ≠ D.1 cj := by
  intro e
  have h1 := (hC.1.1 ci q hc).2.1
  have h2 := (hC.1.1 cj q' hd).2.1
  rw [e] at h1
  obtain ⟨k1, hk1, hn1⟩ := Vm.findClass_spec h1
  obtain ⟨k2, hk2, hn2⟩ := Vm.findClass_spec h2
  cases hk1.symm.trans hk2
  exact hne (hn1.symm.trans hn2)
theorem Ctx.aa {D : va_G} {tk : Nat → ClassId} {N0 : Nat} {sa : Nat → Nat} {s : State} (hC : Ctx D tk N0 sa s) (i j : Nat) {t t' : ClassId × FieldType} (hi : (tyG tk)[i]? = some t) (hj : (tyG tk)[j]? = some t') (hne : t.2 ≠ t'.2) : t.1 ≠ t'.1 := by
  intro e
  obtain ⟨-, k1, h1, c1', g1⟩ := (hC.1.2 i t hi).1 0 (fun _ => .null)
  obtain ⟨-, k2, h2, c2', g2⟩ := (hC.1.2 j t' hj).1 0 (fun _ => .null)
  have h1 : s.vm.classes[t.1]? = some k1 := h1
  have h2 : s.vm.classes[t'.1]? = some k2 := h2
  rw [e, h2] at h1
  cases h1
  rw [g1] at g2
  injection g2 with e1 e2
  exact hne e2
/-- what a method of two cells may write -/
def inA2 (a v sz : Nat) : Nat → Prop := fun q => q = a ∨ q = v ∨ sz ≤ q
theorem inA2.not {a v sz q : Nat} (h : q ≠ a) (h2 : q ≠ v) (hl : q < sz) : ¬ inA2 a v sz q := fun z => z.elim h (fun w => w.elim h2 (fun u => Nat.lt_irrefl _ (Nat.lt_of_lt_of_le hl u)))
theorem inA2.to {A0 : Nat → Prop} {a v sz : Nat} (h : A0 a) (h2 : A0 v) : ∀ q, q < sz → inA2 a v sz q → A0 q := fun _ hl z => z.elim (fun e => e ▸ h) (fun w => w.elim (fun e => e ▸ h2) (fun u => absurd u (Nat.not_le.mpr hl)))
/-- 'selects' of a private method of a superclass -/
theorem selUp {y : MethodName} {C : String} {n : Nat} {s : State} {args : Array Value} (hins : (Cond.instantiable C n).before args s = true) (hpriv : (Cond.privateMethod y).before args s = true) (hinst : (Cond.instanceMethod y).before args s = true) (hsame : (Cond.sameMethod y.cls y.cls y.name y.desc).before args s = true) : (Cond.selects C y y).before args s = true := by
  obtain ⟨c, k, hc, hk, -⟩ := Cond.instantiable_spec hins
  obtain ⟨mk, methM, hnamed, hmethM, -, -⟩ := Cond.instanceMethod_spec hinst
  obtain ⟨cn, ck, r1, hcn, hck, hni, hf, hn1⟩ := Cond.sameMethod_found hsame
  have hr : mk = r1 := Option.some.inj (hnamed.symm.trans hn1)
  subst hr
  have hcls : mk.cls = cn := Option.some.inj ((findClass_of_methodNamed hnamed).symm.trans hcn)
  have hsel : selectMethod {} s.vm c mk = .method mk := selectMethod_private hmethM (Cond.privateMethod_at hpriv mk methM hnamed hmethM)
  simp only [Cond.before, Cond.holds, Cond.value, hc, hf, hnamed, hsel, hcls, hck]
  simp
  exact hni
section KU
variable {p : Program} {l : Launch} {e : Env} {R : Room} {s : State} {m : MethodId} {args : Array Value} {below : List Frame} {meth : Method} {c : Code} {H : Heap} {locs : List Loc} {cells slots : Nat} {Q : State → Prop}
variable {cc : ByteArray} {pc nL : Nat} {ls : Array Slot} {rest st0 : List Value} {own : String} {D : va_G} {tk : Nat → ClassId} {N0 : Nat} {sa : Nat → Nat} {A0 A1 : Nat → Prop}
variable {y : MethodName} {bytes : ByteArray} {maxL mc ms n index : Nat} {ret : Option FieldType} {rm : Room} {F : Heap → Prop} {Qc : Array Value → State → Outcome → State → Prop} {As : List Value} {w0 : Cond} {b : Nat} {a : Array Value}
/-- the receiver: an object one of whose fields is known -/
theorem xf.recv {ci k : Nat} {v : Value} {q : vw_C} (hC : Ctx D tk N0 sa s) (h : xf D ci b k v H) (hc : vwCl[ci]? = some q) : ∃ cell : Cell, H[b]? = some cell ∧ cell.vm.isStatics = false ∧ s.vm.findClass q.1 = some cell.cls := by
  obtain ⟨cell, q1, q2, q3, -⟩ := h
  exact ⟨cell, q1, q3, by rw [q2]; exact (hC.1.1 ci q hc).2.1⟩
/-- an inherited method -/
theorem k_U {C : String} (E : CallFix p m c cc nL s args (w0 :: GW) own) (hC : Ctx D tk N0 sa s) (hS : va_S A0 s.heap H locs) (hA : ∀ q, A0 q → N0 ≤ q) (hl : ls.size = nL) (hrecv : ∃ cell : Cell, H[b]? = some cell ∧ cell.vm.isStatics = false ∧ s.vm.findClass C = some cell.cls)
    (hM : Met l y (wsy y bytes maxL ret) rm (cP D tk N0 sa (.ref b :: As) H.size F) Qc mc ms A1) (w1 : Cond.methodLink own index y ∈ GW) (w6 : Cond.sameMethod y.cls y.cls y.name y.desc ∈ GW) (w2 : Cond.instanceMethod y ∈ GW) (hsel : (Cond.selects C y y).before args s = true) (w5 : Cond.initialized y.cls ∈ GW) (w4 : Cond.code y bytes maxL ret ∈ GW) (hd : okD y n = true) (hlen : As.length = n) (hR : okR rm R maxL mc ms cells slots)
    (hst : st0 = As.reverse ++ .ref b :: rest) (hcat : (rest.map fun v => v.category).sum ≤ 8) (hF : F H) (hdg : decode cc pc = .ok (.invokevirtual index, 3)) :
    va_Run p l e R s m args below meth c H locs cells slots mc ms (F0 m pc ls st0) rest (Qc (Value.ref b :: As).toArray) A1 := by
  have hw : ∀ w ∈ GW, w.before args s = true := fun w h => E.2.2.2.2 _ (List.mem_cons_of_mem _ h)
  have hG : GoodIn (w0 :: GW) (wsy y bytes maxL ret) := gw_in w4
  refine va_runU (n := As.length) (C := C) (owner := y.cls) (x := y) E hM ⟨⟨hR.1.1, hR.1.2, hR.2.1.1, hR.2.1.2, pay_in E.2.2.2.2 hG, List.mem_cons_self⟩, hw _ w4, hw _ w5, ⟨(okD.of hd).1, (okD.of hd).2.1⟩, fun sig h => ?_, hw _ w1, hw _ w6, va_Decl.of (hw _ w2) (hw _ w4), hsel, hw _ w2⟩ ⟨(cP_pre hC hS hA hF).1, hrecv, (cP_pre hC hS hA hF).2⟩ rfl rfl hl hst (lv_room hcat) hdg hR.2.2
  have h2 := (okD.of (hlen ▸ hd)).2.2
  rw [h] at h2
  exact (Option.some.inj h2).symm
/-- a superclass's method -/
theorem k_SU {ci : Nat} {q : vw_C} (hc : vwCl[ci]? = some q) (E : CallFix p m c cc nL s args (w0 :: GW) own) (hC : Ctx D tk N0 sa s) (hS : va_S A0 s.heap H locs) (hA : ∀ q, A0 q → N0 ≤ q) (hl : ls.size = nL) (hrecv : ∃ cell : Cell, H[b]? = some cell ∧ cell.vm.isStatics = false ∧ s.vm.findClass q.1 = some cell.cls)
    (hM : Met l y (wsy y bytes maxL ret) rm (cP D tk N0 sa (.ref b :: As) H.size F) Qc mc ms A1) (w1 : Cond.methodLink own index y ∈ GW) (w6 : Cond.sameMethod y.cls y.cls y.name y.desc ∈ GW) (w7 : Cond.superclass own y.cls ∈ GW) (w2 : Cond.instanceMethod y ∈ GW) (w5 : Cond.initialized y.cls ∈ GW) (w4 : Cond.code y bytes maxL ret ∈ GW) (hno : y.name ≠ "<init>") (hd : okD y n = true) (hlen : As.length = n) (hR : okR rm R maxL mc ms cells slots)
    (hst : st0 = As.reverse ++ .ref b :: rest) (hcat : (rest.map fun v => v.category).sum ≤ 8) (hF : F H) (hdg : decode cc pc = .ok (.invokespecial index, 3)) :
    va_Run p l e R s m args below meth c H locs cells slots mc ms (F0 m pc ls st0) rest (Qc (Value.ref b :: As).toArray) A1 := by
  have hw : ∀ w ∈ GW, w.before args s = true := fun w h => E.2.2.2.2 _ (List.mem_cons_of_mem _ h)
  have hG : GoodIn (w0 :: GW) (wsy y bytes maxL ret) := gw_in w4
  refine va_runSU (n := As.length) (C := q.1) (hC.1.1 ci q hc).2 E hM ⟨⟨hR.1.1, hR.1.2, hR.2.1.1, hR.2.1.2, pay_in E.2.2.2.2 hG, List.mem_cons_self⟩, hw _ w1, hw _ w6, hw _ w7, hw _ w2, hw _ w5, hw _ w4, hno, fun sig h => ?_⟩ ⟨(cP_pre hC hS hA hF).1, hrecv, (cP_pre hC hS hA hF).2⟩ rfl rfl hl hst (lv_room hcat) hdg hR.2.2
  have h2 := (okD.of (hlen ▸ hd)).2.2
  rw [h] at h2
  exact (Option.some.inj h2).symm
end KU
theorem w_nc : Cond.native arraycopyName ∈ GW := gw_t 223 (by decide +kernel) rfl
theorem w_sc : Cond.static arraycopyName ∈ GW := gw_t 222 (by decide +kernel) rfl
theorem w_is : Cond.initialized "java/lang/System" ∈ GW := gw_t 25 (by decide +kernel) rfl
theorem w_cs : Cond.sameMethod "[B" "java/lang/Object" "clone" "()Ljava/lang/Object;" ∈ GW := gw_t 212 (by decide +kernel) rfl
theorem w_cn : Cond.native ⟨"java/lang/Object", "clone", "()Ljava/lang/Object;"⟩ ∈ GW := gw_t 213 (by decide +kernel) rfl
theorem w_ci : Cond.instanceMethod ⟨"java/lang/Object", "clone", "()Ljava/lang/Object;"⟩ ∈ GW := gw_t 214 (by decide +kernel) rfl
theorem w_cl : Cond.selects "[B" ⟨"[B", "clone", "()Ljava/lang/Object;"⟩ ⟨"java/lang/Object", "clone", "()Ljava/lang/Object;"⟩ ∈ GW := gw_t 215 (by decide +kernel) rfl
theorem w_cc : Cond.castable "[B" "java/lang/Cloneable" ∈ tables_1 := List.mem_of_getElem? (i := 216) (by decide +kernel)
section LR7
variable {p : Program} {l : Launch} {e : Env} {R : Room} {s : State} {m : MethodId} {args : Array Value} {below : List Frame} {meth : Method} {c : Code} {H : Heap} {locs : List Loc} {cells slots : Nat} {Q : State → Prop}
variable {cc : ByteArray} {pc nL : Nat} {ls : Array Slot} {rest st0 : List Value} {Ts : List Cond} {own : String} {D : va_G} {tk : Nat → ClassId} {N0 : Nat} {sa : Nat → Nat} {A0 A1 : Nat → Prop} {w0 : Cond}
theorem isArr1 (hC : Ctx D tk N0 sa s) {cell : Cell} (hcl : cell.cls = tk 1) (hst : cell.vm.isStatics = false) : s.isArrayOf cell .byte := by
  obtain ⟨-, k, hk, comp, hkk⟩ := (hC.1.2 1 (tk 1, .byte) rfl).1 0 (fun _ => .null)
  exact ⟨(fun q h => by rw [h] at hst; cases hst), k, by rw [hcl]; exact hk, comp, hkk⟩
theorem r_getX (E : CallFix p m c cc nL s args Ts own) (hC : Ctx D tk N0 sa s) {a ci N index k : Nat} {C ref : String} {T : u_T} {v : Value} (h : xf D ci a k v H) (hc : vwCl[ci]? = some (C, T, N)) (hk : k < N) (hin : ∀ w ∈ u_ws C T N, w ∈ Ts) (hlink : Cond.fieldLink own index ref (T k).2.1 (T k).2.2.1 ∈ Ts) (hsame : ∀ x, s.fieldFound? (T k).1 (T k).2.1 (T k).2.2.1 = some x → s.fieldFound? ref (T k).2.1 (T k).2.2.1 = some x) (hdg : decode cc pc = .ok (.getfield index, 3))
    (kk : W p l e R s m args below meth c H locs cells slots Q (F0 m (pc + 3) ls (v :: rest))) : W p l e R s m args below meth c H locs cells slots Q (F0 m pc ls (.ref a :: rest)) := by
  obtain ⟨cell, q1, q2, q3, q4, q5⟩ := h
  obtain ⟨hS, hfc, kC, hkC, hkind⟩ := hC.1.1 ci _ hc
  obtain ⟨cf, kf, fi, f, hi, hsl⟩ := hS k hk
  refine W.getf E.1 E.2.1 E.2.2.2.1 (E.2.2.2.2 _ hlink) (hsame _ hi) (u_facts hfc hkC (u_lays E.2.2.2.2 hin hk) hi).1 q1 q4 (v := v) ?_ rfl rfl hdg kk
  rw [hsl]
  exact q5
theorem r_alenX (E : CallFix p m c cc nL s args Ts own) (hC : Ctx D tk N0 sa s) {b n : Nat} (h : BX tk b n H) {v : Int32} (hv : nI n = v) (hdg : decode cc pc = .ok (.arraylength, 1))
    (kk : W p l e R s m args below meth c H locs cells slots Q (F0 m (pc + 1) ls (.int v :: rest))) : W p l e R s m args below meth c H locs cells slots Q (F0 m pc ls (.ref b :: rest)) := by
  subst hv
  obtain ⟨f, cell, h1, h2, h3, h4, h5, h6, h7, h8⟩ := h
  exact W.alen (n := Int32.ofNat n) E.1 E.2.1 h2 (isArrX hC h3 h4) h7 rfl rfl hdg kk
theorem r_acpyB (E : CallFix p m c cc nL s args (w0 :: GW) own) (hC : Ctx D tk N0 sa s) (hl : ls.size = nL) {b0 n0 a n1 index : Nat} (h0 : BX tk b0 n0 H) (h1 : BA D tk a n1 H) (hS : va_S A0 s.heap H locs) (hA : A0 a) {sp dp n : Int32} (k1 : ¬ sp < 0) (k2 : ¬ dp < 0) (k3 : ¬ n < 0) (k4 : sp.toNatClampNeg + n.toNatClampNeg ≤ n0) (k5 : dp.toNatClampNeg + n.toNatClampNeg ≤ n1) (w1 : Cond.methodLink own index arraycopyName ∈ GW)
    (hframes : 1 ≤ R.frames) (hcat : (rest.map fun v => v.category).sum ≤ 8) (hlocals : 8 + (nativeFrameWords "java/lang/System" "arraycopy" 5 + 11) ≤ R.locals) (hdg : decode cc pc = .ok (.invokestatic index, 3))
    (kk : ∀ (H1 : Heap) (locs1 : List Loc), BA D tk a n1 H1 → (∀ q, q ≠ a → H1[q]? = H[q]?) → H1.size = H.size → va_S A0 s.heap H1 locs1 → W p l e R s m args below meth c H1 locs1 cells slots Q (F0 m (pc + 3) ls rest)) : W p l e R s m args below meth c H locs cells slots Q (F0 m pc ls (.int n :: .int dp :: .ref a :: .int sp :: .ref b0 :: rest)) := by
  have nn : ∀ z : Int32, ¬ z < 0 → z.toInt = (z.toNatClampNeg : Int) := by
    intro z hz
    have hz0 : (0 : Int) ≤ z.toInt := by
      have := Int32.not_lt.mp hz
      simpa using Int32.le_iff_toInt_le.mp this
    show z.toInt = ((z.toInt.toNat : Nat) : Int)
    omega
  have hw : ∀ w ∈ GW, w.before args s = true := fun w h => E.2.2.2.2 _ (List.mem_cons_of_mem _ h)
  have hb := E.2.1
  intro T hT X
  obtain ⟨f, scr, hf, hs1, hcl, hst, hun, hsz, -, hs5⟩ := h0
  obtain ⟨g, hg, h1⟩ := h1
  have hc1 : H[a]? = some (vp_cell (tk 1) (n1, .inl g)) := h1
  obtain ⟨-, k1', hk1, cm1, hkk1⟩ := (hC.1.2 1 (tk 1, .byte) rfl).1 n1 (fun j => .int (g j))
  obtain ⟨-, k2', hk2', cm2, hkk2⟩ := isArrX hC hcl hst
  obtain ⟨vm', X', step⟩ := X.arraycopy E.1 E.2.2.2.1 (hw _ w1) (hw _ w_nc) (hw _ w_sc) (hw _ w_is) (src := b0) (dst := a) (cs := scr) (cd := vp_cell (tk 1) (n1, .inl g)) (srcPos := sp) (destPos := dp) (n := n) (by rw [hT]; exact hs1) (by rw [hT]; exact hc1)
    (fun q h => by rw [h] at hst; cases hst) (fun _ h => by cases h) hun (fun h => by cases h) hk2' hk1 hkk2 hkk1 (by simp [refKind]) k1 k2 k3
    (by rw [nn sp k1, nn n k3]; omega)
    (by rw [nn dp k2, nn n k3]; show ¬ _ > ((arrV (tk 1) n1 (fun j => .int (g j))).slots.size : Int); rw [arrV_size]; omega)
    (fun vm₁ _ i hi => by
      have e : scr.slots.getD (sp.toNatClampNeg + i) .null = .int (f (sp.toNatClampNeg + i)) := by
        rw [Array.getD_eq_getD_getElem?, hs5 _ (by omega)]
        rfl
      refine ⟨?_, ?_⟩
      · rw [e]
        exact hf _
      · rw [e]
        exact trivial)
    (g := F0 m pc ls (.int n :: .int dp :: .ref a :: .int sp :: .ref b0 :: rest)) rfl (by show ls.size = _; rw [hl]; exact E.2.2.1.symm) (rest := rest) rfl (by rw [hb]; exact hdg) hframes (by show 2 * 0 + _ + _ ≤ _; omega)
  have e1 : copied scr (vp_cell (tk 1) (n1, .inl g)) sp dp n = vp_cell (tk 1) (n1, .inl (va_cpy f g sp.toNatClampNeg dp.toNatClampNeg n.toNatClampNeg)) := va_copiedX (fun z => .int z) scr (tk 1) f g hs5 k4
  rw [e1] at X' step
  have hl2 : a < H.size := (Array.getElem?_eq_some_iff.mp hc1).1
  have hheap : ((T.setVm vm').setCell a (vp_cell (tk 1) (n1, .inl (va_cpy f g sp.toNatClampNeg dp.toNatClampNeg n.toNatClampNeg)))).heap = H.setIfInBounds a (vp_cell (tk 1) (n1, .inl (va_cpy f g sp.toNatClampNeg dp.toNatClampNeg n.toNatClampNeg))) := by rw [← hT]; rfl
  have oq : ∀ q : Nat, q ≠ a → (H.setIfInBounds a (vp_cell (tk 1) (n1, .inl (va_cpy f g sp.toNatClampNeg dp.toNatClampNeg n.toNatClampNeg))))[q]? = H[q]? := fun q hq => by simp [Array.getElem?_setIfInBounds, Ne.symm hq]
  have hl3 : (H.setIfInBounds a (vp_cell (tk 1) (n1, .inl (va_cpy f g sp.toNatClampNeg dp.toNatClampNeg n.toNatClampNeg))))[a]? = some (vp_cell (tk 1) (n1, .inl (va_cpy f g sp.toNatClampNeg dp.toNatClampNeg n.toNatClampNeg))) := by simp [Array.getElem?_setIfInBounds, hl2]
  obtain ⟨t, a1, b1⟩ := kk (H.setIfInBounds a (vp_cell (tk 1) (n1, .inl (va_cpy f g sp.toNatClampNeg dp.toNatClampNeg n.toNatClampNeg)))) _ ⟨_, sb_fitC hf hg, hl3⟩ oq (by simp) ⟨by simp; exact hS.1, fun q g1 g2 => by
      rw [oq q (fun e => g2 (by rw [e]; exact hA))]
      exact hS.2.1 q g1 g2, fun q hq => by
      rcases List.mem_append.mp hq with h | h
      · exact hS.2.2 q h
      · obtain ⟨z, -, hz⟩ := List.mem_map.mp h
        rw [← hz]
        exact hA⟩ _ hheap X'
  exact ⟨t, step t a1, b1⟩
/-- the clone of an array of bytes -/
theorem r_cloneB (E : CallFix p m c cc nL s args (w0 :: GW) own) (hC : Ctx D tk N0 sa s) (hl : ls.size = nL) {a n index : Nat} (h : BA D tk a n H) (hS : va_S A0 s.heap H locs) (w1 : Cond.methodLink own index ⟨"[B", "clone", "()Ljava/lang/Object;"⟩ ∈ GW)
    (hframes : 1 ≤ R.frames) (hcat : (rest.map fun v => v.category).sum ≤ 8) (hlocals : 22 ≤ R.locals) (hcells : cells + 1 ≤ R.cells) (hslots : slots + n ≤ R.slots) (hdg : decode cc pc = .ok (.invokevirtual index, 3))
    (kk : ∀ (q : Nat) (H1 : Heap), q = H.size → BA D tk q n H1 → (∀ x : Nat, x < H.size → H1[x]? = H[x]?) → va_S A0 s.heap H1 locs → W p l e R s m args below meth c H1 locs (cells + 1) (slots + n) Q (F0 m (pc + 3) ls (.ref q :: rest))) : W p l e R s m args below meth c H locs cells slots Q (F0 m pc ls (.ref a :: rest)) := by
  have hw : ∀ w ∈ GW, w.before args s = true := fun w h => E.2.2.2.2 _ (List.mem_cons_of_mem _ h)
  obtain ⟨f, hf, h⟩ := h
  have hc : H[a]? = some (vp_cell (tk 1) (n, .inl f)) := h
  have hb := E.2.1
  have hK := hC.1
  have hnm : s.vm.findClass "[B" = some (tk 1) := (hK.2 1 (tk 1, .byte) rfl).2
  have hsz : (vp_cell (tk 1) (n, .inl f)).slots.size = n := arrV_size _ _ _
  obtain ⟨c0, t0', f1, f2, f3⟩ := Cond.castable_spec (va_Nw.use (A := args) rfl (hC.2.2.2.1 _ w_cc rfl))
  cases hnm.symm.trans f1
  intro T hT X
  have hcellT : T.heap[a]? = some (vp_cell (tk 1) (n, .inl f)) := by rw [hT]; exact hc
  obtain ⟨-, kA, hkA, comp, hkind⟩ := State.isArrayOf_alike X.warmed.alike ((hK.2 1 (tk 1, .byte) rfl).1 0 (fun _ => .null))
  obtain ⟨-, kS, hkS, compS, hkindS⟩ := (hK.2 1 (tk 1, .byte) rfl).1 0 (fun _ => .null)
  obtain ⟨vm', X', st⟩ := X.cloneArray E.1 E.2.2.2.1 (hw _ w1) (hw _ w_cs) (hw _ w_cn) (hw _ w_ci) (hw _ w_cl) (a := a) (cell := vp_cell (tk 1) (n, .inl f)) hcellT (fun k h => by cases h) (fun h => by cases h) hnm f2 f3
    (fun i v hv => by
      have hk' : T.vm.classes[tk 1]? = some kA := hkA
      have hv2 : fits .byte v = true := va_fit (n := n) (F := fun j => .int (f j)) (fun i _ => hf i) i v hv
      show T.fitsSlot (tk 1) _ i v = true
      simpa [State.fitsSlot, State.slotType?, hk', hkind] using hv2)
    (g := F0 m pc ls (.ref a :: rest)) rfl (by show ls.size = _; rw [hl]; exact E.2.2.1.symm) rfl (by rw [hb]; exact hdg) hframes (by show 2 * 0 + _ + 14 ≤ _; omega) hcells (by rw [hsz]; exact hslots) (hloader := Vm.clonesLoader_of_array hkS hkindS)
  have hcellE : ({ cls := (vp_cell (tk 1) (n, .inl f)).cls, slots := (vp_cell (tk 1) (n, .inl f)).slots } : Cell) = vp_cell (tk 1) (n, .inl f) := rfl
  rw [hcellE, hsz] at X'
  generalize hH1 : H.push (vp_cell (tk 1) (n, .inl f)) = H1
  have z1 : H1.size = H.size + 1 := by rw [← hH1, Array.size_push]
  have e1 : H1[H.size]? = some (vp_cell (tk 1) (n, .inl f)) := by rw [← hH1, Array.getElem?_push_size]
  have o1 : ∀ q : Nat, q < H.size → H1[q]? = H[q]? := fun q hq => by rw [← hH1, Array.getElem?_push, if_neg (Nat.ne_of_lt hq)]
  obtain ⟨t, b1, b2⟩ := kk H.size H1 rfl ⟨f, hf, e1⟩ o1 ⟨Nat.le_trans hS.1 (by omega), fun y h1 h2 => (o1 y (Nat.lt_of_lt_of_le h1 hS.1)).trans (hS.2.1 y h1 h2), hS.2.2⟩
    ((T.setVm vm').pushCell (vp_cell (tk 1) (n, .inl f))) (by rw [← hH1, ← hT]; rfl) X'
  refine ⟨t, st t ?_, b2⟩
  rw [hcellE, hT]
  exact b1
theorem r_castB (E : CallFix p m c cc nL s args (w0 :: GW) own) (hC : Ctx D tk N0 sa s) {a n index : Nat} (h : BA D tk a n H) (w1 : Cond.classLink own index "[B" ∈ GW) (hdg : decode cc pc = .ok (.checkcast index, 3))
    (k : W p l e R s m args below meth c H locs cells slots Q (F0 m (pc + 3) ls (.ref a :: rest))) : W p l e R s m args below meth c H locs cells slots Q (F0 m pc ls (.ref a :: rest)) := by
  obtain ⟨f, hf, h⟩ := h
  exact va_castA E.1 E.2.1 E.2.2.2.1 (E.2.2.2.2 _ (List.mem_cons_of_mem _ w1)) h.P 0 rfl (hC.1.2 1 (tk 1, .byte) rfl).2 hdg k
end LR7
/-! what a StringBuilder grows to, and what that costs -/
def sbC (cap q : Nat) : Nat := if q ≤ cap then cap else max q (2 * cap + 2)
def sbK (cap q : Nat) : Nat := if q ≤ cap then 0 else 1
def sbS (cap q : Nat) : Nat := if q ≤ cap then 0 else max q (2 * cap + 2)
theorem sbC_ge (cap q : Nat) : q ≤ sbC cap q ∧ cap ≤ sbC cap q := by
  unfold sbC
  split <;> omega
/-- how many letters a whole number takes -/
def ndg : Nat → Nat → Nat
  | 0, _ => 1
  | f + 1, m => if m < 10 then 1 else ndg f (m / 10) + 1
theorem ndg_eq : ∀ (f k m : Nat), k ≤ f → m < 10 ^ (k + 1) → (k = 0 ∨ 10 ^ k ≤ m) → ndg f m = k + 1 := by
  intro f
  induction f with
  | zero =>
    intro k m h _ _
    have : k = 0 := by omega
    subst this
    rfl
  | succ f ih =>
    intro k m h h1 h2
    cases k with
    | zero => exact if_pos (by simpa using h1)
    | succ k =>
      have h2 : 10 ^ (k + 1) ≤ m := h2.resolve_left (by omega)
      have e1 : 10 ^ (k + 1) = 10 ^ k * 10 := Nat.pow_succ 10 k
      have e2 : 10 ^ (k + 1 + 1) = 10 ^ (k + 1) * 10 := Nat.pow_succ 10 (k + 1)
      have hp : 0 < 10 ^ k := Nat.pow_pos (by decide)
      show (if m < 10 then 1 else ndg f (m / 10) + 1) = k + 1 + 1
      rw [if_neg (by omega), ih k (m / 10) (by omega) (by omega) (by omega)]
theorem ndg_pos (f m : Nat) : 1 ≤ ndg f m := by
  cases f with
  | zero => exact Nat.le_refl 1
  | succ f =>
    unfold ndg
    split <;> omega
theorem ndg_le : ∀ f m, ndg f m ≤ f + 1 := by
  intro f
  induction f with
  | zero => intro m; exact Nat.le_refl 1
  | succ f ih =>
    intro m
    show (if m < 10 then 1 else ndg f (m / 10) + 1) ≤ _
    split
    · omega
    · have := ih (m / 10)
      omega
theorem nI_ne9 {a b : Nat} (h : a ≠ b) (ha : a < 2 ^ 31) (hb : b < 2 ^ 31) : ¬ nI a = nI b := fun z => h ((nI_eq ha hb).mp z)
theorem f_min9 {a b : Nat} (h : a < b) (hb : b < 2 ^ 31) : f_min (nI a) (nI b) = nI a := if_neg (nI_nlt (Nat.le_of_lt h) hb)
theorem f_minr {a b : Nat} (h : b ≤ a) (ha : a < 2 ^ 31) : f_min (nI a) (nI b) = nI b := by
  unfold f_min
  split
  · rfl
  · rename_i h1
    rcases Nat.lt_or_ge b a with z | z
    · exact absurd (nI_lt z ha) h1
    · have : a = b := by omega
      rw [this]
theorem ens_le {x1 x2 mn : Int32} {cap mk : Nat} (h1 : x1 = nI cap) (h2 : x2 = x1 >>> (0 &&& 31)) (hm : mn = nI mk) (hc : cap ≤ 1000000) (hk : mk ≤ 1000000) : mn - x2 ≤ 0 ↔ mk ≤ cap := by
  have e2 : x2.toInt = (cap : Int) := by rw [h2, sb_shr0, h1]; exact nI_toIntS (by omega)
  have em : mn.toInt = (mk : Int) := by rw [hm]; exact nI_toIntS (by omega)
  have e3 : (mn - x2).toInt = (mk : Int) - cap := by
    rw [Int32.toInt_sub, e2, em]
    simp only [Int.bmod]
    split <;> omega
  rw [Int32.le_iff_toInt_le, e3, Int32.toInt_zero]
  omega
theorem can9 {k : Nat} (h : k < 256) : ¬ f_can (nI k) = 0 := by
  unfold f_can
  rw [if_neg (show ¬ (255 : Int32) < nI k from nI_nlt (b := k) (a := 255) (by omega) (by decide))]
  decide
theorem sbC_lt (cap q : Nat) : sbC cap q ≤ q + 2 * cap + 2 := by
  unfold sbC
  split <;> omega
def dgI (x : Int32) : Nat := ndg 19 x.toInt.natAbs + (if x < 0 then 1 else 0)
def dgJ (x : Int64) : Nat := ndg 19 x.toInt.natAbs + (if x < 0 then 1 else 0)
theorem dgI_k {x : Int32} {k : Nat} (h1 : 1 ≤ k) (h2 : k ≤ 10) (h3 : x.toInt.natAbs < 10 ^ k) (h4 : k = 1 ∨ 10 ^ (k - 1) ≤ x.toInt.natAbs) : dgI x = k + (if x < 0 then 1 else 0) := by
  obtain ⟨j, rfl⟩ : ∃ j, k = j + 1 := ⟨k - 1, by omega⟩
  unfold dgI
  rw [ndg_eq 19 j _ (by omega) h3 (h4.elim (fun z => Or.inl (by omega)) (fun z => Or.inr z))]
theorem dgJ_k {x : Int64} {k : Nat} (h1 : 1 ≤ k) (h2 : k ≤ 19) (h3 : x.toInt.natAbs < 10 ^ k) (h4 : k = 1 ∨ 10 ^ (k - 1) ≤ x.toInt.natAbs) : dgJ x = k + (if x < 0 then 1 else 0) := by
  obtain ⟨j, rfl⟩ : ∃ j, k = j + 1 := ⟨k - 1, by omega⟩
  unfold dgJ
  rw [ndg_eq 19 j _ (by omega) h3 (h4.elim (fun z => Or.inl (by omega)) (fun z => Or.inr z))]
theorem SSI.eq {x r : Int32} (h : SSI x r) : r = nI (dgI x) := by
  obtain ⟨k, h1, h2, h3, h4, h5⟩ := h
  rw [dgI_k h1 h2 h3 h4]
  exact h5
theorem SSJ.eq {x : Int64} {r : Int32} (h : SSJ x r) : r = nI (dgJ x) := by
  obtain ⟨k, h1, h2, h3, h4, h5⟩ := h
  rw [dgJ_k h1 h2 h3 h4]
  exact h5
theorem dgI_le (x : Int32) : dgI x ≤ 21 := by
  have := ndg_le 19 x.toInt.natAbs
  unfold dgI
  split <;> omega
theorem dgJ_le (x : Int64) : dgJ x ≤ 21 := by
  have := ndg_le 19 x.toInt.natAbs
  unfold dgJ
  split <;> omega
theorem SX.cl {D : va_G} {tk : Nat → ClassId} {a n : Nat} {H : Heap} (h : SX D tk a n H) : clA a (D.1 0) H := h.elim fun _ z => z.1.cl
theorem SX.old {D : va_G} {tk : Nat → ClassId} {a n : Nat} {H H1 : Heap} (h : SX D tk a n H) (hq : ∀ q : Nat, q < H.size → H1[q]? = H[q]?) : SX D tk a n H1 := h.kept (P := fun _ => False) (fun q hl _ => hq q hl) id (fun _ _ _ => id)
theorem SX.keep1 {D : va_G} {tk : Nat → ClassId} {a n w : Nat} {H H1 : Heap} (h : SX D tk a n H) (hk : ∀ q : Nat, q < H.size → ¬ inA1 w H.size q → H1[q]? = H[q]?) (ha : a ≠ w) (hb : ∀ b n, BX tk b n H → b ≠ w) : SX D tk a n H1 :=
  h.kept (P := inA1 w H.size) hk (inA1.not ha h.lt) (fun b m z => inA1.not (hb b m z) z.lt)
theorem SX.recv {D : va_G} {tk : Nat → ClassId} {N0 : Nat} {sa : Nat → Nat} {s : State} {a n : Nat} {H : Heap} (h : SX D tk a n H) (hC : Ctx D tk N0 sa s) : ∃ cell : Cell, H[a]? = some cell ∧ cell.vm.isStatics = false ∧ s.vm.findClass "java/lang/String" = some cell.cls := h.elim fun _ z => xf.recv hC z.1 (q := (RJ0, TJ0, 4)) rfl
/-- a String constant -/
theorem Ctx.str {D : va_G} {tk : Nat → ClassId} {N0 : Nat} {sa : Nat → Nat} {s : State} {A0 : Nat → Prop} {H : Heap} {locs : List Loc} (hC : Ctx D tk N0 sa s) (hS : va_S A0 s.heap H locs) (hA : ∀ q, A0 q → N0 ≤ q) (j : Nat) (q : String × Nat × String × List Int32) (hj : strK[j]? = some q) (hf : ∀ x ∈ q.2.2.2, fits .byte (.int x) = true) : SX D tk (sa (10 + j)) q.2.2.2.length H := by
  obtain ⟨-, hO, hc, hv, hT⟩ := hC.2.2.2.2.1 j q hj
  have hj16 : j < 16 := (List.getElem?_eq_some_iff.mp hj).1
  have hB := hC.xt.2.2.1 j hj16
  obtain ⟨hSl, hfc, -⟩ := hC.1.1 0 (RJ0, TJ0, 4) rfl
  have keep : ∀ a : Nat, a < s.heap.size → ¬ NA N0 a → H[a]? = s.heap[a]? := fun a h1 h2 => hS.2.1 a h1 (fun z => h2 (hA a z))
  obtain ⟨c0, o1, o2, o3, o4⟩ := hO.kept keep
  have fld : ∀ (k : Nat) (v : Value), k < 4 → va_OF "java/lang/String" (TJ0 k).2.1 (TJ0 k).2.2.1 v (sa (10 + j)) (NA N0) s s.heap → (TJ0 k).1 = "java/lang/String" → xf D 0 (sa (10 + j)) k v H := by
    intro k v hk h h0
    obtain ⟨cf, kf, i, f, cell, p1, p2, p3, p4, p5, -⟩ := h.kept keep
    obtain ⟨cf', kf', fi', f', hi', hs'⟩ := hSl k hk
    have hi' : s.fieldFound? "java/lang/String" (TJ0 k).2.1 (TJ0 k).2.2.1 = some (cf', kf', fi', f') := by rw [← h0]; exact hi'
    cases p1.symm.trans hi'
    cases o1.symm.trans p3
    refine ⟨c0, o1, ?_, o2, p4, ?_⟩
    · exact (Option.some.inj (hfc.symm.trans o3)).symm
    · rw [← hs']; exact p5
  refine ⟨sa (40 + j), fld 0 _ (by decide) hv rfl, fld 1 _ (by decide) hc rfl, ?_⟩
  obtain ⟨cell, t1, t2, t3, t4, t5, t6, -⟩ := hT.kept keep
  obtain ⟨cb, b0, b2, b3, -, b5⟩ := hB
  have b1 : H[sa (40 + j)]? = some cb := (keep _ (Array.getElem?_eq_some_iff.mp b0).1 b5).trans b0
  cases t1.symm.trans b1
  refine ⟨fun i => if h : i < q.2.2.2.length then q.2.2.2[i] else 0, cell, fun i => ?_, t1, Or.inr ⟨j, hj16, b3⟩, b2, t3, t4, t5, fun i hi => ?_⟩
  · by_cases h : i < q.2.2.2.length
    · simp only [dif_pos h]
      exact hf _ (List.getElem_mem h)
    · simp only [dif_neg h]
      rfl
  · rw [t6 i hi]
    simp only [dif_pos hi]
    simp [List.getD_eq_getElem?_getD, List.getElem?_eq_getElem hi]
section LR8
variable {p : Program} {l : Launch} {e : Env} {R : Room} {s : State} {m : MethodId} {args : Array Value} {below : List Frame} {meth : Method} {c : Code} {H : Heap} {locs : List Loc} {cells slots : Nat} {Q : State → Prop}
variable {cc : ByteArray} {pc nL : Nat} {ls : Array Slot} {rest st0 : List Value} {Ts : List Cond} {own : String} {D : va_G} {tk : Nat → ClassId} {N0 : Nat} {sa : Nat → Nat} {A0 A1 : Nat → Prop} {w0 : Cond}
theorem r_bret (E : CallFix p m c cc nL s args Ts own) (hr : meth.sig.returnType = some .byte) (hlk : meth.locks = false) (hS : va_S A0 s.heap H locs) {mc ms : Nat} (hc : cells ≤ mc) (hs : slots ≤ ms) {v : Int32} {Rr : Int32 → Heap → Prop} (hn : narrow .byte (.int v) = .int v) (hR : Rr v H) (hdg : decode cc pc = .ok (.ireturn, 1)) : W p l e R s m args below meth c H locs cells slots (MQ below (kQi Rr A0) args s mc ms A0) (F0 m pc ls [.int v]) :=
  W.widen hc hs (W.zret E.1 E.2.1 hr hn (fun t ht _ => ⟨⟨v, H, rfl, hR, ht⟩, hS.F ht⟩) hS.2.2 hdg hlk)
theorem r_ldcwS (E : CallFix p m c cc nL s args Ts own) (hC : Ctx D tk N0 sa s) (j : Nat) (q : String × Nat × String × List Int32) (hj : strK[j]? = some q) (ho : q.1 = own) {index : Nat} (hi : q.2.1 = index) (hdg : decode cc pc = .ok (.ldc_w index, 3))
    (k : W p l e R s m args below meth c H locs cells slots Q (F0 m (pc + 3) ls (.ref (sa (10 + j)) :: rest))) : W p l e R s m args below meth c H locs cells slots Q (F0 m pc ls rest) := by
  obtain ⟨hR, -⟩ := hC.2.2.2.2.1 j q hj
  rw [ho, hi] at hR
  have hexec := E.1
  have hdg2 : decode c.code (F0 m pc ls rest).pc = .ok (.ldc_w index, 3) := by rw [E.2.1]; exact hdg
  intro T hT X
  obtain ⟨t, a1, b1⟩ := k T hT X
  refine ⟨t, ?_, b1⟩
  obtain ⟨k0, cf, i, a', hk, hcf, hcp, -, hr, hev'⟩ := Cond.stringRef_spec (args := #[]) E.2.2.2.1 hR.1
  cases hR.2.symm.trans hev'
  obtain ⟨k', hk', he⟩ := X.warmed.alike.2.2 _ _ hk
  have hr' : k'.resolved[index]? = some (some (.string (sa (10 + j)))) := by
    rcases X.warmed.entry hk hk' index with h | ⟨h, -⟩
    · rw [h]; exact hr
    · rw [hr] at h; cases h
  jvm_step X.here [hexec, hdg2, ldc_w.wp_string (e := e) (s := T) (f := F0 m pc ls rest) X.here.top hk' (by rw [he]; exact hcf) hcp hr']
  exact a1
end LR8
section KUO
variable {p : Program} {l : Launch} {e : Env} {R : Room} {s : State} {m : MethodId} {args : Array Value} {below : List Frame} {meth : Method} {c : Code} {H : Heap} {locs : List Loc} {cells slots : Nat} {Q : State → Prop}
variable {cc : ByteArray} {pc nL : Nat} {ls : Array Slot} {rest st0 : List Value} {own : String} {D : va_G} {tk : Nat → ClassId} {N0 : Nat} {sa : Nat → Nat} {A0 A1 : Nat → Prop}
variable {x y : MethodName} {bytes b0 : ByteArray} {maxL m0 mc ms n index : Nat} {ret r0 : Option FieldType} {rm : Room} {F : Heap → Prop} {Qc : Array Value → State → Outcome → State → Prop} {As : List Value} {w0 : Cond} {b : Nat} {a : Array Value}
/-- an overriding method -/
theorem k_UO {C : String} (E : CallFix p m c cc nL s args (w0 :: GW) own) (hC : Ctx D tk N0 sa s) (hS : va_S A0 s.heap H locs) (hA : ∀ q, A0 q → N0 ≤ q) (hl : ls.size = nL) (hrecv : ∃ cell : Cell, H[b]? = some cell ∧ cell.vm.isStatics = false ∧ s.vm.findClass C = some cell.cls)
    (hM : Met l y (wsy y bytes maxL ret) rm (cP D tk N0 sa (.ref b :: As) H.size F) Qc mc ms A1) (w1 : Cond.methodLink own index x ∈ GW) (w6 : Cond.sameMethod x.cls x.cls x.name x.desc ∈ GW) (w7 : Cond.instanceMethod x ∈ GW) (w8 : Cond.code x b0 m0 r0 ∈ GW) (w2 : Cond.instanceMethod y ∈ GW) (hsel : Cond.selects C x y ∈ GW) (w5 : Cond.initialized y.cls ∈ GW) (w4 : Cond.code y bytes maxL ret ∈ GW) (hd : okD x n = true) (hlen : As.length = n) (hR : okR rm R maxL mc ms cells slots)
    (hst : st0 = As.reverse ++ .ref b :: rest) (hcat : (rest.map fun v => v.category).sum ≤ 8) (hF : F H) (hdg : decode cc pc = .ok (.invokevirtual index, 3)) :
    va_Run p l e R s m args below meth c H locs cells slots mc ms (F0 m pc ls st0) rest (Qc (Value.ref b :: As).toArray) A1 := by
  have hw : ∀ w ∈ GW, w.before args s = true := fun w h => E.2.2.2.2 _ (List.mem_cons_of_mem _ h)
  have hG : GoodIn (w0 :: GW) (wsy y bytes maxL ret) := gw_in w4
  refine va_runU (n := As.length) (C := C) (owner := x.cls) (x := x) E hM ⟨⟨hR.1.1, hR.1.2, hR.2.1.1, hR.2.1.2, pay_in E.2.2.2.2 hG, List.mem_cons_self⟩, hw _ w4, hw _ w5, ⟨(okD.of hd).1, (okD.of hd).2.1⟩, fun sig h => ?_, hw _ w1, hw _ w6, va_Decl.of (hw _ w7) (hw _ w8), hw _ hsel, hw _ w2⟩ ⟨(cP_pre hC hS hA hF).1, hrecv, (cP_pre hC hS hA hF).2⟩ rfl rfl hl hst (lv_room hcat) hdg hR.2.2
  have h2 := (okD.of (hlen ▸ hd)).2.2
  rw [h] at h2
  exact (Option.some.inj h2).symm
end KUO
