theorem CW.obj {D : va_G} {tk : Nat → ClassId} {ad : Nat → Nat} {g : CS} {H : Heap} (h : CW D tk ad g H) : c1 D (ad 15) (.inr (11, [.ref (ad 16), .ref (ad 17), .ref (ad 21), .int (tI g 0), .int (tI g 1), .ref (ad 6), .ref (ad 7), .ref (ad 8), .ref (ad 19)])) H := h 15 (by decide)
theorem CW.row {D : va_G} {tk : Nat → ClassId} {ad : Nat → Nat} {g : CS} {H : Heap} (h : CW D tk ad g H) : c1 D (ad 16) (.inl (tk 2, 6, .inr (.inr (.inr (.inr (fun k => some (ad k))))))) H := h 16 (by decide)
theorem CW.tal {D : va_G} {tk : Nat → ClassId} {ad : Nat → Nat} {g : CS} {H : Heap} (h : CW D tk ad g H) : c1 D (ad 21) (.inr (9, [.ref (ad 9), .ref (ad 10), .ref (ad 11), .ref (ad 12), .ref (ad 13), .ref (ad 14), .int (tI g 2), .int (tI g 3)])) H := h 21 (by decide)
theorem CW.tm {D : va_G} {tk : Nat → ClassId} {ad : Nat → Nat} {g : CS} {H : Heap} (h : CW D tk ad g H) {j : Nat} (hj : j < 2) : c1 D (ad (17 + 2 * j)) (.inr (10, [.ref (ad (18 + 2 * j)), .int (tC g j)])) H := by
  match j, hj with
  | 0, _ => exact h 17 (by decide)
  | 1, _ => exact h 19 (by decide)
theorem CW.vl {D : va_G} {tk : Nat → ClassId} {ad : Nat → Nat} {g : CS} {H : Heap} (h : CW D tk ad g H) {j : Nat} (hj : j < 2) : c1 D (ad (18 + 2 * j)) (.inl (tk 0, 64, .inr (.inl (tV g j)))) H := by
  match j, hj with
  | 0, _ => exact h 18 (by decide)
  | 1, _ => exact h 20 (by decide)
theorem CW.setC {D : va_G} {tk : Nat → ClassId} {N0 : Nat} {ad : Nat → Nat} {g : CS} {H H1 : Heap} (h : CW D tk ad g H) (hd : ADok N0 ad) {j : Nat} (hj : j < 2) {v : Int32} (h1 : c1 D (ad (17 + 2 * j)) (.inr (10, [.ref (ad (18 + 2 * j)), .int v])) H1) (ho : ∀ q, q ≠ ad (17 + 2 * j) → H1[q]? = H[q]?) : CW D tk ad (uC g j v) H1 := by
  match j, hj with
  | 0, _ => exact h.upd hd (i := 17) (by decide) h1 rfl ho (fun k hk hki => by unfold cwE; split <;> first | rfl | exact absurd rfl hki)
  | 1, _ => exact h.upd hd (i := 19) (by decide) h1 rfl ho (fun k hk hki => by unfold cwE; split <;> first | rfl | exact absurd rfl hki)
theorem CW.setV {D : va_G} {tk : Nat → ClassId} {N0 : Nat} {ad : Nat → Nat} {g : CS} {H H1 : Heap} (h : CW D tk ad g H) (hd : ADok N0 ad) {j : Nat} (hj : j < 2) {k : Nat} {v : Int64} (h1 : c1 D (ad (18 + 2 * j)) (.inl (tk 0, 64, .inr (.inl (vp_updL (tV g j) k v)))) H1) (ho : ∀ q, q ≠ ad (18 + 2 * j) → H1[q]? = H[q]?) : CW D tk ad (uV g j k v) H1 := by
  match j, hj with
  | 0, _ => exact h.upd hd (i := 18) (by decide) h1 rfl ho (fun k hk hki => by unfold cwE; split <;> first | rfl | exact absurd rfl hki)
  | 1, _ => exact h.upd hd (i := 20) (by decide) h1 rfl ho (fun k hk hki => by unfold cwE; split <;> first | rfl | exact absurd rfl hki)
theorem CW.setO {D : va_G} {tk : Nat → ClassId} {N0 : Nat} {ad : Nat → Nat} {g : CS} {H H1 : Heap} (h : CW D tk ad g H) (hd : ADok N0 ad) {j : Nat} (hj : j < 2) {v : Int32} (h1 : c1 D (ad 15) (.inr (11, [.ref (ad 16), .ref (ad 17), .ref (ad 21), .int (tI (uI g j v) 0), .int (tI (uI g j v) 1), .ref (ad 6), .ref (ad 7), .ref (ad 8), .ref (ad 19)])) H1) (ho : ∀ q, q ≠ ad 15 → H1[q]? = H[q]?) : CW D tk ad (uI g j v) H1 := by
  match j, hj with
  | 0, _ => exact h.upd hd (i := 15) (by decide) h1 rfl ho (fun k hk hki => by unfold cwE; split <;> first | rfl | exact absurd rfl hki)
  | 1, _ => exact h.upd hd (i := 15) (by decide) h1 rfl ho (fun k hk hki => by unfold cwE; split <;> first | rfl | exact absurd rfl hki)
theorem CW.setY {D : va_G} {tk : Nat → ClassId} {N0 : Nat} {ad : Nat → Nat} {g : CS} {H H1 : Heap} (h : CW D tk ad g H) (hd : ADok N0 ad) {j : Nat} (hj : 2 ≤ j) (hj4 : j < 4) {v : Int32} (h1 : c1 D (ad 21) (.inr (9, [.ref (ad 9), .ref (ad 10), .ref (ad 11), .ref (ad 12), .ref (ad 13), .ref (ad 14), .int (tI (uI g j v) 2), .int (tI (uI g j v) 3)])) H1) (ho : ∀ q, q ≠ ad 21 → H1[q]? = H[q]?) : CW D tk ad (uI g j v) H1 := by
  match j, hj, hj4 with
  | 2, _, _ => exact h.upd hd (i := 21) (by decide) h1 rfl ho (fun k hk hki => by unfold cwE; split <;> first | rfl | exact absurd rfl hki)
  | 3, _, _ => exact h.upd hd (i := 21) (by decide) h1 rfl ho (fun k hk hki => by unfold cwE; split <;> first | rfl | exact absurd rfl hki)
theorem CW.new {D : va_G} {tk : Nat → ClassId} {ad : Nat → Nat} {g : CS} {H H1 : Heap} (h : CW D tk ad g H) (hk : ∀ q : Nat, q < H.size → ¬ nwA H.size q → H1[q]? = H[q]?) : CW D tk ad g H1 := h.kept (fun k hk9 => hk _ (h k hk9).lt (Nat.not_le.mpr (h k hk9).lt))
theorem CW.to {D : va_G} {tk : Nat → ClassId} {ad : Nat → Nat} {g g1 : CS} {H : Heap} (h : CW D tk ad g H) (e : g = g1) : CW D tk ad g1 H := e ▸ h
theorem c1.new {D : va_G} {a : Nat} {e : va_E} {H H1 : Heap} (h : c1 D a e H) (hk : ∀ q : Nat, q < H.size → ¬ nwA H.size q → H1[q]? = H[q]?) : c1 D a e H1 := h.kept (hk _ h.lt (Nat.not_le.mpr h.lt))
section LR2
variable {p : Program} {l : Launch} {e : Env} {R : Room} {s : State} {m : MethodId} {args : Array Value} {below : List Frame} {meth : Method} {c : Code} {H : Heap} {locs : List Loc} {cells slots : Nat} {Q : State → Prop}
variable {cc : ByteArray} {pc nL : Nat} {ls : Array Slot} {rest st0 : List Value} {Ts : List Cond} {own : String} {D : va_G} {tk : Nat → ClassId} {N0 : Nat} {sa : Nat → Nat} {A0 A1 : Nat → Prop}
/-- a nest mate's private field -/
theorem r_getN (host : String) (E : CallFix p m c cc nL s args Ts own) (hC : Ctx D tk N0 sa s) {a ci N index : Nat} {fs : List Value} {C ref : String} {T : u_T} (h : c1 D a (.inr (ci, fs)) H) (k : Nat) {v : Value} (hv : fs[k]? = some v) (hc : vwCl[ci]? = some (C, T, N)) (hk : k < N) (hin : ∀ w ∈ u_ws C T N, w ∈ Ts) (hlink : Cond.fieldLinkNest own index ref (T k).2.1 (T k).2.2.1 host ∈ tables_1) (hsame : ∀ x, s.fieldFound? (T k).1 (T k).2.1 (T k).2.2.1 = some x → s.fieldFound? ref (T k).2.1 (T k).2.2.1 = some x) (hdg : decode cc pc = .ok (.getfield index, 3))
    (kk : W p l e R s m args below meth c H locs cells slots Q (F0 m (pc + 3) ls (v :: rest))) : W p l e R s m args below meth c H locs cells slots Q (F0 m pc ls (.ref a :: rest)) :=
  va_getN (host := host) E.1 E.2.1 E.2.2.2.2 hin E.2.2.2.1 hC.1 h.P 0 rfl hc k hk (va_Nw.use rfl (hC.2.2.2.1 _ hlink rfl)) hsame hv hdg kk
/-- arrays of longs -/
theorem r_alen (E : CallFix p m c cc nL s args Ts own) (hC : Ctx D tk N0 sa s) {a : Nat} {cA : ClassId} {x : vp_A} {ty : FieldType} (h : c1 D a (.inl (cA, x)) H) (t0 : Nat) (ht : (tyG tk)[t0]? = some (cA, ty)) {v : Int32} (hv : Int32.ofNat x.1 = v) (hdg : decode cc pc = .ok (.arraylength, 1))
    (kk : W p l e R s m args below meth c H locs cells slots Q (F0 m (pc + 1) ls (.int v :: rest))) : W p l e R s m args below meth c H locs cells slots Q (F0 m pc ls (.ref a :: rest)) :=
  va_alen E.1 E.2.1 hC.1 h.P 0 t0 rfl ht hv hdg kk
theorem r_lald (E : CallFix p m c cc nL s args Ts own) (hC : Ctx D tk N0 sa s) {a n : Nat} {f : Nat → Int64} (h : c1 D a (.inl (tk 0, n, .inr (.inl f))) H) {i : Int32} (hin : vp_in i n) (hdg : decode cc pc = .ok (.laload, 1))
    (kk : W p l e R s m args below meth c H locs cells slots Q (F0 m (pc + 1) ls (.long (f i.toNatClampNeg) :: rest))) : W p l e R s m args below meth c H locs cells slots Q (F0 m pc ls (.int i :: .ref a :: rest)) :=
  va_lald E.1 E.2.1 hC.1 h.P 0 0 rfl rfl hin hdg kk
/-- a static array's reference and its numbers: POWERS_OF_TEN -/
theorem r_p10 (E : CallFix p m c cc nL s args Ts own) (hC : Ctx D tk N0 sa s) (hS : va_S A0 s.heap H locs) (hA : ∀ q, A0 q → N0 ≤ q) {index : Nat} {ref : String} (hlink : Cond.fieldLink own index ref "POWERS_OF_TEN" "[J" ∈ Ts) (hsame : ∀ x, s.fieldFound? "Bestratios" "POWERS_OF_TEN" "[J" = some x → s.fieldFound? ref "POWERS_OF_TEN" "[J" = some x) (hdg : decode cc pc = .ok (.getstatic index, 3))
    (kk : W p l e R s m args below meth c H locs cells slots Q (F0 m (pc + 3) ls (.ref (sa 0) :: rest))) : W p l e R s m args below meth c H locs cells slots Q (F0 m pc ls rest) :=
  va_gets E.1 E.2.1 (hC.2.2.1.1.1.narrow hA) hS E.2.2.2.1 (E.2.2.2.2 _ hlink) hsame hdg kk
end LR2
