section LR3
variable {p : Program} {l : Launch} {e : Env} {R : Room} {s : State} {m : MethodId} {args : Array Value} {below : List Frame} {meth : Method} {c : Code} {H : Heap} {locs : List Loc} {cells slots : Nat} {Q : State → Prop}
variable {cc : ByteArray} {pc nL : Nat} {ls : Array Slot} {rest st0 : List Value} {Ts : List Cond} {own : String} {D : va_G} {tk : Nat → ClassId} {N0 : Nat} {sa : Nat → Nat} {A0 A1 : Nat → Prop}
theorem r_putN (host : String) (E : CallFix p m c cc nL s args Ts own) (hC : Ctx D tk N0 sa s) {a ci N index : Nat} {fs : List Value} {C ref : String} {T : u_T} (h : c1 D a (.inr (ci, fs)) H) (hS : va_S A0 s.heap H locs) (hA : A0 a) (k : Nat) (ty0 : Nat → FieldType) (hty : ∀ k, k < N → parseFieldDescriptor (T k).2.2.1 = some (ty0 k)) (hnm : ∀ a, a < N → ∀ b, b < N → a ≠ b → (T a).2.1 ≠ (T b).2.1) (hc : vwCl[ci]? = some (C, T, N)) (hk : k < N) (hl : k < fs.length) (hin : ∀ w ∈ u_ws C T N, w ∈ Ts) (hlink : Cond.fieldLinkNest own index ref (T k).2.1 (T k).2.2.1 host ∈ tables_1) (hsame : ∀ x, s.fieldFound? (T k).1 (T k).2.1 (T k).2.2.1 = some x → s.fieldFound? ref (T k).2.1 (T k).2.2.1 = some x) (hfin : (T k).2.2.2 = false) {v : Value} (hn : narrow (ty0 k) v = v) (hfit : fits (ty0 k) v = true)
    (hdg : decode cc pc = .ok (.putfield index, 3)) (kk : ∀ (H1 : Heap) (locs1 : List Loc), c1 D a (.inr (ci, fs.set k v)) H1 → va_S (fun q => A0 q) s.heap H1 locs1 → W p l e R s m args below meth c H1 locs1 cells slots Q (F0 m (pc + 3) ls rest)) : W p l e R s m args below meth c H locs cells slots Q (F0 m pc ls (v :: .ref a :: rest)) := by
  refine va_putN (host := host) E.1 E.2.1 E.2.2.2.2 hin ty0 hty hnm E.2.2.2.1 hC.1 h.P (A := A0) ⟨fun i j p q hi hj _ => ?_, fun k q hk => ?_⟩ hS 0 rfl hc k hk (va_Nw.use rfl (hC.2.2.2.1 _ hlink rfl)) hsame hfin (hty k hk) hn hfit hl hdg (fun H1 locs1 hP _ hS1 => kk H1 locs1 (hP 0 _ rfl) hS1)
  · have := (List.getElem?_eq_some_iff.mp hi).1; have := (List.getElem?_eq_some_iff.mp hj).1; simp at *; omega
  · match k, hk with
    | 0, hk => cases hk; exact hA
    | k + 1, hk => simp at hk
/-- a store into an array of longs -/
theorem r_last (E : CallFix p m c cc nL s args Ts own) (hC : Ctx D tk N0 sa s) {a n : Nat} {f : Nat → Int64} (h : c1 D a (.inl (tk 0, n, .inr (.inl f))) H) (hS : va_S A0 s.heap H locs) (hA : A0 a) {i : Int32} {x : Int64} (hin : vp_in i n) (hdg : decode cc pc = .ok (.lastore, 1))
    (kk : ∀ (H1 : Heap) (locs1 : List Loc), c1 D a (.inl (tk 0, n, .inr (.inl (vp_updL f i.toNatClampNeg x)))) H1 → (∀ q, q ≠ a → H1[q]? = H[q]?) → H1.size = H.size → va_S A0 s.heap H1 locs1 → W p l e R s m args below meth c H1 locs1 cells slots Q (F0 m (pc + 1) ls rest)) : W p l e R s m args below meth c H locs cells slots Q (F0 m pc ls (.long x :: .int i :: .ref a :: rest)) := by
  have hK := hC.1
  refine W.last E.1 E.2.1 h ((hK.2 0 (tk 0, .long) rfl).1 n (fun j => .long (f j))) (fun q => by cases q) (by show ¬ (i < 0 ∨ (arrV _ _ _).slots.size ≤ _); rw [arrV_size]; exact hin) rfl rfl hdg fun H1 e z oq => ?_
  refine kk H1 _ ?_ oq z (hS.put z oq hA)
  show H1[a]? = some (vp_cell _ _)
  rw [e]
  rw [vp_cell_l, vp_cell_l, arrV_store]
  congr 2
  funext q
  by_cases hq : q = i.toNatClampNeg <;> simp [updV, vp_updL, hq]
/-- a reference out of the row of RATIOS -/
theorem r_aald (E : CallFix p m c cc nL s args Ts own) (hC : Ctx D tk N0 sa s) {a n : Nat} {ad : Nat → Nat} (h : c1 D a (.inl (tk 2, n, .inr (.inr (.inr (.inr (fun k => some (ad k))))))) H) {i : Int32} (hin : vp_in i n) (hdg : decode cc pc = .ok (.aaload, 1))
    (kk : W p l e R s m args below meth c H locs cells slots Q (F0 m (pc + 1) ls (.ref (ad i.toNatClampNeg) :: rest))) : W p l e R s m args below meth c H locs cells slots Q (F0 m pc ls (.int i :: .ref a :: rest)) :=
  va_aldq E.1 E.2.1 hC.1 h.P 0 2 rfl rfl hin hdg kk
theorem r_aret (E : CallFix p m c cc nL s args Ts own) {rt : FieldType} (hr : meth.sig.returnType = some rt) (hrt : (∃ n, rt = .object n) ∨ ∃ t, rt = .array t) (hlk : meth.locks = false) (hS : va_S A0 s.heap H locs) {mc ms : Nat} (hc : cells ≤ mc) (hs : slots ≤ ms) {v : Nat} {Rr : Nat → Heap → Prop} (hR : Rr v H) (hdg : decode cc pc = .ok (.areturn, 1)) : W p l e R s m args below meth c H locs cells slots (MQ below (kQr Rr A0) args s mc ms A0) (F0 m pc ls [.ref v]) :=
  W.widen hc hs (W.aret E.1 E.2.1 hr hrt (Or.inr ⟨v, rfl⟩) (fun t ht _ => ⟨⟨H, v, rfl, trivial, ht, hR⟩, hS.F ht⟩) hS.2.2 hdg hlk)
end LR3
