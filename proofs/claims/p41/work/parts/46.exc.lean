/-! METHODS THAT THROW: out of o, an answer or the class of what is thrown; a throw leaves the world as it was -/
abbrev XO {T : Type} (D : va_G) (o : T ⊕ String) (W0 : va_W) (A : Nat → Prop) : String → State → State → Prop := vx_X (S := Unit) (fun _ => True) (fun E _ t => o = Sum.inr E ∧ Wo D W0 A t) A
abbrev YI {S : Type} (D : va_G) (o : (Int32 × S) ⊕ String) (W1 : S → va_W) (A : Nat → Prop) := va_Qi (fun (r : Int32) (u : S) => Sum.inl (r, u) = o) (fun u => Wo D (W1 u) A) A
abbrev YL {S : Type} (D : va_G) (o : (Int64 × S) ⊕ String) (W1 : S → va_W) (A : Nat → Prop) := va_Ql (fun (r : Int64) (u : S) => Sum.inl (r, u) = o) (fun u => Wo D (W1 u) A) A
abbrev YF {S : Type} (D : va_G) (o : (UInt32 × S) ⊕ String) (W1 : S → va_W) (A : Nat → Prop) := va_Qf (fun (r : UInt32) (u : S) => Sum.inl (r, u) = o) (fun u => Wo D (W1 u) A) A
abbrev YD {S : Type} (D : va_G) (o : (UInt64 × S) ⊕ String) (W1 : S → va_W) (A : Nat → Prop) := va_Qd (fun (r : UInt64) (u : S) => Sum.inl (r, u) = o) (fun u => Wo D (W1 u) A) A
abbrev YQ {S : Type} (D : va_G) (o : (Option Nat × S) ⊕ String) (W1 : S → va_W) (A : Nat → Prop) := va_Qq (fun (r : Option Nat) (u : S) => Sum.inl (r, u) = o) (fun u => Wo D (W1 u) A) A
abbrev YV {S : Type} (D : va_G) (o : S ⊕ String) (W1 : S → va_W) (A : Nat → Prop) := va_Qv (fun (u : S) => Sum.inl u = o) (fun u => Wo D (W1 u) A) A
def bindX {α β : Type} (x : Option (α ⊕ String)) (k : α → Option (β ⊕ String)) : Option (β ⊕ String) := match x with
  | none => none
  | some (.inl v) => k v
  | some (.inr E) => some (.inr E)
theorem bindX_some {α β : Type} {x : Option (α ⊕ String)} {k : α → Option (β ⊕ String)} {o : β ⊕ String} (h : bindX x k = some o) : (∃ v, x = some (.inl v) ∧ k v = some o) ∨ ∃ E, x = some (.inr E) ∧ some (Sum.inr E) = some o := by
  cases x with
  | none => cases h
  | some y => cases y with
    | inl v => exact Or.inl ⟨v, rfl, h⟩
    | inr E => exact Or.inr ⟨E, rfl, h⟩
theorem MX {l : Launch} {y : MethodName} {b : ByteArray} {n : Nat} {r : Option FieldType} {rm : Room} {av : List Value} {D : va_G} {cy : Nat → ClassId} {sa : Nat → Nat} {z0 : Nat} {W0 : va_W} {sz mc ms : Nat} {Qf : (Nat → Prop) → Array Value → State → Outcome → State → Prop} {Xf : (Nat → Prop) → String → State → State → Prop}
    (hy : plainName y.cls = true) (hn : (lg_sl av).length ≤ n)
    (body : ∀ (p : Program) (e : Env) (s : State) (m : MethodId) (below : List Frame) (meth : Method) (c : Code) (A : Nat → Prop) (ls : Array Slot) (H : Heap), p.tables.exec = Jvm.exec → c.code = b → c.maxLocals = n → meth.sig.returnType = r → meth.locks = false → s.vm.findClass y.cls = some m.cls → meth.name = y.name → (∀ x ∈ c.exceptionTable.toList, False) →
      (∀ w ∈ lw_all, w.before av.toArray s = true) → amb D cy sa z0 s → (∀ q, s.heap.size ≤ q → A q) → (∀ q, A q → z0 ≤ q) → va_P D vwCl W0 H → va_D A W0 → va_S A s.heap H [] → lv_has ls n (lv_args 0 av) →
      W p l e rm s m av.toArray below meth c H [] 0 0 (vx_MQ below (Qf A) (Xf A) av.toArray s mc ms A) (F0 m 0 ls [])) : vx_Met l y (ws_ y b n r) rm (va_Pc av (Pr D cy sa z0 W0 sz)) (Qf (va_A W0 sz)) (Xf (va_A W0 sz)) mc ms (va_A W0 sz) := by
  refine vx_ofW (cc := b) (maxL := n) (ret := r) hy rfl ?_
  intro p e s m args below meth c s₁ B hml hno hv
  obtain ⟨rfl, hG, hsz, hP, hD0⟩ := hv
  have hts := atoms_spec (ws := ws_ y b n r) B.pre
  subst hsz
  rw [lg_entry_eq]
  refine body p e s m below meth c (va_A W0 s.heap.size) _ s.heap B.exec B.bytes hml B.returns B.notSynchronized (findClass_of_methodNamed B.named) (name_of_methodNamed B.named B.method).1 hno (fun w h => hts w (List.mem_cons_of_mem _ h)) hG (fun q h => Or.inr h) (fun q h => ?_) hP hD0.self va_S.rf (lv_entry av hn)
  rcases h with ⟨k, e, h⟩ | h
  · exact hD0.2 k (q, e) h
  · exact Nat.le_trans hG.1 h
theorem amb_U {D cy sa z0} {s : State} (h : amb D cy sa z0 s) : vx_Zq Bundle.tN "UNASSIGNED_STACK" Bundle.steD (zA z0) s s.heap := h.2.2.2.1.1.2.2.2.2.1
theorem amb_V {D cy sa z0} {s : State} (h : amb D cy sa z0 s) : vx_Zq Bundle.tN "SUPPRESSED_SENTINEL" Bundle.listD (zA z0) s s.heap := h.2.2.2.1.1.2.2.2.2.2
def atOk (own : String) (ic : Nat) (cls : String) (names : List String) : Bool := (vx_atS own ic cls names).all fun w => decide (w ∈ lw_tbl) && (goodWord w || (w.onTables && nwk w))
theorem atOk_at {own : String} {ic : Nat} {cls : String} {names : List String} (h : atOk own ic cls names = true) {D cy sa z0} {s : State} {args : Array Value} (hG : amb D cy sa z0 s) (hts : ∀ w ∈ lw_all, w.before args s = true) : ∀ w ∈ vx_atS own ic cls names, w.before args s = true := by
  intro w hw
  have h1 := List.all_eq_true.mp h w hw
  simp only [Bool.and_eq_true, Bool.or_eq_true, decide_eq_true_eq] at h1
  rcases h1.2 with h2 | h2
  · exact hts w (lw_all_in h1.1 h2)
  · exact va_Nw.use h2.1 (hG.2.2.1 w h1.1 h2.1 h2.2)
theorem atOk_ot {own : String} {ic : Nat} {cls : String} {names : List String} (h : atOk own ic cls names = true) : ∀ w ∈ vx_atS own ic cls names, vx_ot w = true := by
  intro w hw
  have h1 := List.all_eq_true.mp h w hw
  simp only [Bool.and_eq_true, Bool.or_eq_true, decide_eq_true_eq] at h1
  simp only [vx_ot, Bool.or_eq_true]
  exact h1.2.elim Or.inr (fun h2 => Or.inl h2.1)
theorem at_IAE : atOk RX8 71 "java/lang/IllegalArgumentException" ["java/lang/RuntimeException", "java/lang/Exception"] = true := by decide +kernel
theorem at_ISE : atOk RX8 82 "java/lang/IllegalStateException" ["java/lang/RuntimeException", "java/lang/Exception"] = true := by decide +kernel
theorem at_IOOBE : atOk RX8 243 "java/lang/IndexOutOfBoundsException" ["java/lang/RuntimeException", "java/lang/Exception"] = true := by decide +kernel
theorem at_AE : atOk RX8 279 "java/lang/ArithmeticException" ["java/lang/RuntimeException", "java/lang/Exception"] = true := by decide +kernel
section THROWS
variable {p : Program} {l : Launch} {e : Env} {R : Room} {s : State} {m : MethodId} {args : Array Value} {below : List Frame} {meth : Method} {c : Code} {H : Heap} {locs : List Loc} {cells slots : Nat} {Q : State → Prop}
variable {cc : ByteArray} {pc : Nat} {ls : Array Slot} {rest st0 : List Value} {a : Array Value} {A0 A : Nat → Prop} {H0 : Heap} {mc ms : Nat} {D : va_G} {cy : Nat → ClassId} {sa : Nat → Nat} {z0 : Nat} {ws wc : va_W} {S T : Type} {W1 : S → va_W} {Qc : Array Value → State → Outcome → State → Prop}
theorem th_S {cls text : String} {names : List String} {ik is ic : Nat} {o : T ⊕ String} (hx : p.tables.exec = Jvm.exec) (hb : c.code = cc) (hst : l.stackTraces = false) (hown : s.vm.findClass RX8 = some m.cls) (hfit : Bundle.fit cls = true) (hnames : ∀ n ∈ names, Bundle.fit n = true)
    (hk : Cond.classLink RX8 ik cls ∈ lw_all) (hini : Cond.initialized cls ∈ lw_all) (htx : Cond.stringRef RX8 is text ∈ lw_tbl) (hat : atOk RX8 ic cls names = true)
    (hG : amb D cy sa z0 s) (hts : ∀ w ∈ lw_all, w.before args s = true) (hS : va_S A s.heap H locs) (hZ : ∀ q, A q → z0 ≤ q) (hP : va_P D vwCl ws H) (hD : va_D A ws) (hsize : ls.size = c.maxLocals)
    (d0 : decode cc pc = .ok (.new ik, 3)) (d3 : decode cc (pc + 3) = .ok (.dup, 1)) (d4 : decode cc (pc + 4) = .ok (.ldc is, 2)) (d6 : decode cc (pc + 6) = .ok (.invokespecial ic, 3)) (d9 : decode cc (pc + 9) = .ok (.athrow, 1))
    (hno : ∀ x ∈ c.exceptionTable.toList, False) (hf : names.length + 3 < R.frames) (hlo : (rest.map fun v => v.category).sum + (13 * (names.length + 1) + 43) ≤ R.locals) (hce : cells + 1 ≤ R.cells) (hsl : slots + 6 ≤ R.slots) (hlocks : meth.locks = false) (ho : o = Sum.inr cls) (hc : cells + 1 ≤ mc) (hs : slots + 6 ≤ ms) :
    W p l e R s m args below meth c H locs cells slots (vx_MQ below Qc (XO D o ws A) args s mc ms A) (F0 m pc ls rest) := by
  obtain ⟨sx, hsx⟩ := hG.2.2.2.2.1 is text htx
  refine vx_throwS (names := names) (A := A) hx hb hst hown hfit hnames (hts _ hk) (hts _ hini) hsx (atOk_at hat hG hts) (fun w hw => ?_) ((amb_U hG).narrow hZ) ((amb_V hG).narrow hZ) hS hsize d0 d3 d4 d6 d9 (fun x h => (hno x h).elim) hf hlo hce hsl hlocks (fun t ha hz hk2 => ?_) hS.2.2 hc hs
  · rcases List.mem_cons.mp hw with rfl | hw
    · rfl
    · rcases List.mem_cons.mp hw with rfl | hw
      · rfl
      · exact atOk_ot hat w hw
  · refine ⟨(), trivial, ⟨ho, hP.kept (fun k q hq => hk2 _ (hP k q hq).lt), hD⟩, ⟨Nat.le_trans hS.1 hz, fun q h1 h2 => (hk2 q (Nat.lt_of_lt_of_le h1 hS.1)).trans (hS.2.1 q h1 h2)⟩⟩
theorem th_SW {cls text : String} {names : List String} {ik is ic : Nat} {o : T ⊕ String} (hx : p.tables.exec = Jvm.exec) (hb : c.code = cc) (hst : l.stackTraces = false) (hown : s.vm.findClass RX8 = some m.cls) (hfit : Bundle.fit cls = true) (hnames : ∀ n ∈ names, Bundle.fit n = true)
    (hk : Cond.classLink RX8 ik cls ∈ lw_all) (hini : Cond.initialized cls ∈ lw_all) (htx : Cond.stringRef RX8 is text ∈ lw_tbl) (hat : atOk RX8 ic cls names = true)
    (hG : amb D cy sa z0 s) (hts : ∀ w ∈ lw_all, w.before args s = true) (hS : va_S A s.heap H locs) (hZ : ∀ q, A q → z0 ≤ q) (hP : va_P D vwCl ws H) (hD : va_D A ws) (hsize : ls.size = c.maxLocals)
    (d0 : decode cc pc = .ok (.new ik, 3)) (d3 : decode cc (pc + 3) = .ok (.dup, 1)) (d4 : decode cc (pc + 4) = .ok (.ldc_w is, 3)) (d7 : decode cc (pc + 7) = .ok (.invokespecial ic, 3)) (d10 : decode cc (pc + 10) = .ok (.athrow, 1))
    (hno : ∀ x ∈ c.exceptionTable.toList, False) (hf : names.length + 3 < R.frames) (hlo : (rest.map fun v => v.category).sum + (13 * (names.length + 1) + 43) ≤ R.locals) (hce : cells + 1 ≤ R.cells) (hsl : slots + 6 ≤ R.slots) (hlocks : meth.locks = false) (ho : o = Sum.inr cls) (hc : cells + 1 ≤ mc) (hs : slots + 6 ≤ ms) :
    W p l e R s m args below meth c H locs cells slots (vx_MQ below Qc (XO D o ws A) args s mc ms A) (F0 m pc ls rest) := by
  obtain ⟨sx, hsx⟩ := hG.2.2.2.2.1 is text htx
  refine vx_throwSW (names := names) (A := A) hx hb hst hown hfit hnames (hts _ hk) (hts _ hini) hsx (atOk_at hat hG hts) (fun w hw => ?_) ((amb_U hG).narrow hZ) ((amb_V hG).narrow hZ) hS hsize d0 d3 d4 d7 d10 (fun x h => (hno x h).elim) hf hlo hce hsl hlocks (fun t ha hz hk2 => ?_) hS.2.2 hc hs
  · rcases List.mem_cons.mp hw with rfl | hw
    · rfl
    · rcases List.mem_cons.mp hw with rfl | hw
      · rfl
      · exact atOk_ot hat w hw
  · refine ⟨(), trivial, ⟨ho, hP.kept (fun k q hq => hk2 _ (hP k q hq).lt), hD⟩, ⟨Nat.le_trans hS.1 hz, fun q h1 h2 => (hk2 q (Nat.lt_of_lt_of_le h1 hS.1)).trans (hS.2.1 q h1 h2)⟩⟩
theorem th_on {E : String} {ce : Cell} {q : Nat} {o : T ⊕ String} (hno : ∀ x ∈ c.exceptionTable.toList, False) (hlocks : meth.locks = false) (h1 : H[q]? = some ce) (h2 : ce.vm = .none) (h3 : s.vm.findClass E = some ce.cls) (ho : o = Sum.inr E) (hP : va_P D vwCl ws H) (hD : va_D A ws) (hS : va_S A s.heap H locs) (hc : cells ≤ mc) (hs : slots ≤ ms) :
    vx_W p l e R s m args below meth c H locs cells slots (vx_MQ below Qc (XO D o ws A) args s mc ms A) (F0 m pc ls rest) q :=
  vx_out (fun x h => (hno x h).elim) hlocks h1 h2 h3 (fun t ht _ => ⟨(), trivial, ⟨ho, by rw [ht]; exact hP, hD⟩, hS.F ht⟩) hS.2.2 hc hs
end THROWS
