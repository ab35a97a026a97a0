/-! METHODS THAT CATCH -/
abbrev wsH_ (y : MethodName) (b : ByteArray) (n : Nat) (r : Option FieldType) (hh : List (Nat × Nat × Nat × Nat)) : List Cond := .codeWith y b n r hh :: lw_all
abbrev nots : List (String × String) := [("java/lang/IllegalStateException", "java/lang/IllegalArgumentException"), ("java/lang/IndexOutOfBoundsException", "java/lang/IllegalArgumentException"), ("java/lang/IllegalArgumentException", "java/lang/IndexOutOfBoundsException"), ("java/util/NoSuchElementException", "java/lang/IndexOutOfBoundsException")]
def amN (U : State) : Prop := ∀ C T : String, (C, T) ∈ nots → va_Nc C T U
def PrN (D : va_G) (cy : Nat → ClassId) (sa : Nat → Nat) (z0 : Nat) (ws : va_W) (sz : Nat) (U : State) : Prop := Pr D cy sa z0 ws sz U ∧ amN U
theorem MC {l : Launch} {y : MethodName} {b : ByteArray} {n : Nat} {r : Option FieldType} {hh : List (Nat × Nat × Nat × Nat)} {rm : Room} {av : List Value} {D : va_G} {cy : Nat → ClassId} {sa : Nat → Nat} {z0 : Nat} {W0 : va_W} {sz mc ms : Nat} {Qf : (Nat → Prop) → Array Value → State → Outcome → State → Prop}
    (hy : plainFor y = true) (hn : (lg_sl av).length ≤ n)
    (body : ∀ (p : Program) (e : Env) (s : State) (m : MethodId) (below : List Frame) (meth : Method) (c : Code) (A : Nat → Prop) (ls : Array Slot) (H : Heap), p.tables.exec = Jvm.exec → c.code = b → c.maxLocals = n → meth.sig.returnType = r → meth.locks = false → s.vm.findClass y.cls = some m.cls → meth.name = y.name → c.exceptionTable.toList = tableOf hh → (∀ C T : String, (C, T) ∈ nots → va_Nc C T s) →
      (∀ w ∈ lw_all, w.before av.toArray s = true) → amb D cy sa z0 s → (∀ q, s.heap.size ≤ q → A q) → (∀ q, A q → z0 ≤ q) → va_P D vwCl W0 H → va_D A W0 → va_S A s.heap H [] → lv_has ls n (lv_args 0 av) →
      W p l e rm s m av.toArray below meth c H [] 0 0 (MQ below (Qf A) av.toArray s mc ms A) (F0 m 0 ls [])) : Met l y (wsH_ y b n r hh) rm (va_Pc av (PrN D cy sa z0 W0 sz)) (Qf (va_A W0 sz)) mc ms (va_A W0 sz) := by
  refine MetFree.of_bodySF (code := b) (maxLocals := n) (ret := r) hy ?_ ?_
  · intro args s m h hn'
    obtain ⟨m9, meth, c, hn9, h1, h2, h3, h4, -, h5, h6, -⟩ := Cond.codeWith_spec (atoms_spec (ws := wsH_ y b n r hh) h _ List.mem_cons_self)
    cases hn'.symm.trans hn9
    exact ⟨meth, c, h1, h2, h3, h4, h5, h6⟩
  · intro p e s m args below meth c s₁ B hml hP _
    have hh0 : s₁.heap = s.heap := by rw [B.state]; rfl
    obtain ⟨rfl, ⟨hG, hsz, hPw, hD0⟩, hN⟩ := hP
    have hts := atoms_spec (ws := wsH_ y b n r hh) B.pre
    have htab := vx_table (x := y) B (hts _ List.mem_cons_self)
    subst hsz
    have key := body p e s m below meth c (va_A W0 s.heap.size) _ s.heap B.exec B.bytes hml B.returns B.notSynchronized (findClass_of_methodNamed B.named) (name_of_methodNamed B.named B.method).1 htab hN (fun w h => hts w (List.mem_cons_of_mem _ h)) hG (fun q h => Or.inr h) (fun q h => by
      rcases h with ⟨k, e, h⟩ | h
      · exact hD0.2 k (q, e) h
      · exact Nat.le_trans hG.1 h) hPw hD0.self va_S.rf (lv_entry av hn)
    rw [← lg_entry_eq] at key
    obtain ⟨t, a1, o, b1, b2, b3⟩ := key s₁ hh0 (Stand.of_body B)
    exact ⟨t, o, a1, b1, b2, ⟨b3.1, b3.2⟩⟩
def catX {α β : Type} (x : Option (α ⊕ String)) (f : String → Option β) (k : α → Option β) : Option β := match x with
  | none => none
  | some (.inl v) => k v
  | some (.inr E) => f E
theorem catX_some {α β : Type} {x : Option (α ⊕ String)} {f : String → Option β} {k : α → Option β} {o : β} (h : catX x f k = some o) : (∃ v, x = some (.inl v) ∧ k v = some o) ∨ ∃ E, x = some (.inr E) ∧ f E = some o := by
  cases x with
  | none => cases h
  | some y => cases y with
    | inl v => exact Or.inl ⟨v, rfl, h⟩
    | inr E => exact Or.inr ⟨E, rfl, h⟩
def sumE {α : Type} (f : String → Prop) (k : α → Prop) : α ⊕ String → Prop
  | .inl v => k v
  | .inr E => f E
section CALLWX
variable {p : Program} {l : Launch} {e : Env} {R : Room} {s : State} {m : MethodId} {args : Array Value} {below : List Frame} {meth : Method} {c : Code} {H : Heap} {locs : List Loc} {cells slots : Nat} {Q : State → Prop}
variable {pc : Nat} {ls : Array Slot} {rest st0 : List Value} {a : Array Value} {A0 : Nat → Prop} {H0 : Heap} {mc ms : Nat} {D : va_G} {X xc pl : va_W} {S : Type} {X1 P1 : S → va_W}
theorem clwx_i {f : String → Prop} {g : Int32 × S → Prop} (hr : vx_Run p l e R s m args below meth c H locs cells slots mc ms (F0 m pc ls st0) rest (HI D (sumE f g) (fun u => X1 u ++ P1 u) (va_A (xc ++ pl) H.size) a) (XG D (sumE f g) (xc ++ pl) (va_A (xc ++ pl) H.size)) (va_A (xc ++ pl) H.size)) (hP : va_P D vwCl (X ++ pl) H) (hD : va_D A0 (X ++ pl)) (hS : va_S A0 H0 H locs) (hA : ∀ q, H0.size ≤ q → A0 q) (is : List Nat) (hC : is.map (fun i => X[i]?) = xc.map some) (hn : va_nd is = true) (ha : ∀ u, (X1 u).map Prod.fst = xc.map Prod.fst)
    (kk : ∀ v : Int32 × S, g v → ∀ (H1 : Heap) (locs1 : List Loc), va_P D vwCl (wput X is (X1 v.2) ++ P1 v.2) H1 → va_D A0 (wput X is (X1 v.2) ++ P1 v.2) → va_S A0 H0 H1 locs1 → W p l e R s m args below meth c H1 locs1 (cells + mc) (slots + ms) Q (F0 m (pc + 3) ls (.int v.1 :: rest)))
    (kx : ∀ (E : String), f E → ∀ (ce : Cell) (q9 : Addr) (H1 : Heap) (locs1 : List Loc), va_P D vwCl (wput X is xc ++ pl) H1 → va_D A0 (wput X is xc ++ pl) → va_S A0 H0 H1 locs1 → H1[q9]? = some ce → ce.vm = .none → s.vm.findClass E = some ce.cls → vx_W p l e R s m args below meth c H1 locs1 (cells + mc) (slots + ms) Q (F0 m pc ls rest) q9) : W p l e R s m args below meth c H locs cells slots Q (F0 m pc ls st0) := by
  have hF := va_freeP hD hS hA is hC
  refine vx_calli hr hS (fun q _ h => hF q h) hF (fun q _ h => hF q h) (fun E ce q9 u t H1 locs1 ht hvm hu hB hz hk hS1 c1 c2 c3 => ?_) (fun r u t H1 locs1 ht hvm hw hB hz hk hS1 => ?_)
  · obtain ⟨hP1, hD1⟩ := wputP_ok hP hD is hC hn rfl hk hF (by rw [← ht]; exact hB.2.1) hB.2.2
    exact kx E hB.1 ce q9 H1 locs1 hP1 hD1 hS1 c1 c2 c3
  · obtain ⟨hP1, hD1⟩ := wputP_ok hP hD is hC hn (ha u) hk hF (by rw [← ht]; exact hB.1) hB.2
    exact kk (r, u) hw H1 locs1 hP1 hD1 hS1
end CALLWX
theorem mem_nots {a b : String} (h : (nots.contains (a, b)) = true) : (a, b) ∈ nots := List.contains_iff_mem.mp h
