/-! CALLS OF METHODS THAT MAY THROW -/
section
variable {p : Program} {l : Launch} {e : Env} {R : Room} {s : State} {m : MethodId} {args : Array Value} {below : List Frame} {meth : Method} {c : Code} {H : Heap} {locs : List Loc} {cells slots : Nat} {Q : State → Prop}
variable {mc ms : Nat} {free : Addr → Prop} {A0 A1 : Nat → Prop} {H0 : Heap} {a : Array Value} {pc : Nat} {ls : Array Slot} {st0 rest : List Value}
theorem vx_callq {S SX : Type} {post : Option Nat → S → Prop} {px : SX → Prop} {B : S → State → Prop} {BX : String → SX → State → Prop} {AX : Nat → Prop} (hr : vx_Run p l e R s m args below meth c H locs cells slots mc ms (F0 m pc ls st0) rest (va_Qq post B A1 a) (vx_X px BX AX) free) (hS : va_S A0 H0 H locs) (hA : ∀ q, q < H.size → A1 q → A0 q) (hf : ∀ q, free q → A0 q) (hAX : ∀ q, q < H.size → AX q → A0 q)
    (kx : ∀ (E : String) (ce : Cell) (q9 : Addr) (u : SX) (t : State) (H1 : Heap) (locs1 : List Loc), t.heap = H1 → s.vm.Alike t.vm → px u → BX E u t → H.size ≤ H1.size → (∀ q : Nat, q < H.size → ¬ AX q → H1[q]? = H[q]?) → va_S A0 H0 H1 locs1 → H1[q9]? = some ce → ce.vm = .none → s.vm.findClass E = some ce.cls → vx_W p l e R s m args below meth c H1 locs1 (cells + mc) (slots + ms) Q (F0 m pc ls rest) q9)
    (kk : ∀ (r : Option Nat) (u : S) (t : State) (H1 : Heap) (locs1 : List Loc), t.heap = H1 → s.vm.Alike t.vm → post r u → B u t → H.size ≤ H1.size → (∀ q : Nat, q < H.size → ¬ A1 q → H1[q]? = H[q]?) → va_S A0 H0 H1 locs1 → W p l e R s m args below meth c H1 locs1 (cells + mc) (slots + ms) Q (F0 m (pc + 3) ls (va_rf r :: rest))) : W p l e R s m args below meth c H locs cells slots Q (F0 m pc ls st0) := by
  intro T hT X
  rcases hr T hT X with ⟨v, st₀, t, T', L, h0, X', hL, e1, e2, ⟨⟨r, u, hv, hp, hb⟩, hF⟩, st⟩ | ⟨q, st₀, t, T', L, E, ce, h0, X', hL, e1, e2, ⟨u, hp, hb, hF⟩, hce, hcv, hcl, st⟩
  · cases hv
    obtain ⟨k1, k2, k3⟩ := vx_keep h0 e1 hS hA hf hL hF
    obtain ⟨t2, a1, b1⟩ := kk r u t T'.heap (locs ++ L) e1.symm (by rw [← e2]; exact X'.warmed.alike) hp hb k1 k2 k3 T' rfl X'
    exact ⟨t2, st t2 a1, b1⟩
  · obtain ⟨k1, k2, k3⟩ := vx_keep h0 e1 hS hAX hf hL hF
    obtain ⟨t2, a1, b1⟩ := kx E ce q u t T'.heap (locs ++ L) e1.symm (by rw [← e2]; exact X'.warmed.alike) hp hb k1 k2 k3 (by rw [e1]; exact hce) hcv hcl T' rfl X'
    exact ⟨t2, st.trans a1, b1⟩
end
section CALLSX
variable {p : Program} {l : Launch} {e : Env} {R : Room} {s : State} {m : MethodId} {args : Array Value} {below : List Frame} {meth : Method} {c : Code} {H : Heap} {locs : List Loc} {cells slots : Nat} {Q : State → Prop}
variable {pc : Nat} {ls : Array Slot} {rest st0 : List Value} {a : Array Value} {A0 : Nat → Prop} {H0 : Heap} {mc ms : Nat} {D : va_G} {ws wc X xc pl : va_W} {S : Type} {W1 X1 P1 : S → va_W}
theorem clx_v {o : S ⊕ String} (hr : vx_Run p l e R s m args below meth c H locs cells slots mc ms (F0 m pc ls st0) rest (YV D o W1 (va_A wc H.size) a) (XO D o wc (va_A wc H.size)) (va_A wc H.size)) (hP : va_P D vwCl ws H) (hD : va_D A0 ws) (hS : va_S A0 H0 H locs) (hA : ∀ q, H0.size ≤ q → A0 q) (is : List Nat) (hC : is.map (fun i => ws[i]?) = wc.map some) (hn : va_nd is = true) (ha : (∀ u : S, (W1 u).map Prod.fst = wc.map Prod.fst))
    (kk : ∀ (u : S), Sum.inl u = o → ∀ (H1 : Heap) (locs1 : List Loc), va_P D vwCl (wput ws is (W1 u)) H1 → va_D A0 (wput ws is (W1 u)) → va_S A0 H0 H1 locs1 → W p l e R s m args below meth c H1 locs1 (cells + mc) (slots + ms) Q (F0 m (pc + 3) ls rest))
    (kx : ∀ (E : String), o = Sum.inr E → ∀ (ce : Cell) (q9 : Addr) (H1 : Heap) (locs1 : List Loc), va_P D vwCl (wput ws is wc) H1 → va_D A0 (wput ws is wc) → va_S A0 H0 H1 locs1 → H1[q9]? = some ce → ce.vm = .none → s.vm.findClass E = some ce.cls → vx_W p l e R s m args below meth c H1 locs1 (cells + mc) (slots + ms) Q (F0 m pc ls rest) q9) : W p l e R s m args below meth c H locs cells slots Q (F0 m pc ls st0) := by
  have hF := va_free hD hS hA is hC
  refine vx_callv hr hS (fun q _ h => hF q h) hF (fun q _ h => hF q h) (fun E ce q9 u t H1 locs1 ht hvm hu hB hz hk hS1 c1 c2 c3 => ?_) (fun u t H1 locs1 ht hvm hw hB hz hk hS1 => ?_)
  · obtain ⟨hP1, hD1⟩ := wput_ok hP hD is hC hn rfl hk (by rw [← ht]; exact hB.2.1)
    exact kx E hB.1 ce q9 H1 locs1 hP1 hD1 hS1 c1 c2 c3
  · obtain ⟨hP1, hD1⟩ := wput_ok hP hD is hC hn (ha u) hk (by rw [← ht]; exact hB.1)
    exact kk u hw H1 locs1 hP1 hD1 hS1
theorem clxP_v {o : S ⊕ String} (hr : vx_Run p l e R s m args below meth c H locs cells slots mc ms (F0 m pc ls st0) rest (YV D o (fun u => X1 u ++ P1 u) (va_A (xc ++ pl) H.size) a) (XO D o (xc ++ pl) (va_A (xc ++ pl) H.size)) (va_A (xc ++ pl) H.size)) (hP : va_P D vwCl (X ++ pl) H) (hD : va_D A0 (X ++ pl)) (hS : va_S A0 H0 H locs) (hA : ∀ q, H0.size ≤ q → A0 q) (is : List Nat) (hC : is.map (fun i => X[i]?) = xc.map some) (hn : va_nd is = true) (ha : (∀ u : S, (X1 u).map Prod.fst = xc.map Prod.fst))
    (kk : ∀ (u : S), Sum.inl u = o → ∀ (H1 : Heap) (locs1 : List Loc), va_P D vwCl (wput X is (X1 u) ++ P1 u) H1 → va_D A0 (wput X is (X1 u) ++ P1 u) → va_S A0 H0 H1 locs1 → W p l e R s m args below meth c H1 locs1 (cells + mc) (slots + ms) Q (F0 m (pc + 3) ls rest))
    (kx : ∀ (E : String), o = Sum.inr E → ∀ (ce : Cell) (q9 : Addr) (H1 : Heap) (locs1 : List Loc), va_P D vwCl (wput X is xc ++ pl) H1 → va_D A0 (wput X is xc ++ pl) → va_S A0 H0 H1 locs1 → H1[q9]? = some ce → ce.vm = .none → s.vm.findClass E = some ce.cls → vx_W p l e R s m args below meth c H1 locs1 (cells + mc) (slots + ms) Q (F0 m pc ls rest) q9) : W p l e R s m args below meth c H locs cells slots Q (F0 m pc ls st0) := by
  have hF := va_freeP hD hS hA is hC
  refine vx_callv hr hS (fun q _ h => hF q h) hF (fun q _ h => hF q h) (fun E ce q9 u t H1 locs1 ht hvm hu hB hz hk hS1 c1 c2 c3 => ?_) (fun u t H1 locs1 ht hvm hw hB hz hk hS1 => ?_)
  · obtain ⟨hP1, hD1⟩ := wputP_ok hP hD is hC hn rfl hk hF (by rw [← ht]; exact hB.2.1) hB.2.2
    exact kx E hB.1 ce q9 H1 locs1 hP1 hD1 hS1 c1 c2 c3
  · obtain ⟨hP1, hD1⟩ := wputP_ok hP hD is hC hn (ha u) hk hF (by rw [← ht]; exact hB.1) hB.2
    exact kk u hw H1 locs1 hP1 hD1 hS1
theorem clx_i {o : (Int32 × S) ⊕ String} (hr : vx_Run p l e R s m args below meth c H locs cells slots mc ms (F0 m pc ls st0) rest (YI D o W1 (va_A wc H.size) a) (XO D o wc (va_A wc H.size)) (va_A wc H.size)) (hP : va_P D vwCl ws H) (hD : va_D A0 ws) (hS : va_S A0 H0 H locs) (hA : ∀ q, H0.size ≤ q → A0 q) (is : List Nat) (hC : is.map (fun i => ws[i]?) = wc.map some) (hn : va_nd is = true) (ha : (∀ u : S, (W1 u).map Prod.fst = wc.map Prod.fst))
    (kk : ∀ (r : Int32) (u : S), Sum.inl (r, u) = o → ∀ (H1 : Heap) (locs1 : List Loc), va_P D vwCl (wput ws is (W1 u)) H1 → va_D A0 (wput ws is (W1 u)) → va_S A0 H0 H1 locs1 → W p l e R s m args below meth c H1 locs1 (cells + mc) (slots + ms) Q (F0 m (pc + 3) ls (.int r :: rest)))
    (kx : ∀ (E : String), o = Sum.inr E → ∀ (ce : Cell) (q9 : Addr) (H1 : Heap) (locs1 : List Loc), va_P D vwCl (wput ws is wc) H1 → va_D A0 (wput ws is wc) → va_S A0 H0 H1 locs1 → H1[q9]? = some ce → ce.vm = .none → s.vm.findClass E = some ce.cls → vx_W p l e R s m args below meth c H1 locs1 (cells + mc) (slots + ms) Q (F0 m pc ls rest) q9) : W p l e R s m args below meth c H locs cells slots Q (F0 m pc ls st0) := by
  have hF := va_free hD hS hA is hC
  refine vx_calli hr hS (fun q _ h => hF q h) hF (fun q _ h => hF q h) (fun E ce q9 u t H1 locs1 ht hvm hu hB hz hk hS1 c1 c2 c3 => ?_) (fun r u t H1 locs1 ht hvm hw hB hz hk hS1 => ?_)
  · obtain ⟨hP1, hD1⟩ := wput_ok hP hD is hC hn rfl hk (by rw [← ht]; exact hB.2.1)
    exact kx E hB.1 ce q9 H1 locs1 hP1 hD1 hS1 c1 c2 c3
  · obtain ⟨hP1, hD1⟩ := wput_ok hP hD is hC hn (ha u) hk (by rw [← ht]; exact hB.1)
    exact kk r u hw H1 locs1 hP1 hD1 hS1
theorem clxP_i {o : (Int32 × S) ⊕ String} (hr : vx_Run p l e R s m args below meth c H locs cells slots mc ms (F0 m pc ls st0) rest (YI D o (fun u => X1 u ++ P1 u) (va_A (xc ++ pl) H.size) a) (XO D o (xc ++ pl) (va_A (xc ++ pl) H.size)) (va_A (xc ++ pl) H.size)) (hP : va_P D vwCl (X ++ pl) H) (hD : va_D A0 (X ++ pl)) (hS : va_S A0 H0 H locs) (hA : ∀ q, H0.size ≤ q → A0 q) (is : List Nat) (hC : is.map (fun i => X[i]?) = xc.map some) (hn : va_nd is = true) (ha : (∀ u : S, (X1 u).map Prod.fst = xc.map Prod.fst))
    (kk : ∀ (r : Int32) (u : S), Sum.inl (r, u) = o → ∀ (H1 : Heap) (locs1 : List Loc), va_P D vwCl (wput X is (X1 u) ++ P1 u) H1 → va_D A0 (wput X is (X1 u) ++ P1 u) → va_S A0 H0 H1 locs1 → W p l e R s m args below meth c H1 locs1 (cells + mc) (slots + ms) Q (F0 m (pc + 3) ls (.int r :: rest)))
    (kx : ∀ (E : String), o = Sum.inr E → ∀ (ce : Cell) (q9 : Addr) (H1 : Heap) (locs1 : List Loc), va_P D vwCl (wput X is xc ++ pl) H1 → va_D A0 (wput X is xc ++ pl) → va_S A0 H0 H1 locs1 → H1[q9]? = some ce → ce.vm = .none → s.vm.findClass E = some ce.cls → vx_W p l e R s m args below meth c H1 locs1 (cells + mc) (slots + ms) Q (F0 m pc ls rest) q9) : W p l e R s m args below meth c H locs cells slots Q (F0 m pc ls st0) := by
  have hF := va_freeP hD hS hA is hC
  refine vx_calli hr hS (fun q _ h => hF q h) hF (fun q _ h => hF q h) (fun E ce q9 u t H1 locs1 ht hvm hu hB hz hk hS1 c1 c2 c3 => ?_) (fun r u t H1 locs1 ht hvm hw hB hz hk hS1 => ?_)
  · obtain ⟨hP1, hD1⟩ := wputP_ok hP hD is hC hn rfl hk hF (by rw [← ht]; exact hB.2.1) hB.2.2
    exact kx E hB.1 ce q9 H1 locs1 hP1 hD1 hS1 c1 c2 c3
  · obtain ⟨hP1, hD1⟩ := wputP_ok hP hD is hC hn (ha u) hk hF (by rw [← ht]; exact hB.1) hB.2
    exact kk r u hw H1 locs1 hP1 hD1 hS1
theorem clx_l {o : (Int64 × S) ⊕ String} (hr : vx_Run p l e R s m args below meth c H locs cells slots mc ms (F0 m pc ls st0) rest (YL D o W1 (va_A wc H.size) a) (XO D o wc (va_A wc H.size)) (va_A wc H.size)) (hP : va_P D vwCl ws H) (hD : va_D A0 ws) (hS : va_S A0 H0 H locs) (hA : ∀ q, H0.size ≤ q → A0 q) (is : List Nat) (hC : is.map (fun i => ws[i]?) = wc.map some) (hn : va_nd is = true) (ha : (∀ u : S, (W1 u).map Prod.fst = wc.map Prod.fst))
    (kk : ∀ (r : Int64) (u : S), Sum.inl (r, u) = o → ∀ (H1 : Heap) (locs1 : List Loc), va_P D vwCl (wput ws is (W1 u)) H1 → va_D A0 (wput ws is (W1 u)) → va_S A0 H0 H1 locs1 → W p l e R s m args below meth c H1 locs1 (cells + mc) (slots + ms) Q (F0 m (pc + 3) ls (.long r :: rest)))
    (kx : ∀ (E : String), o = Sum.inr E → ∀ (ce : Cell) (q9 : Addr) (H1 : Heap) (locs1 : List Loc), va_P D vwCl (wput ws is wc) H1 → va_D A0 (wput ws is wc) → va_S A0 H0 H1 locs1 → H1[q9]? = some ce → ce.vm = .none → s.vm.findClass E = some ce.cls → vx_W p l e R s m args below meth c H1 locs1 (cells + mc) (slots + ms) Q (F0 m pc ls rest) q9) : W p l e R s m args below meth c H locs cells slots Q (F0 m pc ls st0) := by
  have hF := va_free hD hS hA is hC
  refine vx_calll hr hS (fun q _ h => hF q h) hF (fun q _ h => hF q h) (fun E ce q9 u t H1 locs1 ht hvm hu hB hz hk hS1 c1 c2 c3 => ?_) (fun r u t H1 locs1 ht hvm hw hB hz hk hS1 => ?_)
  · obtain ⟨hP1, hD1⟩ := wput_ok hP hD is hC hn rfl hk (by rw [← ht]; exact hB.2.1)
    exact kx E hB.1 ce q9 H1 locs1 hP1 hD1 hS1 c1 c2 c3
  · obtain ⟨hP1, hD1⟩ := wput_ok hP hD is hC hn (ha u) hk (by rw [← ht]; exact hB.1)
    exact kk r u hw H1 locs1 hP1 hD1 hS1
theorem clxP_l {o : (Int64 × S) ⊕ String} (hr : vx_Run p l e R s m args below meth c H locs cells slots mc ms (F0 m pc ls st0) rest (YL D o (fun u => X1 u ++ P1 u) (va_A (xc ++ pl) H.size) a) (XO D o (xc ++ pl) (va_A (xc ++ pl) H.size)) (va_A (xc ++ pl) H.size)) (hP : va_P D vwCl (X ++ pl) H) (hD : va_D A0 (X ++ pl)) (hS : va_S A0 H0 H locs) (hA : ∀ q, H0.size ≤ q → A0 q) (is : List Nat) (hC : is.map (fun i => X[i]?) = xc.map some) (hn : va_nd is = true) (ha : (∀ u : S, (X1 u).map Prod.fst = xc.map Prod.fst))
    (kk : ∀ (r : Int64) (u : S), Sum.inl (r, u) = o → ∀ (H1 : Heap) (locs1 : List Loc), va_P D vwCl (wput X is (X1 u) ++ P1 u) H1 → va_D A0 (wput X is (X1 u) ++ P1 u) → va_S A0 H0 H1 locs1 → W p l e R s m args below meth c H1 locs1 (cells + mc) (slots + ms) Q (F0 m (pc + 3) ls (.long r :: rest)))
    (kx : ∀ (E : String), o = Sum.inr E → ∀ (ce : Cell) (q9 : Addr) (H1 : Heap) (locs1 : List Loc), va_P D vwCl (wput X is xc ++ pl) H1 → va_D A0 (wput X is xc ++ pl) → va_S A0 H0 H1 locs1 → H1[q9]? = some ce → ce.vm = .none → s.vm.findClass E = some ce.cls → vx_W p l e R s m args below meth c H1 locs1 (cells + mc) (slots + ms) Q (F0 m pc ls rest) q9) : W p l e R s m args below meth c H locs cells slots Q (F0 m pc ls st0) := by
  have hF := va_freeP hD hS hA is hC
  refine vx_calll hr hS (fun q _ h => hF q h) hF (fun q _ h => hF q h) (fun E ce q9 u t H1 locs1 ht hvm hu hB hz hk hS1 c1 c2 c3 => ?_) (fun r u t H1 locs1 ht hvm hw hB hz hk hS1 => ?_)
  · obtain ⟨hP1, hD1⟩ := wputP_ok hP hD is hC hn rfl hk hF (by rw [← ht]; exact hB.2.1) hB.2.2
    exact kx E hB.1 ce q9 H1 locs1 hP1 hD1 hS1 c1 c2 c3
  · obtain ⟨hP1, hD1⟩ := wputP_ok hP hD is hC hn (ha u) hk hF (by rw [← ht]; exact hB.1) hB.2
    exact kk r u hw H1 locs1 hP1 hD1 hS1
theorem clx_f {o : (UInt32 × S) ⊕ String} (hr : vx_Run p l e R s m args below meth c H locs cells slots mc ms (F0 m pc ls st0) rest (YF D o W1 (va_A wc H.size) a) (XO D o wc (va_A wc H.size)) (va_A wc H.size)) (hP : va_P D vwCl ws H) (hD : va_D A0 ws) (hS : va_S A0 H0 H locs) (hA : ∀ q, H0.size ≤ q → A0 q) (is : List Nat) (hC : is.map (fun i => ws[i]?) = wc.map some) (hn : va_nd is = true) (ha : (∀ u : S, (W1 u).map Prod.fst = wc.map Prod.fst))
    (kk : ∀ (r : UInt32) (u : S), Sum.inl (r, u) = o → ∀ (H1 : Heap) (locs1 : List Loc), va_P D vwCl (wput ws is (W1 u)) H1 → va_D A0 (wput ws is (W1 u)) → va_S A0 H0 H1 locs1 → W p l e R s m args below meth c H1 locs1 (cells + mc) (slots + ms) Q (F0 m (pc + 3) ls (.float r :: rest)))
    (kx : ∀ (E : String), o = Sum.inr E → ∀ (ce : Cell) (q9 : Addr) (H1 : Heap) (locs1 : List Loc), va_P D vwCl (wput ws is wc) H1 → va_D A0 (wput ws is wc) → va_S A0 H0 H1 locs1 → H1[q9]? = some ce → ce.vm = .none → s.vm.findClass E = some ce.cls → vx_W p l e R s m args below meth c H1 locs1 (cells + mc) (slots + ms) Q (F0 m pc ls rest) q9) : W p l e R s m args below meth c H locs cells slots Q (F0 m pc ls st0) := by
  have hF := va_free hD hS hA is hC
  refine vx_callf hr hS (fun q _ h => hF q h) hF (fun q _ h => hF q h) (fun E ce q9 u t H1 locs1 ht hvm hu hB hz hk hS1 c1 c2 c3 => ?_) (fun r u t H1 locs1 ht hvm hw hB hz hk hS1 => ?_)
  · obtain ⟨hP1, hD1⟩ := wput_ok hP hD is hC hn rfl hk (by rw [← ht]; exact hB.2.1)
    exact kx E hB.1 ce q9 H1 locs1 hP1 hD1 hS1 c1 c2 c3
  · obtain ⟨hP1, hD1⟩ := wput_ok hP hD is hC hn (ha u) hk (by rw [← ht]; exact hB.1)
    exact kk r u hw H1 locs1 hP1 hD1 hS1
theorem clxP_f {o : (UInt32 × S) ⊕ String} (hr : vx_Run p l e R s m args below meth c H locs cells slots mc ms (F0 m pc ls st0) rest (YF D o (fun u => X1 u ++ P1 u) (va_A (xc ++ pl) H.size) a) (XO D o (xc ++ pl) (va_A (xc ++ pl) H.size)) (va_A (xc ++ pl) H.size)) (hP : va_P D vwCl (X ++ pl) H) (hD : va_D A0 (X ++ pl)) (hS : va_S A0 H0 H locs) (hA : ∀ q, H0.size ≤ q → A0 q) (is : List Nat) (hC : is.map (fun i => X[i]?) = xc.map some) (hn : va_nd is = true) (ha : (∀ u : S, (X1 u).map Prod.fst = xc.map Prod.fst))
    (kk : ∀ (r : UInt32) (u : S), Sum.inl (r, u) = o → ∀ (H1 : Heap) (locs1 : List Loc), va_P D vwCl (wput X is (X1 u) ++ P1 u) H1 → va_D A0 (wput X is (X1 u) ++ P1 u) → va_S A0 H0 H1 locs1 → W p l e R s m args below meth c H1 locs1 (cells + mc) (slots + ms) Q (F0 m (pc + 3) ls (.float r :: rest)))
    (kx : ∀ (E : String), o = Sum.inr E → ∀ (ce : Cell) (q9 : Addr) (H1 : Heap) (locs1 : List Loc), va_P D vwCl (wput X is xc ++ pl) H1 → va_D A0 (wput X is xc ++ pl) → va_S A0 H0 H1 locs1 → H1[q9]? = some ce → ce.vm = .none → s.vm.findClass E = some ce.cls → vx_W p l e R s m args below meth c H1 locs1 (cells + mc) (slots + ms) Q (F0 m pc ls rest) q9) : W p l e R s m args below meth c H locs cells slots Q (F0 m pc ls st0) := by
  have hF := va_freeP hD hS hA is hC
  refine vx_callf hr hS (fun q _ h => hF q h) hF (fun q _ h => hF q h) (fun E ce q9 u t H1 locs1 ht hvm hu hB hz hk hS1 c1 c2 c3 => ?_) (fun r u t H1 locs1 ht hvm hw hB hz hk hS1 => ?_)
  · obtain ⟨hP1, hD1⟩ := wputP_ok hP hD is hC hn rfl hk hF (by rw [← ht]; exact hB.2.1) hB.2.2
    exact kx E hB.1 ce q9 H1 locs1 hP1 hD1 hS1 c1 c2 c3
  · obtain ⟨hP1, hD1⟩ := wputP_ok hP hD is hC hn (ha u) hk hF (by rw [← ht]; exact hB.1) hB.2
    exact kk r u hw H1 locs1 hP1 hD1 hS1
theorem clx_d {o : (UInt64 × S) ⊕ String} (hr : vx_Run p l e R s m args below meth c H locs cells slots mc ms (F0 m pc ls st0) rest (YD D o W1 (va_A wc H.size) a) (XO D o wc (va_A wc H.size)) (va_A wc H.size)) (hP : va_P D vwCl ws H) (hD : va_D A0 ws) (hS : va_S A0 H0 H locs) (hA : ∀ q, H0.size ≤ q → A0 q) (is : List Nat) (hC : is.map (fun i => ws[i]?) = wc.map some) (hn : va_nd is = true) (ha : (∀ u : S, (W1 u).map Prod.fst = wc.map Prod.fst))
    (kk : ∀ (r : UInt64) (u : S), Sum.inl (r, u) = o → ∀ (H1 : Heap) (locs1 : List Loc), va_P D vwCl (wput ws is (W1 u)) H1 → va_D A0 (wput ws is (W1 u)) → va_S A0 H0 H1 locs1 → W p l e R s m args below meth c H1 locs1 (cells + mc) (slots + ms) Q (F0 m (pc + 3) ls (.double r :: rest)))
    (kx : ∀ (E : String), o = Sum.inr E → ∀ (ce : Cell) (q9 : Addr) (H1 : Heap) (locs1 : List Loc), va_P D vwCl (wput ws is wc) H1 → va_D A0 (wput ws is wc) → va_S A0 H0 H1 locs1 → H1[q9]? = some ce → ce.vm = .none → s.vm.findClass E = some ce.cls → vx_W p l e R s m args below meth c H1 locs1 (cells + mc) (slots + ms) Q (F0 m pc ls rest) q9) : W p l e R s m args below meth c H locs cells slots Q (F0 m pc ls st0) := by
  have hF := va_free hD hS hA is hC
  refine vx_calld hr hS (fun q _ h => hF q h) hF (fun q _ h => hF q h) (fun E ce q9 u t H1 locs1 ht hvm hu hB hz hk hS1 c1 c2 c3 => ?_) (fun r u t H1 locs1 ht hvm hw hB hz hk hS1 => ?_)
  · obtain ⟨hP1, hD1⟩ := wput_ok hP hD is hC hn rfl hk (by rw [← ht]; exact hB.2.1)
    exact kx E hB.1 ce q9 H1 locs1 hP1 hD1 hS1 c1 c2 c3
  · obtain ⟨hP1, hD1⟩ := wput_ok hP hD is hC hn (ha u) hk (by rw [← ht]; exact hB.1)
    exact kk r u hw H1 locs1 hP1 hD1 hS1
theorem clxP_d {o : (UInt64 × S) ⊕ String} (hr : vx_Run p l e R s m args below meth c H locs cells slots mc ms (F0 m pc ls st0) rest (YD D o (fun u => X1 u ++ P1 u) (va_A (xc ++ pl) H.size) a) (XO D o (xc ++ pl) (va_A (xc ++ pl) H.size)) (va_A (xc ++ pl) H.size)) (hP : va_P D vwCl (X ++ pl) H) (hD : va_D A0 (X ++ pl)) (hS : va_S A0 H0 H locs) (hA : ∀ q, H0.size ≤ q → A0 q) (is : List Nat) (hC : is.map (fun i => X[i]?) = xc.map some) (hn : va_nd is = true) (ha : (∀ u : S, (X1 u).map Prod.fst = xc.map Prod.fst))
    (kk : ∀ (r : UInt64) (u : S), Sum.inl (r, u) = o → ∀ (H1 : Heap) (locs1 : List Loc), va_P D vwCl (wput X is (X1 u) ++ P1 u) H1 → va_D A0 (wput X is (X1 u) ++ P1 u) → va_S A0 H0 H1 locs1 → W p l e R s m args below meth c H1 locs1 (cells + mc) (slots + ms) Q (F0 m (pc + 3) ls (.double r :: rest)))
    (kx : ∀ (E : String), o = Sum.inr E → ∀ (ce : Cell) (q9 : Addr) (H1 : Heap) (locs1 : List Loc), va_P D vwCl (wput X is xc ++ pl) H1 → va_D A0 (wput X is xc ++ pl) → va_S A0 H0 H1 locs1 → H1[q9]? = some ce → ce.vm = .none → s.vm.findClass E = some ce.cls → vx_W p l e R s m args below meth c H1 locs1 (cells + mc) (slots + ms) Q (F0 m pc ls rest) q9) : W p l e R s m args below meth c H locs cells slots Q (F0 m pc ls st0) := by
  have hF := va_freeP hD hS hA is hC
  refine vx_calld hr hS (fun q _ h => hF q h) hF (fun q _ h => hF q h) (fun E ce q9 u t H1 locs1 ht hvm hu hB hz hk hS1 c1 c2 c3 => ?_) (fun r u t H1 locs1 ht hvm hw hB hz hk hS1 => ?_)
  · obtain ⟨hP1, hD1⟩ := wputP_ok hP hD is hC hn rfl hk hF (by rw [← ht]; exact hB.2.1) hB.2.2
    exact kx E hB.1 ce q9 H1 locs1 hP1 hD1 hS1 c1 c2 c3
  · obtain ⟨hP1, hD1⟩ := wputP_ok hP hD is hC hn (ha u) hk hF (by rw [← ht]; exact hB.1) hB.2
    exact kk r u hw H1 locs1 hP1 hD1 hS1
theorem clx_q {o : (Option Nat × S) ⊕ String} (hr : vx_Run p l e R s m args below meth c H locs cells slots mc ms (F0 m pc ls st0) rest (YQ D o W1 (va_A wc H.size) a) (XO D o wc (va_A wc H.size)) (va_A wc H.size)) (hP : va_P D vwCl ws H) (hD : va_D A0 ws) (hS : va_S A0 H0 H locs) (hA : ∀ q, H0.size ≤ q → A0 q) (is : List Nat) (hC : is.map (fun i => ws[i]?) = wc.map some) (hn : va_nd is = true) (ha : (∀ u : S, (W1 u).map Prod.fst = wc.map Prod.fst))
    (kk : ∀ (r : Option Nat) (u : S), Sum.inl (r, u) = o → ∀ (H1 : Heap) (locs1 : List Loc), va_P D vwCl (wput ws is (W1 u)) H1 → va_D A0 (wput ws is (W1 u)) → va_S A0 H0 H1 locs1 → W p l e R s m args below meth c H1 locs1 (cells + mc) (slots + ms) Q (F0 m (pc + 3) ls (va_rf r :: rest)))
    (kx : ∀ (E : String), o = Sum.inr E → ∀ (ce : Cell) (q9 : Addr) (H1 : Heap) (locs1 : List Loc), va_P D vwCl (wput ws is wc) H1 → va_D A0 (wput ws is wc) → va_S A0 H0 H1 locs1 → H1[q9]? = some ce → ce.vm = .none → s.vm.findClass E = some ce.cls → vx_W p l e R s m args below meth c H1 locs1 (cells + mc) (slots + ms) Q (F0 m pc ls rest) q9) : W p l e R s m args below meth c H locs cells slots Q (F0 m pc ls st0) := by
  have hF := va_free hD hS hA is hC
  refine vx_callq hr hS (fun q _ h => hF q h) hF (fun q _ h => hF q h) (fun E ce q9 u t H1 locs1 ht hvm hu hB hz hk hS1 c1 c2 c3 => ?_) (fun r u t H1 locs1 ht hvm hw hB hz hk hS1 => ?_)
  · obtain ⟨hP1, hD1⟩ := wput_ok hP hD is hC hn rfl hk (by rw [← ht]; exact hB.2.1)
    exact kx E hB.1 ce q9 H1 locs1 hP1 hD1 hS1 c1 c2 c3
  · obtain ⟨hP1, hD1⟩ := wput_ok hP hD is hC hn (ha u) hk (by rw [← ht]; exact hB.1)
    exact kk r u hw H1 locs1 hP1 hD1 hS1
theorem clxP_q {o : (Option Nat × S) ⊕ String} (hr : vx_Run p l e R s m args below meth c H locs cells slots mc ms (F0 m pc ls st0) rest (YQ D o (fun u => X1 u ++ P1 u) (va_A (xc ++ pl) H.size) a) (XO D o (xc ++ pl) (va_A (xc ++ pl) H.size)) (va_A (xc ++ pl) H.size)) (hP : va_P D vwCl (X ++ pl) H) (hD : va_D A0 (X ++ pl)) (hS : va_S A0 H0 H locs) (hA : ∀ q, H0.size ≤ q → A0 q) (is : List Nat) (hC : is.map (fun i => X[i]?) = xc.map some) (hn : va_nd is = true) (ha : (∀ u : S, (X1 u).map Prod.fst = xc.map Prod.fst))
    (kk : ∀ (r : Option Nat) (u : S), Sum.inl (r, u) = o → ∀ (H1 : Heap) (locs1 : List Loc), va_P D vwCl (wput X is (X1 u) ++ P1 u) H1 → va_D A0 (wput X is (X1 u) ++ P1 u) → va_S A0 H0 H1 locs1 → W p l e R s m args below meth c H1 locs1 (cells + mc) (slots + ms) Q (F0 m (pc + 3) ls (va_rf r :: rest)))
    (kx : ∀ (E : String), o = Sum.inr E → ∀ (ce : Cell) (q9 : Addr) (H1 : Heap) (locs1 : List Loc), va_P D vwCl (wput X is xc ++ pl) H1 → va_D A0 (wput X is xc ++ pl) → va_S A0 H0 H1 locs1 → H1[q9]? = some ce → ce.vm = .none → s.vm.findClass E = some ce.cls → vx_W p l e R s m args below meth c H1 locs1 (cells + mc) (slots + ms) Q (F0 m pc ls rest) q9) : W p l e R s m args below meth c H locs cells slots Q (F0 m pc ls st0) := by
  have hF := va_freeP hD hS hA is hC
  refine vx_callq hr hS (fun q _ h => hF q h) hF (fun q _ h => hF q h) (fun E ce q9 u t H1 locs1 ht hvm hu hB hz hk hS1 c1 c2 c3 => ?_) (fun r u t H1 locs1 ht hvm hw hB hz hk hS1 => ?_)
  · obtain ⟨hP1, hD1⟩ := wputP_ok hP hD is hC hn rfl hk hF (by rw [← ht]; exact hB.2.1) hB.2.2
    exact kx E hB.1 ce q9 H1 locs1 hP1 hD1 hS1 c1 c2 c3
  · obtain ⟨hP1, hD1⟩ := wputP_ok hP hD is hC hn (ha u) hk hF (by rw [← ht]; exact hB.1) hB.2
    exact kk r u hw H1 locs1 hP1 hD1 hS1
end CALLSX
