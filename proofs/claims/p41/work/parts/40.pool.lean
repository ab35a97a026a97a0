/-! THE POOL: all wheels (kind 0), drums (kind 1) and the drums' rows (kind 2), by their addresses -/
abbrev plF (cy : Nat → ClassId) (K : Nat → Nat) (te le tb : Nat → Int32) (mb wr : Nat → Int64) (nu : Nat → Int32) (ro : Nat → Nat) (pn : Nat → Int32) (rw : Nat → Nat → Int32) (dr : Nat → Nat → Option Nat) : Nat → va_E := fun a =>
  if K a = 0 then .inr (11, [.int (te a), .int (le a), .int (tb a), .long (mb a), .long (wr a)]) else if K a = 1 then .inr (6, [.int (nu a), .ref (ro a), .int (pn a)]) else if K a = 2 then .inl (cy 0, 32, .inl (rw a)) else .inl (cy 3, 10, .inr (.inr (.inr (.inr (dr a)))))
section POOL
variable {cy : Nat → ClassId} {L : List Nat} {K : Nat → Nat} {te le tb : Nat → Int32} {mb wr : Nat → Int64} {nu : Nat → Int32} {ro : Nat → Nat} {pn : Nat → Int32} {rw : Nat → Nat → Int32} {dr : Nat → Nat → Option Nat} {X : va_W} {a k : Nat} {A : Nat → Prop}
theorem pl_0 (hL : a ∈ L) (hK : K a = 0) : ∃ k : Nat, (X ++ va_pl L (plF cy K te le tb mb wr nu ro pn rw dr))[k]? = some (a, .inr (11, [.int (te a), .int (le a), .int (tb a), .long (mb a), .long (wr a)])) := by
  obtain ⟨k, hk⟩ := va_pl_get (X := X) (f := plF cy K te le tb mb wr nu ro pn rw dr) hL
  exact ⟨k, hk.trans (by simp [plF, hK])⟩
theorem pl_1 (hL : a ∈ L) (hK : K a = 1) : ∃ k : Nat, (X ++ va_pl L (plF cy K te le tb mb wr nu ro pn rw dr))[k]? = some (a, .inr (6, [.int (nu a), .ref (ro a), .int (pn a)])) := by
  obtain ⟨k, hk⟩ := va_pl_get (X := X) (f := plF cy K te le tb mb wr nu ro pn rw dr) hL
  exact ⟨k, hk.trans (by simp [plF, hK])⟩
theorem pl_2 (hL : a ∈ L) (hK : K a = 2) : ∃ k : Nat, (X ++ va_pl L (plF cy K te le tb mb wr nu ro pn rw dr))[k]? = some (a, .inl (cy 0, 32, .inl (rw a))) := by
  obtain ⟨k, hk⟩ := va_pl_get (X := X) (f := plF cy K te le tb mb wr nu ro pn rw dr) hL
  exact ⟨k, hk.trans (by simp [plF, hK])⟩
theorem pl_put0 {v : Int64} (hD : va_D A (X ++ va_pl L (plF cy K te le tb mb wr nu ro pn rw dr))) (hL : a ∈ L) (hK : K a = 0) (hk : (X ++ va_pl L (plF cy K te le tb mb wr nu ro pn rw dr))[k]? = some (a, .inr (11, [.int (te a), .int (le a), .int (tb a), .long (mb a), .long (wr a)]))) :
    (X ++ va_pl L (plF cy K te le tb mb wr nu ro pn rw dr)).set k (a, .inr (11, [.int (te a), .int (le a), .int (tb a), .long (mb a), .long v])) = X ++ va_pl L (plF cy K te le tb mb (va_up wr a v) nu ro pn rw dr) := by
  have hk' : (X ++ va_pl L (plF cy K te le tb mb wr nu ro pn rw dr))[k]? = some (a, plF cy K te le tb mb wr nu ro pn rw dr a) := hk.trans (by simp [plF, hK])
  rw [va_pl_set hD hL hk']
  refine congrArg (fun l => X ++ l) (va_pl_congr fun b => ?_)
  by_cases hb : b = a
  · subst hb; simp [va_up, plF, hK]
  · simp [va_up, hb, plF]
theorem pl_put1 {v : Int32} (hD : va_D A (X ++ va_pl L (plF cy K te le tb mb wr nu ro pn rw dr))) (hL : a ∈ L) (hK : K a = 1) (hk : (X ++ va_pl L (plF cy K te le tb mb wr nu ro pn rw dr))[k]? = some (a, .inr (6, [.int (nu a), .ref (ro a), .int (pn a)]))) :
    (X ++ va_pl L (plF cy K te le tb mb wr nu ro pn rw dr)).set k (a, .inr (6, [.int (nu a), .ref (ro a), .int v])) = X ++ va_pl L (plF cy K te le tb mb wr nu ro (va_up pn a v) rw dr) := by
  have hk' : (X ++ va_pl L (plF cy K te le tb mb wr nu ro pn rw dr))[k]? = some (a, plF cy K te le tb mb wr nu ro pn rw dr a) := hk.trans (by simp [plF, hK])
  rw [va_pl_set hD hL hk']
  refine congrArg (fun l => X ++ l) (va_pl_congr fun b => ?_)
  by_cases hb : b = a
  · subst hb; simp [va_up, plF, hK]
  · simp [va_up, hb, plF]
theorem pl_put2 {f : Nat → Int32} (hD : va_D A (X ++ va_pl L (plF cy K te le tb mb wr nu ro pn rw dr))) (hL : a ∈ L) (hK : K a = 2) (hk : (X ++ va_pl L (plF cy K te le tb mb wr nu ro pn rw dr))[k]? = some (a, .inl (cy 0, 32, .inl (rw a)))) :
    (X ++ va_pl L (plF cy K te le tb mb wr nu ro pn rw dr)).set k (a, .inl (cy 0, 32, .inl f)) = X ++ va_pl L (plF cy K te le tb mb wr nu ro pn (va_up rw a f) dr) := by
  have hk' : (X ++ va_pl L (plF cy K te le tb mb wr nu ro pn rw dr))[k]? = some (a, plF cy K te le tb mb wr nu ro pn rw dr a) := hk.trans (by simp [plF, hK])
  rw [va_pl_set hD hL hk']
  refine congrArg (fun l => X ++ l) (va_pl_congr fun b => ?_)
  by_cases hb : b = a
  · subst hb; simp [va_up, plF, hK]
  · simp [va_up, hb, plF]
theorem pl_3 (hL : a ∈ L) (hK : K a = 3) : ∃ k : Nat, (X ++ va_pl L (plF cy K te le tb mb wr nu ro pn rw dr))[k]? = some (a, .inl (cy 3, 10, .inr (.inr (.inr (.inr (dr a)))))) := by
  obtain ⟨k, hk⟩ := va_pl_get (X := X) (f := plF cy K te le tb mb wr nu ro pn rw dr) hL
  exact ⟨k, hk.trans (by simp [plF, hK])⟩
theorem pl_put3 {f : Nat → Option Nat} (hD : va_D A (X ++ va_pl L (plF cy K te le tb mb wr nu ro pn rw dr))) (hL : a ∈ L) (hK : K a = 3) (hk : (X ++ va_pl L (plF cy K te le tb mb wr nu ro pn rw dr))[k]? = some (a, .inl (cy 3, 10, .inr (.inr (.inr (.inr (dr a))))))) :
    (X ++ va_pl L (plF cy K te le tb mb wr nu ro pn rw dr)).set k (a, .inl (cy 3, 10, .inr (.inr (.inr (.inr f))))) = X ++ va_pl L (plF cy K te le tb mb wr nu ro pn rw (va_up dr a f)) := by
  have hk' : (X ++ va_pl L (plF cy K te le tb mb wr nu ro pn rw dr))[k]? = some (a, plF cy K te le tb mb wr nu ro pn rw dr a) := hk.trans (by simp [plF, hK])
  rw [va_pl_set hD hL hk']
  refine congrArg (fun l => X ++ l) (va_pl_congr fun b => ?_)
  by_cases hb : b = a
  · subst hb; simp [va_up, plF, hK]
  · simp [va_up, hb, plF]
end POOL
theorem wputP_ok {A0 : Nat → Prop} {D : va_G} {cl : List vw_C} {X xc x1 pl pl1 : va_W} {H H1 : Heap} (hP : va_P D cl (X ++ pl) H) (hD : va_D A0 (X ++ pl)) (is : List Nat) (hC : is.map (fun i => X[i]?) = xc.map some) (hn : va_nd is = true) (ha : x1.map Prod.fst = xc.map Prod.fst)
    (hk : ∀ q : Nat, q < H.size → ¬ va_A (xc ++ pl) H.size q → H1[q]? = H[q]?) (hF : ∀ q, va_A (xc ++ pl) H.size q → A0 q) (hP1 : va_P D cl (x1 ++ pl1) H1) (hD1 : va_D (va_A (xc ++ pl) H.size) (x1 ++ pl1)) : va_P D cl (wput X is x1 ++ pl1) H1 ∧ va_D A0 (wput X is x1 ++ pl1) := by
  have hlen : x1.length = is.length := by
    have e1 := congrArg List.length ha
    have e2 := congrArg List.length hC
    simp only [List.length_map] at e1 e2
    omega
  have apart : ∀ (j : Nat) (q : Nat × va_E), X[j]? = some q → j ∉ is → q.1 < H.size ∧ ¬ va_A (xc ++ pl) H.size q.1 := by
    intro j q h1 hj
    have hjl := (List.getElem?_eq_some_iff.mp h1).1
    have h2 : (X ++ pl)[j]? = some q := by rw [List.getElem?_append_left hjl]; exact h1
    have hl := (hP j q h2).lt
    refine ⟨hl, fun z => ?_⟩
    rcases z with ⟨k2, e, h⟩ | h
    · have h3 := va_part is hC k2 _ h
      have hij := hD.1 _ _ q (q.1, e) h2 h3 rfl
      by_cases h4 : k2 < xc.length
      · rw [List.getElem?_append_left h4] at h
        obtain ⟨i, h5, h6⟩ := va_in_of is hC h
        rw [if_pos h4, h5] at hij
        have hij' : j = i := hij
        exact hj (by rw [hij']; exact List.mem_of_getElem? h5)
      · rw [if_neg h4] at hij
        omega
    · omega
  have hX : ∀ (j : Nat) (q : Nat × va_E), (wput X is x1)[j]? = some q → (X[j]? = some q ∧ j ∉ is) ∨ ∃ k : Nat, x1[k]? = some q := by
    intro j q hq
    rcases wput_at is X x1 hn j q hq with ⟨h1, h2⟩ | h1
    · exact Or.inl ⟨h1, h2.elim id (fun z => absurd z (by omega))⟩
    · exact Or.inr h1
  have hDX : va_D A0 X := hD.by id (fun k q hq => by
    show (X ++ pl)[k]? = some q
    rw [List.getElem?_append_left (List.getElem?_eq_some_iff.mp hq).1]; exact hq) (fun i j _ _ e => e)
  have hDp : va_D (va_A (xc ++ pl) H.size) pl1 := hD1.by (fun k => x1.length + k) (fun k q hq => by
    show (x1 ++ pl1)[x1.length + k]? = some q
    rw [List.getElem?_append_right (by omega), Nat.add_sub_cancel_left]; exact hq) (fun i j _ _ e => by have e' : x1.length + i = x1.length + j := e; omega)
  refine ⟨va_P.app (fun j q hq => ?_) (fun k q hq => ?_), va_D.app (hDX.adr (wput_adr is X x1 xc hC ha hn)) (hDp.weaken (fun _ _ _ h => hF _ h)) (fun i j x y hx hy hxy => ?_)⟩
  · rcases hX j q hq with ⟨h1, h2⟩ | ⟨k, h1⟩
    · have h3 := apart j q h1 h2
      have h4 : (X ++ pl)[j]? = some q := by rw [List.getElem?_append_left (List.getElem?_eq_some_iff.mp h1).1]; exact h1
      exact (hP j q h4).kept (hk q.1 h3.1 h3.2)
    · exact hP1 k q (by rw [List.getElem?_append_left (List.getElem?_eq_some_iff.mp h1).1]; exact h1)
  · exact hP1 (x1.length + k) q (by rw [List.getElem?_append_right (by omega), Nat.add_sub_cancel_left]; exact hq)
  · have hy' : (x1 ++ pl1)[x1.length + j]? = some y := by rw [List.getElem?_append_right (by omega), Nat.add_sub_cancel_left]; exact hy
    rcases hX i x hx with ⟨h1, h2⟩ | ⟨k, h1⟩
    · exact (apart i x h1 h2).2 (by rw [hxy]; exact hD1.2 _ y hy')
    · have hkl := (List.getElem?_eq_some_iff.mp h1).1
      have h2 : (x1 ++ pl1)[k]? = some x := by rw [List.getElem?_append_left hkl]; exact h1
      have := hD1.1 _ _ x y h2 hy' hxy
      omega
theorem Pr.goP {D : va_G} {cy : Nat → ClassId} {sa : Nat → Nat} {z0 : Nat} {s : State} {A : Nat → Prop} {H : Heap} {locs : List Loc} {X xc pl : va_W} {av : List Value} (hG : amb D cy sa z0 s) (hS : va_S A s.heap H locs) (hZ : ∀ q, A q → z0 ≤ q) (hP : va_P D vwCl (X ++ pl) H) (hD : va_D A (X ++ pl)) (is : List Nat) (hC : is.map (fun i => X[i]?) = xc.map some) (hn : va_nd is = true) :
    ∀ U : State, U.heap = H → s.WarmedH U.vm → va_Pc av (Pr D cy sa z0 (xc ++ pl) H.size) av.toArray U := by
  intro U hU hW
  refine ⟨rfl, hG.go hS hZ hU hW, by rw [hU], ?_, (hD.part is hn hC).weaken (fun _ _ _ h => hZ _ h)⟩
  rw [hU]
  exact hP.part is hC
theorem preSP {D : va_G} {cy : Nat → ClassId} {sa : Nat → Nat} {z0 : Nat} {s : State} {A : Nat → Prop} {H : Heap} {locs : List Loc} {X xc pl : va_W} {av : List Value} (hG : amb D cy sa z0 s) (hS : va_S A s.heap H locs) (hZ : ∀ q, A q → z0 ≤ q) (hP : va_P D vwCl (X ++ pl) H) (hD : va_D A (X ++ pl)) (is : List Nat) (hC : is.map (fun i => X[i]?) = xc.map some) (hn : va_nd is = true) :
    PreS s H (va_Pc av (Pr D cy sa z0 (xc ++ pl) H.size)) av := ⟨Pr.blind, Pr.goP hG hS hZ hP hD is hC hn⟩
theorem preVP {D : va_G} {cy : Nat → ClassId} {sa : Nat → Nat} {z0 : Nat} {s : State} {A : Nat → Prop} {H : Heap} {locs : List Loc} {X xc pl : va_W} {b : Nat} {av : List Value} (hG : amb D cy sa z0 s) (hS : va_S A s.heap H locs) (hZ : ∀ q, A q → z0 ≤ q) (hP : va_P D vwCl (X ++ pl) H) (hD : va_D A (X ++ pl)) (is : List Nat) (hC : is.map (fun i => X[i]?) = xc.map some) (hn : va_nd is = true)
    {q0 ci : Nat} {q : vw_C} {fs : List Value} (hc : vwCl[ci]? = some q) (he : (X ++ pl)[q0]? = some (b, .inr (ci, fs))) : PreV s H q.1 b (va_Pc (.ref b :: av) (Pr D cy sa z0 (xc ++ pl) H.size)) av := ⟨Pr.blind, va_recv hG.K hP hc he, Pr.goP hG hS hZ hP hD is hC hn⟩
theorem va_freeX {A0 : Nat → Prop} {X xc pl : va_W} {H0 H : Heap} {locs : List Loc} (hD : va_D A0 (X ++ pl)) (hS : va_S A0 H0 H locs) (hA : ∀ q, H0.size ≤ q → A0 q) (is : List Nat) (hC : is.map (fun i => X[i]?) = xc.map some) : ∀ q, va_A (xc ++ pl) H.size q → A0 q := va_freeP hD hS hA is hC
section CALLSP
variable {p : Program} {l : Launch} {e : Env} {R : Room} {s : State} {m : MethodId} {args : Array Value} {below : List Frame} {meth : Method} {c : Code} {H : Heap} {locs : List Loc} {cells slots : Nat} {Q : State → Prop}
variable {pc : Nat} {ls : Array Slot} {rest st0 : List Value} {a : Array Value} {A0 : Nat → Prop} {H0 : Heap} {mc ms : Nat} {D : va_G} {X xc pl : va_W} {S : Type} {X1 P1 : S → va_W}
theorem clP_i {o : Int32 × S} (hr : va_Run p l e R s m args below meth c H locs cells slots mc ms (F0 m pc ls st0) rest (QI D o (fun u => X1 u ++ P1 u) (va_A (xc ++ pl) H.size) a) (va_A (xc ++ pl) H.size)) (hP : va_P D vwCl (X ++ pl) H) (hD : va_D A0 (X ++ pl)) (hS : va_S A0 H0 H locs) (hA : ∀ q, H0.size ≤ q → A0 q) (is : List Nat) (hC : is.map (fun i => X[i]?) = xc.map some) (hn : va_nd is = true) (ha : (X1 o.2).map Prod.fst = xc.map Prod.fst)
    (kk : ∀ (H1 : Heap) (locs1 : List Loc), va_P D vwCl (wput X is (X1 o.2) ++ P1 o.2) H1 → va_D A0 (wput X is (X1 o.2) ++ P1 o.2) → va_S A0 H0 H1 locs1 → W p l e R s m args below meth c H1 locs1 (cells + mc) (slots + ms) Q (F0 m (pc + 3) ls (.int o.1 :: rest))) : W p l e R s m args below meth c H locs cells slots Q (F0 m pc ls st0) := by
  have hF := va_freeP hD hS hA is hC
  refine va_calli hr hS (fun q _ h => hF q h) hF (fun r u t H1 locs1 ht hvm hw hB hz hk hS1 => ?_)
  cases hw
  obtain ⟨hP1, hD1⟩ := wputP_ok hP hD is hC hn ha hk hF (by rw [← ht]; exact hB.1) hB.2
  exact kk H1 locs1 hP1 hD1 hS1
theorem clP_l {o : Int64 × S} (hr : va_Run p l e R s m args below meth c H locs cells slots mc ms (F0 m pc ls st0) rest (QL D o (fun u => X1 u ++ P1 u) (va_A (xc ++ pl) H.size) a) (va_A (xc ++ pl) H.size)) (hP : va_P D vwCl (X ++ pl) H) (hD : va_D A0 (X ++ pl)) (hS : va_S A0 H0 H locs) (hA : ∀ q, H0.size ≤ q → A0 q) (is : List Nat) (hC : is.map (fun i => X[i]?) = xc.map some) (hn : va_nd is = true) (ha : (X1 o.2).map Prod.fst = xc.map Prod.fst)
    (kk : ∀ (H1 : Heap) (locs1 : List Loc), va_P D vwCl (wput X is (X1 o.2) ++ P1 o.2) H1 → va_D A0 (wput X is (X1 o.2) ++ P1 o.2) → va_S A0 H0 H1 locs1 → W p l e R s m args below meth c H1 locs1 (cells + mc) (slots + ms) Q (F0 m (pc + 3) ls (.long o.1 :: rest))) : W p l e R s m args below meth c H locs cells slots Q (F0 m pc ls st0) := by
  have hF := va_freeP hD hS hA is hC
  refine va_calll hr hS (fun q _ h => hF q h) hF (fun r u t H1 locs1 ht hvm hw hB hz hk hS1 => ?_)
  cases hw
  obtain ⟨hP1, hD1⟩ := wputP_ok hP hD is hC hn ha hk hF (by rw [← ht]; exact hB.1) hB.2
  exact kk H1 locs1 hP1 hD1 hS1
theorem clP_d {o : UInt64 × S} (hr : va_Run p l e R s m args below meth c H locs cells slots mc ms (F0 m pc ls st0) rest (QD D o (fun u => X1 u ++ P1 u) (va_A (xc ++ pl) H.size) a) (va_A (xc ++ pl) H.size)) (hP : va_P D vwCl (X ++ pl) H) (hD : va_D A0 (X ++ pl)) (hS : va_S A0 H0 H locs) (hA : ∀ q, H0.size ≤ q → A0 q) (is : List Nat) (hC : is.map (fun i => X[i]?) = xc.map some) (hn : va_nd is = true) (ha : (X1 o.2).map Prod.fst = xc.map Prod.fst)
    (kk : ∀ (H1 : Heap) (locs1 : List Loc), va_P D vwCl (wput X is (X1 o.2) ++ P1 o.2) H1 → va_D A0 (wput X is (X1 o.2) ++ P1 o.2) → va_S A0 H0 H1 locs1 → W p l e R s m args below meth c H1 locs1 (cells + mc) (slots + ms) Q (F0 m (pc + 3) ls (.double o.1 :: rest))) : W p l e R s m args below meth c H locs cells slots Q (F0 m pc ls st0) := by
  have hF := va_freeP hD hS hA is hC
  refine va_calld hr hS (fun q _ h => hF q h) hF (fun r u t H1 locs1 ht hvm hw hB hz hk hS1 => ?_)
  cases hw
  obtain ⟨hP1, hD1⟩ := wputP_ok hP hD is hC hn ha hk hF (by rw [← ht]; exact hB.1) hB.2
  exact kk H1 locs1 hP1 hD1 hS1
theorem clP_q {o : Option Nat × S} (hr : va_Run p l e R s m args below meth c H locs cells slots mc ms (F0 m pc ls st0) rest (QQ D o (fun u => X1 u ++ P1 u) (va_A (xc ++ pl) H.size) a) (va_A (xc ++ pl) H.size)) (hP : va_P D vwCl (X ++ pl) H) (hD : va_D A0 (X ++ pl)) (hS : va_S A0 H0 H locs) (hA : ∀ q, H0.size ≤ q → A0 q) (is : List Nat) (hC : is.map (fun i => X[i]?) = xc.map some) (hn : va_nd is = true) (ha : (X1 o.2).map Prod.fst = xc.map Prod.fst)
    (kk : ∀ (H1 : Heap) (locs1 : List Loc), va_P D vwCl (wput X is (X1 o.2) ++ P1 o.2) H1 → va_D A0 (wput X is (X1 o.2) ++ P1 o.2) → va_S A0 H0 H1 locs1 → W p l e R s m args below meth c H1 locs1 (cells + mc) (slots + ms) Q (F0 m (pc + 3) ls (va_rf o.1 :: rest))) : W p l e R s m args below meth c H locs cells slots Q (F0 m pc ls st0) := by
  have hF := va_freeP hD hS hA is hC
  refine va_callq hr hS (fun q _ h => hF q h) hF (fun r u t H1 locs1 ht hvm hw hB hz hk hS1 => ?_)
  cases hw
  obtain ⟨hP1, hD1⟩ := wputP_ok hP hD is hC hn ha hk hF (by rw [← ht]; exact hB.1) hB.2
  exact kk H1 locs1 hP1 hD1 hS1
theorem clP_v {o : S} (hr : va_Run p l e R s m args below meth c H locs cells slots mc ms (F0 m pc ls st0) rest (QV D o (fun u => X1 u ++ P1 u) (va_A (xc ++ pl) H.size) a) (va_A (xc ++ pl) H.size)) (hP : va_P D vwCl (X ++ pl) H) (hD : va_D A0 (X ++ pl)) (hS : va_S A0 H0 H locs) (hA : ∀ q, H0.size ≤ q → A0 q) (is : List Nat) (hC : is.map (fun i => X[i]?) = xc.map some) (hn : va_nd is = true) (ha : (X1 o).map Prod.fst = xc.map Prod.fst)
    (kk : ∀ (H1 : Heap) (locs1 : List Loc), va_P D vwCl (wput X is (X1 o) ++ P1 o) H1 → va_D A0 (wput X is (X1 o) ++ P1 o) → va_S A0 H0 H1 locs1 → W p l e R s m args below meth c H1 locs1 (cells + mc) (slots + ms) Q (F0 m (pc + 3) ls rest)) : W p l e R s m args below meth c H locs cells slots Q (F0 m pc ls st0) := by
  have hF := va_freeP hD hS hA is hC
  refine va_callv hr hS (fun q _ h => hF q h) hF (fun u t H1 locs1 ht hvm hw hB hz hk hS1 => ?_)
  cases hw
  obtain ⟨hP1, hD1⟩ := wputP_ok hP hD is hC hn ha hk hF (by rw [← ht]; exact hB.1) hB.2
  exact kk H1 locs1 hP1 hD1 hS1
end CALLSP
