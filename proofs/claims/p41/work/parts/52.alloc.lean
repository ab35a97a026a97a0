/-! METHODS THAT MAKE CELLS: a method's ends are all those that Post allows -/
abbrev GI {S : Type} (D : va_G) (Post : Int32 × S → Prop) (W1 : S → va_W) (A : Nat → Prop) := va_Qi (fun (r : Int32) (u : S) => Post (r, u)) (fun u => Wo D (W1 u) A) A
abbrev GV {S : Type} (D : va_G) (Post : S → Prop) (W1 : S → va_W) (A : Nat → Prop) := va_Qv (fun (u : S) => Post u) (fun u => Wo D (W1 u) A) A
abbrev GE {S : Type} (D : va_G) (ad : S → Nat) (Post : S → Prop) (W1 : S → va_W) (A : Nat → Prop) := va_Qq (fun (r : Option Nat) (u : S) => r = some (ad u) ∧ Post u) (fun u => Wo D (W1 u) A) A
abbrev HI {S : Type} (D : va_G) (Post : (Int32 × S) ⊕ String → Prop) (W1 : S → va_W) (A : Nat → Prop) := va_Qi (fun (r : Int32) (u : S) => Post (Sum.inl (r, u))) (fun u => Wo D (W1 u) A) A
abbrev XG {T : Type} (D : va_G) (Post : T ⊕ String → Prop) (W0 : va_W) (A : Nat → Prop) : String → State → State → Prop := vx_X (S := Unit) (fun _ => True) (fun E _ t => Post (Sum.inr E) ∧ Wo D W0 A t) A
theorem amb_T0 {D cy sa z0} {s : State} (h : amb D cy sa z0 s) : va_T (.object "java/lang/Object") (sa 0) 0 (fun _ => .null) (zA z0) s s.heap := h.2.2.2.1.1.1.2
theorem amb_AO {D cy sa z0} {s : State} (h : amb D cy sa z0 s) : va_AO "java/lang/Object" s := h.2.2.2.2.2.1
theorem amb_AD {D cy sa z0} {s : State} (h : amb D cy sa z0 s) : va_AO "MinsterClock$Drum" s := h.2.2.2.2.2.2
theorem sameF_mod {args : Array Value} {s : State} (hts : ∀ w ∈ lw_all, w.before args s = true) (x : ClassId × Class × Nat × Field) (ho : s.fieldFound? "java/util/AbstractList" "modCount" "I" = some x) : s.fieldFound? "java/util/ArrayList" "modCount" "I" = some x := u_same (hts _ k_107) x ho
theorem pm_P {D : va_G} {cl : List vw_C} {ws ws' : va_W} {H : Heap} (h : va_P D cl ws H) (hm : ∀ q, q ∈ ws' → q ∈ ws) : va_P D cl ws' H := by
  intro k q hq
  obtain ⟨i, hi⟩ := List.getElem?_of_mem (hm q (List.mem_of_getElem? hq))
  exact h i q hi
theorem va_D.nodup {A : Nat → Prop} {ws : va_W} (h : va_D A ws) : (ws.map Prod.fst).Nodup := by
  refine List.pairwise_iff_getElem.mpr (fun i j hi hj hij e => ?_)
  rw [List.length_map] at hi hj
  rw [List.getElem_map, List.getElem_map] at e
  have := h.1 i j _ _ (List.getElem?_eq_getElem hi) (List.getElem?_eq_getElem hj) e
  omega
theorem va_D.of_nodup {A : Nat → Prop} {ws : va_W} (h : (ws.map Prod.fst).Nodup) (hA : ∀ q ∈ ws, A q.1) : va_D A ws := by
  have h' := List.pairwise_iff_getElem.mp h
  refine ⟨fun i j x y hi hj e => ?_, fun k q hq => hA q (List.mem_of_getElem? hq)⟩
  obtain ⟨hil, hi'⟩ := List.getElem?_eq_some_iff.mp hi
  obtain ⟨hjl, hj'⟩ := List.getElem?_eq_some_iff.mp hj
  rcases Nat.lt_trichotomy i j with h1 | h1 | h1
  · exact (h' i j (by rw [List.length_map]; exact hil) (by rw [List.length_map]; exact hjl) h1 (by rw [List.getElem_map, List.getElem_map, hi', hj', e])).elim
  · exact h1
  · exact (h' j i (by rw [List.length_map]; exact hjl) (by rw [List.length_map]; exact hil) h1 (by rw [List.getElem_map, List.getElem_map, hi', hj', e])).elim
theorem pm_D {A : Nat → Prop} {ws ws' : va_W} (h : va_D A ws) (hp : ws.Perm ws') : va_D A ws' :=
  va_D.of_nodup ((hp.map Prod.fst).nodup h.nodup) (fun q hq => by
    obtain ⟨k, hk⟩ := List.getElem?_of_mem (hp.mem_iff.mpr hq)
    exact h.2 k q hk)
section MOVES
variable {D : va_G} {cl : List vw_C} {A : Nat → Prop} {X Y pl n1 : va_W} {e : Nat × va_E} {H : Heap}
theorem mv_perm : ((X ++ pl) ++ n1).Perm ((X ++ n1) ++ pl) := by
  rw [List.append_assoc, List.append_assoc]
  exact List.Perm.append_left X List.perm_append_comm
theorem mvP (h : va_P D cl ((X ++ pl) ++ n1) H) : va_P D cl ((X ++ n1) ++ pl) H := pm_P h (fun q hq => mv_perm.mem_iff.mpr hq)
theorem mvD (h : va_D A ((X ++ pl) ++ n1)) : va_D A ((X ++ n1) ++ pl) := pm_D h mv_perm
theorem apn (h : va_P D cl Y H) : va_P D cl (Y ++ []) H := by rw [List.append_nil]; exact h
theorem apd (h : va_D A Y) : va_D A (Y ++ []) := by rw [List.append_nil]; exact h
theorem napn (h : va_P D cl (Y ++ []) H) : va_P D cl Y H := by rw [List.append_nil] at h; exact h
theorem napd (h : va_D A (Y ++ [])) : va_D A Y := by rw [List.append_nil] at h; exact h
theorem er_perm : ∀ (l : va_W) (i : Nat) (x : Nat × va_E), l[i]? = some x → l.Perm (x :: l.eraseIdx i)
  | [], i, x, h => by simp at h
  | a :: l, 0, x, h => by cases h; exact List.Perm.refl _
  | a :: l, i + 1, x, h => by
    have h' : l[i]? = some x := h
    exact (List.Perm.cons a (er_perm l i x h')).trans (List.Perm.swap x a _)
theorem psh_new {L : List Nat} {f : Nat → va_E} {q : Nat} {x : va_E} (i : Nat) (hi : Y[i]? = some (q, x)) (hD : va_D A (Y ++ va_pl L f)) : q ∉ L := by
  intro hq
  obtain ⟨k, hk⟩ := va_pl_get (X := Y) (f := f) hq
  have hil := (List.getElem?_eq_some_iff.mp hi).1
  have h1 : (Y ++ va_pl L f)[i]? = some (q, x) := by rw [List.getElem?_append_left hil]; exact hi
  have hx : va_D A ((va_pl L f) ++ Y) := pm_D hD List.perm_append_comm
  have hm : (q, f q) ∈ va_pl L f := by
    simp only [va_pl, List.mem_map]
    exact ⟨q, hq, rfl⟩
  obtain ⟨j, hj⟩ := List.getElem?_of_mem hm
  have hjl := (List.getElem?_eq_some_iff.mp hj).1
  have h2 : (va_pl L f ++ Y)[j]? = some (q, f q) := by rw [List.getElem?_append_left hjl]; exact hj
  have h3 : (va_pl L f ++ Y)[(va_pl L f).length + i]? = some (q, x) := by rw [List.getElem?_append_right (by omega), Nat.add_sub_cancel_left]; exact hi
  have := hx.1 _ _ _ _ h2 h3 rfl
  omega
theorem psh {L : List Nat} {f g : Nat → va_E} {q : Nat} {x : va_E} (i : Nat) (hi : Y[i]? = some (q, x)) (hq : q ∉ L) (hP : va_P D cl (Y ++ va_pl L f) H) (hD : va_D A (Y ++ va_pl L f)) (hg : ∀ a, va_up f q x a = g a) : va_P D cl (Y.eraseIdx i ++ va_pl (L ++ [q]) g) H ∧ va_D A (Y.eraseIdx i ++ va_pl (L ++ [q]) g) := by
  have hp : (Y ++ va_pl L f).Perm (Y.eraseIdx i ++ va_pl (L ++ [q]) g) := by
    rw [← va_pl_congr hg, ← va_pl_push hq]
    have h1 : (Y ++ va_pl L f).Perm ((q, x) :: (Y.eraseIdx i ++ va_pl L f)) := List.Perm.append_right _ (er_perm Y i _ hi)
    refine h1.trans ?_
    rw [← List.append_assoc]
    exact List.perm_append_comm (l₁ := [(q, x)])
  exact ⟨pm_P hP (fun z hz => hp.mem_iff.mpr hz), pm_D hD hp⟩
variable {cy : Nat → ClassId} {L : List Nat} {K : Nat → Nat} {te le tb : Nat → Int32} {mb wr : Nat → Int64} {nu : Nat → Int32} {ro : Nat → Nat} {pn : Nat → Int32} {rw : Nat → Nat → Int32} {dr : Nat → Nat → Option Nat} {q : Nat}
theorem psh0 {t l b : Int32} {m w : Int64} (i : Nat) (hi : Y[i]? = some (q, .inr (11, [.int t, .int l, .int b, .long m, .long w]))) (hq : q ∉ L) (hP : va_P D cl (Y ++ va_pl L (plF cy K te le tb mb wr nu ro pn rw dr)) H) (hD : va_D A (Y ++ va_pl L (plF cy K te le tb mb wr nu ro pn rw dr))) :
    va_P D cl (Y.eraseIdx i ++ va_pl (L ++ [q]) (plF cy (va_up K q 0) (va_up te q t) (va_up le q l) (va_up tb q b) (va_up mb q m) (va_up wr q w) nu ro pn rw dr)) H ∧ va_D A (Y.eraseIdx i ++ va_pl (L ++ [q]) (plF cy (va_up K q 0) (va_up te q t) (va_up le q l) (va_up tb q b) (va_up mb q m) (va_up wr q w) nu ro pn rw dr)) := by
  refine psh i hi hq hP hD (fun a => ?_)
  by_cases ha : a = q
  · subst ha; simp [va_up, plF]
  · simp [va_up, ha, plF]
theorem psh1 {n p : Int32} {r : Nat} (i : Nat) (hi : Y[i]? = some (q, .inr (6, [.int n, .ref r, .int p]))) (hq : q ∉ L) (hP : va_P D cl (Y ++ va_pl L (plF cy K te le tb mb wr nu ro pn rw dr)) H) (hD : va_D A (Y ++ va_pl L (plF cy K te le tb mb wr nu ro pn rw dr))) :
    va_P D cl (Y.eraseIdx i ++ va_pl (L ++ [q]) (plF cy (va_up K q 1) te le tb mb wr (va_up nu q n) (va_up ro q r) (va_up pn q p) rw dr)) H ∧ va_D A (Y.eraseIdx i ++ va_pl (L ++ [q]) (plF cy (va_up K q 1) te le tb mb wr (va_up nu q n) (va_up ro q r) (va_up pn q p) rw dr)) := by
  refine psh i hi hq hP hD (fun a => ?_)
  by_cases ha : a = q
  · subst ha; simp [va_up, plF]
  · simp [va_up, ha, plF]
theorem psh2 {f : Nat → Int32} (i : Nat) (hi : Y[i]? = some (q, .inl (cy 0, 32, .inl f))) (hq : q ∉ L) (hP : va_P D cl (Y ++ va_pl L (plF cy K te le tb mb wr nu ro pn rw dr)) H) (hD : va_D A (Y ++ va_pl L (plF cy K te le tb mb wr nu ro pn rw dr))) :
    va_P D cl (Y.eraseIdx i ++ va_pl (L ++ [q]) (plF cy (va_up K q 2) te le tb mb wr nu ro pn (va_up rw q f) dr)) H ∧ va_D A (Y.eraseIdx i ++ va_pl (L ++ [q]) (plF cy (va_up K q 2) te le tb mb wr nu ro pn (va_up rw q f) dr)) := by
  refine psh i hi hq hP hD (fun a => ?_)
  by_cases ha : a = q
  · subst ha; simp [va_up, plF]
  · simp [va_up, ha, plF]
theorem psh3 {f : Nat → Option Nat} (i : Nat) (hi : Y[i]? = some (q, .inl (cy 3, 10, .inr (.inr (.inr (.inr f)))))) (hq : q ∉ L) (hP : va_P D cl (Y ++ va_pl L (plF cy K te le tb mb wr nu ro pn rw dr)) H) (hD : va_D A (Y ++ va_pl L (plF cy K te le tb mb wr nu ro pn rw dr))) :
    va_P D cl (Y.eraseIdx i ++ va_pl (L ++ [q]) (plF cy (va_up K q 3) te le tb mb wr nu ro pn rw (va_up dr q f))) H ∧ va_D A (Y.eraseIdx i ++ va_pl (L ++ [q]) (plF cy (va_up K q 3) te le tb mb wr nu ro pn rw (va_up dr q f))) := by
  refine psh i hi hq hP hD (fun a => ?_)
  by_cases ha : a = q
  · subst ha; simp [va_up, plF]
  · simp [va_up, ha, plF]
end MOVES
theorem ra_inj {U : State} {a b : ClassId} {ty : FieldType} (h1 : va_RA U a ty) (h2 : va_RA U b ty) : a = b := by
  cases ty with
  | object C =>
    obtain ⟨_, _, _, _, _, e1⟩ := h1
    obtain ⟨_, _, _, _, _, e2⟩ := h2
    exact Option.some.inj (e1.symm.trans e2)
  | _ => exact Option.some.inj (Eq.trans (Eq.symm h1) h2)
section MAKES
variable {p : Program} {l : Launch} {e : Env} {R : Room} {s : State} {m : MethodId} {args : Array Value} {below : List Frame} {meth : Method} {c : Code} {H : Heap} {locs : List Loc} {cells slots : Nat} {Q : State → Prop}
variable {cc : ByteArray} {pc : Nat} {ls : Array Slot} {rest : List Value} {A : Nat → Prop} {H0 : Heap} {D : va_G} {cl : List vw_C} {tys : List (ClassId × FieldType)} {ws : va_W}
theorem nw_a {cK : ClassId} {ty : FieldType} (t0 : Nat) (ht : tys[t0]? = some (cK, ty)) (hexec : p.tables.exec = Jvm.exec) (hb : c.code = cc) {atype : ArrayType} (harr : (Cond.arrayClass ty).before args s = true) (hty : newarray.typeOf atype = ty) (hK : va_K D cl tys s) (hP : va_P D cl ws H) (hD : va_D A ws) (hS : va_S A H0 H locs) (hA : ∀ q, H0.size ≤ q → A q)
    {n : Int32} {N' : Nat} {a0 : vp_A} (ha : ∀ cA : ClassId, vp_cell cA a0 = arrV cA N' (fun _ => defaultValue ty)) (hn : ¬ n < 0) (hN : n.toNatClampNeg = N') (hbytes : N' * componentBytes ty ≤ 536870912) (hcells : cells + 1 ≤ R.cells) (hslots : slots + N' ≤ R.slots) (hdg : decode cc pc = .ok (.newarray atype, 2))
    (kk : ∀ (q : Nat) (H1 : Heap), va_P D cl (ws ++ [(q, .inl (cK, a0))]) H1 → va_D A (ws ++ [(q, .inl (cK, a0))]) → va_S A H0 H1 locs →
      W p l e R s m args below meth c H1 locs (cells + 1) (slots + N') Q (F0 m (pc + 2) ls (.ref q :: rest))) : W p l e R s m args below meth c H locs cells slots Q (F0 m pc ls (.int n :: rest)) := by
  refine va_newa hexec hb (by rw [hty]; exact harr) hty hK hP hD hS hA ha hn hN hbytes hcells hslots hdg (fun q cA H1 hK' hP' hD' hS' => ?_)
  obtain rfl : cA = cK := ra_inj (hK'.2 tys.length (cA, ty) (by simp)).2 (hK.2 t0 _ ht).2
  exact kk q H1 hP' hD' hS'
theorem nw_q {cK : ClassId} {C : String} (t0 : Nat) (ht : tys[t0]? = some (cK, .object C)) (hexec : p.tables.exec = Jvm.exec) (hb : c.code = cc) {own : String} {index : Nat} (hown : s.vm.findClass own = some m.cls) (hclink : (Cond.classLink own index C).before args s = true) (hover : va_AO C s) (hK : va_K D cl tys s) (hP : va_P D cl ws H) (hD : va_D A ws) (hS : va_S A H0 H locs) (hA : ∀ q, H0.size ≤ q → A q)
    {n : Int32} {N' : Nat} (hn : ¬ n < 0) (hN : n.toNatClampNeg = N') (hbytes : N' * 4 ≤ 536870912) (hcells : cells + 1 ≤ R.cells) (hslots : slots + N' ≤ R.slots) (hdg : decode cc pc = .ok (.anewarray index, 3))
    (kk : ∀ (q : Nat) (H1 : Heap), va_P D cl (ws ++ [(q, .inl (cK, N', .inr (.inr (.inr (.inr (fun _ => none))))))]) H1 → va_D A (ws ++ [(q, .inl (cK, N', .inr (.inr (.inr (.inr (fun _ => none))))))]) → va_S A H0 H1 locs →
      W p l e R s m args below meth c H1 locs (cells + 1) (slots + N') Q (F0 m (pc + 3) ls (.ref q :: rest))) : W p l e R s m args below meth c H locs cells slots Q (F0 m pc ls (.int n :: rest)) := by
  refine va_newq hexec hb hown hclink hover hK hP hD hS hA hn hN hbytes hcells hslots hdg (fun q cA H1 hK' hP' hD' hS' => ?_)
  obtain rfl : cA = cK := ra_inj (hK'.2 tys.length (cA, .object C) (by simp)).2 (hK.2 t0 _ ht).2
  exact kk q H1 hP' hD' hS'
variable {st0 : List Value} {a : Array Value} {A0 : Nat → Prop} {mc ms : Nat} {X xc pl : va_W} {S : Type} {X1 P1 : S → va_W}
theorem clw_v {Post : S → Prop} (hr : va_Run p l e R s m args below meth c H locs cells slots mc ms (F0 m pc ls st0) rest (GV D Post (fun u => X1 u ++ P1 u) (va_A (xc ++ pl) H.size) a) (va_A (xc ++ pl) H.size)) (hP : va_P D vwCl (X ++ pl) H) (hD : va_D A0 (X ++ pl)) (hS : va_S A0 H0 H locs) (hA : ∀ q, H0.size ≤ q → A0 q) (is : List Nat) (hC : is.map (fun i => X[i]?) = xc.map some) (hn : va_nd is = true) (ha : ∀ u, (X1 u).map Prod.fst = xc.map Prod.fst)
    (kk : ∀ u : S, Post u → ∀ (H1 : Heap) (locs1 : List Loc), va_P D vwCl (wput X is (X1 u) ++ P1 u) H1 → va_D A0 (wput X is (X1 u) ++ P1 u) → va_S A0 H0 H1 locs1 → W p l e R s m args below meth c H1 locs1 (cells + mc) (slots + ms) Q (F0 m (pc + 3) ls rest)) : W p l e R s m args below meth c H locs cells slots Q (F0 m pc ls st0) := by
  have hF := va_freeP hD hS hA is hC
  refine va_callv hr hS (fun q _ h => hF q h) hF (fun u t H1 locs1 ht hvm hw hB hz hk hS1 => ?_)
  obtain ⟨hP1, hD1⟩ := wputP_ok hP hD is hC hn (ha u) hk hF (by rw [← ht]; exact hB.1) hB.2
  exact kk u hw H1 locs1 hP1 hD1 hS1
theorem clw_i {Post : Int32 × S → Prop} (hr : va_Run p l e R s m args below meth c H locs cells slots mc ms (F0 m pc ls st0) rest (GI D Post (fun u => X1 u ++ P1 u) (va_A (xc ++ pl) H.size) a) (va_A (xc ++ pl) H.size)) (hP : va_P D vwCl (X ++ pl) H) (hD : va_D A0 (X ++ pl)) (hS : va_S A0 H0 H locs) (hA : ∀ q, H0.size ≤ q → A0 q) (is : List Nat) (hC : is.map (fun i => X[i]?) = xc.map some) (hn : va_nd is = true) (ha : ∀ u, (X1 u).map Prod.fst = xc.map Prod.fst)
    (kk : ∀ v : Int32 × S, Post v → ∀ (H1 : Heap) (locs1 : List Loc), va_P D vwCl (wput X is (X1 v.2) ++ P1 v.2) H1 → va_D A0 (wput X is (X1 v.2) ++ P1 v.2) → va_S A0 H0 H1 locs1 → W p l e R s m args below meth c H1 locs1 (cells + mc) (slots + ms) Q (F0 m (pc + 3) ls (.int v.1 :: rest))) : W p l e R s m args below meth c H locs cells slots Q (F0 m pc ls st0) := by
  have hF := va_freeP hD hS hA is hC
  refine va_calli hr hS (fun q _ h => hF q h) hF (fun r u t H1 locs1 ht hvm hw hB hz hk hS1 => ?_)
  obtain ⟨hP1, hD1⟩ := wputP_ok hP hD is hC hn (ha u) hk hF (by rw [← ht]; exact hB.1) hB.2
  exact kk (r, u) hw H1 locs1 hP1 hD1 hS1
theorem clw_e {ad : S → Nat} {Post : S → Prop} (hr : va_Run p l e R s m args below meth c H locs cells slots mc ms (F0 m pc ls st0) rest (GE D ad Post (fun u => X1 u ++ P1 u) (va_A (xc ++ pl) H.size) a) (va_A (xc ++ pl) H.size)) (hP : va_P D vwCl (X ++ pl) H) (hD : va_D A0 (X ++ pl)) (hS : va_S A0 H0 H locs) (hA : ∀ q, H0.size ≤ q → A0 q) (is : List Nat) (hC : is.map (fun i => X[i]?) = xc.map some) (hn : va_nd is = true) (ha : ∀ u, (X1 u).map Prod.fst = xc.map Prod.fst)
    (kk : ∀ u : S, Post u → ∀ (H1 : Heap) (locs1 : List Loc), va_P D vwCl (wput X is (X1 u) ++ P1 u) H1 → va_D A0 (wput X is (X1 u) ++ P1 u) → va_S A0 H0 H1 locs1 → W p l e R s m args below meth c H1 locs1 (cells + mc) (slots + ms) Q (F0 m (pc + 3) ls (.ref (ad u) :: rest))) : W p l e R s m args below meth c H locs cells slots Q (F0 m pc ls st0) := by
  have hF := va_freeP hD hS hA is hC
  refine va_callq hr hS (fun q _ h => hF q h) hF (fun r u t H1 locs1 ht hvm hw hB hz hk hS1 => ?_)
  obtain ⟨rfl, hw⟩ := hw
  obtain ⟨hP1, hD1⟩ := wputP_ok hP hD is hC hn (ha u) hk hF (by rw [← ht]; exact hB.1) hB.2
  exact kk u hw H1 locs1 hP1 hD1 hS1
end MAKES
section THROWS
variable {p : Program} {l : Launch} {e : Env} {R : Room} {s : State} {m : MethodId} {args : Array Value} {below : List Frame} {meth : Method} {c : Code} {H : Heap} {locs : List Loc} {cells slots : Nat} {Q : State → Prop}
variable {cc : ByteArray} {pc : Nat} {ls : Array Slot} {rest st0 : List Value} {a : Array Value} {A0 A : Nat → Prop} {H0 : Heap} {mc ms : Nat} {D : va_G} {cy : Nat → ClassId} {sa : Nat → Nat} {z0 : Nat} {ws wc : va_W} {S T : Type} {W1 : S → va_W} {Qc : Array Value → State → Outcome → State → Prop}
theorem th_G {Post : T ⊕ String → Prop} {cls text : String} {names : List String} {ik is ic : Nat} (hx : p.tables.exec = Jvm.exec) (hb : c.code = cc) (hst : l.stackTraces = false) (hown : s.vm.findClass RX8 = some m.cls) (hfit : Bundle.fit cls = true) (hnames : ∀ n ∈ names, Bundle.fit n = true)
    (hk : Cond.classLink RX8 ik cls ∈ lw_all) (hini : Cond.initialized cls ∈ lw_all) (htx : Cond.stringRef RX8 is text ∈ lw_tbl) (hat : atOk RX8 ic cls names = true)
    (hG : amb D cy sa z0 s) (hts : ∀ w ∈ lw_all, w.before args s = true) (hS : va_S A s.heap H locs) (hZ : ∀ q, A q → z0 ≤ q) (hP : va_P D vwCl ws H) (hD : va_D A ws) (hsize : ls.size = c.maxLocals)
    (d0 : decode cc pc = .ok (.new ik, 3)) (d3 : decode cc (pc + 3) = .ok (.dup, 1)) (d4 : decode cc (pc + 4) = .ok (.ldc is, 2)) (d6 : decode cc (pc + 6) = .ok (.invokespecial ic, 3)) (d9 : decode cc (pc + 9) = .ok (.athrow, 1))
    (hno : ∀ x ∈ c.exceptionTable.toList, False) (hf : names.length + 3 < R.frames) (hlo : (rest.map fun v => v.category).sum + (13 * (names.length + 1) + 43) ≤ R.locals) (hce : cells + 1 ≤ R.cells) (hsl : slots + 6 ≤ R.slots) (hlocks : meth.locks = false) (ho : Post (Sum.inr cls)) (hc : cells + 1 ≤ mc) (hs : slots + 6 ≤ ms) :
    W p l e R s m args below meth c H locs cells slots (vx_MQ below Qc (XG D Post ws A) args s mc ms A) (F0 m pc ls rest) := by
  obtain ⟨sx, hsx⟩ := hG.2.2.2.2.1 is text htx
  refine vx_throwS (names := names) (A := A) hx hb hst hown hfit hnames (hts _ hk) (hts _ hini) hsx (atOk_at hat hG hts) (fun w hw => ?_) ((amb_U hG).narrow hZ) ((amb_V hG).narrow hZ) hS hsize d0 d3 d4 d6 d9 (fun x h => (hno x h).elim) hf hlo hce hsl hlocks (fun t ha hz hk2 => ?_) hS.2.2 hc hs
  · rcases List.mem_cons.mp hw with rfl | hw
    · rfl
    · rcases List.mem_cons.mp hw with rfl | hw
      · rfl
      · exact atOk_ot hat w hw
  · refine ⟨(), trivial, ⟨ho, hP.kept (fun k q hq => hk2 _ (hP k q hq).lt), hD⟩, ⟨Nat.le_trans hS.1 hz, fun q h1 h2 => (hk2 q (Nat.lt_of_lt_of_le h1 hS.1)).trans (hS.2.1 q h1 h2)⟩⟩
end THROWS
