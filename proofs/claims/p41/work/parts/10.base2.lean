/-! WORLDS BY PLACES: what a callee leaves is put back at its places -/
def wput : va_W → List Nat → va_W → va_W
  | ws, i :: is, e :: es => wput (ws.set i e) is es
  | ws, _, _ => ws
theorem va_D.adr {A : Nat → Prop} {ws ws' : va_W} (h : va_D A ws) (e : ws'.map Prod.fst = ws.map Prod.fst) : va_D A ws' := by
  have key : ∀ (k : Nat) (q : Nat × va_E), ws'[k]? = some q → ∃ q0, ws[k]? = some q0 ∧ q0.1 = q.1 := by
    intro k q hk
    have h1 : (ws'.map Prod.fst)[k]? = some q.1 := by rw [List.getElem?_map, hk]; rfl
    rw [e, List.getElem?_map] at h1
    cases h2 : ws[k]? with
    | none => rw [h2] at h1; cases h1
    | some q0 => rw [h2] at h1; exact ⟨q0, rfl, Option.some.inj h1⟩
  refine ⟨fun i j x y hi hj hxy => ?_, fun k q hk => ?_⟩
  · obtain ⟨x0, h1, h2⟩ := key i x hi
    obtain ⟨y0, h3, h4⟩ := key j y hj
    exact h.1 i j x0 y0 h1 h3 (h2.trans (hxy.trans h4.symm))
  · obtain ⟨q0, h1, h2⟩ := key k q hk
    rw [← h2]
    exact h.2 k q0 h1
theorem wput_adr : ∀ (is : List Nat) (ws w1 wc : va_W), is.map (fun i => ws[i]?) = wc.map some → w1.map Prod.fst = wc.map Prod.fst → va_nd is = true → (wput ws is w1).map Prod.fst = ws.map Prod.fst
  | [], ws, w1, wc, _, _, _ => by cases w1 <;> rfl
  | i :: is, ws, [], wc, _, _, _ => rfl
  | i :: is, ws, e :: w1, [], h, _, _ => by cases h
  | i :: is, ws, e :: w1, q :: wc, h, ha, hn => by
    simp only [List.map_cons, List.cons.injEq] at h ha
    simp only [va_nd, Bool.and_eq_true, decide_eq_true_eq] at hn
    have h2 : is.map (fun j => (ws.set i e)[j]?) = wc.map some := by
      rw [← h.2]
      apply List.map_congr_left
      intro j hj
      rw [List.getElem?_set_ne (fun z => hn.1 (by rw [z]; exact hj))]
    show (wput (ws.set i e) is w1).map Prod.fst = _
    rw [wput_adr is (ws.set i e) w1 wc h2 ha.2 hn.2]
    apply List.ext_getElem?
    intro j
    rw [List.getElem?_map, List.getElem?_map]
    by_cases hj : j = i
    · subst hj
      have hl := (List.getElem?_eq_some_iff.mp h.1).1
      rw [List.getElem?_set_self hl, h.1]
      show some e.1 = some q.1
      rw [ha.1]
    · rw [List.getElem?_set_ne (Ne.symm hj)]
theorem wput_at : ∀ (is : List Nat) (ws w1 : va_W), va_nd is = true → ∀ (j : Nat) (q : Nat × va_E), (wput ws is w1)[j]? = some q → (ws[j]? = some q ∧ (j ∉ is ∨ w1.length < is.length)) ∨ ∃ k : Nat, w1[k]? = some q
  | [], ws, w1, _, j, q, h => by
    have e : wput ws [] w1 = ws := by cases w1 <;> rfl
    rw [e] at h
    exact Or.inl ⟨h, Or.inl (fun z => by cases z)⟩
  | i :: is, ws, [], _, j, q, h => Or.inl ⟨h, Or.inr (Nat.succ_pos _)⟩
  | i :: is, ws, e :: w1, hn, j, q, h => by
    simp only [va_nd, Bool.and_eq_true, decide_eq_true_eq] at hn
    rcases wput_at is (ws.set i e) w1 hn.2 j q h with ⟨h1, h2⟩ | ⟨k, h1⟩
    · by_cases hj : j = i
      · subst hj
        rcases Nat.lt_or_ge j ws.length with hl | hl
        · rw [List.getElem?_set_self hl] at h1
          exact Or.inr ⟨0, h1⟩
        · rw [List.getElem?_eq_none (by rw [List.length_set]; exact hl)] at h1
          cases h1
      · rw [List.getElem?_set_ne (Ne.symm hj)] at h1
        refine Or.inl ⟨h1, h2.elim (fun h2 => Or.inl (fun z => (List.mem_cons.mp z).elim hj h2)) (fun h2 => Or.inr (Nat.succ_lt_succ h2))⟩
    · exact Or.inr ⟨k + 1, h1⟩
theorem wput_ok {A0 : Nat → Prop} {D : va_G} {cl : List vw_C} {ws wc w1 : va_W} {H H1 : Heap} (hP : va_P D cl ws H) (hD : va_D A0 ws) (is : List Nat) (hC : is.map (fun i => ws[i]?) = wc.map some) (hn : va_nd is = true) (ha : w1.map Prod.fst = wc.map Prod.fst)
    (hk : ∀ q : Nat, q < H.size → ¬ va_A wc H.size q → H1[q]? = H[q]?) (hP1 : va_P D cl w1 H1) : va_P D cl (wput ws is w1) H1 ∧ va_D A0 (wput ws is w1) := by
  refine ⟨fun j q hq => ?_, hD.adr (wput_adr is ws w1 wc hC ha hn)⟩
  rcases wput_at is ws w1 hn j q hq with ⟨h1, h2⟩ | ⟨k, h1⟩
  · have hl := (hP j q h1).lt
    have hlen : w1.length = is.length := by
      have e1 := congrArg List.length ha
      have e2 := congrArg List.length hC
      simp only [List.length_map] at e1 e2
      omega
    have hj : j ∉ is := h2.elim id (fun z => absurd z (by omega))
    refine (hP j q h1).kept (hk q.1 hl (fun z => ?_))
    rcases z with ⟨k2, e, h⟩ | h
    · obtain ⟨i, h3, h4⟩ := va_in_of is hC h
      have hij := hD.1 j i q (q.1, e) h1 h4 rfl
      exact hj (by rw [hij]; exact List.mem_of_getElem? h3)
    · omega
  · exact hP1 k q h1
/-! WHAT HOLDS ALL THE TIME: the classes, the tables' words, what the statics hold; nothing below z0 is ever written -/
abbrev tysG (cy : Nat → ClassId) : List (ClassId × FieldType) := [(cy 0, .int), (cy 1, .byte), (cy 2, .object "MinsterClock$Drum"), (cy 3, .object "java/lang/Object"), (cy 4, .char)]
def nwk : Cond → Bool
  | .methodLinkNest .. => true
  | w => w.faceAtom
def amW (U : State) : Prop := ∀ w ∈ lw_tbl, w.onTables = true → nwk w = true → va_Nw w U
theorem amW.same {u U : State} (h : u.vm = U.vm) (H : amW u) : amW U := fun w hw ht hk => va_Nw.same ht h (H w hw ht hk)
theorem amW.warm {s U : State} (hW : s.WarmedH U.vm) (H : amW s) : amW U := by
  intro w hw ht hk
  have h := H w hw ht hk
  by_cases hf : w.faceAtom = true
  · exact va_tabs ht (rfl : (s.setVm U.vm).vm = U.vm) (Cond.faceAtom_setVm hW.alike w hf h)
  · have : ∃ a i x h, w = .methodLinkNest a i x h := by
      cases w <;> first | exact ⟨_, _, _, _, rfl⟩ | exact absurd hk hf
    obtain ⟨a, i, x, h', rfl⟩ := this
    exact va_Nw.warmM hW h
def fDOM : Nat → Int32 := fun j => ([31, 28, 31, 30, 31, 30, 31, 31, 30, 31, 30, 31] : List Int32).getD j 0
def fDBM : Nat → Int32 := fun j => ([0, 31, 59, 90, 120, 151, 181, 212, 243, 273, 304, 334] : List Int32).getD j 0
def fBFB : Nat → Int32 := fun j => ([1, 60, 700] : List Int32).getD j 0
def zA (z0 : Nat) : Nat → Prop := fun q => z0 ≤ q
def fDO : Nat → Int32 := fun j => nI (48 + j % 10)
def fDT : Nat → Int32 := fun j => nI (48 + j / 10)
def fG (sa : Nat → Nat) : Nat → Int64 := fun j => Int64.ofNat (sa (1000 + j))
def fP : Nat → Int64 := fun j => Int64.ofNat (10 ^ j)
def fA (sa : Nat → Nat) : Nat → Int32 := fun j => Int32.ofNat (sa (10 + j))
def amS1 (sa : Nat → Nat) (z0 : Nat) (U : State) (H : Heap) : Prop :=
  (va_Z "java/util/ArrayList" "DEFAULTCAPACITY_EMPTY_ELEMENTDATA" "[Ljava/lang/Object;" (.ref (sa 0)) (zA z0) U H ∧ va_T (.object "java/lang/Object") (sa 0) 0 (fun _ => .null) (zA z0) U H) ∧
  (va_Z "MinsterClock$Dates" "DAYS_OF_MONTHS" "[I" (.ref (sa 1)) (zA z0) U H ∧ va_T .int (sa 1) 12 (fun j => .int (fDOM j)) (zA z0) U H) ∧
  (va_Z "MinsterClock$Dates" "DAYS_BEFORE_MONTHS" "[I" (.ref (sa 2)) (zA z0) U H ∧ va_T .int (sa 2) 12 (fun j => .int (fDBM j)) (zA z0) U H) ∧
  (va_Z "MinsterClock" "BEATS_FOUND_BOTH_WAYS" "[I" (.ref (sa 3)) (zA z0) U H ∧ va_T .int (sa 3) 3 (fun j => .int (fBFB j)) (zA z0) U H) ∧
  vx_Zq Bundle.tN "UNASSIGNED_STACK" Bundle.steD (zA z0) U H ∧ vx_Zq Bundle.tN "SUPPRESSED_SENTINEL" Bundle.listD (zA z0) U H
def amS2 (sa : Nat → Nat) (z0 : Nat) (U : State) (H : Heap) : Prop :=
  va_Z "java/lang/String" "COMPACT_STRINGS" "Z" (.int 1) (zA z0) U H ∧
  (va_Z "java/lang/Integer" "DigitOnes" "[B" (.ref (sa 4)) (zA z0) U H ∧ va_T .byte (sa 4) 100 (fun j => .int (fDO j)) (zA z0) U H) ∧
  (va_Z "java/lang/Integer" "DigitTens" "[B" (.ref (sa 5)) (zA z0) U H ∧ va_T .byte (sa 5) 100 (fun j => .int (fDT j)) (zA z0) U H) ∧
  (va_Z "jdk/internal/math/MathUtils" "g" "[J" (.ref (sa 6)) (zA z0) U H ∧ va_T .long (sa 6) 1234 (fun j => .long (fG sa j)) (zA z0) U H) ∧
  (va_Z "jdk/internal/math/MathUtils" "pow10" "[J" (.ref (sa 7)) (zA z0) U H ∧ va_T .long (sa 7) 18 (fun j => .long (fP j)) (zA z0) U H) ∧
  va_T .int (sa 8) (sa 9) (fun j => .int (fA sa j)) (zA z0) U H
def amS (sa : Nat → Nat) (z0 : Nat) (U : State) (H : Heap) : Prop := amS1 sa z0 U H ∧ amS2 sa z0 U H
theorem amS1.moved {sa : Nat → Nat} {z0 : Nat} {u U : State} {H : Heap} (hvm : u.vm.Alike U.vm) (h : amS1 sa z0 u H) : amS1 sa z0 U H := by
  obtain ⟨⟨a1, a2⟩, ⟨b1, b2⟩, ⟨c1, c2⟩, ⟨d1, d2⟩, e1, e2⟩ := h
  exact ⟨⟨a1.moved hvm, a2.moved hvm⟩, ⟨b1.moved hvm, b2.moved hvm⟩, ⟨c1.moved hvm, c2.moved hvm⟩, ⟨d1.moved hvm, d2.moved hvm⟩, e1.moved hvm, e2.moved hvm⟩
theorem amS1.kept {sa : Nat → Nat} {z0 : Nat} {U : State} {H H1 : Heap} (h : amS1 sa z0 U H) (hq : ∀ a : Nat, a < H.size → ¬ zA z0 a → H1[a]? = H[a]?) : amS1 sa z0 U H1 := by
  obtain ⟨⟨a1, a2⟩, ⟨b1, b2⟩, ⟨c1, c2⟩, ⟨d1, d2⟩, e1, e2⟩ := h
  exact ⟨⟨a1.kept hq, a2.kept hq⟩, ⟨b1.kept hq, b2.kept hq⟩, ⟨c1.kept hq, c2.kept hq⟩, ⟨d1.kept hq, d2.kept hq⟩, e1.kept hq, e2.kept hq⟩
theorem amS2.moved {sa : Nat → Nat} {z0 : Nat} {u U : State} {H : Heap} (hvm : u.vm.Alike U.vm) (h : amS2 sa z0 u H) : amS2 sa z0 U H := by
  obtain ⟨a0, ⟨a1, a2⟩, ⟨b1, b2⟩, ⟨c1, c2⟩, ⟨d1, d2⟩, e1⟩ := h
  exact ⟨a0.moved hvm, ⟨a1.moved hvm, a2.moved hvm⟩, ⟨b1.moved hvm, b2.moved hvm⟩, ⟨c1.moved hvm, c2.moved hvm⟩, ⟨d1.moved hvm, d2.moved hvm⟩, e1.moved hvm⟩
theorem amS2.kept {sa : Nat → Nat} {z0 : Nat} {U : State} {H H1 : Heap} (h : amS2 sa z0 U H) (hq : ∀ a : Nat, a < H.size → ¬ zA z0 a → H1[a]? = H[a]?) : amS2 sa z0 U H1 := by
  obtain ⟨a0, ⟨a1, a2⟩, ⟨b1, b2⟩, ⟨c1, c2⟩, ⟨d1, d2⟩, e1⟩ := h
  exact ⟨a0.kept hq, ⟨a1.kept hq, a2.kept hq⟩, ⟨b1.kept hq, b2.kept hq⟩, ⟨c1.kept hq, c2.kept hq⟩, ⟨d1.kept hq, d2.kept hq⟩, e1.kept hq⟩
theorem amS.moved {sa : Nat → Nat} {z0 : Nat} {u U : State} {H : Heap} (hvm : u.vm.Alike U.vm) (h : amS sa z0 u H) : amS sa z0 U H := ⟨h.1.moved hvm, h.2.moved hvm⟩
theorem amS.kept {sa : Nat → Nat} {z0 : Nat} {U : State} {H H1 : Heap} (h : amS sa z0 U H) (hq : ∀ a : Nat, a < H.size → ¬ zA z0 a → H1[a]? = H[a]?) : amS sa z0 U H1 := ⟨h.1.kept hq, h.2.kept hq⟩
/-- the texts of the exceptions: each entry's String -/
def amT (U : State) : Prop := ∀ (k : Nat) (tx : String), Cond.stringRef RX8 k tx ∈ lw_tbl → ∃ a : Nat, vk_R RX8 k tx a U
def amO (U : State) : Prop := va_AO "java/lang/Object" U ∧ va_AO "MinsterClock$Drum" U
def amb (D : va_G) (cy : Nat → ClassId) (sa : Nat → Nat) (z0 : Nat) (U : State) : Prop :=
  z0 ≤ U.heap.size ∧ va_K D vwCl (tysG cy) U ∧ amW U ∧ amS sa z0 U U.heap ∧ amT U ∧ amO U
theorem amb.K {D cy sa z0} {U : State} (h : amb D cy sa z0 U) : va_K D vwCl (tysG cy) U := h.2.1
theorem amb.calling {D : va_G} {cy : Nat → ClassId} {sa : Nat → Nat} {z0 : Nat} {U : State} (g : JFrame) (mk : MethodId) (a : Array Value) (h : amb D cy sa z0 U) : amb D cy sa z0 (U.calling g mk a) :=
  ⟨h.1, va_K.moved (u := U) (U := U.calling g mk a) (Vm.Alike.refl U.vm) h.2.1, amW.same (u := U) (U := U.calling g mk a) rfl h.2.2.1, amS.moved (u := U) (U := U.calling g mk a) (Vm.Alike.refl U.vm) h.2.2.2.1, fun k tx hw => by
    obtain ⟨x, hx⟩ := h.2.2.2.2.1 k tx hw
    exact ⟨x, vk_R.same (u := U) (U := U.calling g mk a) rfl hx⟩, va_AO.moved (u := U) (U := U.calling g mk a) (Vm.Alike.refl U.vm) h.2.2.2.2.2.1, va_AO.moved (u := U) (U := U.calling g mk a) (Vm.Alike.refl U.vm) h.2.2.2.2.2.2⟩
theorem amb.go {D : va_G} {cy : Nat → ClassId} {sa : Nat → Nat} {z0 : Nat} {s U : State} {A : Nat → Prop} {H : Heap} {locs : List Loc} (hG : amb D cy sa z0 s) (hS : va_S A s.heap H locs) (hZ : ∀ q, A q → z0 ≤ q) (hU : U.heap = H) (hW : s.WarmedH U.vm) : amb D cy sa z0 U := by
  obtain ⟨h1, h2, h3, h4, h5, h6, h7⟩ := hG
  refine ⟨?_, va_K.moved hW.alike h2, h3.warm hW, ?_, fun k tx hw => ?_, h6.moved hW.alike, h7.moved hW.alike⟩
  · rw [hU]; exact Nat.le_trans h1 hS.1
  · rw [hU]
    exact (amS.moved hW.alike h4).kept (fun a ha hz => hS.2.1 a ha (fun z => hz (hZ a z)))
  · obtain ⟨x, hx⟩ := h5 k tx hw
    exact ⟨x, vk_R.warm hW hx⟩
/-- a method's start, and its world at its end -/
def Pr (D : va_G) (cy : Nat → ClassId) (sa : Nat → Nat) (z0 : Nat) (ws : va_W) (sz : Nat) (U : State) : Prop := amb D cy sa z0 U ∧ U.heap.size = sz ∧ va_P D vwCl ws U.heap ∧ va_D (zA z0) ws
def Wo (D : va_G) (ws : va_W) (A : Nat → Prop) (t : State) : Prop := va_P D vwCl ws t.heap ∧ va_D A ws
theorem Pr.blind {D cy sa z0 ws sz} {av : List Value} : FrameBlind (va_Pc av (Pr D cy sa z0 ws sz)) := fun a U g mk h => ⟨h.1, h.2.1.calling g mk a, h.2.2.1, h.2.2.2.1, h.2.2.2.2⟩
theorem Pr.go {D : va_G} {cy : Nat → ClassId} {sa : Nat → Nat} {z0 : Nat} {s : State} {A : Nat → Prop} {H : Heap} {locs : List Loc} {ws wc : va_W} {av : List Value} (hG : amb D cy sa z0 s) (hS : va_S A s.heap H locs) (hZ : ∀ q, A q → z0 ≤ q) (hP : va_P D vwCl ws H) (hD : va_D A ws) (is : List Nat) (hC : is.map (fun i => ws[i]?) = wc.map some) (hn : va_nd is = true) :
    ∀ U : State, U.heap = H → s.WarmedH U.vm → va_Pc av (Pr D cy sa z0 wc H.size) av.toArray U := by
  intro U hU hW
  refine ⟨rfl, hG.go hS hZ hU hW, by rw [hU], ?_, (hD.sub is hn hC).weaken (fun _ _ _ h => hZ _ h)⟩
  rw [hU]
  intro k q hq
  obtain ⟨i, h1, h2⟩ := va_in_of is hC hq
  exact hP i q h2
theorem preS {D : va_G} {cy : Nat → ClassId} {sa : Nat → Nat} {z0 : Nat} {s : State} {A : Nat → Prop} {H : Heap} {locs : List Loc} {ws wc : va_W} {av : List Value} (hG : amb D cy sa z0 s) (hS : va_S A s.heap H locs) (hZ : ∀ q, A q → z0 ≤ q) (hP : va_P D vwCl ws H) (hD : va_D A ws) (is : List Nat) (hC : is.map (fun i => ws[i]?) = wc.map some) (hn : va_nd is = true) :
    PreS s H (va_Pc av (Pr D cy sa z0 wc H.size)) av := ⟨Pr.blind, Pr.go hG hS hZ hP hD is hC hn⟩
theorem preV {D : va_G} {cy : Nat → ClassId} {sa : Nat → Nat} {z0 : Nat} {s : State} {A : Nat → Prop} {H : Heap} {locs : List Loc} {ws wc : va_W} {b : Nat} {av : List Value} (hG : amb D cy sa z0 s) (hS : va_S A s.heap H locs) (hZ : ∀ q, A q → z0 ≤ q) (hP : va_P D vwCl ws H) (hD : va_D A ws) (is : List Nat) (hC : is.map (fun i => ws[i]?) = wc.map some) (hn : va_nd is = true)
    {q0 ci : Nat} {q : vw_C} {fs : List Value} (hc : vwCl[ci]? = some q) (he : ws[q0]? = some (b, .inr (ci, fs))) : PreV s H q.1 b (va_Pc (.ref b :: av) (Pr D cy sa z0 wc H.size)) av := ⟨Pr.blind, va_recv hG.K hP hc he, Pr.go hG hS hZ hP hD is hC hn⟩
/-- a contract's ends: the answer and what was changed are o -/
abbrev QI {S : Type} (D : va_G) (o : Int32 × S) (W1 : S → va_W) (A : Nat → Prop) := va_Qi (fun (r : Int32) (u : S) => (r, u) = o) (fun u => Wo D (W1 u) A) A
abbrev QL {S : Type} (D : va_G) (o : Int64 × S) (W1 : S → va_W) (A : Nat → Prop) := va_Ql (fun (r : Int64) (u : S) => (r, u) = o) (fun u => Wo D (W1 u) A) A
abbrev QF {S : Type} (D : va_G) (o : UInt32 × S) (W1 : S → va_W) (A : Nat → Prop) := va_Qf (fun (r : UInt32) (u : S) => (r, u) = o) (fun u => Wo D (W1 u) A) A
abbrev QD {S : Type} (D : va_G) (o : UInt64 × S) (W1 : S → va_W) (A : Nat → Prop) := va_Qd (fun (r : UInt64) (u : S) => (r, u) = o) (fun u => Wo D (W1 u) A) A
abbrev QQ {S : Type} (D : va_G) (o : Option Nat × S) (W1 : S → va_W) (A : Nat → Prop) := va_Qq (fun (r : Option Nat) (u : S) => (r, u) = o) (fun u => Wo D (W1 u) A) A
abbrev QV {S : Type} (D : va_G) (o : S) (W1 : S → va_W) (A : Nat → Prop) := va_Qv (fun (u : S) => u = o) (fun u => Wo D (W1 u) A) A
theorem Met.ofWF {l : Launch} {y : MethodName} {ws ws' : List Cond} {rm : Room} {Pc : Array Value → State → Prop} {Qc : Array Value → State → Outcome → State → Prop} {mc ms : Nat} {free : Addr → Prop} {cc : ByteArray} {maxL : Nat} {ret : Option FieldType}
    (hy : plainFor y = true) (hw : ws = Cond.code y cc maxL ret :: ws')
    (body : ∀ p e s m args below meth c s₁, BodyLoose p l y (headSpec ws rm) cc maxL ret e s m args below meth c s₁ → c.maxLocals = maxL → Pc args s →
      W p l e (headSpec ws rm).room s m args below meth c s.heap [] 0 0 (MQ below Qc args s mc ms free) (entryFrame m args maxL)) : Met l y ws rm Pc Qc mc ms free := by
  refine MetFree.of_bodySF (code := cc) (maxLocals := maxL) (ret := ret) hy ?_ ?_
  · intro args s m h hn
    obtain ⟨meth, c, h1, h2, h3, h4, h5, h6, -, -⟩ := Cond.code_spec hn (atoms_spec (ws := ws) h _ (by rw [hw]; exact List.mem_cons_self))
    exact ⟨meth, c, h1, h2, h3, h4, h5, h6⟩
  · intro p e s m args below meth c s₁ B hml hP _
    have hh0 : s₁.heap = s.heap := by rw [B.state]; rfl
    obtain ⟨t, a1, o, b1, b2, b3⟩ := body p e s m args below meth c s₁ B hml hP s₁ hh0 (Stand.of_body B)
    exact ⟨t, o, a1, b1, b2, ⟨b3.1, b3.2⟩⟩
theorem MT {l : Launch} {y : MethodName} {b : ByteArray} {n : Nat} {r : Option FieldType} {rm : Room} {av : List Value} {D : va_G} {cy : Nat → ClassId} {sa : Nat → Nat} {z0 : Nat} {W0 : va_W} {sz mc ms : Nat} {Qf : (Nat → Prop) → Array Value → State → Outcome → State → Prop}
    (hy : plainFor y = true) (hn : (lg_sl av).length ≤ n)
    (body : ∀ (p : Program) (e : Env) (s : State) (m : MethodId) (below : List Frame) (meth : Method) (c : Code) (A : Nat → Prop) (ls : Array Slot) (H : Heap), p.tables.exec = Jvm.exec → c.code = b → c.maxLocals = n → meth.sig.returnType = r → meth.locks = false → s.vm.findClass y.cls = some m.cls → meth.name = y.name →
      (∀ w ∈ lw_all, w.before av.toArray s = true) → amb D cy sa z0 s → (∀ q, s.heap.size ≤ q → A q) → (∀ q, A q → z0 ≤ q) → va_P D vwCl W0 H → va_D A W0 → va_S A s.heap H [] → lv_has ls n (lv_args 0 av) →
      W p l e rm s m av.toArray below meth c H [] 0 0 (MQ below (Qf A) av.toArray s mc ms A) (F0 m 0 ls [])) : Met l y (ws_ y b n r) rm (va_Pc av (Pr D cy sa z0 W0 sz)) (Qf (va_A W0 sz)) mc ms (va_A W0 sz) := by
  refine Met.ofWF (cc := b) (maxL := n) (ret := r) hy rfl ?_
  intro p e s m args below meth c s₁ B hml hv
  obtain ⟨rfl, hG, hsz, hP, hD0⟩ := hv
  have hts := atoms_spec (ws := ws_ y b n r) B.pre
  subst hsz
  rw [lg_entry_eq]
  refine body p e s m below meth c (va_A W0 s.heap.size) _ s.heap B.exec B.bytes hml B.returns B.notSynchronized (findClass_of_methodNamed B.named) (name_of_methodNamed B.named B.method).1 (fun w h => hts w (List.mem_cons_of_mem _ h)) hG (fun q h => Or.inr h) (fun q h => ?_) hP hD0.self va_S.rf (lv_entry av hn)
  rcases h with ⟨k, e, h⟩ | h
  · exact hD0.2 k (q, e) h
  · exact Nat.le_trans hG.1 h
/-! ends and calls -/
theorem bind_some' {α β : Type} {x : Option α} {k : α → Option β} {o : β} (h : x.bind k = some o) : ∃ v, x = some v ∧ k v = some o := Option.bind_eq_some_iff.mp h
theorem ite_some' {β : Type} {c : Prop} [Decidable c] {x : Option β} {o : β} (h : (if c then x else none) = some o) : c ∧ x = some o := by
  by_cases hc : c
  · rw [if_pos hc] at h; exact ⟨hc, h⟩
  · rw [if_neg hc] at h; cases h
section CALLS
variable {p : Program} {l : Launch} {e : Env} {R : Room} {s : State} {m : MethodId} {args : Array Value} {below : List Frame} {meth : Method} {c : Code} {H : Heap} {locs : List Loc} {cells slots : Nat} {Q : State → Prop}
variable {pc : Nat} {ls : Array Slot} {rest st0 : List Value} {a : Array Value} {A0 : Nat → Prop} {H0 : Heap} {mc ms : Nat} {D : va_G} {ws wc : va_W} {S : Type} {W1 : S → va_W}
theorem cl_i {o : Int32 × S} (hr : va_Run p l e R s m args below meth c H locs cells slots mc ms (F0 m pc ls st0) rest (QI D o W1 (va_A wc H.size) a) (va_A wc H.size)) (hP : va_P D vwCl ws H) (hD : va_D A0 ws) (hS : va_S A0 H0 H locs) (hA : ∀ q, H0.size ≤ q → A0 q) (is : List Nat) (hC : is.map (fun i => ws[i]?) = wc.map some) (hn : va_nd is = true) (ha : (W1 o.2).map Prod.fst = wc.map Prod.fst)
    (kk : ∀ (H1 : Heap) (locs1 : List Loc), va_P D vwCl (wput ws is (W1 o.2)) H1 → va_D A0 (wput ws is (W1 o.2)) → va_S A0 H0 H1 locs1 → W p l e R s m args below meth c H1 locs1 (cells + mc) (slots + ms) Q (F0 m (pc + 3) ls (.int o.1 :: rest))) : W p l e R s m args below meth c H locs cells slots Q (F0 m pc ls st0) := by
  have hF := va_free hD hS hA is hC
  refine va_calli hr hS (fun q _ h => hF q h) hF (fun r u t H1 locs1 ht hvm hw hB hz hk hS1 => ?_)
  cases hw
  obtain ⟨hP1, hD1⟩ := wput_ok hP hD is hC hn ha hk (by rw [← ht]; exact hB.1)
  exact kk H1 locs1 hP1 hD1 hS1
theorem cl_l {o : Int64 × S} (hr : va_Run p l e R s m args below meth c H locs cells slots mc ms (F0 m pc ls st0) rest (QL D o W1 (va_A wc H.size) a) (va_A wc H.size)) (hP : va_P D vwCl ws H) (hD : va_D A0 ws) (hS : va_S A0 H0 H locs) (hA : ∀ q, H0.size ≤ q → A0 q) (is : List Nat) (hC : is.map (fun i => ws[i]?) = wc.map some) (hn : va_nd is = true) (ha : (W1 o.2).map Prod.fst = wc.map Prod.fst)
    (kk : ∀ (H1 : Heap) (locs1 : List Loc), va_P D vwCl (wput ws is (W1 o.2)) H1 → va_D A0 (wput ws is (W1 o.2)) → va_S A0 H0 H1 locs1 → W p l e R s m args below meth c H1 locs1 (cells + mc) (slots + ms) Q (F0 m (pc + 3) ls (.long o.1 :: rest))) : W p l e R s m args below meth c H locs cells slots Q (F0 m pc ls st0) := by
  have hF := va_free hD hS hA is hC
  refine va_calll hr hS (fun q _ h => hF q h) hF (fun r u t H1 locs1 ht hvm hw hB hz hk hS1 => ?_)
  cases hw
  obtain ⟨hP1, hD1⟩ := wput_ok hP hD is hC hn ha hk (by rw [← ht]; exact hB.1)
  exact kk H1 locs1 hP1 hD1 hS1
theorem cl_d {o : UInt64 × S} (hr : va_Run p l e R s m args below meth c H locs cells slots mc ms (F0 m pc ls st0) rest (QD D o W1 (va_A wc H.size) a) (va_A wc H.size)) (hP : va_P D vwCl ws H) (hD : va_D A0 ws) (hS : va_S A0 H0 H locs) (hA : ∀ q, H0.size ≤ q → A0 q) (is : List Nat) (hC : is.map (fun i => ws[i]?) = wc.map some) (hn : va_nd is = true) (ha : (W1 o.2).map Prod.fst = wc.map Prod.fst)
    (kk : ∀ (H1 : Heap) (locs1 : List Loc), va_P D vwCl (wput ws is (W1 o.2)) H1 → va_D A0 (wput ws is (W1 o.2)) → va_S A0 H0 H1 locs1 → W p l e R s m args below meth c H1 locs1 (cells + mc) (slots + ms) Q (F0 m (pc + 3) ls (.double o.1 :: rest))) : W p l e R s m args below meth c H locs cells slots Q (F0 m pc ls st0) := by
  have hF := va_free hD hS hA is hC
  refine va_calld hr hS (fun q _ h => hF q h) hF (fun r u t H1 locs1 ht hvm hw hB hz hk hS1 => ?_)
  cases hw
  obtain ⟨hP1, hD1⟩ := wput_ok hP hD is hC hn ha hk (by rw [← ht]; exact hB.1)
  exact kk H1 locs1 hP1 hD1 hS1
theorem cl_f {o : UInt32 × S} (hr : va_Run p l e R s m args below meth c H locs cells slots mc ms (F0 m pc ls st0) rest (QF D o W1 (va_A wc H.size) a) (va_A wc H.size)) (hP : va_P D vwCl ws H) (hD : va_D A0 ws) (hS : va_S A0 H0 H locs) (hA : ∀ q, H0.size ≤ q → A0 q) (is : List Nat) (hC : is.map (fun i => ws[i]?) = wc.map some) (hn : va_nd is = true) (ha : (W1 o.2).map Prod.fst = wc.map Prod.fst)
    (kk : ∀ (H1 : Heap) (locs1 : List Loc), va_P D vwCl (wput ws is (W1 o.2)) H1 → va_D A0 (wput ws is (W1 o.2)) → va_S A0 H0 H1 locs1 → W p l e R s m args below meth c H1 locs1 (cells + mc) (slots + ms) Q (F0 m (pc + 3) ls (.float o.1 :: rest))) : W p l e R s m args below meth c H locs cells slots Q (F0 m pc ls st0) := by
  have hF := va_free hD hS hA is hC
  refine va_callf hr hS (fun q _ h => hF q h) hF (fun r u t H1 locs1 ht hvm hw hB hz hk hS1 => ?_)
  cases hw
  obtain ⟨hP1, hD1⟩ := wput_ok hP hD is hC hn ha hk (by rw [← ht]; exact hB.1)
  exact kk H1 locs1 hP1 hD1 hS1
theorem cl_q {o : Option Nat × S} (hr : va_Run p l e R s m args below meth c H locs cells slots mc ms (F0 m pc ls st0) rest (QQ D o W1 (va_A wc H.size) a) (va_A wc H.size)) (hP : va_P D vwCl ws H) (hD : va_D A0 ws) (hS : va_S A0 H0 H locs) (hA : ∀ q, H0.size ≤ q → A0 q) (is : List Nat) (hC : is.map (fun i => ws[i]?) = wc.map some) (hn : va_nd is = true) (ha : (W1 o.2).map Prod.fst = wc.map Prod.fst)
    (kk : ∀ (H1 : Heap) (locs1 : List Loc), va_P D vwCl (wput ws is (W1 o.2)) H1 → va_D A0 (wput ws is (W1 o.2)) → va_S A0 H0 H1 locs1 → W p l e R s m args below meth c H1 locs1 (cells + mc) (slots + ms) Q (F0 m (pc + 3) ls (va_rf o.1 :: rest))) : W p l e R s m args below meth c H locs cells slots Q (F0 m pc ls st0) := by
  have hF := va_free hD hS hA is hC
  refine va_callq hr hS (fun q _ h => hF q h) hF (fun r u t H1 locs1 ht hvm hw hB hz hk hS1 => ?_)
  cases hw
  obtain ⟨hP1, hD1⟩ := wput_ok hP hD is hC hn ha hk (by rw [← ht]; exact hB.1)
  exact kk H1 locs1 hP1 hD1 hS1
theorem cl_v {o : S} (hr : va_Run p l e R s m args below meth c H locs cells slots mc ms (F0 m pc ls st0) rest (QV D o W1 (va_A wc H.size) a) (va_A wc H.size)) (hP : va_P D vwCl ws H) (hD : va_D A0 ws) (hS : va_S A0 H0 H locs) (hA : ∀ q, H0.size ≤ q → A0 q) (is : List Nat) (hC : is.map (fun i => ws[i]?) = wc.map some) (hn : va_nd is = true) (ha : (W1 o).map Prod.fst = wc.map Prod.fst)
    (kk : ∀ (H1 : Heap) (locs1 : List Loc), va_P D vwCl (wput ws is (W1 o)) H1 → va_D A0 (wput ws is (W1 o)) → va_S A0 H0 H1 locs1 → W p l e R s m args below meth c H1 locs1 (cells + mc) (slots + ms) Q (F0 m (pc + 3) ls rest)) : W p l e R s m args below meth c H locs cells slots Q (F0 m pc ls st0) := by
  have hF := va_free hD hS hA is hC
  refine va_callv hr hS (fun q _ h => hF q h) hF (fun u t H1 locs1 ht hvm hw hB hz hk hS1 => ?_)
  cases hw
  obtain ⟨hP1, hD1⟩ := wput_ok hP hD is hC hn ha hk (by rw [← ht]; exact hB.1)
  exact kk H1 locs1 hP1 hD1 hS1
end CALLS
theorem zn_b {v : Int32} (h : v &&& 1 = v) : narrow .boolean (.int v) = .int v := by
  show Value.int _ = Value.int _
  rw [h]
theorem amb_T1 {D cy sa z0} {s : State} (h : amb D cy sa z0 s) : va_T .int (sa 1) 12 (fun j => .int (fDOM j)) (zA z0) s s.heap := h.2.2.2.1.1.2.1.2
theorem amb_T2 {D cy sa z0} {s : State} (h : amb D cy sa z0 s) : va_T .int (sa 2) 12 (fun j => .int (fDBM j)) (zA z0) s s.heap := h.2.2.2.1.1.2.2.1.2
theorem amb_T3 {D cy sa z0} {s : State} (h : amb D cy sa z0 s) : va_T .int (sa 3) 3 (fun j => .int (fBFB j)) (zA z0) s s.heap := h.2.2.2.1.1.2.2.2.1.2
theorem amb_Z0 {D cy sa z0} {s : State} (h : amb D cy sa z0 s) : va_Z "java/util/ArrayList" "DEFAULTCAPACITY_EMPTY_ELEMENTDATA" "[Ljava/lang/Object;" (.ref (sa 0)) (zA z0) s s.heap := h.2.2.2.1.1.1.1
theorem amb_Z1 {D cy sa z0} {s : State} (h : amb D cy sa z0 s) : va_Z "MinsterClock$Dates" "DAYS_OF_MONTHS" "[I" (.ref (sa 1)) (zA z0) s s.heap := h.2.2.2.1.1.2.1.1
theorem amb_Z2 {D cy sa z0} {s : State} (h : amb D cy sa z0 s) : va_Z "MinsterClock$Dates" "DAYS_BEFORE_MONTHS" "[I" (.ref (sa 2)) (zA z0) s s.heap := h.2.2.2.1.1.2.2.1.1
theorem amb_Z3 {D cy sa z0} {s : State} (h : amb D cy sa z0 s) : va_Z "MinsterClock" "BEATS_FOUND_BOTH_WAYS" "[I" (.ref (sa 3)) (zA z0) s s.heap := h.2.2.2.1.1.2.2.2.1.1
theorem amb_C {D cy sa z0} {s : State} (h : amb D cy sa z0 s) : va_Z "java/lang/String" "COMPACT_STRINGS" "Z" (.int 1) (zA z0) s s.heap := h.2.2.2.1.2.1
theorem amb_Z4 {D cy sa z0} {s : State} (h : amb D cy sa z0 s) : va_Z "java/lang/Integer" "DigitOnes" "[B" (.ref (sa 4)) (zA z0) s s.heap := h.2.2.2.1.2.2.1.1
theorem amb_T4 {D cy sa z0} {s : State} (h : amb D cy sa z0 s) : va_T .byte (sa 4) 100 (fun j => .int (fDO j)) (zA z0) s s.heap := h.2.2.2.1.2.2.1.2
theorem amb_Z5 {D cy sa z0} {s : State} (h : amb D cy sa z0 s) : va_Z "java/lang/Integer" "DigitTens" "[B" (.ref (sa 5)) (zA z0) s s.heap := h.2.2.2.1.2.2.2.1.1
theorem amb_T5 {D cy sa z0} {s : State} (h : amb D cy sa z0 s) : va_T .byte (sa 5) 100 (fun j => .int (fDT j)) (zA z0) s s.heap := h.2.2.2.1.2.2.2.1.2
theorem amb_Z6 {D cy sa z0} {s : State} (h : amb D cy sa z0 s) : va_Z "jdk/internal/math/MathUtils" "g" "[J" (.ref (sa 6)) (zA z0) s s.heap := h.2.2.2.1.2.2.2.2.1.1
theorem amb_T6 {D cy sa z0} {s : State} (h : amb D cy sa z0 s) : va_T .long (sa 6) 1234 (fun j => .long (fG sa j)) (zA z0) s s.heap := h.2.2.2.1.2.2.2.2.1.2
theorem amb_Z7 {D cy sa z0} {s : State} (h : amb D cy sa z0 s) : va_Z "jdk/internal/math/MathUtils" "pow10" "[J" (.ref (sa 7)) (zA z0) s s.heap := h.2.2.2.1.2.2.2.2.2.1.1
theorem amb_T7 {D cy sa z0} {s : State} (h : amb D cy sa z0 s) : va_T .long (sa 7) 18 (fun j => .long (fP j)) (zA z0) s s.heap := h.2.2.2.1.2.2.2.2.2.1.2
theorem amb_T8 {D cy sa z0} {s : State} (h : amb D cy sa z0 s) : va_T .int (sa 8) (sa 9) (fun j => .int (fA sa j)) (zA z0) s s.heap := h.2.2.2.1.2.2.2.2.2.2
theorem amb_N {D cy sa z0} {s : State} (h : amb D cy sa z0 s) {w : Cond} (hw : w ∈ lw_tbl) (h1 : w.onTables = true) (h2 : nwk w = true) : va_Nw w s := h.2.2.1 w hw h1 h2
def optE {β : Type} (x : Option Nat) (A : Option β) (B : Nat → Option β) : Option β := match x with
  | none => A
  | some a => B a
theorem optE_cases {β : Type} {x : Option Nat} {A : Option β} {B : Nat → Option β} {o : β} (h : optE x A B = some o) : (x = none ∧ A = some o) ∨ ∃ a, x = some a ∧ B a = some o := by
  cases x with
  | none => exact Or.inl ⟨rfl, h⟩
  | some a => exact Or.inr ⟨a, rfl, h⟩
theorem va_rf_none : va_rf none = .null := rfl
theorem va_rf_some (a : Nat) : va_rf (some a) = .ref a := rfl
