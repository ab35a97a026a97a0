/-! THE LAW: words of the methods with tables, calls of them -/
theorem k_625 : Cond.codeWith yL_addWheel cL_addWheel 5 (some .int) [(0, 10, 13, 13), (0, 10, 17, 15)] ∈ lw_all := lw_all_in (List.mem_of_getElem? (i := 625) (by decide +kernel)) rfl
theorem k_735 : Cond.codeWith yL_moved cL_moved 4 (some .int) [(0, 9, 12, 21)] ∈ lw_all := lw_all_in (List.mem_of_getElem? (i := 735) (by decide +kernel)) rfl
theorem k_783 : Cond.codeWith yL_wholeTurns cL_wholeTurns 4 (some .int) [(0, 9, 12, 21)] ∈ lw_all := lw_all_in (List.mem_of_getElem? (i := 783) (by decide +kernel)) rfl
theorem k_795 : Cond.codeWith yL_beatsForTurn cL_beatsForTurn 4 (some .int) [(0, 8, 11, 21)] ∈ lw_all := lw_all_in (List.mem_of_getElem? (i := 795) (by decide +kernel)) rfl
theorem k_810 : Cond.codeWith yL_movedAhead cL_movedAhead 5 (some .int) [(0, 10, 13, 21), (0, 10, 17, 13)] ∈ lw_all := lw_all_in (List.mem_of_getElem? (i := 810) (by decide +kernel)) rfl
theorem k_822 : Cond.codeWith yL_movedByBeats cL_movedByBeats 5 (some .int) [(0, 10, 13, 21), (0, 10, 17, 13)] ∈ lw_all := lw_all_in (List.mem_of_getElem? (i := 822) (by decide +kernel)) rfl
theorem k_829 : Cond.codeWith yL_setBeat cL_setBeat 5 (some .int) [(0, 10, 13, 13)] ∈ lw_all := lw_all_in (List.mem_of_getElem? (i := 829) (by decide +kernel)) rfl
theorem k_841 : Cond.codeWith yL_pass cL_pass 4 (some .int) [(0, 9, 12, 13)] ∈ lw_all := lw_all_in (List.mem_of_getElem? (i := 841) (by decide +kernel)) rfl
theorem k_848 : Cond.codeWith yL_owe cL_owe 4 (some .int) [(0, 9, 12, 13)] ∈ lw_all := lw_all_in (List.mem_of_getElem? (i := 848) (by decide +kernel)) rfl
theorem k_865 : Cond.codeWith yL_setBound cL_setBound 4 (some .int) [(0, 9, 12, 13)] ∈ lw_all := lw_all_in (List.mem_of_getElem? (i := 865) (by decide +kernel)) rfl
theorem k_877 : Cond.codeWith yL_setDate cL_setDate 6 (some .int) [(0, 12, 15, 13)] ∈ lw_all := lw_all_in (List.mem_of_getElem? (i := 877) (by decide +kernel)) rfl
theorem k_898 : Cond.codeWith yL_isLeap cL_isLeap 4 (some .int) [(0, 16, 19, 13)] ∈ lw_all := lw_all_in (List.mem_of_getElem? (i := 898) (by decide +kernel)) rfl
theorem k_907 : Cond.codeWith yL_numberOf cL_numberOf 6 (some .int) [(0, 11, 14, 13)] ∈ lw_all := lw_all_in (List.mem_of_getElem? (i := 907) (by decide +kernel)) rfl
theorem k_914 : Cond.codeWith yL_numberByCounting cL_numberByCounting 6 (some .int) [(0, 11, 14, 13)] ∈ lw_all := lw_all_in (List.mem_of_getElem? (i := 914) (by decide +kernel)) rfl
theorem k_925 : Cond.codeWith yL_setSilence cL_setSilence 5 (some .int) [(0, 10, 13, 13)] ∈ lw_all := lw_all_in (List.mem_of_getElem? (i := 925) (by decide +kernel)) rfl
theorem k_940 : Cond.codeWith yL_addDrum cL_addDrum 3 (some .int) [(0, 8, 11, 15)] ∈ lw_all := lw_all_in (List.mem_of_getElem? (i := 940) (by decide +kernel)) rfl
theorem k_972 : Cond.codeWith yL_setPin cL_setPin 7 (some .int) [(0, 21, 24, 21), (0, 21, 28, 13)] ∈ lw_all := lw_all_in (List.mem_of_getElem? (i := 972) (by decide +kernel)) rfl
theorem k_994 : Cond.codeWith yL_pins cL_pins 4 (some .int) [(0, 9, 12, 21)] ∈ lw_all := lw_all_in (List.mem_of_getElem? (i := 994) (by decide +kernel)) rfl
theorem k_1002 : Cond.codeWith yL_bellAt cL_bellAt 5 (some .int) [(0, 10, 13, 21), (0, 10, 17, 80)] ∈ lw_all := lw_all_in (List.mem_of_getElem? (i := 1002) (by decide +kernel)) rfl
theorem k_1030 : Cond.codeWith yL_setTune cL_setTune 5 (some .int) [(0, 10, 13, 13), (0, 10, 17, 21)] ∈ lw_all := lw_all_in (List.mem_of_getElem? (i := 1030) (by decide +kernel)) rfl
theorem k_1046 : Cond.codeWith yL_strokes cL_strokes 4 (some .int) [(0, 9, 12, 21)] ∈ lw_all := lw_all_in (List.mem_of_getElem? (i := 1046) (by decide +kernel)) rfl
theorem k_1058 : Cond.codeWith yL_markAt cL_markAt 4 (some .int) [(0, 9, 12, 80)] ∈ lw_all := lw_all_in (List.mem_of_getElem? (i := 1058) (by decide +kernel)) rfl
theorem k_1068 : Cond.codeWith yL_strokesAt cL_strokesAt 4 (some .int) [(0, 9, 12, 80)] ∈ lw_all := lw_all_in (List.mem_of_getElem? (i := 1068) (by decide +kernel)) rfl
theorem k_1084 : Cond.codeWith yL_strokesAhead cL_strokesAhead 4 (some .int) [(0, 9, 12, 13)] ∈ lw_all := lw_all_in (List.mem_of_getElem? (i := 1084) (by decide +kernel)) rfl
theorem k_1091 : Cond.codeWith yL_strokesByBeats cL_strokesByBeats 4 (some .int) [(0, 9, 12, 13)] ∈ lw_all := lw_all_in (List.mem_of_getElem? (i := 1091) (by decide +kernel)) rfl
theorem k_1098 : Cond.codeWith yL_struckShare cL_struckShare 3 (some .int) [(0, 8, 11, 104)] ∈ lw_all := lw_all_in (List.mem_of_getElem? (i := 1098) (by decide +kernel)) rfl
theorem lw_gSH {own : String} {idx : Nat} {y : MethodName} {b : ByteArray} {n : Nat} {r : Option FieldType} {hh : List (Nat × Nat × Nat × Nat)} (h1 : Cond.methodLink own idx y ∈ lw_all) (h2 : Cond.static y ∈ lw_all) (h4 : Cond.initialized y.cls ∈ lw_all) (h : Cond.codeWith y b n r hh ∈ lw_all) : GoodIn lw_all (va_wsS own idx y (wsH_ y b n r hh)) := by
  intro w hw
  rcases List.mem_append.mp hw with h' | h'
  · simp only [List.mem_cons, List.not_mem_nil, or_false] at h'
    rcases h' with rfl | rfl | rfl <;> apply lw_g <;> assumption
  · exact (List.mem_cons.mp h').elim (fun e => by rw [e]; exact lw_g h) (fun h => lw_g h)
theorem amN.moved {u U : State} (hvm : u.vm.Alike U.vm) (h : amN u) : amN U := fun C T hm => (h C T hm).moved hvm
theorem PrN.blind {D cy sa z0 ws sz} {av : List Value} : FrameBlind (va_Pc av (PrN D cy sa z0 ws sz)) := fun a U g mk h =>
  have h1 := Pr.blind (av := av) a U g mk ⟨h.1, h.2.1⟩
  ⟨h1.1, h1.2, amN.moved (u := U) (U := U.calling g mk a) (Vm.Alike.refl U.vm) h.2.2⟩
theorem preSNP {D : va_G} {cy : Nat → ClassId} {sa : Nat → Nat} {z0 : Nat} {s : State} {A : Nat → Prop} {H : Heap} {locs : List Loc} {X xc pl : va_W} {av : List Value} (hN : amN s) (hG : amb D cy sa z0 s) (hS : va_S A s.heap H locs) (hZ : ∀ q, A q → z0 ≤ q) (hP : va_P D vwCl (X ++ pl) H) (hD : va_D A (X ++ pl)) (is : List Nat) (hC : is.map (fun i => X[i]?) = xc.map some) (hn : va_nd is = true) :
    PreS s H (va_Pc av (PrN D cy sa z0 (xc ++ pl) H.size)) av := ⟨PrN.blind, fun U hU hW =>
  have h1 := Pr.goP (av := av) hG hS hZ hP hD is hC hn U hU hW
  ⟨h1.1, h1.2, hN.moved hW.alike⟩⟩
