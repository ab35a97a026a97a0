/-! THE ENTRY: what always holds, out of the start -/
abbrev entF : List Cond := flatC (Jvm.Cond.and given_1 narrow_1)
abbrev entK : List Nat := [69, 80, 297, 299, 109, 137, 142, 147, 304, 156, 178, 190, 202, 309, 213, 224, 230, 241, 253, 261, 277]
theorem ent_sr : lw_tbl.all (fun w => match w with | .stringRef o k _ => (o != RX8) || entK.contains k | _ => true) = true := by decide +kernel
theorem ent_ex : entK.all (fun k => entF.contains (.exactly (.string RX8 k) "java/lang/String")) = true := by decide +kernel
theorem ent_T {args : Array Value} {s : State} (hts : ∀ w ∈ lw_tbl, w.before args s = true) (hs : ∀ w ∈ entF, w.before args s = true) : amT s := by
  intro k tx hw
  have h1 := List.all_eq_true.mp ent_sr _ hw
  have h2 : k ∈ entK := by
    simp only [bne_self_eq_false, Bool.false_or] at h1
    exact List.contains_iff_mem.mp h1
  have h3 := List.contains_iff_mem.mp (List.all_eq_true.mp ent_ex _ h2)
  obtain ⟨a, c, cell, k1, q1, -⟩ := Cond.exactly_spec (args := args) (first := s) (o := none) (s := s) (idx := []) (hs _ h3)
  exact ⟨a, vk_R.of (hts _ hw) q1⟩
theorem ent_W {args : Array Value} {s : State} (hts : ∀ w ∈ lw_tbl, w.before args s = true) : amW s := fun w hw ht _ => va_Nw.of ht (hts w hw)
theorem ent_N {args : Array Value} {s : State} (hs : ∀ w ∈ entF, w.before args s = true) : amN s := by
  have h : nots.all (fun q => entF.contains (.not (.castable q.1 q.2))) = true := by decide +kernel
  intro C T hm
  exact va_Nc.of (hs _ (List.contains_iff_mem.mp (List.all_eq_true.mp h _ hm)))
theorem ent_O {args : Array Value} {s : State} (hts : ∀ w ∈ lw_tbl, w.before args s = true) : amO s := ⟨va_AO.of (hts (.arrayOver (.object "java/lang/Object")) (by decide +kernel)), va_AO.of (hts (.arrayOver (.object "MinsterClock$Drum")) (by decide +kernel))⟩
theorem ent_ap {args : Array Value} {s : State} {ty : FieldType} (hp : ∀ cA, va_RA s cA ty = (s.vm.findClass ("[" ++ ty.toString) = some cA)) (h : (Cond.arrayClass ty).before args s = true) : ∃ cA : ClassId, ArrOfT s cA ty ∧ va_RA s cA ty := by
  obtain ⟨cA, kA, comp, h1, h2, h3⟩ := Cond.arrayClass_spec (args := args) (first := s) (o := none) (s := s) (idx := []) h
  exact ⟨cA, fun n z => ⟨(fun k h => by cases h), kA, h2, comp, h3⟩, by rw [hp]; exact h1⟩
theorem ent_ao {C : String} {s : State} (h : va_AO C s) : ∃ cA : ClassId, ArrOfT s cA (.object C) ∧ va_RA s cA (.object C) := by
  obtain ⟨comp, c, k, h1, h2, h3, h4, h5⟩ := Cond.arrayOver_spec (args := #[]) (first := s) (o := none) (s := s) (idx := []) h
  exact ⟨c, fun n z => ⟨(fun k h => by cases h), k, h3, comp, h4⟩, k, comp, h3, h4, h1, h5⟩
theorem ent_K {args : Array Value} {s : State} (hts : ∀ w ∈ lw_tbl, w.before args s = true) : ∃ (D : va_G) (cy : Nat → ClassId), va_K D vwCl (tysG cy) s := by
  have htl : ∀ w ∈ lw_all, w.before args s = true := fun w hw => hts w (lw_all_tbl hw)
  obtain ⟨c0, i0, hK0⟩ := u_known (C := RJ0) (T := TJ0) (N := 2) htl in_J0 (htl _ k_755)
  obtain ⟨c1, i1, hK1⟩ := u_known (C := RJx00060) (T := TJx00060) (N := 6) htl in_Jx00060 (htl _ k_737)
  obtain ⟨c2, i2, hK2⟩ := u_known (C := RJx4a65c) (T := TJx4a65c) (N := 3) htl in_Jx4a65c (htl _ k_80)
  obtain ⟨c3, i3, hK3⟩ := u_known (C := RX0) (T := TX0) (N := 6) htl in_X0 (htl _ k_230)
  obtain ⟨c4, i4, hK4⟩ := u_known (C := RX2) (T := TX2) (N := 3) htl in_X2 (htl _ k_550)
  obtain ⟨c5, i5, hK5⟩ := u_known (C := RX3) (T := TX3) (N := 4) htl in_X3 (htl _ k_211)
  obtain ⟨c6, i6, hK6⟩ := u_known (C := RX4) (T := TX4) (N := 3) htl in_X4 (htl _ k_195)
  obtain ⟨c7, i7, hK7⟩ := u_known (C := RX5) (T := TX5) (N := 4) htl in_X5 (htl _ k_260)
  obtain ⟨c8, i8, hK8⟩ := u_known (C := RX6) (T := TX6) (N := 1) htl in_X6 (htl _ k_74)
  obtain ⟨c9, i9, hK9⟩ := u_known (C := RX7) (T := TX7) (N := 5) htl in_X7 (htl _ k_106)
  obtain ⟨c10, i10, hK10⟩ := u_known (C := RX8) (T := TX8) (N := 9) htl in_X8 (htl _ k_66)
  obtain ⟨c11, i11, hK11⟩ := u_known (C := RX9) (T := TX9) (N := 26) htl in_X9 (htl _ k_1121)
  have hO := ent_O hts
  obtain ⟨a0, r0, r0b⟩ := ent_ap (ty := .int) (fun _ => rfl) (htl _ k_258)
  obtain ⟨a1, r1, r1b⟩ := ent_ap (ty := .long) (fun _ => rfl) (htl _ k_1217)
  obtain ⟨a2, r2, r2b⟩ := ent_ao hO.2
  obtain ⟨a3, r3, r3b⟩ := ent_ao hO.1
  obtain ⟨a4, r4, r4b⟩ := ent_ap (ty := .double) (fun _ => rfl) (htl _ k_1444)
  refine ⟨(fun k => [c0, c1, c2, c3, c4, c5, c6, c7, c8, c9, c10, c11].getD k c0, fun k => [i0, i1, i2, i3, i4, i5, i6, i7, i8, i9, i10, i11].getD k i0), fun k => [a0, a1, a2, a3, a4].getD k a0, fun k q hq => ?_, fun k q hq => ?_⟩
  · match k, hq with
    | 0, hq => cases hq; exact hK0
    | 1, hq => cases hq; exact hK1
    | 2, hq => cases hq; exact hK2
    | 3, hq => cases hq; exact hK3
    | 4, hq => cases hq; exact hK4
    | 5, hq => cases hq; exact hK5
    | 6, hq => cases hq; exact hK6
    | 7, hq => cases hq; exact hK7
    | 8, hq => cases hq; exact hK8
    | 9, hq => cases hq; exact hK9
    | 10, hq => cases hq; exact hK10
    | 11, hq => cases hq; exact hK11
    | k + 12, hq => simp at hq
  · match k, hq with
    | 0, hq => cases hq; exact ⟨r0, r0b⟩
    | 1, hq => cases hq; exact ⟨r1, r1b⟩
    | 2, hq => cases hq; exact ⟨r2, r2b⟩
    | 3, hq => cases hq; exact ⟨r3, r3b⟩
    | 4, hq => cases hq; exact ⟨r4, r4b⟩
    | k + 5, hq => simp at hq
theorem ent_S {args : Array Value} {s : State} (hts : ∀ w ∈ lw_tbl, w.before args s = true) (hs : ∀ w ∈ entF, w.before args s = true) : ∃ sa : Nat → Nat, amS sa s.heap.size s s.heap := by
  have hz : ∀ a : Nat, a < s.heap.size → ¬ zA s.heap.size a := fun a h h2 => absurd (show s.heap.size ≤ a from h2) (by omega)
  obtain ⟨t0, ht0, hT0⟩ := va_Tof (tm := (Term.static "java/util/ArrayList" "DEFAULTCAPACITY_EMPTY_ELEMENTDATA" "[Ljava/lang/Object;")) (ty := (.object "java/lang/Object")) (N := 0) (f := (fun _ => .null)) (A := zA s.heap.size) (by decide) (hs (.arrayOf (Term.static "java/util/ArrayList" "DEFAULTCAPACITY_EMPTY_ELEMENTDATA" "[Ljava/lang/Object;") (.object "java/lang/Object")) (by decide +kernel)) (va_eqt (hs (.eq (.length (Term.static "java/util/ArrayList" "DEFAULTCAPACITY_EMPTY_ELEMENTDATA" "[Ljava/lang/Object;")) (.int (Int32.ofNat 0))) (by decide +kernel))) (fun j hj => absurd hj (by omega)) hz
  have hZ0 := va_Zof (C := "java/util/ArrayList") (n := "DEFAULTCAPACITY_EMPTY_ELEMENTDATA") (d := "[Ljava/lang/Object;") (hts _ (by decide +kernel)) (hts _ (by decide +kernel)) ht0 hz
  have hm1 : ∀ j, j < 12 → Cond.eq (.elem (Term.static "MinsterClock$Dates" "DAYS_OF_MONTHS" "[I") (.int (Int32.ofNat j))) (.int (fDOM j)) ∈ entF := by decide +kernel
  obtain ⟨t1, ht1, hT1⟩ := va_Tof (tm := (Term.static "MinsterClock$Dates" "DAYS_OF_MONTHS" "[I")) (ty := .int) (N := 12) (f := (fun j => .int (fDOM j))) (A := zA s.heap.size) (by decide) (hs (.arrayOf (Term.static "MinsterClock$Dates" "DAYS_OF_MONTHS" "[I") .int) (by decide +kernel)) (va_eqt (hs (.eq (.length (Term.static "MinsterClock$Dates" "DAYS_OF_MONTHS" "[I")) (.int (Int32.ofNat 12))) (by decide +kernel))) (fun j hj => va_eqt (hs _ (hm1 j hj))) hz
  have hZ1 := va_Zof (C := "MinsterClock$Dates") (n := "DAYS_OF_MONTHS") (d := "[I") (hts _ (by decide +kernel)) (hts _ (by decide +kernel)) ht1 hz
  have hm2 : ∀ j, j < 12 → Cond.eq (.elem (Term.static "MinsterClock$Dates" "DAYS_BEFORE_MONTHS" "[I") (.int (Int32.ofNat j))) (.int (fDBM j)) ∈ entF := by decide +kernel
  obtain ⟨t2, ht2, hT2⟩ := va_Tof (tm := (Term.static "MinsterClock$Dates" "DAYS_BEFORE_MONTHS" "[I")) (ty := .int) (N := 12) (f := (fun j => .int (fDBM j))) (A := zA s.heap.size) (by decide) (hs (.arrayOf (Term.static "MinsterClock$Dates" "DAYS_BEFORE_MONTHS" "[I") .int) (by decide +kernel)) (va_eqt (hs (.eq (.length (Term.static "MinsterClock$Dates" "DAYS_BEFORE_MONTHS" "[I")) (.int (Int32.ofNat 12))) (by decide +kernel))) (fun j hj => va_eqt (hs _ (hm2 j hj))) hz
  have hZ2 := va_Zof (C := "MinsterClock$Dates") (n := "DAYS_BEFORE_MONTHS") (d := "[I") (hts _ (by decide +kernel)) (hts _ (by decide +kernel)) ht2 hz
  have hm3 : ∀ j, j < 3 → Cond.eq (.elem (Term.static "MinsterClock" "BEATS_FOUND_BOTH_WAYS" "[I") (.int (Int32.ofNat j))) (.int (fBFB j)) ∈ entF := by decide +kernel
  obtain ⟨t3, ht3, hT3⟩ := va_Tof (tm := (Term.static "MinsterClock" "BEATS_FOUND_BOTH_WAYS" "[I")) (ty := .int) (N := 3) (f := (fun j => .int (fBFB j))) (A := zA s.heap.size) (by decide) (hs (.arrayOf (Term.static "MinsterClock" "BEATS_FOUND_BOTH_WAYS" "[I") .int) (by decide +kernel)) (va_eqt (hs (.eq (.length (Term.static "MinsterClock" "BEATS_FOUND_BOTH_WAYS" "[I")) (.int (Int32.ofNat 3))) (by decide +kernel))) (fun j hj => va_eqt (hs _ (hm3 j hj))) hz
  have hZ3 := va_Zof (C := "MinsterClock") (n := "BEATS_FOUND_BOTH_WAYS") (d := "[I") (hts _ (by decide +kernel)) (hts _ (by decide +kernel)) ht3 hz
  exact ⟨fun k => [t0, t1, t2, t3].getD k t0, ⟨hZ0, hT0⟩, ⟨hZ1, hT1⟩, ⟨hZ2, hT2⟩, ⟨hZ3, hT3⟩, vx_Zqof (hts _ (by decide +kernel)) (hts _ (by decide +kernel)) (hs _ (by decide +kernel)) hz, vx_Zqof (hts _ (by decide +kernel)) (hts _ (by decide +kernel)) (hs _ (by decide +kernel)) hz⟩
theorem ent_A {b L : Nat} {xs : Nat → Int32} {s : State} (hX : va_X b L xs s s.heap) (hb : b < s.heap.size) : va_T .int b L (fun j => .int (xs j)) (zA s.heap.size) s s.heap := by
  obtain ⟨scr, h1, h2, h3, h4, h5⟩ := hX
  exact ⟨scr, h1, h2, h3, by omega, by rw [h4], h5, fun h => absurd (show s.heap.size ≤ b from h) (by omega)⟩
