noncomputable def X1_hasLeapDay_b26 (b26_1 : Int32) : Option (Int32 × Unit) := if b26_1 &&& 1 = b26_1 then some (b26_1, ()) else none
noncomputable def X1_hasLeapDay_b25 : Option (Int32 × Unit) := X1_hasLeapDay_b26 (0 : Int32)
noncomputable def X1_hasLeapDay_b21 : Option (Int32 × Unit) := X1_hasLeapDay_b26 (1 : Int32)
noncomputable def X1_hasLeapDay_f (p0 : Int32) : Option (Int32 × Unit) := (if (p0 - p0 / (4 : Int32) * (4 : Int32)) = (0 : Int32) then (if (p0 - p0 / (100 : Int32) * (100 : Int32)) = (0 : Int32) then (if (p0 - p0 / (400 : Int32) * (400 : Int32)) = (0 : Int32) then X1_hasLeapDay_b21 else X1_hasLeapDay_b25) else X1_hasLeapDay_b21) else X1_hasLeapDay_b25)
set_option maxHeartbeats 4000000 in
set_option maxRecDepth 100000 in
theorem c_X1_hasLeapDay (l : Launch) (D : va_G) (cy : Nat → ClassId) (sa : Nat → Nat) (z0 sz : Nat) (p0 : Int32) (o : (Int32 × Unit)) (ho : X1_hasLeapDay_f p0 = some o) : Met l yX1_hasLeapDay (ws_ yX1_hasLeapDay cX1_hasLeapDay 1 (some .boolean)) ({ frames := 0, cells := 0, slots := 0, locals := 0 } : Room) (va_Pc [.int p0] (Pr D cy sa z0 [] sz)) (QI D o (fun u => []) (va_A [] sz)) 0 0 (va_A [] sz) := by
  refine MT (Qf := QI D o (fun u => [])) (plainFor_of_name (by decide +kernel)) (Nat.le_of_ble_eq_true rfl) ?_
  intro p e s m below meth c A ls H hx hb hml hr hlocks hown hnm hts hG hA hZ hP hD hS hl
  have hK := hG.K
  have hl : lv_has ls 1 [(0, .int p0)] := hl
  have hf : X1_hasLeapDay_f p0 = some o := ho
  clear ho
  unfold X1_hasLeapDay_f at hf
  have J26 : ∀ (b26_1 : Int32), ∀ (H : Heap) (locs : List Loc), va_P D vwCl [] H → va_D A [] → va_S A s.heap H locs → ∀ (ls : Array Slot), lv_has ls 1 [] → X1_hasLeapDay_b26 b26_1 = some o → W p l e ({ frames := 0, cells := 0, slots := 0, locals := 0 } : Room) s m ([.int p0] : List Value).toArray below meth c H locs 0 0 (MQ below (QI D o (fun u => []) A) ([.int p0] : List Value).toArray s 0 0 A) (F0 m 26 ls [.int b26_1]) := by
    intro b26_1 H locs hP hD hS ls hl hf
    unfold X1_hasLeapDay_b26 at hf
    obtain ⟨g4, hf⟩ := ite_some' hf
    obtain rfl := Option.some.inj hf
    exact W.zret (v := b26_1) hx hb hr (zn_b g4) (fun t ht _ => ⟨⟨b26_1, (), rfl, rfl, by rw [ht]; exact hP, hD⟩, hS.F ht⟩) hS.2.2 dX1_hasLeapDay_26
  have J25 : ∀ (H : Heap) (locs : List Loc), va_P D vwCl [] H → va_D A [] → va_S A s.heap H locs → ∀ (ls : Array Slot), lv_has ls 1 [] → X1_hasLeapDay_b25 = some o → W p l e ({ frames := 0, cells := 0, slots := 0, locals := 0 } : Room) s m ([.int p0] : List Value).toArray below meth c H locs 0 0 (MQ below (QI D o (fun u => []) A) ([.int p0] : List Value).toArray s 0 0 A) (F0 m 25 ls []) := by
    intro  H locs hP hD hS ls hl hf
    unfold X1_hasLeapDay_b25 at hf
    refine lv_iconst (v := (0 : Int32)) hx hb dX1_hasLeapDay_25 (by decide) ?_
    exact J26 (0 : Int32) _ _ hP hD hS _ (lv_sub hl [] rfl) hf
  have J21 : ∀ (H : Heap) (locs : List Loc), va_P D vwCl [] H → va_D A [] → va_S A s.heap H locs → ∀ (ls : Array Slot), lv_has ls 1 [] → X1_hasLeapDay_b21 = some o → W p l e ({ frames := 0, cells := 0, slots := 0, locals := 0 } : Room) s m ([.int p0] : List Value).toArray below meth c H locs 0 0 (MQ below (QI D o (fun u => []) A) ([.int p0] : List Value).toArray s 0 0 A) (F0 m 21 ls []) := by
    intro  H locs hP hD hS ls hl hf
    unfold X1_hasLeapDay_b21 at hf
    refine lv_iconst (v := (1 : Int32)) hx hb dX1_hasLeapDay_21 (by decide) ?_
    refine lv_goto (tgt := 26) hx hb dX1_hasLeapDay_22 (by decide) ?_
    exact J26 (1 : Int32) _ _ hP hD hS _ (lv_sub hl [] rfl) hf
  refine lv_iload_n hx hb dX1_hasLeapDay_0 rfl (lv_at hl 0 rfl) ?_
  refine lv_iconst (v := (4 : Int32)) hx hb dX1_hasLeapDay_1 (by decide) ?_
  refine lv_irem hx hb dX1_hasLeapDay_2 (by decide) ?_
  refine lv_if_ne (tgt := 25) hx hb dX1_hasLeapDay_3 (by decide) (fun c1 => ?_) (fun c1 => ?_)
  · rw [if_neg c1] at hf
    exact J25  _ _ hP hD hS _ (lv_sub hl [] rfl) hf
  · rw [if_pos c1] at hf
    refine lv_iload_n hx hb dX1_hasLeapDay_6 rfl (lv_at hl 0 rfl) ?_
    refine lv_bipush (v := (100 : Int32)) hx hb dX1_hasLeapDay_7 (by decide) ?_
    refine lv_irem hx hb dX1_hasLeapDay_9 (by decide) ?_
    refine lv_if_ne (tgt := 21) hx hb dX1_hasLeapDay_10 (by decide) (fun c2 => ?_) (fun c2 => ?_)
    · rw [if_neg c2] at hf
      exact J21  _ _ hP hD hS _ (lv_sub hl [] rfl) hf
    · rw [if_pos c2] at hf
      refine lv_iload_n hx hb dX1_hasLeapDay_13 rfl (lv_at hl 0 rfl) ?_
      refine lv_sipush (v := (400 : Int32)) hx hb dX1_hasLeapDay_14 (by decide) ?_
      refine lv_irem hx hb dX1_hasLeapDay_17 (by decide) ?_
      refine lv_if_ne (tgt := 25) hx hb dX1_hasLeapDay_18 (by decide) (fun c3 => ?_) (fun c3 => ?_)
      · rw [if_neg c3] at hf
        exact J25  _ _ hP hD hS _ (lv_sub hl [] rfl) hf
      · rw [if_pos c3] at hf
        exact J21  _ _ hP hD hS _ (lv_sub hl [] rfl) hf
noncomputable def X1_daysOfMonth_b38 (p1 : Int32) (b38_1 : Int32) : Option (Int32 × Unit) := some (((fDOM (p1 - (1 : Int32)).toNatClampNeg) + b38_1), ())
noncomputable def X1_daysOfMonth_b37 (p1 : Int32) : Option (Int32 × Unit) := X1_daysOfMonth_b38 p1 (0 : Int32)
noncomputable def X1_daysOfMonth_f (p0 : Int32) (p1 : Int32) : Option (Int32 × Unit) := (X8_isWithin_f p1 (1 : Int32) (12 : Int32)).bind fun v1 => (if v1.1 = (0 : Int32) then some ((0 : Int32), ()) else if ¬ ((p1 - (1 : Int32)) < 0 ∨ 12 ≤ (p1 - (1 : Int32)).toNatClampNeg) then (if p1 = (2 : Int32) then (X1_hasLeapDay_f p0).bind fun v6 => (if v6.1 = (0 : Int32) then X1_daysOfMonth_b37 p1 else X1_daysOfMonth_b38 p1 (1 : Int32)) else X1_daysOfMonth_b37 p1) else none)
set_option maxHeartbeats 4000000 in
set_option maxRecDepth 100000 in
theorem c_X1_daysOfMonth (l : Launch) (D : va_G) (cy : Nat → ClassId) (sa : Nat → Nat) (z0 sz : Nat) (p0 : Int32) (p1 : Int32) (o : (Int32 × Unit)) (ho : X1_daysOfMonth_f p0 p1 = some o) : Met l yX1_daysOfMonth (ws_ yX1_daysOfMonth cX1_daysOfMonth 2 (some .int)) ({ frames := 1, cells := 0, slots := 0, locals := 22 } : Room) (va_Pc [.int p0, .int p1] (Pr D cy sa z0 [] sz)) (QI D o (fun u => []) (va_A [] sz)) 0 0 (va_A [] sz) := by
  refine MT (Qf := QI D o (fun u => [])) (plainFor_of_name (by decide +kernel)) (Nat.le_of_ble_eq_true rfl) ?_
  intro p e s m below meth c A ls H hx hb hml hr hlocks hown hnm hts hG hA hZ hP hD hS hl
  have hK := hG.K
  have hl : lv_has ls 2 [(0, .int p0), (1, .int p1)] := hl
  have hf : X1_daysOfMonth_f p0 p1 = some o := ho
  clear ho
  unfold X1_daysOfMonth_f at hf
  have J38 : ∀ (b38_1 : Int32), ∀ (H : Heap) (locs : List Loc), va_P D vwCl [] H → va_D A [] → va_S A s.heap H locs → ∀ (ls : Array Slot), lv_has ls 2 [] → X1_daysOfMonth_b38 p1 b38_1 = some o → W p l e ({ frames := 1, cells := 0, slots := 0, locals := 22 } : Room) s m ([.int p0, .int p1] : List Value).toArray below meth c H locs 0 0 (MQ below (QI D o (fun u => []) A) ([.int p0, .int p1] : List Value).toArray s 0 0 A) (F0 m 38 ls [.int b38_1, .int (fDOM (p1 - (1 : Int32)).toNatClampNeg)]) := by
    intro b38_1 H locs hP hD hS ls hl hf
    unfold X1_daysOfMonth_b38 at hf
    refine lv_iadd hx hb dX1_daysOfMonth_38 ?_
    obtain rfl := Option.some.inj hf
    exact W.iret (v := ((fDOM (p1 - (1 : Int32)).toNatClampNeg) + b38_1)) hx hb hr (fun t ht _ => ⟨⟨((fDOM (p1 - (1 : Int32)).toNatClampNeg) + b38_1), (), rfl, rfl, by rw [ht]; exact hP, hD⟩, hS.F ht⟩) hS.2.2 dX1_daysOfMonth_39
  have J37 : ∀ (H : Heap) (locs : List Loc), va_P D vwCl [] H → va_D A [] → va_S A s.heap H locs → ∀ (ls : Array Slot), lv_has ls 2 [] → X1_daysOfMonth_b37 p1 = some o → W p l e ({ frames := 1, cells := 0, slots := 0, locals := 22 } : Room) s m ([.int p0, .int p1] : List Value).toArray below meth c H locs 0 0 (MQ below (QI D o (fun u => []) A) ([.int p0, .int p1] : List Value).toArray s 0 0 A) (F0 m 37 ls [.int (fDOM (p1 - (1 : Int32)).toNatClampNeg)]) := by
    intro  H locs hP hD hS ls hl hf
    unfold X1_daysOfMonth_b37 at hf
    refine lv_iconst (v := (0 : Int32)) hx hb dX1_daysOfMonth_37 (by decide) ?_
    exact J38 (0 : Int32) _ _ hP hD hS _ (lv_sub hl [] rfl) hf
  refine lv_iload_n hx hb dX1_daysOfMonth_0 rfl (lv_at hl 1 rfl) ?_
  refine lv_iconst (v := (1 : Int32)) hx hb dX1_daysOfMonth_1 (by decide) ?_
  refine va_gets (v := .ref (sa 1)) hx hb ((amb_Z1 hG).narrow hZ) hS hown (hts _ k_999) (fun _ h9 => h9) dX1_daysOfMonth_2 ?_
  refine va_tlen hx hb ((amb_T1 hG).narrow hZ) hS (v := (12 : Int32)) (by decide) dX1_daysOfMonth_5 ?_
  obtain ⟨v1, e2, hf⟩ := bind_some' hf
  refine cl_i (va_runSN (As := [.int p1, .int (1 : Int32), .int (12 : Int32)]) (rest := []) ⟨hx, hb, hml, hown, hts⟩ (c_X8_isWithin l D cy sa z0 H.size p1 (1 : Int32) (12 : Int32) _ e2) ⟨va_cnB 3 hts (lw_gd k_308) rfl rfl rfl (amb_N (w := Cond.methodLinkNest RX1 9 yX8_isWithin RX8) hG (List.mem_of_getElem? (i := 306) (by decide +kernel)) rfl rfl) (hts _ k_36) (by decide +kernel) ⟨Nat.le_of_ble_eq_true rfl, Nat.le_of_ble_eq_true rfl⟩, hts _ k_307, trivial⟩ (preS hG hS hZ hP hD [] rfl rfl) rfl rfl hl.1 rfl (lv_room (Nat.le_of_ble_eq_true rfl)) dX1_daysOfMonth_6 ⟨Nat.le_of_ble_eq_true rfl, Nat.le_of_ble_eq_true rfl⟩) hP hD hS hA [] rfl rfl rfl (fun H locs hP hD hS => ?_)
  have hP : va_P D vwCl [] H := hP
  have hD : va_D A [] := hD
  refine lv_if_ne (tgt := 14) hx hb dX1_daysOfMonth_9 (by decide) (fun c3 => ?_) (fun c3 => ?_)
  · rw [if_neg c3] at hf
    refine va_gets (v := .ref (sa 1)) hx hb ((amb_Z1 hG).narrow hZ) hS hown (hts _ k_999) (fun _ h9 => h9) dX1_daysOfMonth_14 ?_
    refine lv_iload_n hx hb dX1_daysOfMonth_17 rfl (lv_at hl 1 rfl) ?_
    refine lv_iconst (v := (1 : Int32)) hx hb dX1_daysOfMonth_18 (by decide) ?_
    refine lv_isub hx hb dX1_daysOfMonth_19 ?_
    obtain ⟨g4, hf⟩ := ite_some' hf
    refine va_ti hx hb ((amb_T1 hG).narrow hZ) hS g4 (v := .int (fDOM (p1 - (1 : Int32)).toNatClampNeg)) rfl dX1_daysOfMonth_20 ?_
    refine lv_iload_n hx hb dX1_daysOfMonth_21 rfl (lv_at hl 1 rfl) ?_
    refine lv_iconst (v := (2 : Int32)) hx hb dX1_daysOfMonth_22 (by decide) ?_
    refine lv_icmp_ne (tgt := 37) hx hb dX1_daysOfMonth_23 (by decide) (fun c5 => ?_) (fun c5 => ?_)
    · rw [if_neg c5] at hf
      exact J37  _ _ hP hD hS _ (lv_sub hl [] rfl) hf
    · rw [if_pos c5] at hf
      refine lv_iload_n hx hb dX1_daysOfMonth_26 rfl (lv_at hl 0 rfl) ?_
      obtain ⟨v6, e7, hf⟩ := bind_some' hf
      refine cl_i (va_runS (As := [.int p0]) (rest := [.int (fDOM (p1 - (1 : Int32)).toNatClampNeg)]) ⟨hx, hb, hml, hown, hts⟩ (c_X1_hasLeapDay l D cy sa z0 H.size p0 _ e7) (va_cwS 1 hts (lw_gS k_309 k_310 k_50 k_311) rfl rfl rfl (by decide +kernel) ⟨Nat.le_of_ble_eq_true rfl, Nat.le_of_ble_eq_true rfl⟩) (preS hG hS hZ hP hD [] rfl rfl) rfl rfl hl.1 rfl (lv_room (Nat.le_of_ble_eq_true rfl)) dX1_daysOfMonth_27 ⟨Nat.le_of_ble_eq_true rfl, Nat.le_of_ble_eq_true rfl⟩) hP hD hS hA [] rfl rfl rfl (fun H locs hP hD hS => ?_)
      have hP : va_P D vwCl [] H := hP
      have hD : va_D A [] := hD
      refine lv_if_eq (tgt := 37) hx hb dX1_daysOfMonth_30 (by decide) (fun c8 => ?_) (fun c8 => ?_)
      · rw [if_pos c8] at hf
        exact J37  _ _ hP hD hS _ (lv_sub hl [] rfl) hf
      · rw [if_neg c8] at hf
        refine lv_iconst (v := (1 : Int32)) hx hb dX1_daysOfMonth_33 (by decide) ?_
        refine lv_goto (tgt := 38) hx hb dX1_daysOfMonth_34 (by decide) ?_
        exact J38 (1 : Int32) _ _ hP hD hS _ (lv_sub hl [] rfl) hf
  · rw [if_pos c3] at hf
    refine lv_iconst (v := (0 : Int32)) hx hb dX1_daysOfMonth_12 (by decide) ?_
    obtain rfl := Option.some.inj hf
    exact W.iret (v := (0 : Int32)) hx hb hr (fun t ht _ => ⟨⟨(0 : Int32), (), rfl, rfl, by rw [ht]; exact hP, hD⟩, hS.F ht⟩) hS.2.2 dX1_daysOfMonth_13
noncomputable def X1_isDate_b39 (b39_1 : Int32) : Option (Int32 × Unit) := if b39_1 &&& 1 = b39_1 then some (b39_1, ()) else none
noncomputable def X1_isDate_b38 : Option (Int32 × Unit) := X1_isDate_b39 (0 : Int32)
noncomputable def X1_isDate_f (p0 : Int32) (p1 : Int32) (p2 : Int32) : Option (Int32 × Unit) := (X8_isWithin_f p0 (1 : Int32) (3000 : Int32)).bind fun v1 => (if v1.1 = (0 : Int32) then X1_isDate_b38 else (X8_isWithin_f p1 (1 : Int32) (12 : Int32)).bind fun v4 => (if v4.1 = (0 : Int32) then X1_isDate_b38 else (X1_daysOfMonth_f p0 p1).bind fun v7 => (X8_isWithin_f p2 (1 : Int32) v7.1).bind fun v9 => (if v9.1 = (0 : Int32) then X1_isDate_b38 else X1_isDate_b39 (1 : Int32))))
set_option maxHeartbeats 4000000 in
set_option maxRecDepth 100000 in
theorem c_X1_isDate (l : Launch) (D : va_G) (cy : Nat → ClassId) (sa : Nat → Nat) (z0 sz : Nat) (p0 : Int32) (p1 : Int32) (p2 : Int32) (o : (Int32 × Unit)) (ho : X1_isDate_f p0 p1 p2 = some o) : Met l yX1_isDate (ws_ yX1_isDate cX1_isDate 3 (some .boolean)) ({ frames := 2, cells := 0, slots := 0, locals := 43 } : Room) (va_Pc [.int p0, .int p1, .int p2] (Pr D cy sa z0 [] sz)) (QI D o (fun u => []) (va_A [] sz)) 0 0 (va_A [] sz) := by
  refine MT (Qf := QI D o (fun u => [])) (plainFor_of_name (by decide +kernel)) (Nat.le_of_ble_eq_true rfl) ?_
  intro p e s m below meth c A ls H hx hb hml hr hlocks hown hnm hts hG hA hZ hP hD hS hl
  have hK := hG.K
  have hl : lv_has ls 3 [(0, .int p0), (1, .int p1), (2, .int p2)] := hl
  have hf : X1_isDate_f p0 p1 p2 = some o := ho
  clear ho
  unfold X1_isDate_f at hf
  have J39 : ∀ (b39_1 : Int32), ∀ (H : Heap) (locs : List Loc), va_P D vwCl [] H → va_D A [] → va_S A s.heap H locs → ∀ (ls : Array Slot), lv_has ls 3 [] → X1_isDate_b39 b39_1 = some o → W p l e ({ frames := 2, cells := 0, slots := 0, locals := 43 } : Room) s m ([.int p0, .int p1, .int p2] : List Value).toArray below meth c H locs 0 0 (MQ below (QI D o (fun u => []) A) ([.int p0, .int p1, .int p2] : List Value).toArray s 0 0 A) (F0 m 39 ls [.int b39_1]) := by
    intro b39_1 H locs hP hD hS ls hl hf
    unfold X1_isDate_b39 at hf
    obtain ⟨g12, hf⟩ := ite_some' hf
    obtain rfl := Option.some.inj hf
    exact W.zret (v := b39_1) hx hb hr (zn_b g12) (fun t ht _ => ⟨⟨b39_1, (), rfl, rfl, by rw [ht]; exact hP, hD⟩, hS.F ht⟩) hS.2.2 dX1_isDate_39
  have J38 : ∀ (H : Heap) (locs : List Loc), va_P D vwCl [] H → va_D A [] → va_S A s.heap H locs → ∀ (ls : Array Slot), lv_has ls 3 [] → X1_isDate_b38 = some o → W p l e ({ frames := 2, cells := 0, slots := 0, locals := 43 } : Room) s m ([.int p0, .int p1, .int p2] : List Value).toArray below meth c H locs 0 0 (MQ below (QI D o (fun u => []) A) ([.int p0, .int p1, .int p2] : List Value).toArray s 0 0 A) (F0 m 38 ls []) := by
    intro  H locs hP hD hS ls hl hf
    unfold X1_isDate_b38 at hf
    refine lv_iconst (v := (0 : Int32)) hx hb dX1_isDate_38 (by decide) ?_
    exact J39 (0 : Int32) _ _ hP hD hS _ (lv_sub hl [] rfl) hf
  refine lv_iload_n hx hb dX1_isDate_0 rfl (lv_at hl 0 rfl) ?_
  refine lv_iconst (v := (1 : Int32)) hx hb dX1_isDate_1 (by decide) ?_
  refine lv_sipush (v := (3000 : Int32)) hx hb dX1_isDate_2 (by decide) ?_
  obtain ⟨v1, e2, hf⟩ := bind_some' hf
  refine cl_i (va_runSN (As := [.int p0, .int (1 : Int32), .int (3000 : Int32)]) (rest := []) ⟨hx, hb, hml, hown, hts⟩ (c_X8_isWithin l D cy sa z0 H.size p0 (1 : Int32) (3000 : Int32) _ e2) ⟨va_cnB 3 hts (lw_gd k_308) rfl rfl rfl (amb_N (w := Cond.methodLinkNest RX1 9 yX8_isWithin RX8) hG (List.mem_of_getElem? (i := 306) (by decide +kernel)) rfl rfl) (hts _ k_36) (by decide +kernel) ⟨Nat.le_of_ble_eq_true rfl, Nat.le_of_ble_eq_true rfl⟩, hts _ k_307, trivial⟩ (preS hG hS hZ hP hD [] rfl rfl) rfl rfl hl.1 rfl (lv_room (Nat.le_of_ble_eq_true rfl)) dX1_isDate_5 ⟨Nat.le_of_ble_eq_true rfl, Nat.le_of_ble_eq_true rfl⟩) hP hD hS hA [] rfl rfl rfl (fun H locs hP hD hS => ?_)
  have hP : va_P D vwCl [] H := hP
  have hD : va_D A [] := hD
  refine lv_if_eq (tgt := 38) hx hb dX1_isDate_8 (by decide) (fun c3 => ?_) (fun c3 => ?_)
  · rw [if_pos c3] at hf
    exact J38  _ _ hP hD hS _ (lv_sub hl [] rfl) hf
  · rw [if_neg c3] at hf
    refine lv_iload_n hx hb dX1_isDate_11 rfl (lv_at hl 1 rfl) ?_
    refine lv_iconst (v := (1 : Int32)) hx hb dX1_isDate_12 (by decide) ?_
    refine lv_bipush (v := (12 : Int32)) hx hb dX1_isDate_13 (by decide) ?_
    obtain ⟨v4, e5, hf⟩ := bind_some' hf
    refine cl_i (va_runSN (As := [.int p1, .int (1 : Int32), .int (12 : Int32)]) (rest := []) ⟨hx, hb, hml, hown, hts⟩ (c_X8_isWithin l D cy sa z0 H.size p1 (1 : Int32) (12 : Int32) _ e5) ⟨va_cnB 3 hts (lw_gd k_308) rfl rfl rfl (amb_N (w := Cond.methodLinkNest RX1 9 yX8_isWithin RX8) hG (List.mem_of_getElem? (i := 306) (by decide +kernel)) rfl rfl) (hts _ k_36) (by decide +kernel) ⟨Nat.le_of_ble_eq_true rfl, Nat.le_of_ble_eq_true rfl⟩, hts _ k_307, trivial⟩ (preS hG hS hZ hP hD [] rfl rfl) rfl rfl hl.1 rfl (lv_room (Nat.le_of_ble_eq_true rfl)) dX1_isDate_15 ⟨Nat.le_of_ble_eq_true rfl, Nat.le_of_ble_eq_true rfl⟩) hP hD hS hA [] rfl rfl rfl (fun H locs hP hD hS => ?_)
    have hP : va_P D vwCl [] H := hP
    have hD : va_D A [] := hD
    refine lv_if_eq (tgt := 38) hx hb dX1_isDate_18 (by decide) (fun c6 => ?_) (fun c6 => ?_)
    · rw [if_pos c6] at hf
      exact J38  _ _ hP hD hS _ (lv_sub hl [] rfl) hf
    · rw [if_neg c6] at hf
      refine lv_iload_n hx hb dX1_isDate_21 rfl (lv_at hl 2 rfl) ?_
      refine lv_iconst (v := (1 : Int32)) hx hb dX1_isDate_22 (by decide) ?_
      refine lv_iload_n hx hb dX1_isDate_23 rfl (lv_at hl 0 rfl) ?_
      refine lv_iload_n hx hb dX1_isDate_24 rfl (lv_at hl 1 rfl) ?_
      obtain ⟨v7, e8, hf⟩ := bind_some' hf
      refine cl_i (va_runS (As := [.int p0, .int p1]) (rest := [.int (1 : Int32), .int p2]) ⟨hx, hb, hml, hown, hts⟩ (c_X1_daysOfMonth l D cy sa z0 H.size p0 p1 _ e8) (va_cwS 2 hts (lw_gS k_996 k_997 k_50 k_998) rfl rfl rfl (by decide +kernel) ⟨Nat.le_of_ble_eq_true rfl, Nat.le_of_ble_eq_true rfl⟩) (preS hG hS hZ hP hD [] rfl rfl) rfl rfl hl.1 rfl (lv_room (Nat.le_of_ble_eq_true rfl)) dX1_isDate_25 ⟨Nat.le_of_ble_eq_true rfl, Nat.le_of_ble_eq_true rfl⟩) hP hD hS hA [] rfl rfl rfl (fun H locs hP hD hS => ?_)
      have hP : va_P D vwCl [] H := hP
      have hD : va_D A [] := hD
      obtain ⟨v9, e10, hf⟩ := bind_some' hf
      refine cl_i (va_runSN (As := [.int p2, .int (1 : Int32), .int v7.1]) (rest := []) ⟨hx, hb, hml, hown, hts⟩ (c_X8_isWithin l D cy sa z0 H.size p2 (1 : Int32) v7.1 _ e10) ⟨va_cnB 3 hts (lw_gd k_308) rfl rfl rfl (amb_N (w := Cond.methodLinkNest RX1 9 yX8_isWithin RX8) hG (List.mem_of_getElem? (i := 306) (by decide +kernel)) rfl rfl) (hts _ k_36) (by decide +kernel) ⟨Nat.le_of_ble_eq_true rfl, Nat.le_of_ble_eq_true rfl⟩, hts _ k_307, trivial⟩ (preS hG hS hZ hP hD [] rfl rfl) rfl rfl hl.1 rfl (lv_room (Nat.le_of_ble_eq_true rfl)) dX1_isDate_28 ⟨Nat.le_of_ble_eq_true rfl, Nat.le_of_ble_eq_true rfl⟩) hP hD hS hA [] rfl rfl rfl (fun H locs hP hD hS => ?_)
      have hP : va_P D vwCl [] H := hP
      have hD : va_D A [] := hD
      refine lv_if_eq (tgt := 38) hx hb dX1_isDate_31 (by decide) (fun c11 => ?_) (fun c11 => ?_)
      · rw [if_pos c11] at hf
        exact J38  _ _ hP hD hS _ (lv_sub hl [] rfl) hf
      · rw [if_neg c11] at hf
        refine lv_iconst (v := (1 : Int32)) hx hb dX1_isDate_34 (by decide) ?_
        refine lv_goto (tgt := 39) hx hb dX1_isDate_35 (by decide) ?_
        exact J39 (1 : Int32) _ _ hP hD hS _ (lv_sub hl [] rfl) hf
noncomputable def X1_daysBeforeMonth_b38 (p1 : Int32) (b38_1 : Int32) : Option (Int32 × Unit) := some (((fDBM (p1 - (1 : Int32)).toNatClampNeg) + b38_1), ())
noncomputable def X1_daysBeforeMonth_b37 (p1 : Int32) : Option (Int32 × Unit) := X1_daysBeforeMonth_b38 p1 (0 : Int32)
noncomputable def X1_daysBeforeMonth_f (p0 : Int32) (p1 : Int32) : Option (Int32 × Unit) := (X8_isWithin_f p1 (1 : Int32) (12 : Int32)).bind fun v1 => (if v1.1 = (0 : Int32) then some ((0 : Int32), ()) else if ¬ ((p1 - (1 : Int32)) < 0 ∨ 12 ≤ (p1 - (1 : Int32)).toNatClampNeg) then (if p1 ≤ (2 : Int32) then X1_daysBeforeMonth_b37 p1 else (X1_hasLeapDay_f p0).bind fun v6 => (if v6.1 = (0 : Int32) then X1_daysBeforeMonth_b37 p1 else X1_daysBeforeMonth_b38 p1 (1 : Int32))) else none)
set_option maxHeartbeats 4000000 in
set_option maxRecDepth 100000 in
theorem c_X1_daysBeforeMonth (l : Launch) (D : va_G) (cy : Nat → ClassId) (sa : Nat → Nat) (z0 sz : Nat) (p0 : Int32) (p1 : Int32) (o : (Int32 × Unit)) (ho : X1_daysBeforeMonth_f p0 p1 = some o) : Met l yX1_daysBeforeMonth (ws_ yX1_daysBeforeMonth cX1_daysBeforeMonth 2 (some .int)) ({ frames := 1, cells := 0, slots := 0, locals := 22 } : Room) (va_Pc [.int p0, .int p1] (Pr D cy sa z0 [] sz)) (QI D o (fun u => []) (va_A [] sz)) 0 0 (va_A [] sz) := by
  refine MT (Qf := QI D o (fun u => [])) (plainFor_of_name (by decide +kernel)) (Nat.le_of_ble_eq_true rfl) ?_
  intro p e s m below meth c A ls H hx hb hml hr hlocks hown hnm hts hG hA hZ hP hD hS hl
  have hK := hG.K
  have hl : lv_has ls 2 [(0, .int p0), (1, .int p1)] := hl
  have hf : X1_daysBeforeMonth_f p0 p1 = some o := ho
  clear ho
  unfold X1_daysBeforeMonth_f at hf
  have J38 : ∀ (b38_1 : Int32), ∀ (H : Heap) (locs : List Loc), va_P D vwCl [] H → va_D A [] → va_S A s.heap H locs → ∀ (ls : Array Slot), lv_has ls 2 [] → X1_daysBeforeMonth_b38 p1 b38_1 = some o → W p l e ({ frames := 1, cells := 0, slots := 0, locals := 22 } : Room) s m ([.int p0, .int p1] : List Value).toArray below meth c H locs 0 0 (MQ below (QI D o (fun u => []) A) ([.int p0, .int p1] : List Value).toArray s 0 0 A) (F0 m 38 ls [.int b38_1, .int (fDBM (p1 - (1 : Int32)).toNatClampNeg)]) := by
    intro b38_1 H locs hP hD hS ls hl hf
    unfold X1_daysBeforeMonth_b38 at hf
    refine lv_iadd hx hb dX1_daysBeforeMonth_38 ?_
    obtain rfl := Option.some.inj hf
    exact W.iret (v := ((fDBM (p1 - (1 : Int32)).toNatClampNeg) + b38_1)) hx hb hr (fun t ht _ => ⟨⟨((fDBM (p1 - (1 : Int32)).toNatClampNeg) + b38_1), (), rfl, rfl, by rw [ht]; exact hP, hD⟩, hS.F ht⟩) hS.2.2 dX1_daysBeforeMonth_39
  have J37 : ∀ (H : Heap) (locs : List Loc), va_P D vwCl [] H → va_D A [] → va_S A s.heap H locs → ∀ (ls : Array Slot), lv_has ls 2 [] → X1_daysBeforeMonth_b37 p1 = some o → W p l e ({ frames := 1, cells := 0, slots := 0, locals := 22 } : Room) s m ([.int p0, .int p1] : List Value).toArray below meth c H locs 0 0 (MQ below (QI D o (fun u => []) A) ([.int p0, .int p1] : List Value).toArray s 0 0 A) (F0 m 37 ls [.int (fDBM (p1 - (1 : Int32)).toNatClampNeg)]) := by
    intro  H locs hP hD hS ls hl hf
    unfold X1_daysBeforeMonth_b37 at hf
    refine lv_iconst (v := (0 : Int32)) hx hb dX1_daysBeforeMonth_37 (by decide) ?_
    exact J38 (0 : Int32) _ _ hP hD hS _ (lv_sub hl [] rfl) hf
  refine lv_iload_n hx hb dX1_daysBeforeMonth_0 rfl (lv_at hl 1 rfl) ?_
  refine lv_iconst (v := (1 : Int32)) hx hb dX1_daysBeforeMonth_1 (by decide) ?_
  refine va_gets (v := .ref (sa 2)) hx hb ((amb_Z2 hG).narrow hZ) hS hown (hts _ k_304) (fun _ h9 => h9) dX1_daysBeforeMonth_2 ?_
  refine va_tlen hx hb ((amb_T2 hG).narrow hZ) hS (v := (12 : Int32)) (by decide) dX1_daysBeforeMonth_5 ?_
  obtain ⟨v1, e2, hf⟩ := bind_some' hf
  refine cl_i (va_runSN (As := [.int p1, .int (1 : Int32), .int (12 : Int32)]) (rest := []) ⟨hx, hb, hml, hown, hts⟩ (c_X8_isWithin l D cy sa z0 H.size p1 (1 : Int32) (12 : Int32) _ e2) ⟨va_cnB 3 hts (lw_gd k_308) rfl rfl rfl (amb_N (w := Cond.methodLinkNest RX1 9 yX8_isWithin RX8) hG (List.mem_of_getElem? (i := 306) (by decide +kernel)) rfl rfl) (hts _ k_36) (by decide +kernel) ⟨Nat.le_of_ble_eq_true rfl, Nat.le_of_ble_eq_true rfl⟩, hts _ k_307, trivial⟩ (preS hG hS hZ hP hD [] rfl rfl) rfl rfl hl.1 rfl (lv_room (Nat.le_of_ble_eq_true rfl)) dX1_daysBeforeMonth_6 ⟨Nat.le_of_ble_eq_true rfl, Nat.le_of_ble_eq_true rfl⟩) hP hD hS hA [] rfl rfl rfl (fun H locs hP hD hS => ?_)
  have hP : va_P D vwCl [] H := hP
  have hD : va_D A [] := hD
  refine lv_if_ne (tgt := 14) hx hb dX1_daysBeforeMonth_9 (by decide) (fun c3 => ?_) (fun c3 => ?_)
  · rw [if_neg c3] at hf
    refine va_gets (v := .ref (sa 2)) hx hb ((amb_Z2 hG).narrow hZ) hS hown (hts _ k_304) (fun _ h9 => h9) dX1_daysBeforeMonth_14 ?_
    refine lv_iload_n hx hb dX1_daysBeforeMonth_17 rfl (lv_at hl 1 rfl) ?_
    refine lv_iconst (v := (1 : Int32)) hx hb dX1_daysBeforeMonth_18 (by decide) ?_
    refine lv_isub hx hb dX1_daysBeforeMonth_19 ?_
    obtain ⟨g4, hf⟩ := ite_some' hf
    refine va_ti hx hb ((amb_T2 hG).narrow hZ) hS g4 (v := .int (fDBM (p1 - (1 : Int32)).toNatClampNeg)) rfl dX1_daysBeforeMonth_20 ?_
    refine lv_iload_n hx hb dX1_daysBeforeMonth_21 rfl (lv_at hl 1 rfl) ?_
    refine lv_iconst (v := (2 : Int32)) hx hb dX1_daysBeforeMonth_22 (by decide) ?_
    refine lv_icmp_le (tgt := 37) hx hb dX1_daysBeforeMonth_23 (by decide) (fun c5 => ?_) (fun c5 => ?_)
    · rw [if_pos c5] at hf
      exact J37  _ _ hP hD hS _ (lv_sub hl [] rfl) hf
    · rw [if_neg c5] at hf
      refine lv_iload_n hx hb dX1_daysBeforeMonth_26 rfl (lv_at hl 0 rfl) ?_
      obtain ⟨v6, e7, hf⟩ := bind_some' hf
      refine cl_i (va_runS (As := [.int p0]) (rest := [.int (fDBM (p1 - (1 : Int32)).toNatClampNeg)]) ⟨hx, hb, hml, hown, hts⟩ (c_X1_hasLeapDay l D cy sa z0 H.size p0 _ e7) (va_cwS 1 hts (lw_gS k_309 k_310 k_50 k_311) rfl rfl rfl (by decide +kernel) ⟨Nat.le_of_ble_eq_true rfl, Nat.le_of_ble_eq_true rfl⟩) (preS hG hS hZ hP hD [] rfl rfl) rfl rfl hl.1 rfl (lv_room (Nat.le_of_ble_eq_true rfl)) dX1_daysBeforeMonth_27 ⟨Nat.le_of_ble_eq_true rfl, Nat.le_of_ble_eq_true rfl⟩) hP hD hS hA [] rfl rfl rfl (fun H locs hP hD hS => ?_)
      have hP : va_P D vwCl [] H := hP
      have hD : va_D A [] := hD
      refine lv_if_eq (tgt := 37) hx hb dX1_daysBeforeMonth_30 (by decide) (fun c8 => ?_) (fun c8 => ?_)
      · rw [if_pos c8] at hf
        exact J37  _ _ hP hD hS _ (lv_sub hl [] rfl) hf
      · rw [if_neg c8] at hf
        refine lv_iconst (v := (1 : Int32)) hx hb dX1_daysBeforeMonth_33 (by decide) ?_
        refine lv_goto (tgt := 38) hx hb dX1_daysBeforeMonth_34 (by decide) ?_
        exact J38 (1 : Int32) _ _ hP hD hS _ (lv_sub hl [] rfl) hf
  · rw [if_pos c3] at hf
    refine lv_iconst (v := (0 : Int32)) hx hb dX1_daysBeforeMonth_12 (by decide) ?_
    obtain rfl := Option.some.inj hf
    exact W.iret (v := (0 : Int32)) hx hb hr (fun t ht _ => ⟨⟨(0 : Int32), (), rfl, rfl, by rw [ht]; exact hP, hD⟩, hS.F ht⟩) hS.2.2 dX1_daysBeforeMonth_13
noncomputable def X1_daysBeforeYear_f (p0 : Int32) : Option (Int64 × Unit) := (some (((p0 - (1 : Int32)).toInt64 * (365 : Int64)) + ((p0 - (1 : Int32)).toInt64 / (4 : Int64)))).bind fun v1 => (some ((v1 - ((p0 - (1 : Int32)).toInt64 / (100 : Int64))) + ((p0 - (1 : Int32)).toInt64 / (400 : Int64)))).bind fun v3 => some (v3, ())
set_option maxHeartbeats 4000000 in
set_option maxRecDepth 100000 in
theorem c_X1_daysBeforeYear (l : Launch) (D : va_G) (cy : Nat → ClassId) (sa : Nat → Nat) (z0 sz : Nat) (p0 : Int32) (o : (Int64 × Unit)) (ho : X1_daysBeforeYear_f p0 = some o) : Met l yX1_daysBeforeYear (ws_ yX1_daysBeforeYear cX1_daysBeforeYear 3 (some .long)) ({ frames := 0, cells := 0, slots := 0, locals := 0 } : Room) (va_Pc [.int p0] (Pr D cy sa z0 [] sz)) (QL D o (fun u => []) (va_A [] sz)) 0 0 (va_A [] sz) := by
  refine MT (Qf := QL D o (fun u => [])) (plainFor_of_name (by decide +kernel)) (Nat.le_of_ble_eq_true rfl) ?_
  intro p e s m below meth c A ls H hx hb hml hr hlocks hown hnm hts hG hA hZ hP hD hS hl
  have hK := hG.K
  have hl : lv_has ls 3 [(0, .int p0)] := hl
  have hf : X1_daysBeforeYear_f p0 = some o := ho
  clear ho
  unfold X1_daysBeforeYear_f at hf
  refine lv_iload_n hx hb dX1_daysBeforeYear_0 rfl (lv_at hl 0 rfl) ?_
  refine lv_iconst (v := (1 : Int32)) hx hb dX1_daysBeforeYear_1 (by decide) ?_
  refine lv_isub hx hb dX1_daysBeforeYear_2 ?_
  refine lv_i2l hx hb dX1_daysBeforeYear_3 rfl ?_
  refine lv_lstore_n (lv' := [(1, .long (p0 - (1 : Int32)).toInt64), (0, .int p0)]) hx hb dX1_daysBeforeYear_4 rfl hl (by decide) rfl (fun ls hl => ?_)
  refine lv_lload_n hx hb dX1_daysBeforeYear_5 rfl (lv_at hl 0 rfl) ?_
  refine lv_ldc2 (v := (365 : Int64)) hx hb hown (hts _ k_297) dX1_daysBeforeYear_6 ?_
  refine lv_lmul hx hb dX1_daysBeforeYear_9 ?_
  refine lv_lload_n hx hb dX1_daysBeforeYear_10 rfl (lv_at hl 0 rfl) ?_
  refine lv_ldc2 (v := (4 : Int64)) hx hb hown (hts _ k_298) dX1_daysBeforeYear_11 ?_
  refine lv_ldiv hx hb dX1_daysBeforeYear_14 (by decide) ?_
  refine lv_ladd hx hb dX1_daysBeforeYear_15 ?_
  obtain ⟨v1, e2, hf⟩ := bind_some' hf
  refine lv_topl (fun y9 e9 => ?_)
  obtain rfl : v1 = y9 := (e9.trans (Option.some.inj e2)).symm
  refine lv_lload_n hx hb dX1_daysBeforeYear_16 rfl (lv_at hl 0 rfl) ?_
  refine lv_ldc2 (v := (100 : Int64)) hx hb hown (hts _ k_299) dX1_daysBeforeYear_17 ?_
  refine lv_ldiv hx hb dX1_daysBeforeYear_20 (by decide) ?_
  refine lv_lsub hx hb dX1_daysBeforeYear_21 ?_
  refine lv_lload_n hx hb dX1_daysBeforeYear_22 rfl (lv_at hl 0 rfl) ?_
  refine lv_ldc2 (v := (400 : Int64)) hx hb hown (hts _ k_300) dX1_daysBeforeYear_23 ?_
  refine lv_ldiv hx hb dX1_daysBeforeYear_26 (by decide) ?_
  refine lv_ladd hx hb dX1_daysBeforeYear_27 ?_
  obtain ⟨v3, e4, hf⟩ := bind_some' hf
  refine lv_topl (fun y9 e9 => ?_)
  obtain rfl : v3 = y9 := (e9.trans (Option.some.inj e4)).symm
  obtain rfl := Option.some.inj hf
  exact W.lret (v := v3) hx hb hr (fun t ht _ => ⟨⟨v3, (), rfl, rfl, by rw [ht]; exact hP, hD⟩, hS.F ht⟩) hS.2.2 dX1_daysBeforeYear_28
noncomputable def X1_numberByYears_f (p0 : Int32) (p1 : Int32) (p2 : Int32) : Option (Int64 × Unit) := (X1_daysBeforeYear_f p0).bind fun v1 => (X1_daysBeforeMonth_f p0 p1).bind fun v3 => some (((v1.1 + v3.1.toInt64) + p2.toInt64), ())
set_option maxHeartbeats 4000000 in
set_option maxRecDepth 100000 in
theorem c_X1_numberByYears (l : Launch) (D : va_G) (cy : Nat → ClassId) (sa : Nat → Nat) (z0 sz : Nat) (p0 : Int32) (p1 : Int32) (p2 : Int32) (o : (Int64 × Unit)) (ho : X1_numberByYears_f p0 p1 p2 = some o) : Met l yX1_numberByYears (ws_ yX1_numberByYears cX1_numberByYears 3 (some .long)) ({ frames := 2, cells := 0, slots := 0, locals := 43 } : Room) (va_Pc [.int p0, .int p1, .int p2] (Pr D cy sa z0 [] sz)) (QL D o (fun u => []) (va_A [] sz)) 0 0 (va_A [] sz) := by
  refine MT (Qf := QL D o (fun u => [])) (plainFor_of_name (by decide +kernel)) (Nat.le_of_ble_eq_true rfl) ?_
  intro p e s m below meth c A ls H hx hb hml hr hlocks hown hnm hts hG hA hZ hP hD hS hl
  have hK := hG.K
  have hl : lv_has ls 3 [(0, .int p0), (1, .int p1), (2, .int p2)] := hl
  have hf : X1_numberByYears_f p0 p1 p2 = some o := ho
  clear ho
  unfold X1_numberByYears_f at hf
  refine lv_iload_n hx hb dX1_numberByYears_0 rfl (lv_at hl 0 rfl) ?_
  obtain ⟨v1, e2, hf⟩ := bind_some' hf
  refine cl_l (va_runS (As := [.int p0]) (rest := []) ⟨hx, hb, hml, hown, hts⟩ (c_X1_daysBeforeYear l D cy sa z0 H.size p0 _ e2) (va_cwS 1 hts (lw_gS k_294 k_295 k_50 k_296) rfl rfl rfl (by decide +kernel) ⟨Nat.le_of_ble_eq_true rfl, Nat.le_of_ble_eq_true rfl⟩) (preS hG hS hZ hP hD [] rfl rfl) rfl rfl hl.1 rfl (lv_room (Nat.le_of_ble_eq_true rfl)) dX1_numberByYears_1 ⟨Nat.le_of_ble_eq_true rfl, Nat.le_of_ble_eq_true rfl⟩) hP hD hS hA [] rfl rfl rfl (fun H locs hP hD hS => ?_)
  have hP : va_P D vwCl [] H := hP
  have hD : va_D A [] := hD
  refine lv_iload_n hx hb dX1_numberByYears_4 rfl (lv_at hl 0 rfl) ?_
  refine lv_iload_n hx hb dX1_numberByYears_5 rfl (lv_at hl 1 rfl) ?_
  obtain ⟨v3, e4, hf⟩ := bind_some' hf
  refine cl_i (va_runS (As := [.int p0, .int p1]) (rest := [.long v1.1]) ⟨hx, hb, hml, hown, hts⟩ (c_X1_daysBeforeMonth l D cy sa z0 H.size p0 p1 _ e4) (va_cwS 2 hts (lw_gS k_301 k_302 k_50 k_303) rfl rfl rfl (by decide +kernel) ⟨Nat.le_of_ble_eq_true rfl, Nat.le_of_ble_eq_true rfl⟩) (preS hG hS hZ hP hD [] rfl rfl) rfl rfl hl.1 rfl (lv_room (Nat.le_of_ble_eq_true rfl)) dX1_numberByYears_6 ⟨Nat.le_of_ble_eq_true rfl, Nat.le_of_ble_eq_true rfl⟩) hP hD hS hA [] rfl rfl rfl (fun H locs hP hD hS => ?_)
  have hP : va_P D vwCl [] H := hP
  have hD : va_D A [] := hD
  refine lv_i2l hx hb dX1_numberByYears_9 rfl ?_
  refine lv_ladd hx hb dX1_numberByYears_10 ?_
  refine lv_iload_n hx hb dX1_numberByYears_11 rfl (lv_at hl 2 rfl) ?_
  refine lv_i2l hx hb dX1_numberByYears_12 rfl ?_
  refine lv_ladd hx hb dX1_numberByYears_13 ?_
  obtain rfl := Option.some.inj hf
  exact W.lret (v := ((v1.1 + v3.1.toInt64) + p2.toInt64)) hx hb hr (fun t ht _ => ⟨⟨((v1.1 + v3.1.toInt64) + p2.toInt64), (), rfl, rfl, by rw [ht]; exact hP, hD⟩, hS.F ht⟩) hS.2.2 dX1_numberByYears_14
noncomputable def X1_numberOneByOne_b30 (k6 : Int64 → Int32 → Option (Int64 × Unit)) (b30_1 : Int32) (b30_2 : Int64) (b30_3 : Int64) : Option (Int64 × Unit) := k6 (b30_3 + b30_2) (b30_1 + (1 : Int32))
noncomputable def X1_numberOneByOne_L41_body (p0 : Int32) (p1 : Int32) (k41 : Int64 → Int32 → Option (Int64 × Unit)) (b41_1 : Int64) (b41_2 : Int32) : Option (Int64 × Unit) := (if p1 ≤ b41_2 then some (b41_1, ()) else (X1_daysOfMonth_f p0 b41_2).bind fun v6 => k41 (b41_1 + v6.1.toInt64) (b41_2 + (1 : Int32)))
noncomputable def X1_numberOneByOne_L41 (p0 : Int32) (p1 : Int32) (n : Nat) : Int64 → Int32 → Option (Int64 × Unit) := Nat.rec (motive := fun _ => Int64 → Int32 → Option (Int64 × Unit)) (fun _ _ => none) (fun _ k41 b41_1 b41_2 => X1_numberOneByOne_L41_body p0 p1 k41 b41_1 b41_2) n
noncomputable def X1_numberOneByOne_L6_body (N : Nat) (p0 : Int32) (p1 : Int32) (k6 : Int64 → Int32 → Option (Int64 × Unit)) (b6_1 : Int64) (b6_2 : Int32) : Option (Int64 × Unit) := (if p0 ≤ b6_2 then X1_numberOneByOne_L41 p0 p1 N b6_1 (1 : Int32) else (X1_hasLeapDay_f b6_2).bind fun v2 => (if v2.1 = (0 : Int32) then X1_numberOneByOne_b30 k6 b6_2 (365 : Int64) b6_1 else X1_numberOneByOne_b30 k6 b6_2 (366 : Int64) b6_1))
noncomputable def X1_numberOneByOne_L6 (N : Nat) (p0 : Int32) (p1 : Int32) (n : Nat) : Int64 → Int32 → Option (Int64 × Unit) := Nat.rec (motive := fun _ => Int64 → Int32 → Option (Int64 × Unit)) (fun _ _ => none) (fun _ k6 b6_1 b6_2 => X1_numberOneByOne_L6_body N p0 p1 k6 b6_1 b6_2) n
noncomputable def X1_numberOneByOne_f (N : Nat) (p0 : Int32) (p1 : Int32) (p2 : Int32) : Option (Int64 × Unit) := X1_numberOneByOne_L6 N p0 p1 N p2.toInt64 (1 : Int32)
set_option maxHeartbeats 4000000 in
set_option maxRecDepth 100000 in
theorem c_X1_numberOneByOne (l : Launch) (D : va_G) (cy : Nat → ClassId) (sa : Nat → Nat) (z0 sz : Nat) (p0 : Int32) (p1 : Int32) (p2 : Int32) (N : Nat) (o : (Int64 × Unit)) (ho : X1_numberOneByOne_f N p0 p1 p2 = some o) : Met l yX1_numberOneByOne (ws_ yX1_numberOneByOne cX1_numberOneByOne 6 (some .long)) ({ frames := 2, cells := 0, slots := 0, locals := 43 } : Room) (va_Pc [.int p0, .int p1, .int p2] (Pr D cy sa z0 [] sz)) (QL D o (fun u => []) (va_A [] sz)) 0 0 (va_A [] sz) := by
  refine MT (Qf := QL D o (fun u => [])) (plainFor_of_name (by decide +kernel)) (Nat.le_of_ble_eq_true rfl) ?_
  intro p e s m below meth c A ls H hx hb hml hr hlocks hown hnm hts hG hA hZ hP hD hS hl
  have hK := hG.K
  have hl : lv_has ls 6 [(0, .int p0), (1, .int p1), (2, .int p2)] := hl
  have hf : X1_numberOneByOne_f N p0 p1 p2 = some o := ho
  clear ho
  unfold X1_numberOneByOne_f at hf
  have L41 : ∀ (n : Nat) (b41_1 : Int64) (b41_2 : Int32), ∀ (H : Heap) (locs : List Loc), va_P D vwCl [] H → va_D A [] → va_S A s.heap H locs → ∀ (ls : Array Slot), lv_has ls 6 [(0, .int p0), (1, .int p1), (3, .long b41_1), (5, .int b41_2)] → X1_numberOneByOne_L41 p0 p1 n b41_1 b41_2 = some o → W p l e ({ frames := 2, cells := 0, slots := 0, locals := 43 } : Room) s m ([.int p0, .int p1, .int p2] : List Value).toArray below meth c H locs 0 0 (MQ below (QL D o (fun u => []) A) ([.int p0, .int p1, .int p2] : List Value).toArray s 0 0 A) (F0 m 41 ls []) := by
    intro n
    induction n with
    | zero => intro b41_1 b41_2 H locs hP hD hS ls hl hf; cases (show (none : Option (Int64 × Unit)) = some o from hf)
    | succ n ih_41 =>
      intro b41_1 b41_2 H locs hP hD hS ls hl hf
      have hf : X1_numberOneByOne_L41_body p0 p1 (X1_numberOneByOne_L41 p0 p1 n) b41_1 b41_2 = some o := hf
      generalize X1_numberOneByOne_L41 p0 p1 n = k41 at ih_41 hf
      unfold X1_numberOneByOne_L41_body at hf
      refine lv_iload hx hb dX1_numberOneByOne_41 (lv_at hl 3 rfl) ?_
      refine lv_iload_n hx hb dX1_numberOneByOne_43 rfl (lv_at hl 1 rfl) ?_
      refine lv_icmp_ge (tgt := 63) hx hb dX1_numberOneByOne_44 (by decide) (fun c5 => ?_) (fun c5 => ?_)
      · rw [if_pos c5] at hf
        refine lv_lload_n hx hb dX1_numberOneByOne_63 rfl (lv_at hl 2 rfl) ?_
        obtain rfl := Option.some.inj hf
        exact W.lret (v := b41_1) hx hb hr (fun t ht _ => ⟨⟨b41_1, (), rfl, rfl, by rw [ht]; exact hP, hD⟩, hS.F ht⟩) hS.2.2 dX1_numberOneByOne_64
      · rw [if_neg c5] at hf
        refine lv_lload_n hx hb dX1_numberOneByOne_47 rfl (lv_at hl 2 rfl) ?_
        refine lv_iload_n hx hb dX1_numberOneByOne_48 rfl (lv_at hl 0 rfl) ?_
        refine lv_iload hx hb dX1_numberOneByOne_49 (lv_at hl 3 rfl) ?_
        obtain ⟨v6, e7, hf⟩ := bind_some' hf
        refine cl_i (va_runS (As := [.int p0, .int b41_2]) (rest := [.long b41_1]) ⟨hx, hb, hml, hown, hts⟩ (c_X1_daysOfMonth l D cy sa z0 H.size p0 b41_2 _ e7) (va_cwS 2 hts (lw_gS k_996 k_997 k_50 k_998) rfl rfl rfl (by decide +kernel) ⟨Nat.le_of_ble_eq_true rfl, Nat.le_of_ble_eq_true rfl⟩) (preS hG hS hZ hP hD [] rfl rfl) rfl rfl hl.1 rfl (lv_room (Nat.le_of_ble_eq_true rfl)) dX1_numberOneByOne_51 ⟨Nat.le_of_ble_eq_true rfl, Nat.le_of_ble_eq_true rfl⟩) hP hD hS hA [] rfl rfl rfl (fun H locs hP hD hS => ?_)
        have hP : va_P D vwCl [] H := hP
        have hD : va_D A [] := hD
        refine lv_i2l hx hb dX1_numberOneByOne_54 rfl ?_
        refine lv_ladd hx hb dX1_numberOneByOne_55 ?_
        refine lv_lstore_n (lv' := [(3, .long (b41_1 + v6.1.toInt64)), (0, .int p0), (1, .int p1), (5, .int b41_2)]) hx hb dX1_numberOneByOne_56 rfl hl (by decide) rfl (fun ls hl => ?_)
        refine lv_iinc (v := (b41_2 + (1 : Int32))) (lv' := [(5, .int (b41_2 + (1 : Int32))), (3, .long (b41_1 + v6.1.toInt64)), (0, .int p0), (1, .int p1)]) hx hb dX1_numberOneByOne_57 hl (k := 3) rfl (by rfl) (by decide) rfl (fun ls hl => ?_)
        refine lv_goto (tgt := 41) hx hb dX1_numberOneByOne_60 (by decide) ?_
        exact ih_41 (b41_1 + v6.1.toInt64) (b41_2 + (1 : Int32)) _ _ hP hD hS _ (lv_sub hl [2, 3, 1, 0] rfl) hf
  have L6 : ∀ (n : Nat) (b6_1 : Int64) (b6_2 : Int32), ∀ (H : Heap) (locs : List Loc), va_P D vwCl [] H → va_D A [] → va_S A s.heap H locs → ∀ (ls : Array Slot), lv_has ls 6 [(0, .int p0), (1, .int p1), (3, .long b6_1), (5, .int b6_2)] → X1_numberOneByOne_L6 N p0 p1 n b6_1 b6_2 = some o → W p l e ({ frames := 2, cells := 0, slots := 0, locals := 43 } : Room) s m ([.int p0, .int p1, .int p2] : List Value).toArray below meth c H locs 0 0 (MQ below (QL D o (fun u => []) A) ([.int p0, .int p1, .int p2] : List Value).toArray s 0 0 A) (F0 m 6 ls []) := by
    intro n
    induction n with
    | zero => intro b6_1 b6_2 H locs hP hD hS ls hl hf; cases (show (none : Option (Int64 × Unit)) = some o from hf)
    | succ n ih_6 =>
      intro b6_1 b6_2 H locs hP hD hS ls hl hf
      have hf : X1_numberOneByOne_L6_body N p0 p1 (X1_numberOneByOne_L6 N p0 p1 n) b6_1 b6_2 = some o := hf
      generalize X1_numberOneByOne_L6 N p0 p1 n = k6 at ih_6 hf
      unfold X1_numberOneByOne_L6_body at hf
      have J30 : ∀ (b30_1 : Int32) (b30_2 : Int64) (b30_3 : Int64), ∀ (H : Heap) (locs : List Loc), va_P D vwCl [] H → va_D A [] → va_S A s.heap H locs → ∀ (ls : Array Slot), lv_has ls 6 [(0, .int p0), (1, .int p1), (5, .int b30_1)] → X1_numberOneByOne_b30 k6 b30_1 b30_2 b30_3 = some o → W p l e ({ frames := 2, cells := 0, slots := 0, locals := 43 } : Room) s m ([.int p0, .int p1, .int p2] : List Value).toArray below meth c H locs 0 0 (MQ below (QL D o (fun u => []) A) ([.int p0, .int p1, .int p2] : List Value).toArray s 0 0 A) (F0 m 30 ls [.long b30_2, .long b30_3]) := by
        intro b30_1 b30_2 b30_3 H locs hP hD hS ls hl hf
        unfold X1_numberOneByOne_b30 at hf
        refine lv_ladd hx hb dX1_numberOneByOne_30 ?_
        refine lv_lstore_n (lv' := [(3, .long (b30_3 + b30_2)), (0, .int p0), (1, .int p1), (5, .int b30_1)]) hx hb dX1_numberOneByOne_31 rfl hl (by decide) rfl (fun ls hl => ?_)
        refine lv_iinc (v := (b30_1 + (1 : Int32))) (lv' := [(5, .int (b30_1 + (1 : Int32))), (3, .long (b30_3 + b30_2)), (0, .int p0), (1, .int p1)]) hx hb dX1_numberOneByOne_32 hl (k := 3) rfl (by rfl) (by decide) rfl (fun ls hl => ?_)
        refine lv_goto (tgt := 6) hx hb dX1_numberOneByOne_35 (by decide) ?_
        exact ih_6 (b30_3 + b30_2) (b30_1 + (1 : Int32)) _ _ hP hD hS _ (lv_sub hl [2, 3, 1, 0] rfl) hf
      refine lv_iload hx hb dX1_numberOneByOne_6 (lv_at hl 3 rfl) ?_
      refine lv_iload_n hx hb dX1_numberOneByOne_8 rfl (lv_at hl 0 rfl) ?_
      refine lv_icmp_ge (tgt := 38) hx hb dX1_numberOneByOne_9 (by decide) (fun c1 => ?_) (fun c1 => ?_)
      · rw [if_pos c1] at hf
        refine lv_iconst (v := (1 : Int32)) hx hb dX1_numberOneByOne_38 (by decide) ?_
        refine lv_istore (lv' := [(5, .int (1 : Int32)), (0, .int p0), (1, .int p1), (3, .long b6_1)]) hx hb dX1_numberOneByOne_39 hl (by decide) rfl (fun ls hl => ?_)
        exact L41 N b6_1 (1 : Int32) _ _ hP hD hS _ (lv_sub hl [1, 2, 3, 0] rfl) hf
      · rw [if_neg c1] at hf
        refine lv_lload_n hx hb dX1_numberOneByOne_12 rfl (lv_at hl 2 rfl) ?_
        refine lv_iload hx hb dX1_numberOneByOne_13 (lv_at hl 3 rfl) ?_
        obtain ⟨v2, e3, hf⟩ := bind_some' hf
        refine cl_i (va_runS (As := [.int b6_2]) (rest := [.long b6_1]) ⟨hx, hb, hml, hown, hts⟩ (c_X1_hasLeapDay l D cy sa z0 H.size b6_2 _ e3) (va_cwS 1 hts (lw_gS k_309 k_310 k_50 k_311) rfl rfl rfl (by decide +kernel) ⟨Nat.le_of_ble_eq_true rfl, Nat.le_of_ble_eq_true rfl⟩) (preS hG hS hZ hP hD [] rfl rfl) rfl rfl hl.1 rfl (lv_room (Nat.le_of_ble_eq_true rfl)) dX1_numberOneByOne_15 ⟨Nat.le_of_ble_eq_true rfl, Nat.le_of_ble_eq_true rfl⟩) hP hD hS hA [] rfl rfl rfl (fun H locs hP hD hS => ?_)
        have hP : va_P D vwCl [] H := hP
        have hD : va_D A [] := hD
        refine lv_if_eq (tgt := 27) hx hb dX1_numberOneByOne_18 (by decide) (fun c4 => ?_) (fun c4 => ?_)
        · rw [if_pos c4] at hf
          refine lv_ldc2 (v := (365 : Int64)) hx hb hown (hts _ k_297) dX1_numberOneByOne_27 ?_
          exact J30 b6_2 (365 : Int64) b6_1 _ _ hP hD hS _ (lv_sub hl [0, 1, 3] rfl) hf
        · rw [if_neg c4] at hf
          refine lv_ldc2 (v := (366 : Int64)) hx hb hown (hts _ k_1728) dX1_numberOneByOne_21 ?_
          refine lv_goto (tgt := 30) hx hb dX1_numberOneByOne_24 (by decide) ?_
          exact J30 b6_2 (366 : Int64) b6_1 _ _ hP hD hS _ (lv_sub hl [0, 1, 3] rfl) hf
  refine lv_iload_n hx hb dX1_numberOneByOne_0 rfl (lv_at hl 2 rfl) ?_
  refine lv_i2l hx hb dX1_numberOneByOne_1 rfl ?_
  refine lv_lstore_n (lv' := [(3, .long p2.toInt64), (0, .int p0), (1, .int p1), (2, .int p2)]) hx hb dX1_numberOneByOne_2 rfl hl (by decide) rfl (fun ls hl => ?_)
  refine lv_iconst (v := (1 : Int32)) hx hb dX1_numberOneByOne_3 (by decide) ?_
  refine lv_istore (lv' := [(5, .int (1 : Int32)), (3, .long p2.toInt64), (0, .int p0), (1, .int p1), (2, .int p2)]) hx hb dX1_numberOneByOne_4 hl (by decide) rfl (fun ls hl => ?_)
  exact L6 N p2.toInt64 (1 : Int32) _ _ hP hD hS _ (lv_sub hl [2, 3, 1, 0] rfl) hf
noncomputable def X1_weekdayOf_f (p0 : Int64) : Option (Int32 × Unit) := (J9_floorMod_f86c9_f (p0 - (1 : Int64)) (7 : Int64)).bind fun v1 => some (v1.1.toInt32, ())
set_option maxHeartbeats 4000000 in
set_option maxRecDepth 100000 in
theorem c_X1_weekdayOf (l : Launch) (D : va_G) (cy : Nat → ClassId) (sa : Nat → Nat) (z0 sz : Nat) (p0 : Int64) (o : (Int32 × Unit)) (ho : X1_weekdayOf_f p0 = some o) : Met l yX1_weekdayOf (ws_ yX1_weekdayOf cX1_weekdayOf 2 (some .int)) ({ frames := 1, cells := 0, slots := 0, locals := 25 } : Room) (va_Pc [.long p0] (Pr D cy sa z0 [] sz)) (QI D o (fun u => []) (va_A [] sz)) 0 0 (va_A [] sz) := by
  refine MT (Qf := QI D o (fun u => [])) (plainFor_of_name (by decide +kernel)) (Nat.le_of_ble_eq_true rfl) ?_
  intro p e s m below meth c A ls H hx hb hml hr hlocks hown hnm hts hG hA hZ hP hD hS hl
  have hK := hG.K
  have hl : lv_has ls 2 [(0, .long p0)] := hl
  have hf : X1_weekdayOf_f p0 = some o := ho
  clear ho
  unfold X1_weekdayOf_f at hf
  refine lv_lload_n hx hb dX1_weekdayOf_0 rfl (lv_at hl 0 rfl) ?_
  refine lv_lconst (v := (1 : Int64)) hx hb dX1_weekdayOf_1 (by decide) ?_
  refine lv_lsub hx hb dX1_weekdayOf_2 ?_
  refine lv_ldc2 (v := (7 : Int64)) hx hb hown (hts _ k_416) dX1_weekdayOf_3 ?_
  obtain ⟨v1, e2, hf⟩ := bind_some' hf
  refine cl_l (va_runS (As := [.long (p0 - (1 : Int64)), .long (7 : Int64)]) (rest := []) ⟨hx, hb, hml, hown, hts⟩ (c_J9_floorMod_f86c9 l D cy sa z0 H.size (p0 - (1 : Int64)) (7 : Int64) _ e2) (va_cwS 2 hts (lw_gS k_417 k_418 k_43 k_419) rfl rfl rfl (by decide +kernel) ⟨Nat.le_of_ble_eq_true rfl, Nat.le_of_ble_eq_true rfl⟩) (preS hG hS hZ hP hD [] rfl rfl) rfl rfl hl.1 rfl (lv_room (Nat.le_of_ble_eq_true rfl)) dX1_weekdayOf_6 ⟨Nat.le_of_ble_eq_true rfl, Nat.le_of_ble_eq_true rfl⟩) hP hD hS hA [] rfl rfl rfl (fun H locs hP hD hS => ?_)
  have hP : va_P D vwCl [] H := hP
  have hD : va_D A [] := hD
  refine lv_l2i hx hb dX1_weekdayOf_9 rfl ?_
  obtain rfl := Option.some.inj hf
  exact W.iret (v := v1.1.toInt32) hx hb hr (fun t ht _ => ⟨⟨v1.1.toInt32, (), rfl, rfl, by rw [ht]; exact hP, hD⟩, hS.F ht⟩) hS.2.2 dX1_weekdayOf_10
noncomputable def X1_yearOf_f (p0 : Int64) : Option (Int32 × Unit) := (some (((p0 - (1 : Int64)) - (p0 - (1 : Int64)) / (146097 : Int64) * (146097 : Int64)) / (36524 : Int64))).bind fun v1 => (some (((p0 - (1 : Int64)) - (p0 - (1 : Int64)) / (146097 : Int64) * (146097 : Int64)) - ((if v1 < (3 : Int64) then v1 else (3 : Int64)) * (36524 : Int64)))).bind fun v3 => (some (if ((v3 - v3 / (1461 : Int64) * (1461 : Int64)) / (365 : Int64)) < (3 : Int64) then ((v3 - v3 / (1461 : Int64) * (1461 : Int64)) / (365 : Int64)) else (3 : Int64))).bind fun v5 => (some ((((p0 - (1 : Int64)) / (146097 : Int64)) * (400 : Int64)) + ((if v1 < (3 : Int64) then v1 else (3 : Int64)) * (100 : Int64)))).bind fun v7 => some ((((v7 + ((v3 / (1461 : Int64)) * (4 : Int64))) + v5) + (1 : Int64)).toInt32, ())
set_option maxHeartbeats 4000000 in
set_option maxRecDepth 100000 in
theorem c_X1_yearOf (l : Launch) (D : va_G) (cy : Nat → ClassId) (sa : Nat → Nat) (z0 sz : Nat) (p0 : Int64) (o : (Int32 × Unit)) (ho : X1_yearOf_f p0 = some o) : Met l yX1_yearOf (ws_ yX1_yearOf cX1_yearOf 12 (some .int)) ({ frames := 1, cells := 0, slots := 0, locals := 30 } : Room) (va_Pc [.long p0] (Pr D cy sa z0 [] sz)) (QI D o (fun u => []) (va_A [] sz)) 0 0 (va_A [] sz) := by
  refine MT (Qf := QI D o (fun u => [])) (plainFor_of_name (by decide +kernel)) (Nat.le_of_ble_eq_true rfl) ?_
  intro p e s m below meth c A ls H hx hb hml hr hlocks hown hnm hts hG hA hZ hP hD hS hl
  have hK := hG.K
  have hl : lv_has ls 12 [(0, .long p0)] := hl
  have hf : X1_yearOf_f p0 = some o := ho
  clear ho
  unfold X1_yearOf_f at hf
  refine lv_lload_n hx hb dX1_yearOf_0 rfl (lv_at hl 0 rfl) ?_
  refine lv_lconst (v := (1 : Int64)) hx hb dX1_yearOf_1 (by decide) ?_
  refine lv_lsub hx hb dX1_yearOf_2 ?_
  refine lv_lstore_n (lv' := [(2, .long (p0 - (1 : Int64))), (0, .long p0)]) hx hb dX1_yearOf_3 rfl hl (by decide) rfl (fun ls hl => ?_)
  refine lv_lload_n hx hb dX1_yearOf_4 rfl (lv_at hl 0 rfl) ?_
  refine lv_ldc2 (v := (146097 : Int64)) hx hb hown (hts _ k_386) dX1_yearOf_5 ?_
  refine lv_ldiv hx hb dX1_yearOf_8 (by decide) ?_
  refine lv_lstore (lv' := [(4, .long ((p0 - (1 : Int64)) / (146097 : Int64))), (2, .long (p0 - (1 : Int64))), (0, .long p0)]) hx hb dX1_yearOf_9 hl (by decide) rfl (fun ls hl => ?_)
  refine lv_lload_n hx hb dX1_yearOf_11 rfl (lv_at hl 1 rfl) ?_
  refine lv_ldc2 (v := (146097 : Int64)) hx hb hown (hts _ k_386) dX1_yearOf_12 ?_
  refine lv_lrem hx hb dX1_yearOf_15 (by decide) ?_
  refine lv_lstore_n (lv' := [(2, .long ((p0 - (1 : Int64)) - (p0 - (1 : Int64)) / (146097 : Int64) * (146097 : Int64))), (4, .long ((p0 - (1 : Int64)) / (146097 : Int64))), (0, .long p0)]) hx hb dX1_yearOf_16 rfl hl (by decide) rfl (fun ls hl => ?_)
  refine lv_ldc2 (v := (3 : Int64)) hx hb hown (hts _ k_387) dX1_yearOf_17 ?_
  refine lv_lload_n hx hb dX1_yearOf_20 rfl (lv_at hl 0 rfl) ?_
  refine lv_ldc2 (v := (36524 : Int64)) hx hb hown (hts _ k_388) dX1_yearOf_21 ?_
  refine lv_ldiv hx hb dX1_yearOf_24 (by decide) ?_
  obtain ⟨v1, e2, hf⟩ := bind_some' hf
  refine lv_topl (fun y9 e9 => ?_)
  obtain rfl : v1 = y9 := (e9.trans (Option.some.inj e2)).symm
  refine va_mmin_long hx hb (by rw [hml]; exact hl.1.symm) hown (hts _ k_389) (hts _ k_390) (hts _ k_43) (hts _ k_391) (Nat.le_of_ble_eq_true rfl) (Nat.le_of_ble_eq_true rfl) (Nat.le_of_ble_eq_true rfl) (Nat.le_of_ble_eq_true rfl) dX1_yearOf_25 ?_
  refine lv_lstore (lv' := [(6, .long (if v1 < (3 : Int64) then v1 else (3 : Int64))), (2, .long ((p0 - (1 : Int64)) - (p0 - (1 : Int64)) / (146097 : Int64) * (146097 : Int64))), (4, .long ((p0 - (1 : Int64)) / (146097 : Int64))), (0, .long p0)]) hx hb dX1_yearOf_28 hl (by decide) rfl (fun ls hl => ?_)
  refine lv_lload_n hx hb dX1_yearOf_30 rfl (lv_at hl 1 rfl) ?_
  refine lv_lload hx hb dX1_yearOf_31 (lv_at hl 0 rfl) ?_
  refine lv_ldc2 (v := (36524 : Int64)) hx hb hown (hts _ k_388) dX1_yearOf_33 ?_
  refine lv_lmul hx hb dX1_yearOf_36 ?_
  refine lv_lsub hx hb dX1_yearOf_37 ?_
  obtain ⟨v3, e4, hf⟩ := bind_some' hf
  refine lv_topl (fun y9 e9 => ?_)
  obtain rfl : v3 = y9 := (e9.trans (Option.some.inj e4)).symm
  refine lv_lstore_n (lv' := [(2, .long v3), (6, .long (if v1 < (3 : Int64) then v1 else (3 : Int64))), (4, .long ((p0 - (1 : Int64)) / (146097 : Int64))), (0, .long p0)]) hx hb dX1_yearOf_38 rfl hl (by decide) rfl (fun ls hl => ?_)
  refine lv_lload_n hx hb dX1_yearOf_39 rfl (lv_at hl 0 rfl) ?_
  refine lv_ldc2 (v := (1461 : Int64)) hx hb hown (hts _ k_392) dX1_yearOf_40 ?_
  refine lv_ldiv hx hb dX1_yearOf_43 (by decide) ?_
  refine lv_lstore (lv' := [(8, .long (v3 / (1461 : Int64))), (2, .long v3), (6, .long (if v1 < (3 : Int64) then v1 else (3 : Int64))), (4, .long ((p0 - (1 : Int64)) / (146097 : Int64))), (0, .long p0)]) hx hb dX1_yearOf_44 hl (by decide) rfl (fun ls hl => ?_)
  refine lv_lload_n hx hb dX1_yearOf_46 rfl (lv_at hl 1 rfl) ?_
  refine lv_ldc2 (v := (1461 : Int64)) hx hb hown (hts _ k_392) dX1_yearOf_47 ?_
  refine lv_lrem hx hb dX1_yearOf_50 (by decide) ?_
  refine lv_lstore_n (lv' := [(2, .long (v3 - v3 / (1461 : Int64) * (1461 : Int64))), (8, .long (v3 / (1461 : Int64))), (6, .long (if v1 < (3 : Int64) then v1 else (3 : Int64))), (4, .long ((p0 - (1 : Int64)) / (146097 : Int64))), (0, .long p0)]) hx hb dX1_yearOf_51 rfl hl (by decide) rfl (fun ls hl => ?_)
  refine lv_ldc2 (v := (3 : Int64)) hx hb hown (hts _ k_387) dX1_yearOf_52 ?_
  refine lv_lload_n hx hb dX1_yearOf_55 rfl (lv_at hl 0 rfl) ?_
  refine lv_ldc2 (v := (365 : Int64)) hx hb hown (hts _ k_297) dX1_yearOf_56 ?_
  refine lv_ldiv hx hb dX1_yearOf_59 (by decide) ?_
  refine va_mmin_long hx hb (by rw [hml]; exact hl.1.symm) hown (hts _ k_389) (hts _ k_390) (hts _ k_43) (hts _ k_391) (Nat.le_of_ble_eq_true rfl) (Nat.le_of_ble_eq_true rfl) (Nat.le_of_ble_eq_true rfl) (Nat.le_of_ble_eq_true rfl) dX1_yearOf_60 ?_
  obtain ⟨v5, e6, hf⟩ := bind_some' hf
  refine lv_topl (fun y9 e9 => ?_)
  obtain rfl : v5 = y9 := (e9.trans (Option.some.inj e6)).symm
  refine lv_lstore (lv' := [(10, .long v5), (2, .long (v3 - v3 / (1461 : Int64) * (1461 : Int64))), (8, .long (v3 / (1461 : Int64))), (6, .long (if v1 < (3 : Int64) then v1 else (3 : Int64))), (4, .long ((p0 - (1 : Int64)) / (146097 : Int64))), (0, .long p0)]) hx hb dX1_yearOf_63 hl (by decide) rfl (fun ls hl => ?_)
  refine lv_lload hx hb dX1_yearOf_65 (lv_at hl 4 rfl) ?_
  refine lv_ldc2 (v := (400 : Int64)) hx hb hown (hts _ k_300) dX1_yearOf_67 ?_
  refine lv_lmul hx hb dX1_yearOf_70 ?_
  refine lv_lload hx hb dX1_yearOf_71 (lv_at hl 3 rfl) ?_
  refine lv_ldc2 (v := (100 : Int64)) hx hb hown (hts _ k_299) dX1_yearOf_73 ?_
  refine lv_lmul hx hb dX1_yearOf_76 ?_
  refine lv_ladd hx hb dX1_yearOf_77 ?_
  obtain ⟨v7, e8, hf⟩ := bind_some' hf
  refine lv_topl (fun y9 e9 => ?_)
  obtain rfl : v7 = y9 := (e9.trans (Option.some.inj e8)).symm
  refine lv_lload hx hb dX1_yearOf_78 (lv_at hl 2 rfl) ?_
  refine lv_ldc2 (v := (4 : Int64)) hx hb hown (hts _ k_298) dX1_yearOf_80 ?_
  refine lv_lmul hx hb dX1_yearOf_83 ?_
  refine lv_ladd hx hb dX1_yearOf_84 ?_
  refine lv_lload hx hb dX1_yearOf_85 (lv_at hl 0 rfl) ?_
  refine lv_ladd hx hb dX1_yearOf_87 ?_
  refine lv_lconst (v := (1 : Int64)) hx hb dX1_yearOf_88 (by decide) ?_
  refine lv_ladd hx hb dX1_yearOf_89 ?_
  refine lv_l2i hx hb dX1_yearOf_90 rfl ?_
  obtain rfl := Option.some.inj hf
  exact W.iret (v := (((v7 + ((v3 / (1461 : Int64)) * (4 : Int64))) + v5) + (1 : Int64)).toInt32) hx hb hr (fun t ht _ => ⟨⟨(((v7 + ((v3 / (1461 : Int64)) * (4 : Int64))) + v5) + (1 : Int64)).toInt32, (), rfl, rfl, by rw [ht]; exact hP, hD⟩, hS.F ht⟩) hS.2.2 dX1_yearOf_91
noncomputable def X1_monthOf_b42 (b42_1 : Int32) : Option (Int32 × Unit) := some (b42_1, ())
noncomputable def X1_monthOf_L15_body (k15 : Int32 → Int64 → Int32 → Option (Int32 × Unit)) (b15_1 : Int32) (b15_2 : Int64) (b15_3 : Int32) : Option (Int32 × Unit) := (if (12 : Int32) ≤ b15_3 then X1_monthOf_b42 b15_3 else (X1_daysBeforeMonth_f b15_1 (b15_3 + (1 : Int32))).bind fun v6 => (if (0 : Int32) ≤ (lg_cmp v6.1.toInt64 b15_2) then X1_monthOf_b42 b15_3 else k15 b15_1 b15_2 (b15_3 + (1 : Int32))))
noncomputable def X1_monthOf_L15 (n : Nat) : Int32 → Int64 → Int32 → Option (Int32 × Unit) := Nat.rec (motive := fun _ => Int32 → Int64 → Int32 → Option (Int32 × Unit)) (fun _ _ _ => none) (fun _ k15 b15_1 b15_2 b15_3 => X1_monthOf_L15_body  k15 b15_1 b15_2 b15_3) n
noncomputable def X1_monthOf_f (N : Nat) (p0 : Int64) : Option (Int32 × Unit) := (X1_yearOf_f p0).bind fun v1 => (X1_daysBeforeYear_f v1.1).bind fun v3 => X1_monthOf_L15 N v1.1 (p0 - v3.1) (1 : Int32)
set_option maxHeartbeats 4000000 in
set_option maxRecDepth 100000 in
theorem c_X1_monthOf (l : Launch) (D : va_G) (cy : Nat → ClassId) (sa : Nat → Nat) (z0 sz : Nat) (p0 : Int64) (N : Nat) (o : (Int32 × Unit)) (ho : X1_monthOf_f N p0 = some o) : Met l yX1_monthOf (ws_ yX1_monthOf cX1_monthOf 6 (some .int)) ({ frames := 2, cells := 0, slots := 0, locals := 61 } : Room) (va_Pc [.long p0] (Pr D cy sa z0 [] sz)) (QI D o (fun u => []) (va_A [] sz)) 0 0 (va_A [] sz) := by
  refine MT (Qf := QI D o (fun u => [])) (plainFor_of_name (by decide +kernel)) (Nat.le_of_ble_eq_true rfl) ?_
  intro p e s m below meth c A ls H hx hb hml hr hlocks hown hnm hts hG hA hZ hP hD hS hl
  have hK := hG.K
  have hl : lv_has ls 6 [(0, .long p0)] := hl
  have hf : X1_monthOf_f N p0 = some o := ho
  clear ho
  unfold X1_monthOf_f at hf
  have J42 : ∀ (b42_1 : Int32), ∀ (H : Heap) (locs : List Loc), va_P D vwCl [] H → va_D A [] → va_S A s.heap H locs → ∀ (ls : Array Slot), lv_has ls 6 [(5, .int b42_1)] → X1_monthOf_b42 b42_1 = some o → W p l e ({ frames := 2, cells := 0, slots := 0, locals := 61 } : Room) s m ([.long p0] : List Value).toArray below meth c H locs 0 0 (MQ below (QI D o (fun u => []) A) ([.long p0] : List Value).toArray s 0 0 A) (F0 m 42 ls []) := by
    intro b42_1 H locs hP hD hS ls hl hf
    unfold X1_monthOf_b42 at hf
    refine lv_iload hx hb dX1_monthOf_42 (lv_at hl 0 rfl) ?_
    obtain rfl := Option.some.inj hf
    exact W.iret (v := b42_1) hx hb hr (fun t ht _ => ⟨⟨b42_1, (), rfl, rfl, by rw [ht]; exact hP, hD⟩, hS.F ht⟩) hS.2.2 dX1_monthOf_44
  have L15 : ∀ (n : Nat) (b15_1 : Int32) (b15_2 : Int64) (b15_3 : Int32), ∀ (H : Heap) (locs : List Loc), va_P D vwCl [] H → va_D A [] → va_S A s.heap H locs → ∀ (ls : Array Slot), lv_has ls 6 [(2, .int b15_1), (3, .long b15_2), (5, .int b15_3)] → X1_monthOf_L15 n b15_1 b15_2 b15_3 = some o → W p l e ({ frames := 2, cells := 0, slots := 0, locals := 61 } : Room) s m ([.long p0] : List Value).toArray below meth c H locs 0 0 (MQ below (QI D o (fun u => []) A) ([.long p0] : List Value).toArray s 0 0 A) (F0 m 15 ls []) := by
    intro n
    induction n with
    | zero => intro b15_1 b15_2 b15_3 H locs hP hD hS ls hl hf; cases (show (none : Option (Int32 × Unit)) = some o from hf)
    | succ n ih_15 =>
      intro b15_1 b15_2 b15_3 H locs hP hD hS ls hl hf
      have hf : X1_monthOf_L15_body (X1_monthOf_L15 n) b15_1 b15_2 b15_3 = some o := hf
      generalize X1_monthOf_L15 n = k15 at ih_15 hf
      unfold X1_monthOf_L15_body at hf
      refine lv_iload hx hb dX1_monthOf_15 (lv_at hl 2 rfl) ?_
      refine lv_bipush (v := (12 : Int32)) hx hb dX1_monthOf_17 (by decide) ?_
      refine lv_icmp_ge (tgt := 42) hx hb dX1_monthOf_19 (by decide) (fun c5 => ?_) (fun c5 => ?_)
      · rw [if_pos c5] at hf
        exact J42 b15_3 _ _ hP hD hS _ (lv_sub hl [2] rfl) hf
      · rw [if_neg c5] at hf
        refine lv_iload_n hx hb dX1_monthOf_22 rfl (lv_at hl 0 rfl) ?_
        refine lv_iload hx hb dX1_monthOf_23 (lv_at hl 2 rfl) ?_
        refine lv_iconst (v := (1 : Int32)) hx hb dX1_monthOf_25 (by decide) ?_
        refine lv_iadd hx hb dX1_monthOf_26 ?_
        obtain ⟨v6, e7, hf⟩ := bind_some' hf
        refine cl_i (va_runS (As := [.int b15_1, .int (b15_3 + (1 : Int32))]) (rest := []) ⟨hx, hb, hml, hown, hts⟩ (c_X1_daysBeforeMonth l D cy sa z0 H.size b15_1 (b15_3 + (1 : Int32)) _ e7) (va_cwS 2 hts (lw_gS k_301 k_302 k_50 k_303) rfl rfl rfl (by decide +kernel) ⟨Nat.le_of_ble_eq_true rfl, Nat.le_of_ble_eq_true rfl⟩) (preS hG hS hZ hP hD [] rfl rfl) rfl rfl hl.1 rfl (lv_room (Nat.le_of_ble_eq_true rfl)) dX1_monthOf_27 ⟨Nat.le_of_ble_eq_true rfl, Nat.le_of_ble_eq_true rfl⟩) hP hD hS hA [] rfl rfl rfl (fun H locs hP hD hS => ?_)
        have hP : va_P D vwCl [] H := hP
        have hD : va_D A [] := hD
        refine lv_i2l hx hb dX1_monthOf_30 rfl ?_
        refine lv_lload_n hx hb dX1_monthOf_31 rfl (lv_at hl 1 rfl) ?_
        refine W.lcmp hx hb dX1_monthOf_32 ?_
        refine lv_if_ge (tgt := 42) hx hb dX1_monthOf_33 (by decide) (fun c8 => ?_) (fun c8 => ?_)
        · rw [if_pos c8] at hf
          exact J42 b15_3 _ _ hP hD hS _ (lv_sub hl [2] rfl) hf
        · rw [if_neg c8] at hf
          refine lv_iinc (v := (b15_3 + (1 : Int32))) (lv' := [(5, .int (b15_3 + (1 : Int32))), (2, .int b15_1), (3, .long b15_2)]) hx hb dX1_monthOf_36 hl (k := 2) rfl (by rfl) (by decide) rfl (fun ls hl => ?_)
          refine lv_goto (tgt := 15) hx hb dX1_monthOf_39 (by decide) ?_
          exact ih_15 b15_1 b15_2 (b15_3 + (1 : Int32)) _ _ hP hD hS _ (lv_sub hl [1, 2, 0] rfl) hf
  refine lv_lload_n hx hb dX1_monthOf_0 rfl (lv_at hl 0 rfl) ?_
  obtain ⟨v1, e2, hf⟩ := bind_some' hf
  refine cl_i (va_runS (As := [.long p0]) (rest := []) ⟨hx, hb, hml, hown, hts⟩ (c_X1_yearOf l D cy sa z0 H.size p0 _ e2) (va_cwS 1 hts (lw_gS k_400 k_384 k_50 k_385) rfl rfl rfl (by decide +kernel) ⟨Nat.le_of_ble_eq_true rfl, Nat.le_of_ble_eq_true rfl⟩) (preS hG hS hZ hP hD [] rfl rfl) rfl rfl hl.1 rfl (lv_room (Nat.le_of_ble_eq_true rfl)) dX1_monthOf_1 ⟨Nat.le_of_ble_eq_true rfl, Nat.le_of_ble_eq_true rfl⟩) hP hD hS hA [] rfl rfl rfl (fun H locs hP hD hS => ?_)
  have hP : va_P D vwCl [] H := hP
  have hD : va_D A [] := hD
  refine lv_istore_n (lv' := [(2, .int v1.1), (0, .long p0)]) hx hb dX1_monthOf_4 rfl hl (by decide) rfl (fun ls hl => ?_)
  refine lv_lload_n hx hb dX1_monthOf_5 rfl (lv_at hl 1 rfl) ?_
  refine lv_iload_n hx hb dX1_monthOf_6 rfl (lv_at hl 0 rfl) ?_
  obtain ⟨v3, e4, hf⟩ := bind_some' hf
  refine cl_l (va_runS (As := [.int v1.1]) (rest := [.long p0]) ⟨hx, hb, hml, hown, hts⟩ (c_X1_daysBeforeYear l D cy sa z0 H.size v1.1 _ e4) (va_cwS 1 hts (lw_gS k_294 k_295 k_50 k_296) rfl rfl rfl (by decide +kernel) ⟨Nat.le_of_ble_eq_true rfl, Nat.le_of_ble_eq_true rfl⟩) (preS hG hS hZ hP hD [] rfl rfl) rfl rfl hl.1 rfl (lv_room (Nat.le_of_ble_eq_true rfl)) dX1_monthOf_7 ⟨Nat.le_of_ble_eq_true rfl, Nat.le_of_ble_eq_true rfl⟩) hP hD hS hA [] rfl rfl rfl (fun H locs hP hD hS => ?_)
  have hP : va_P D vwCl [] H := hP
  have hD : va_D A [] := hD
  refine lv_lsub hx hb dX1_monthOf_10 ?_
  refine lv_lstore_n (lv' := [(3, .long (p0 - v3.1)), (2, .int v1.1), (0, .long p0)]) hx hb dX1_monthOf_11 rfl hl (by decide) rfl (fun ls hl => ?_)
  refine lv_iconst (v := (1 : Int32)) hx hb dX1_monthOf_12 (by decide) ?_
  refine lv_istore (lv' := [(5, .int (1 : Int32)), (3, .long (p0 - v3.1)), (2, .int v1.1), (0, .long p0)]) hx hb dX1_monthOf_13 hl (by decide) rfl (fun ls hl => ?_)
  exact L15 N v1.1 (p0 - v3.1) (1 : Int32) _ _ hP hD hS _ (lv_sub hl [2, 1, 0] rfl) hf
noncomputable def X1_dayOf_f (N : Nat) (p0 : Int64) : Option (Int32 × Unit) := (X1_yearOf_f p0).bind fun v1 => (X1_daysBeforeYear_f v1.1).bind fun v3 => (X1_monthOf_f N p0).bind fun v5 => (X1_daysBeforeMonth_f v1.1 v5.1).bind fun v7 => some (((p0 - v3.1) - v7.1.toInt64).toInt32, ())
set_option maxHeartbeats 4000000 in
set_option maxRecDepth 100000 in
theorem c_X1_dayOf (l : Launch) (D : va_G) (cy : Nat → ClassId) (sa : Nat → Nat) (z0 sz : Nat) (p0 : Int64) (N : Nat) (o : (Int32 × Unit)) (ho : X1_dayOf_f N p0 = some o) : Met l yX1_dayOf (ws_ yX1_dayOf cX1_dayOf 3 (some .int)) ({ frames := 3, cells := 0, slots := 0, locals := 86 } : Room) (va_Pc [.long p0] (Pr D cy sa z0 [] sz)) (QI D o (fun u => []) (va_A [] sz)) 0 0 (va_A [] sz) := by
  refine MT (Qf := QI D o (fun u => [])) (plainFor_of_name (by decide +kernel)) (Nat.le_of_ble_eq_true rfl) ?_
  intro p e s m below meth c A ls H hx hb hml hr hlocks hown hnm hts hG hA hZ hP hD hS hl
  have hK := hG.K
  have hl : lv_has ls 3 [(0, .long p0)] := hl
  have hf : X1_dayOf_f N p0 = some o := ho
  clear ho
  unfold X1_dayOf_f at hf
  refine lv_lload_n hx hb dX1_dayOf_0 rfl (lv_at hl 0 rfl) ?_
  obtain ⟨v1, e2, hf⟩ := bind_some' hf
  refine cl_i (va_runS (As := [.long p0]) (rest := []) ⟨hx, hb, hml, hown, hts⟩ (c_X1_yearOf l D cy sa z0 H.size p0 _ e2) (va_cwS 1 hts (lw_gS k_400 k_384 k_50 k_385) rfl rfl rfl (by decide +kernel) ⟨Nat.le_of_ble_eq_true rfl, Nat.le_of_ble_eq_true rfl⟩) (preS hG hS hZ hP hD [] rfl rfl) rfl rfl hl.1 rfl (lv_room (Nat.le_of_ble_eq_true rfl)) dX1_dayOf_1 ⟨Nat.le_of_ble_eq_true rfl, Nat.le_of_ble_eq_true rfl⟩) hP hD hS hA [] rfl rfl rfl (fun H locs hP hD hS => ?_)
  have hP : va_P D vwCl [] H := hP
  have hD : va_D A [] := hD
  refine lv_istore_n (lv' := [(2, .int v1.1), (0, .long p0)]) hx hb dX1_dayOf_4 rfl hl (by decide) rfl (fun ls hl => ?_)
  refine lv_lload_n hx hb dX1_dayOf_5 rfl (lv_at hl 1 rfl) ?_
  refine lv_iload_n hx hb dX1_dayOf_6 rfl (lv_at hl 0 rfl) ?_
  obtain ⟨v3, e4, hf⟩ := bind_some' hf
  refine cl_l (va_runS (As := [.int v1.1]) (rest := [.long p0]) ⟨hx, hb, hml, hown, hts⟩ (c_X1_daysBeforeYear l D cy sa z0 H.size v1.1 _ e4) (va_cwS 1 hts (lw_gS k_294 k_295 k_50 k_296) rfl rfl rfl (by decide +kernel) ⟨Nat.le_of_ble_eq_true rfl, Nat.le_of_ble_eq_true rfl⟩) (preS hG hS hZ hP hD [] rfl rfl) rfl rfl hl.1 rfl (lv_room (Nat.le_of_ble_eq_true rfl)) dX1_dayOf_7 ⟨Nat.le_of_ble_eq_true rfl, Nat.le_of_ble_eq_true rfl⟩) hP hD hS hA [] rfl rfl rfl (fun H locs hP hD hS => ?_)
  have hP : va_P D vwCl [] H := hP
  have hD : va_D A [] := hD
  refine lv_lsub hx hb dX1_dayOf_10 ?_
  refine lv_iload_n hx hb dX1_dayOf_11 rfl (lv_at hl 0 rfl) ?_
  refine lv_lload_n hx hb dX1_dayOf_12 rfl (lv_at hl 1 rfl) ?_
  obtain ⟨v5, e6, hf⟩ := bind_some' hf
  refine cl_i (va_runS (As := [.long p0]) (rest := [.int v1.1, .long (p0 - v3.1)]) ⟨hx, hb, hml, hown, hts⟩ (c_X1_monthOf l D cy sa z0 H.size p0 N _ e6) (va_cwS 1 hts (lw_gS k_408 k_398 k_50 k_399) rfl rfl rfl (by decide +kernel) ⟨Nat.le_of_ble_eq_true rfl, Nat.le_of_ble_eq_true rfl⟩) (preS hG hS hZ hP hD [] rfl rfl) rfl rfl hl.1 rfl (lv_room (Nat.le_of_ble_eq_true rfl)) dX1_dayOf_13 ⟨Nat.le_of_ble_eq_true rfl, Nat.le_of_ble_eq_true rfl⟩) hP hD hS hA [] rfl rfl rfl (fun H locs hP hD hS => ?_)
  have hP : va_P D vwCl [] H := hP
  have hD : va_D A [] := hD
  obtain ⟨v7, e8, hf⟩ := bind_some' hf
  refine cl_i (va_runS (As := [.int v1.1, .int v5.1]) (rest := [.long (p0 - v3.1)]) ⟨hx, hb, hml, hown, hts⟩ (c_X1_daysBeforeMonth l D cy sa z0 H.size v1.1 v5.1 _ e8) (va_cwS 2 hts (lw_gS k_301 k_302 k_50 k_303) rfl rfl rfl (by decide +kernel) ⟨Nat.le_of_ble_eq_true rfl, Nat.le_of_ble_eq_true rfl⟩) (preS hG hS hZ hP hD [] rfl rfl) rfl rfl hl.1 rfl (lv_room (Nat.le_of_ble_eq_true rfl)) dX1_dayOf_16 ⟨Nat.le_of_ble_eq_true rfl, Nat.le_of_ble_eq_true rfl⟩) hP hD hS hA [] rfl rfl rfl (fun H locs hP hD hS => ?_)
  have hP : va_P D vwCl [] H := hP
  have hD : va_D A [] := hD
  refine lv_i2l hx hb dX1_dayOf_19 rfl ?_
  refine lv_lsub hx hb dX1_dayOf_20 ?_
  refine lv_l2i hx hb dX1_dayOf_21 rfl ?_
  obtain rfl := Option.some.inj hf
  exact W.iret (v := ((p0 - v3.1) - v7.1.toInt64).toInt32) hx hb hr (fun t ht _ => ⟨⟨((p0 - v3.1) - v7.1.toInt64).toInt32, (), rfl, rfl, by rw [ht]; exact hP, hD⟩, hS.F ht⟩) hS.2.2 dX1_dayOf_22
