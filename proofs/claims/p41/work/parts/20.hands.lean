noncomputable def J9_floorMod_7cf53_b18 (p0 : Int32) (p1 : Int32) : Option (Int32 × Unit) := some ((p0 - p0 / p1 * p1), ())
noncomputable def J9_floorMod_7cf53_f (p0 : Int32) (p1 : Int32) : Option (Int32 × Unit) := if ¬ (p1 = 0) then (if (0 : Int32) ≤ (p0 ^^^ p1) then J9_floorMod_7cf53_b18 p0 p1 else (if (p0 - p0 / p1 * p1) = (0 : Int32) then J9_floorMod_7cf53_b18 p0 p1 else some (((p0 - p0 / p1 * p1) + p1), ()))) else none
set_option maxHeartbeats 4000000 in
set_option maxRecDepth 100000 in
theorem c_J9_floorMod_7cf53 (l : Launch) (D : va_G) (cy : Nat → ClassId) (sa : Nat → Nat) (z0 sz : Nat) (p0 : Int32) (p1 : Int32) (o : (Int32 × Unit)) (ho : J9_floorMod_7cf53_f p0 p1 = some o) : Met l yJ9_floorMod_7cf53 (ws_ yJ9_floorMod_7cf53 cJ9_floorMod_7cf53 3 (some .int)) ({ frames := 0, cells := 0, slots := 0, locals := 0 } : Room) (va_Pc [.int p0, .int p1] (Pr D cy sa z0 [] sz)) (QI D o (fun u => []) (va_A [] sz)) 0 0 (va_A [] sz) := by
  refine MT (Qf := QI D o (fun u => [])) (by decide +kernel) (Nat.le_of_ble_eq_true rfl) ?_
  intro p e s m below meth c A ls H hx hb hml hr hlocks hown hnm hts hG hA hZ hP hD hS hl
  have hK := hG.K
  have hl : lv_has ls 3 [(0, .int p0), (1, .int p1)] := hl
  have hf : J9_floorMod_7cf53_f p0 p1 = some o := ho
  clear ho
  unfold J9_floorMod_7cf53_f at hf
  have J18 : ∀ (H : Heap) (locs : List Loc), va_P D vwCl [] H → va_D A [] → va_S A s.heap H locs → ∀ (ls : Array Slot), lv_has ls 3 [(2, .int (p0 - p0 / p1 * p1))] → J9_floorMod_7cf53_b18 p0 p1 = some o → W p l e ({ frames := 0, cells := 0, slots := 0, locals := 0 } : Room) s m ([.int p0, .int p1] : List Value).toArray below meth c H locs 0 0 (MQ below (QI D o (fun u => []) A) ([.int p0, .int p1] : List Value).toArray s 0 0 A) (F0 m 18 ls []) := by
    intro  H locs hP hD hS ls hl hf
    unfold J9_floorMod_7cf53_b18 at hf
    refine lv_iload_n hx hb dJ9_floorMod_7cf53_18 rfl (lv_at hl 0 rfl) ?_
    obtain rfl := Option.some.inj hf
    exact W.iret (v := (p0 - p0 / p1 * p1)) hx hb hr (fun t ht _ => ⟨⟨(p0 - p0 / p1 * p1), (), rfl, rfl, by rw [ht]; exact hP, hD⟩, hS.F ht⟩) hS.2.2 dJ9_floorMod_7cf53_19
  refine lv_iload_n hx hb dJ9_floorMod_7cf53_0 rfl (lv_at hl 0 rfl) ?_
  refine lv_iload_n hx hb dJ9_floorMod_7cf53_1 rfl (lv_at hl 1 rfl) ?_
  obtain ⟨g1, hf⟩ := ite_some' hf
  refine lv_irem hx hb dJ9_floorMod_7cf53_2 g1 ?_
  refine lv_istore_n (lv' := [(2, .int (p0 - p0 / p1 * p1)), (0, .int p0), (1, .int p1)]) hx hb dJ9_floorMod_7cf53_3 rfl hl (by decide) rfl (fun ls hl => ?_)
  refine lv_iload_n hx hb dJ9_floorMod_7cf53_4 rfl (lv_at hl 1 rfl) ?_
  refine lv_iload_n hx hb dJ9_floorMod_7cf53_5 rfl (lv_at hl 2 rfl) ?_
  refine lv_ixor hx hb dJ9_floorMod_7cf53_6 ?_
  refine lv_if_ge (tgt := 18) hx hb dJ9_floorMod_7cf53_7 (by decide) (fun c2 => ?_) (fun c2 => ?_)
  · rw [if_pos c2] at hf
    exact J18  _ _ hP hD hS _ (lv_sub hl [0] rfl) hf
  · rw [if_neg c2] at hf
    refine lv_iload_n hx hb dJ9_floorMod_7cf53_10 rfl (lv_at hl 0 rfl) ?_
    refine lv_if_eq (tgt := 18) hx hb dJ9_floorMod_7cf53_11 (by decide) (fun c3 => ?_) (fun c3 => ?_)
    · rw [if_pos c3] at hf
      exact J18  _ _ hP hD hS _ (lv_sub hl [0] rfl) hf
    · rw [if_neg c3] at hf
      refine lv_iload_n hx hb dJ9_floorMod_7cf53_14 rfl (lv_at hl 0 rfl) ?_
      refine lv_iload_n hx hb dJ9_floorMod_7cf53_15 rfl (lv_at hl 2 rfl) ?_
      refine lv_iadd hx hb dJ9_floorMod_7cf53_16 ?_
      obtain rfl := Option.some.inj hf
      exact W.iret (v := ((p0 - p0 / p1 * p1) + p1)) hx hb hr (fun t ht _ => ⟨⟨((p0 - p0 / p1 * p1) + p1), (), rfl, rfl, by rw [ht]; exact hP, hD⟩, hS.F ht⟩) hS.2.2 dJ9_floorMod_7cf53_17
noncomputable def X3_seconds_f (shown : Int32) : Option (Int32 × Unit) := some (shown, ())
set_option maxHeartbeats 4000000 in
set_option maxRecDepth 100000 in
theorem c_X3_seconds (l : Launch) (D : va_G) (cy : Nat → ClassId) (sa : Nat → Nat) (z0 sz : Nat) (h0 : Nat) (shown : Int32) (owed : Int32) (bound : Int32) (reached : Int32) (o : (Int32 × Unit)) (ho : X3_seconds_f shown = some o) : Met l yX3_seconds (ws_ yX3_seconds cX3_seconds 1 (some .int)) ({ frames := 0, cells := 0, slots := 0, locals := 0 } : Room) (va_Pc [.ref h0] (Pr D cy sa z0 [(h0, .inr (7, [.int shown, .int owed, .int bound, .int reached]))] sz)) (QI D o (fun u => [(h0, .inr (7, [.int shown, .int owed, .int bound, .int reached]))]) (va_A [(h0, .inr (7, [.int shown, .int owed, .int bound, .int reached]))] sz)) 0 0 (va_A [(h0, .inr (7, [.int shown, .int owed, .int bound, .int reached]))] sz) := by
  refine MT (Qf := QI D o (fun u => [(h0, .inr (7, [.int shown, .int owed, .int bound, .int reached]))])) (plainFor_of_name (by decide +kernel)) (Nat.le_of_ble_eq_true rfl) ?_
  intro p e s m below meth c A ls H hx hb hml hr hlocks hown hnm hts hG hA hZ hP hD hS hl
  have hK := hG.K
  have hl : lv_has ls 1 [(0, .ref h0)] := hl
  have hf : X3_seconds_f shown = some o := ho
  clear ho
  unfold X3_seconds_f at hf
  refine lv_aload_n hx hb dX3_seconds_0 rfl (lv_at hl 0 rfl) ?_
  refine va_get (D := D) (ci := 7) (v := .int shown) (C := RX3) (T := TX3) (N := 4) hx hb hts in_X3 hown hK hP 0 rfl rfl 0 (by decide) (hts _ k_229) (fun _ h9 => h9) rfl dX3_seconds_1 ?_
  obtain rfl := Option.some.inj hf
  exact W.iret (v := shown) hx hb hr (fun t ht _ => ⟨⟨shown, (), rfl, rfl, by rw [ht]; exact hP, hD⟩, hS.F ht⟩) hS.2.2 dX3_seconds_4
noncomputable def X3_owedSeconds_f (owed : Int32) : Option (Int32 × Unit) := some (owed, ())
set_option maxHeartbeats 4000000 in
set_option maxRecDepth 100000 in
theorem c_X3_owedSeconds (l : Launch) (D : va_G) (cy : Nat → ClassId) (sa : Nat → Nat) (z0 sz : Nat) (h0 : Nat) (shown : Int32) (owed : Int32) (bound : Int32) (reached : Int32) (o : (Int32 × Unit)) (ho : X3_owedSeconds_f owed = some o) : Met l yX3_owedSeconds (ws_ yX3_owedSeconds cX3_owedSeconds 1 (some .int)) ({ frames := 0, cells := 0, slots := 0, locals := 0 } : Room) (va_Pc [.ref h0] (Pr D cy sa z0 [(h0, .inr (7, [.int shown, .int owed, .int bound, .int reached]))] sz)) (QI D o (fun u => [(h0, .inr (7, [.int shown, .int owed, .int bound, .int reached]))]) (va_A [(h0, .inr (7, [.int shown, .int owed, .int bound, .int reached]))] sz)) 0 0 (va_A [(h0, .inr (7, [.int shown, .int owed, .int bound, .int reached]))] sz) := by
  refine MT (Qf := QI D o (fun u => [(h0, .inr (7, [.int shown, .int owed, .int bound, .int reached]))])) (plainFor_of_name (by decide +kernel)) (Nat.le_of_ble_eq_true rfl) ?_
  intro p e s m below meth c A ls H hx hb hml hr hlocks hown hnm hts hG hA hZ hP hD hS hl
  have hK := hG.K
  have hl : lv_has ls 1 [(0, .ref h0)] := hl
  have hf : X3_owedSeconds_f owed = some o := ho
  clear ho
  unfold X3_owedSeconds_f at hf
  refine lv_aload_n hx hb dX3_owedSeconds_0 rfl (lv_at hl 0 rfl) ?_
  refine va_get (D := D) (ci := 7) (v := .int owed) (C := RX3) (T := TX3) (N := 4) hx hb hts in_X3 hown hK hP 0 rfl rfl 1 (by decide) (hts _ k_230) (fun _ h9 => h9) rfl dX3_owedSeconds_1 ?_
  obtain rfl := Option.some.inj hf
  exact W.iret (v := owed) hx hb hr (fun t ht _ => ⟨⟨owed, (), rfl, rfl, by rw [ht]; exact hP, hD⟩, hS.F ht⟩) hS.2.2 dX3_owedSeconds_4
noncomputable def X3_greatestMark_f (reached : Int32) : Option (Int32 × Unit) := some (reached, ())
set_option maxHeartbeats 4000000 in
set_option maxRecDepth 100000 in
theorem c_X3_greatestMark (l : Launch) (D : va_G) (cy : Nat → ClassId) (sa : Nat → Nat) (z0 sz : Nat) (h0 : Nat) (shown : Int32) (owed : Int32) (bound : Int32) (reached : Int32) (o : (Int32 × Unit)) (ho : X3_greatestMark_f reached = some o) : Met l yX3_greatestMark (ws_ yX3_greatestMark cX3_greatestMark 1 (some .int)) ({ frames := 0, cells := 0, slots := 0, locals := 0 } : Room) (va_Pc [.ref h0] (Pr D cy sa z0 [(h0, .inr (7, [.int shown, .int owed, .int bound, .int reached]))] sz)) (QI D o (fun u => [(h0, .inr (7, [.int shown, .int owed, .int bound, .int reached]))]) (va_A [(h0, .inr (7, [.int shown, .int owed, .int bound, .int reached]))] sz)) 0 0 (va_A [(h0, .inr (7, [.int shown, .int owed, .int bound, .int reached]))] sz) := by
  refine MT (Qf := QI D o (fun u => [(h0, .inr (7, [.int shown, .int owed, .int bound, .int reached]))])) (plainFor_of_name (by decide +kernel)) (Nat.le_of_ble_eq_true rfl) ?_
  intro p e s m below meth c A ls H hx hb hml hr hlocks hown hnm hts hG hA hZ hP hD hS hl
  have hK := hG.K
  have hl : lv_has ls 1 [(0, .ref h0)] := hl
  have hf : X3_greatestMark_f reached = some o := ho
  clear ho
  unfold X3_greatestMark_f at hf
  refine lv_aload_n hx hb dX3_greatestMark_0 rfl (lv_at hl 0 rfl) ?_
  refine va_get (D := D) (ci := 7) (v := .int reached) (C := RX3) (T := TX3) (N := 4) hx hb hts in_X3 hown hK hP 0 rfl rfl 3 (by decide) (hts _ k_232) (fun _ h9 => h9) rfl dX3_greatestMark_1 ?_
  obtain rfl := Option.some.inj hf
  exact W.iret (v := reached) hx hb hr (fun t ht _ => ⟨⟨reached, (), rfl, rfl, by rw [ht]; exact hP, hD⟩, hS.F ht⟩) hS.2.2 dX3_greatestMark_4
noncomputable def X3_addOwed_f (owed : Int32) (p0 : Int32) : Option (Int32 × Int32) := some ((owed + p0), (owed + p0))
set_option maxHeartbeats 4000000 in
set_option maxRecDepth 100000 in
theorem c_X3_addOwed (l : Launch) (D : va_G) (cy : Nat → ClassId) (sa : Nat → Nat) (z0 sz : Nat) (h0 : Nat) (shown : Int32) (owed : Int32) (bound : Int32) (reached : Int32) (p0 : Int32) (o : (Int32 × Int32)) (ho : X3_addOwed_f owed p0 = some o) : Met l yX3_addOwed (ws_ yX3_addOwed cX3_addOwed 2 (some .int)) ({ frames := 0, cells := 0, slots := 0, locals := 0 } : Room) (va_Pc [.ref h0, .int p0] (Pr D cy sa z0 [(h0, .inr (7, [.int shown, .int owed, .int bound, .int reached]))] sz)) (QI D o (fun u => [(h0, .inr (7, [.int shown, .int u, .int bound, .int reached]))]) (va_A [(h0, .inr (7, [.int shown, .int owed, .int bound, .int reached]))] sz)) 0 0 (va_A [(h0, .inr (7, [.int shown, .int owed, .int bound, .int reached]))] sz) := by
  refine MT (Qf := QI D o (fun u => [(h0, .inr (7, [.int shown, .int u, .int bound, .int reached]))])) (plainFor_of_name (by decide +kernel)) (Nat.le_of_ble_eq_true rfl) ?_
  intro p e s m below meth c A ls H hx hb hml hr hlocks hown hnm hts hG hA hZ hP hD hS hl
  have hK := hG.K
  have hl : lv_has ls 2 [(0, .ref h0), (1, .int p0)] := hl
  have hf : X3_addOwed_f owed p0 = some o := ho
  clear ho
  unfold X3_addOwed_f at hf
  refine lv_aload_n hx hb dX3_addOwed_0 rfl (lv_at hl 0 rfl) ?_
  refine lv_dup hx hb dX3_addOwed_1 rfl ?_
  refine va_get (D := D) (ci := 7) (v := .int owed) (C := RX3) (T := TX3) (N := 4) hx hb hts in_X3 hown hK hP 0 rfl rfl 1 (by decide) (hts _ k_230) (fun _ h9 => h9) rfl dX3_addOwed_2 ?_
  refine lv_iload_n hx hb dX3_addOwed_5 rfl (lv_at hl 1 rfl) ?_
  refine lv_iadd hx hb dX3_addOwed_6 ?_
  refine va_put (D := D) (ci := 7) (v := .int (owed + p0)) (ty := .int) (C := RX3) (T := TX3) (N := 4) hx hb hts in_X3 tyX3 tyX3_ok nmX3 hown hK hP hD hS 0 rfl rfl 1 (by decide) (hts _ k_230) (fun _ h9 => h9) rfl (by decide +kernel) rfl rfl (Nat.le_of_ble_eq_true rfl) dX3_addOwed_7 (fun H locs hP hD hS => ?_)
  have hP : va_P D vwCl [(h0, .inr (7, [.int shown, .int (owed + p0), .int bound, .int reached]))] H := hP
  have hD : va_D A [(h0, .inr (7, [.int shown, .int (owed + p0), .int bound, .int reached]))] := hD
  refine lv_aload_n hx hb dX3_addOwed_10 rfl (lv_at hl 0 rfl) ?_
  refine va_get (D := D) (ci := 7) (v := .int (owed + p0)) (C := RX3) (T := TX3) (N := 4) hx hb hts in_X3 hown hK hP 0 rfl rfl 1 (by decide) (hts _ k_230) (fun _ h9 => h9) rfl dX3_addOwed_11 ?_
  obtain rfl := Option.some.inj hf
  exact W.iret (v := (owed + p0)) hx hb hr (fun t ht _ => ⟨⟨(owed + p0), (owed + p0), rfl, rfl, by rw [ht]; exact hP, hD⟩, hS.F ht⟩) hS.2.2 dX3_addOwed_14
noncomputable def X3_changeBound_f (bound : Int32) (p0 : Int32) : Option (Int32 × Int32) := some (bound, p0)
set_option maxHeartbeats 4000000 in
set_option maxRecDepth 100000 in
theorem c_X3_changeBound (l : Launch) (D : va_G) (cy : Nat → ClassId) (sa : Nat → Nat) (z0 sz : Nat) (h0 : Nat) (shown : Int32) (owed : Int32) (bound : Int32) (reached : Int32) (p0 : Int32) (o : (Int32 × Int32)) (ho : X3_changeBound_f bound p0 = some o) : Met l yX3_changeBound (ws_ yX3_changeBound cX3_changeBound 3 (some .int)) ({ frames := 0, cells := 0, slots := 0, locals := 0 } : Room) (va_Pc [.ref h0, .int p0] (Pr D cy sa z0 [(h0, .inr (7, [.int shown, .int owed, .int bound, .int reached]))] sz)) (QI D o (fun u => [(h0, .inr (7, [.int shown, .int owed, .int u, .int reached]))]) (va_A [(h0, .inr (7, [.int shown, .int owed, .int bound, .int reached]))] sz)) 0 0 (va_A [(h0, .inr (7, [.int shown, .int owed, .int bound, .int reached]))] sz) := by
  refine MT (Qf := QI D o (fun u => [(h0, .inr (7, [.int shown, .int owed, .int u, .int reached]))])) (plainFor_of_name (by decide +kernel)) (Nat.le_of_ble_eq_true rfl) ?_
  intro p e s m below meth c A ls H hx hb hml hr hlocks hown hnm hts hG hA hZ hP hD hS hl
  have hK := hG.K
  have hl : lv_has ls 3 [(0, .ref h0), (1, .int p0)] := hl
  have hf : X3_changeBound_f bound p0 = some o := ho
  clear ho
  unfold X3_changeBound_f at hf
  refine lv_aload_n hx hb dX3_changeBound_0 rfl (lv_at hl 0 rfl) ?_
  refine va_get (D := D) (ci := 7) (v := .int bound) (C := RX3) (T := TX3) (N := 4) hx hb hts in_X3 hown hK hP 0 rfl rfl 2 (by decide) (hts _ k_231) (fun _ h9 => h9) rfl dX3_changeBound_1 ?_
  refine lv_istore_n (lv' := [(2, .int bound), (0, .ref h0), (1, .int p0)]) hx hb dX3_changeBound_4 rfl hl (by decide) rfl (fun ls hl => ?_)
  refine lv_aload_n hx hb dX3_changeBound_5 rfl (lv_at hl 1 rfl) ?_
  refine lv_iload_n hx hb dX3_changeBound_6 rfl (lv_at hl 2 rfl) ?_
  refine va_put (D := D) (ci := 7) (v := .int p0) (ty := .int) (C := RX3) (T := TX3) (N := 4) hx hb hts in_X3 tyX3 tyX3_ok nmX3 hown hK hP hD hS 0 rfl rfl 2 (by decide) (hts _ k_231) (fun _ h9 => h9) rfl (by decide +kernel) rfl rfl (Nat.le_of_ble_eq_true rfl) dX3_changeBound_7 (fun H locs hP hD hS => ?_)
  have hP : va_P D vwCl [(h0, .inr (7, [.int shown, .int owed, .int p0, .int reached]))] H := hP
  have hD : va_D A [(h0, .inr (7, [.int shown, .int owed, .int p0, .int reached]))] := hD
  refine lv_iload_n hx hb dX3_changeBound_10 rfl (lv_at hl 0 rfl) ?_
  obtain rfl := Option.some.inj hf
  exact W.iret (v := bound) hx hb hr (fun t ht _ => ⟨⟨bound, p0, rfl, rfl, by rw [ht]; exact hP, hD⟩, hS.F ht⟩) hS.2.2 dX3_changeBound_11
noncomputable def X3_secondsToFullMinute_f (shown : Int32) : Option (Int32 × Unit) := (J9_floorMod_7cf53_f shown (60 : Int32)).bind fun v1 => some (((60 : Int32) - v1.1), ())
set_option maxHeartbeats 4000000 in
set_option maxRecDepth 100000 in
theorem c_X3_secondsToFullMinute (l : Launch) (D : va_G) (cy : Nat → ClassId) (sa : Nat → Nat) (z0 sz : Nat) (h0 : Nat) (shown : Int32) (owed : Int32) (bound : Int32) (reached : Int32) (o : (Int32 × Unit)) (ho : X3_secondsToFullMinute_f shown = some o) : Met l yX3_secondsToFullMinute (ws_ yX3_secondsToFullMinute cX3_secondsToFullMinute 1 (some .int)) ({ frames := 1, cells := 0, slots := 0, locals := 22 } : Room) (va_Pc [.ref h0] (Pr D cy sa z0 [(h0, .inr (7, [.int shown, .int owed, .int bound, .int reached]))] sz)) (QI D o (fun u => [(h0, .inr (7, [.int shown, .int owed, .int bound, .int reached]))]) (va_A [(h0, .inr (7, [.int shown, .int owed, .int bound, .int reached]))] sz)) 0 0 (va_A [(h0, .inr (7, [.int shown, .int owed, .int bound, .int reached]))] sz) := by
  refine MT (Qf := QI D o (fun u => [(h0, .inr (7, [.int shown, .int owed, .int bound, .int reached]))])) (plainFor_of_name (by decide +kernel)) (Nat.le_of_ble_eq_true rfl) ?_
  intro p e s m below meth c A ls H hx hb hml hr hlocks hown hnm hts hG hA hZ hP hD hS hl
  have hK := hG.K
  have hl : lv_has ls 1 [(0, .ref h0)] := hl
  have hf : X3_secondsToFullMinute_f shown = some o := ho
  clear ho
  unfold X3_secondsToFullMinute_f at hf
  refine lv_bipush (v := (60 : Int32)) hx hb dX3_secondsToFullMinute_0 (by decide) ?_
  refine lv_aload_n hx hb dX3_secondsToFullMinute_2 rfl (lv_at hl 0 rfl) ?_
  refine va_get (D := D) (ci := 7) (v := .int shown) (C := RX3) (T := TX3) (N := 4) hx hb hts in_X3 hown hK hP 0 rfl rfl 0 (by decide) (hts _ k_229) (fun _ h9 => h9) rfl dX3_secondsToFullMinute_3 ?_
  refine lv_bipush (v := (60 : Int32)) hx hb dX3_secondsToFullMinute_6 (by decide) ?_
  obtain ⟨v1, e2, hf⟩ := bind_some' hf
  refine cl_i (va_runS (As := [.int shown, .int (60 : Int32)]) (rest := [.int (60 : Int32)]) ⟨hx, hb, hml, hown, hts⟩ (c_J9_floorMod_7cf53 l D cy sa z0 H.size shown (60 : Int32) _ e2) (va_cwS 2 hts (lw_gS k_704 k_368 k_43 k_369) rfl rfl rfl (by decide +kernel) ⟨Nat.le_of_ble_eq_true rfl, Nat.le_of_ble_eq_true rfl⟩) (preS hG hS hZ hP hD [] rfl rfl) rfl rfl hl.1 rfl (lv_room (Nat.le_of_ble_eq_true rfl)) dX3_secondsToFullMinute_8 ⟨Nat.le_of_ble_eq_true rfl, Nat.le_of_ble_eq_true rfl⟩) hP hD hS hA [] rfl rfl rfl (fun H locs hP hD hS => ?_)
  have hP : va_P D vwCl [(h0, .inr (7, [.int shown, .int owed, .int bound, .int reached]))] H := hP
  have hD : va_D A [(h0, .inr (7, [.int shown, .int owed, .int bound, .int reached]))] := hD
  refine lv_isub hx hb dX3_secondsToFullMinute_11 ?_
  obtain rfl := Option.some.inj hf
  exact W.iret (v := ((60 : Int32) - v1.1)) hx hb hr (fun t ht _ => ⟨⟨((60 : Int32) - v1.1), (), rfl, rfl, by rw [ht]; exact hP, hD⟩, hS.F ht⟩) hS.2.2 dX3_secondsToFullMinute_12
noncomputable def X3_addSeconds_f (shown : Int32) (p0 : Int32) : Option (Int32) := some (shown + p0)
set_option maxHeartbeats 4000000 in
set_option maxRecDepth 100000 in
theorem c_X3_addSeconds (l : Launch) (D : va_G) (cy : Nat → ClassId) (sa : Nat → Nat) (z0 sz : Nat) (h0 : Nat) (shown : Int32) (owed : Int32) (bound : Int32) (reached : Int32) (p0 : Int32) (o : (Int32)) (ho : X3_addSeconds_f shown p0 = some o) : Met l yX3_addSeconds (ws_ yX3_addSeconds cX3_addSeconds 2 none) ({ frames := 0, cells := 0, slots := 0, locals := 0 } : Room) (va_Pc [.ref h0, .int p0] (Pr D cy sa z0 [(h0, .inr (7, [.int shown, .int owed, .int bound, .int reached]))] sz)) (QV D o (fun u => [(h0, .inr (7, [.int u, .int owed, .int bound, .int reached]))]) (va_A [(h0, .inr (7, [.int shown, .int owed, .int bound, .int reached]))] sz)) 0 0 (va_A [(h0, .inr (7, [.int shown, .int owed, .int bound, .int reached]))] sz) := by
  refine MT (Qf := QV D o (fun u => [(h0, .inr (7, [.int u, .int owed, .int bound, .int reached]))])) (plainFor_of_name (by decide +kernel)) (Nat.le_of_ble_eq_true rfl) ?_
  intro p e s m below meth c A ls H hx hb hml hr hlocks hown hnm hts hG hA hZ hP hD hS hl
  have hK := hG.K
  have hl : lv_has ls 2 [(0, .ref h0), (1, .int p0)] := hl
  have hf : X3_addSeconds_f shown p0 = some o := ho
  clear ho
  unfold X3_addSeconds_f at hf
  refine lv_aload_n hx hb dX3_addSeconds_0 rfl (lv_at hl 0 rfl) ?_
  refine lv_dup hx hb dX3_addSeconds_1 rfl ?_
  refine va_get (D := D) (ci := 7) (v := .int shown) (C := RX3) (T := TX3) (N := 4) hx hb hts in_X3 hown hK hP 0 rfl rfl 0 (by decide) (hts _ k_229) (fun _ h9 => h9) rfl dX3_addSeconds_2 ?_
  refine lv_iload_n hx hb dX3_addSeconds_5 rfl (lv_at hl 1 rfl) ?_
  refine lv_iadd hx hb dX3_addSeconds_6 ?_
  refine va_put (D := D) (ci := 7) (v := .int (shown + p0)) (ty := .int) (C := RX3) (T := TX3) (N := 4) hx hb hts in_X3 tyX3 tyX3_ok nmX3 hown hK hP hD hS 0 rfl rfl 0 (by decide) (hts _ k_229) (fun _ h9 => h9) rfl (by decide +kernel) rfl rfl (Nat.le_of_ble_eq_true rfl) dX3_addSeconds_7 (fun H locs hP hD hS => ?_)
  have hP : va_P D vwCl [(h0, .inr (7, [.int (shown + p0), .int owed, .int bound, .int reached]))] H := hP
  have hD : va_D A [(h0, .inr (7, [.int (shown + p0), .int owed, .int bound, .int reached]))] := hD
  obtain rfl := Option.some.inj hf
  exact W.vret hx hb hr (fun t ht _ => ⟨⟨(shown + p0), rfl, rfl, by rw [ht]; exact hP, hD⟩, hS.F ht⟩) hS.2.2 dX3_addSeconds_10
noncomputable def X3_isFullMinute_b15 (b15_1 : Int32) : Option (Int32 × Unit) := if b15_1 &&& 1 = b15_1 then some (b15_1, ()) else none
noncomputable def X3_isFullMinute_f (shown : Int32) : Option (Int32 × Unit) := (if (shown - shown / (60 : Int32) * (60 : Int32)) = (0 : Int32) then X3_isFullMinute_b15 (1 : Int32) else X3_isFullMinute_b15 (0 : Int32))
set_option maxHeartbeats 4000000 in
set_option maxRecDepth 100000 in
theorem c_X3_isFullMinute (l : Launch) (D : va_G) (cy : Nat → ClassId) (sa : Nat → Nat) (z0 sz : Nat) (h0 : Nat) (shown : Int32) (owed : Int32) (bound : Int32) (reached : Int32) (o : (Int32 × Unit)) (ho : X3_isFullMinute_f shown = some o) : Met l yX3_isFullMinute (ws_ yX3_isFullMinute cX3_isFullMinute 1 (some .boolean)) ({ frames := 0, cells := 0, slots := 0, locals := 0 } : Room) (va_Pc [.ref h0] (Pr D cy sa z0 [(h0, .inr (7, [.int shown, .int owed, .int bound, .int reached]))] sz)) (QI D o (fun u => [(h0, .inr (7, [.int shown, .int owed, .int bound, .int reached]))]) (va_A [(h0, .inr (7, [.int shown, .int owed, .int bound, .int reached]))] sz)) 0 0 (va_A [(h0, .inr (7, [.int shown, .int owed, .int bound, .int reached]))] sz) := by
  refine MT (Qf := QI D o (fun u => [(h0, .inr (7, [.int shown, .int owed, .int bound, .int reached]))])) (plainFor_of_name (by decide +kernel)) (Nat.le_of_ble_eq_true rfl) ?_
  intro p e s m below meth c A ls H hx hb hml hr hlocks hown hnm hts hG hA hZ hP hD hS hl
  have hK := hG.K
  have hl : lv_has ls 1 [(0, .ref h0)] := hl
  have hf : X3_isFullMinute_f shown = some o := ho
  clear ho
  unfold X3_isFullMinute_f at hf
  have J15 : ∀ (b15_1 : Int32), ∀ (H : Heap) (locs : List Loc), va_P D vwCl [(h0, .inr (7, [.int shown, .int owed, .int bound, .int reached]))] H → va_D A [(h0, .inr (7, [.int shown, .int owed, .int bound, .int reached]))] → va_S A s.heap H locs → ∀ (ls : Array Slot), lv_has ls 1 [] → X3_isFullMinute_b15 b15_1 = some o → W p l e ({ frames := 0, cells := 0, slots := 0, locals := 0 } : Room) s m ([.ref h0] : List Value).toArray below meth c H locs 0 0 (MQ below (QI D o (fun u => [(h0, .inr (7, [.int shown, .int owed, .int bound, .int reached]))]) A) ([.ref h0] : List Value).toArray s 0 0 A) (F0 m 15 ls [.int b15_1]) := by
    intro b15_1 H locs hP hD hS ls hl hf
    unfold X3_isFullMinute_b15 at hf
    obtain ⟨g2, hf⟩ := ite_some' hf
    obtain rfl := Option.some.inj hf
    exact W.zret (v := b15_1) hx hb hr (zn_b g2) (fun t ht _ => ⟨⟨b15_1, (), rfl, rfl, by rw [ht]; exact hP, hD⟩, hS.F ht⟩) hS.2.2 dX3_isFullMinute_15
  refine lv_aload_n hx hb dX3_isFullMinute_0 rfl (lv_at hl 0 rfl) ?_
  refine va_get (D := D) (ci := 7) (v := .int shown) (C := RX3) (T := TX3) (N := 4) hx hb hts in_X3 hown hK hP 0 rfl rfl 0 (by decide) (hts _ k_229) (fun _ h9 => h9) rfl dX3_isFullMinute_1 ?_
  refine lv_bipush (v := (60 : Int32)) hx hb dX3_isFullMinute_4 (by decide) ?_
  refine lv_irem hx hb dX3_isFullMinute_6 (by decide) ?_
  refine lv_if_ne (tgt := 14) hx hb dX3_isFullMinute_7 (by decide) (fun c1 => ?_) (fun c1 => ?_)
  · rw [if_neg c1] at hf
    refine lv_iconst (v := (0 : Int32)) hx hb dX3_isFullMinute_14 (by decide) ?_
    exact J15 (0 : Int32) _ _ hP hD hS _ (lv_sub hl [] rfl) hf
  · rw [if_pos c1] at hf
    refine lv_iconst (v := (1 : Int32)) hx hb dX3_isFullMinute_10 (by decide) ?_
    refine lv_goto (tgt := 15) hx hb dX3_isFullMinute_11 (by decide) ?_
    exact J15 (1 : Int32) _ _ hP hD hS _ (lv_sub hl [] rfl) hf
noncomputable def X3_reachMark_b26 (reached : Int32) : Option (Int32 × Int32) := some ((0 : Int32), reached)
noncomputable def X3_reachMark_f (shown : Int32) (reached : Int32) : Option (Int32 × Int32) := (if (shown - shown / (900 : Int32) * (900 : Int32)) = (0 : Int32) then (if reached < (shown / (900 : Int32)) then some ((1 : Int32), (shown / (900 : Int32))) else X3_reachMark_b26 reached) else X3_reachMark_b26 reached)
set_option maxHeartbeats 4000000 in
set_option maxRecDepth 100000 in
theorem c_X3_reachMark (l : Launch) (D : va_G) (cy : Nat → ClassId) (sa : Nat → Nat) (z0 sz : Nat) (h0 : Nat) (shown : Int32) (owed : Int32) (bound : Int32) (reached : Int32) (o : (Int32 × Int32)) (ho : X3_reachMark_f shown reached = some o) : Met l yX3_reachMark (ws_ yX3_reachMark cX3_reachMark 1 (some .boolean)) ({ frames := 0, cells := 0, slots := 0, locals := 0 } : Room) (va_Pc [.ref h0] (Pr D cy sa z0 [(h0, .inr (7, [.int shown, .int owed, .int bound, .int reached]))] sz)) (QI D o (fun u => [(h0, .inr (7, [.int shown, .int owed, .int bound, .int u]))]) (va_A [(h0, .inr (7, [.int shown, .int owed, .int bound, .int reached]))] sz)) 0 0 (va_A [(h0, .inr (7, [.int shown, .int owed, .int bound, .int reached]))] sz) := by
  refine MT (Qf := QI D o (fun u => [(h0, .inr (7, [.int shown, .int owed, .int bound, .int u]))])) (plainFor_of_name (by decide +kernel)) (Nat.le_of_ble_eq_true rfl) ?_
  intro p e s m below meth c A ls H hx hb hml hr hlocks hown hnm hts hG hA hZ hP hD hS hl
  have hK := hG.K
  have hl : lv_has ls 1 [(0, .ref h0)] := hl
  have hf : X3_reachMark_f shown reached = some o := ho
  clear ho
  unfold X3_reachMark_f at hf
  have J26 : ∀ (H : Heap) (locs : List Loc), va_P D vwCl [(h0, .inr (7, [.int shown, .int owed, .int bound, .int reached]))] H → va_D A [(h0, .inr (7, [.int shown, .int owed, .int bound, .int reached]))] → va_S A s.heap H locs → ∀ (ls : Array Slot), lv_has ls 1 [] → X3_reachMark_b26 reached = some o → W p l e ({ frames := 0, cells := 0, slots := 0, locals := 0 } : Room) s m ([.ref h0] : List Value).toArray below meth c H locs 0 0 (MQ below (QI D o (fun u => [(h0, .inr (7, [.int shown, .int owed, .int bound, .int u]))]) A) ([.ref h0] : List Value).toArray s 0 0 A) (F0 m 26 ls []) := by
    intro  H locs hP hD hS ls hl hf
    unfold X3_reachMark_b26 at hf
    refine lv_iconst (v := (0 : Int32)) hx hb dX3_reachMark_26 (by decide) ?_
    obtain rfl := Option.some.inj hf
    exact W.zret (v := (0 : Int32)) hx hb hr (by decide) (fun t ht _ => ⟨⟨(0 : Int32), reached, rfl, rfl, by rw [ht]; exact hP, hD⟩, hS.F ht⟩) hS.2.2 dX3_reachMark_27
  refine lv_aload_n hx hb dX3_reachMark_0 rfl (lv_at hl 0 rfl) ?_
  refine va_get (D := D) (ci := 7) (v := .int shown) (C := RX3) (T := TX3) (N := 4) hx hb hts in_X3 hown hK hP 0 rfl rfl 0 (by decide) (hts _ k_229) (fun _ h9 => h9) rfl dX3_reachMark_1 ?_
  refine lv_sipush (v := (900 : Int32)) hx hb dX3_reachMark_4 (by decide) ?_
  refine lv_irem hx hb dX3_reachMark_7 (by decide) ?_
  refine lv_if_ne (tgt := 26) hx hb dX3_reachMark_8 (by decide) (fun c1 => ?_) (fun c1 => ?_)
  · rw [if_neg c1] at hf
    exact J26  _ _ hP hD hS _ (lv_sub hl [] rfl) hf
  · rw [if_pos c1] at hf
    refine lv_aload_n hx hb dX3_reachMark_11 rfl (lv_at hl 0 rfl) ?_
    refine va_get (D := D) (ci := 7) (v := .int shown) (C := RX3) (T := TX3) (N := 4) hx hb hts in_X3 hown hK hP 0 rfl rfl 0 (by decide) (hts _ k_229) (fun _ h9 => h9) rfl dX3_reachMark_12 ?_
    refine lv_sipush (v := (900 : Int32)) hx hb dX3_reachMark_15 (by decide) ?_
    refine lv_idiv hx hb dX3_reachMark_18 (by decide) ?_
    refine lv_aload_n hx hb dX3_reachMark_19 rfl (lv_at hl 0 rfl) ?_
    refine va_get (D := D) (ci := 7) (v := .int reached) (C := RX3) (T := TX3) (N := 4) hx hb hts in_X3 hown hK hP 0 rfl rfl 3 (by decide) (hts _ k_232) (fun _ h9 => h9) rfl dX3_reachMark_20 ?_
    refine lv_icmp_gt (tgt := 28) hx hb dX3_reachMark_23 (by decide) (fun c2 => ?_) (fun c2 => ?_)
    · rw [if_pos c2] at hf
      refine lv_aload_n hx hb dX3_reachMark_28 rfl (lv_at hl 0 rfl) ?_
      refine lv_aload_n hx hb dX3_reachMark_29 rfl (lv_at hl 0 rfl) ?_
      refine va_get (D := D) (ci := 7) (v := .int shown) (C := RX3) (T := TX3) (N := 4) hx hb hts in_X3 hown hK hP 0 rfl rfl 0 (by decide) (hts _ k_229) (fun _ h9 => h9) rfl dX3_reachMark_30 ?_
      refine lv_sipush (v := (900 : Int32)) hx hb dX3_reachMark_33 (by decide) ?_
      refine lv_idiv hx hb dX3_reachMark_36 (by decide) ?_
      refine va_put (D := D) (ci := 7) (v := .int (shown / (900 : Int32))) (ty := .int) (C := RX3) (T := TX3) (N := 4) hx hb hts in_X3 tyX3 tyX3_ok nmX3 hown hK hP hD hS 0 rfl rfl 3 (by decide) (hts _ k_232) (fun _ h9 => h9) rfl (by decide +kernel) rfl rfl (Nat.le_of_ble_eq_true rfl) dX3_reachMark_37 (fun H locs hP hD hS => ?_)
      have hP : va_P D vwCl [(h0, .inr (7, [.int shown, .int owed, .int bound, .int (shown / (900 : Int32))]))] H := hP
      have hD : va_D A [(h0, .inr (7, [.int shown, .int owed, .int bound, .int (shown / (900 : Int32))]))] := hD
      refine lv_iconst (v := (1 : Int32)) hx hb dX3_reachMark_40 (by decide) ?_
      obtain rfl := Option.some.inj hf
      exact W.zret (v := (1 : Int32)) hx hb hr (by decide) (fun t ht _ => ⟨⟨(1 : Int32), (shown / (900 : Int32)), rfl, rfl, by rw [ht]; exact hP, hD⟩, hS.F ht⟩) hS.2.2 dX3_reachMark_41
    · rw [if_neg c2] at hf
      exact J26  _ _ hP hD hS _ (lv_sub hl [] rfl) hf
noncomputable def X3_correct_f (shown : Int32) (owed : Int32) (bound : Int32) : Option ((Int32 × Int32)) := (some (if (-bound) < (if owed < bound then owed else bound) then (if owed < bound then owed else bound) else (-bound))).bind fun v1 => some ((shown + v1), (owed - v1))
set_option maxHeartbeats 4000000 in
set_option maxRecDepth 100000 in
theorem c_X3_correct (l : Launch) (D : va_G) (cy : Nat → ClassId) (sa : Nat → Nat) (z0 sz : Nat) (h0 : Nat) (shown : Int32) (owed : Int32) (bound : Int32) (reached : Int32) (o : ((Int32 × Int32))) (ho : X3_correct_f shown owed bound = some o) : Met l yX3_correct (ws_ yX3_correct cX3_correct 2 none) ({ frames := 1, cells := 0, slots := 0, locals := 30 } : Room) (va_Pc [.ref h0] (Pr D cy sa z0 [(h0, .inr (7, [.int shown, .int owed, .int bound, .int reached]))] sz)) (QV D o (fun u => [(h0, .inr (7, [.int u.1, .int u.2, .int bound, .int reached]))]) (va_A [(h0, .inr (7, [.int shown, .int owed, .int bound, .int reached]))] sz)) 0 0 (va_A [(h0, .inr (7, [.int shown, .int owed, .int bound, .int reached]))] sz) := by
  refine MT (Qf := QV D o (fun u => [(h0, .inr (7, [.int u.1, .int u.2, .int bound, .int reached]))])) (plainFor_of_name (by decide +kernel)) (Nat.le_of_ble_eq_true rfl) ?_
  intro p e s m below meth c A ls H hx hb hml hr hlocks hown hnm hts hG hA hZ hP hD hS hl
  have hK := hG.K
  have hl : lv_has ls 2 [(0, .ref h0)] := hl
  have hf : X3_correct_f shown owed bound = some o := ho
  clear ho
  unfold X3_correct_f at hf
  refine lv_aload_n hx hb dX3_correct_0 rfl (lv_at hl 0 rfl) ?_
  refine va_get (D := D) (ci := 7) (v := .int bound) (C := RX3) (T := TX3) (N := 4) hx hb hts in_X3 hown hK hP 0 rfl rfl 2 (by decide) (hts _ k_231) (fun _ h9 => h9) rfl dX3_correct_1 ?_
  refine lv_ineg hx hb dX3_correct_4 ?_
  refine lv_aload_n hx hb dX3_correct_5 rfl (lv_at hl 0 rfl) ?_
  refine va_get (D := D) (ci := 7) (v := .int bound) (C := RX3) (T := TX3) (N := 4) hx hb hts in_X3 hown hK hP 0 rfl rfl 2 (by decide) (hts _ k_231) (fun _ h9 => h9) rfl dX3_correct_6 ?_
  refine lv_aload_n hx hb dX3_correct_9 rfl (lv_at hl 0 rfl) ?_
  refine va_get (D := D) (ci := 7) (v := .int owed) (C := RX3) (T := TX3) (N := 4) hx hb hts in_X3 hown hK hP 0 rfl rfl 1 (by decide) (hts _ k_230) (fun _ h9 => h9) rfl dX3_correct_10 ?_
  refine va_mmin hx hb (by rw [hml]; exact hl.1.symm) hown (hts _ k_783) (hts _ k_196) (hts _ k_43) (hts _ k_197) (Nat.le_of_ble_eq_true rfl) (Nat.le_of_ble_eq_true rfl) (Nat.le_of_ble_eq_true rfl) (Nat.le_of_ble_eq_true rfl) dX3_correct_13 ?_
  refine va_mmax hx hb (by rw [hml]; exact hl.1.symm) hown (hts _ k_784) (hts _ k_157) (hts _ k_43) (hts _ k_158) (Nat.le_of_ble_eq_true rfl) (Nat.le_of_ble_eq_true rfl) (Nat.le_of_ble_eq_true rfl) (Nat.le_of_ble_eq_true rfl) dX3_correct_16 ?_
  obtain ⟨v1, e2, hf⟩ := bind_some' hf
  refine lv_topi (fun y9 e9 => ?_)
  obtain rfl : v1 = y9 := (e9.trans (Option.some.inj e2)).symm
  refine lv_istore_n (lv' := [(1, .int v1), (0, .ref h0)]) hx hb dX3_correct_19 rfl hl (by decide) rfl (fun ls hl => ?_)
  refine lv_aload_n hx hb dX3_correct_20 rfl (lv_at hl 1 rfl) ?_
  refine lv_dup hx hb dX3_correct_21 rfl ?_
  refine va_get (D := D) (ci := 7) (v := .int shown) (C := RX3) (T := TX3) (N := 4) hx hb hts in_X3 hown hK hP 0 rfl rfl 0 (by decide) (hts _ k_229) (fun _ h9 => h9) rfl dX3_correct_22 ?_
  refine lv_iload_n hx hb dX3_correct_25 rfl (lv_at hl 0 rfl) ?_
  refine lv_iadd hx hb dX3_correct_26 ?_
  refine va_put (D := D) (ci := 7) (v := .int (shown + v1)) (ty := .int) (C := RX3) (T := TX3) (N := 4) hx hb hts in_X3 tyX3 tyX3_ok nmX3 hown hK hP hD hS 0 rfl rfl 0 (by decide) (hts _ k_229) (fun _ h9 => h9) rfl (by decide +kernel) rfl rfl (Nat.le_of_ble_eq_true rfl) dX3_correct_27 (fun H locs hP hD hS => ?_)
  have hP : va_P D vwCl [(h0, .inr (7, [.int (shown + v1), .int owed, .int bound, .int reached]))] H := hP
  have hD : va_D A [(h0, .inr (7, [.int (shown + v1), .int owed, .int bound, .int reached]))] := hD
  refine lv_aload_n hx hb dX3_correct_30 rfl (lv_at hl 1 rfl) ?_
  refine lv_dup hx hb dX3_correct_31 rfl ?_
  refine va_get (D := D) (ci := 7) (v := .int owed) (C := RX3) (T := TX3) (N := 4) hx hb hts in_X3 hown hK hP 0 rfl rfl 1 (by decide) (hts _ k_230) (fun _ h9 => h9) rfl dX3_correct_32 ?_
  refine lv_iload_n hx hb dX3_correct_35 rfl (lv_at hl 0 rfl) ?_
  refine lv_isub hx hb dX3_correct_36 ?_
  refine va_put (D := D) (ci := 7) (v := .int (owed - v1)) (ty := .int) (C := RX3) (T := TX3) (N := 4) hx hb hts in_X3 tyX3 tyX3_ok nmX3 hown hK hP hD hS 0 rfl rfl 1 (by decide) (hts _ k_230) (fun _ h9 => h9) rfl (by decide +kernel) rfl rfl (Nat.le_of_ble_eq_true rfl) dX3_correct_37 (fun H locs hP hD hS => ?_)
  have hP : va_P D vwCl [(h0, .inr (7, [.int (shown + v1), .int (owed - v1), .int bound, .int reached]))] H := hP
  have hD : va_D A [(h0, .inr (7, [.int (shown + v1), .int (owed - v1), .int bound, .int reached]))] := hD
  obtain rfl := Option.some.inj hf
  exact W.vret hx hb hr (fun t ht _ => ⟨⟨((shown + v1), (owed - v1)), rfl, rfl, by rw [ht]; exact hP, hD⟩, hS.F ht⟩) hS.2.2 dX3_correct_40
noncomputable def X3_copyFrom_f (shown1 : Int32) (owed1 : Int32) (bound1 : Int32) (reached1 : Int32) : Option ((Int32 × Int32 × Int32 × Int32)) := some (shown1, owed1, bound1, reached1)
set_option maxHeartbeats 4000000 in
set_option maxRecDepth 100000 in
theorem c_X3_copyFrom (l : Launch) (D : va_G) (cy : Nat → ClassId) (sa : Nat → Nat) (z0 sz : Nat) (h0 : Nat) (h1 : Nat) (shown : Int32) (owed : Int32) (bound : Int32) (reached : Int32) (shown1 : Int32) (owed1 : Int32) (bound1 : Int32) (reached1 : Int32) (o : ((Int32 × Int32 × Int32 × Int32))) (ho : X3_copyFrom_f shown1 owed1 bound1 reached1 = some o) : Met l yX3_copyFrom (ws_ yX3_copyFrom cX3_copyFrom 2 none) ({ frames := 0, cells := 0, slots := 0, locals := 0 } : Room) (va_Pc [.ref h0, .ref h1] (Pr D cy sa z0 [(h0, .inr (7, [.int shown, .int owed, .int bound, .int reached])), (h1, .inr (7, [.int shown1, .int owed1, .int bound1, .int reached1]))] sz)) (QV D o (fun u => [(h0, .inr (7, [.int u.1, .int u.2.1, .int u.2.2.1, .int u.2.2.2])), (h1, .inr (7, [.int shown1, .int owed1, .int bound1, .int reached1]))]) (va_A [(h0, .inr (7, [.int shown, .int owed, .int bound, .int reached])), (h1, .inr (7, [.int shown1, .int owed1, .int bound1, .int reached1]))] sz)) 0 0 (va_A [(h0, .inr (7, [.int shown, .int owed, .int bound, .int reached])), (h1, .inr (7, [.int shown1, .int owed1, .int bound1, .int reached1]))] sz) := by
  refine MT (Qf := QV D o (fun u => [(h0, .inr (7, [.int u.1, .int u.2.1, .int u.2.2.1, .int u.2.2.2])), (h1, .inr (7, [.int shown1, .int owed1, .int bound1, .int reached1]))])) (plainFor_of_name (by decide +kernel)) (Nat.le_of_ble_eq_true rfl) ?_
  intro p e s m below meth c A ls H hx hb hml hr hlocks hown hnm hts hG hA hZ hP hD hS hl
  have hK := hG.K
  have hl : lv_has ls 2 [(0, .ref h0), (1, .ref h1)] := hl
  have hf : X3_copyFrom_f shown1 owed1 bound1 reached1 = some o := ho
  clear ho
  unfold X3_copyFrom_f at hf
  refine lv_aload_n hx hb dX3_copyFrom_0 rfl (lv_at hl 0 rfl) ?_
  refine lv_aload_n hx hb dX3_copyFrom_1 rfl (lv_at hl 1 rfl) ?_
  refine va_get (D := D) (ci := 7) (v := .int shown1) (C := RX3) (T := TX3) (N := 4) hx hb hts in_X3 hown hK hP 1 rfl rfl 0 (by decide) (hts _ k_229) (fun _ h9 => h9) rfl dX3_copyFrom_2 ?_
  refine va_put (D := D) (ci := 7) (v := .int shown1) (ty := .int) (C := RX3) (T := TX3) (N := 4) hx hb hts in_X3 tyX3 tyX3_ok nmX3 hown hK hP hD hS 0 rfl rfl 0 (by decide) (hts _ k_229) (fun _ h9 => h9) rfl (by decide +kernel) rfl rfl (Nat.le_of_ble_eq_true rfl) dX3_copyFrom_5 (fun H locs hP hD hS => ?_)
  have hP : va_P D vwCl [(h0, .inr (7, [.int shown1, .int owed, .int bound, .int reached])), (h1, .inr (7, [.int shown1, .int owed1, .int bound1, .int reached1]))] H := hP
  have hD : va_D A [(h0, .inr (7, [.int shown1, .int owed, .int bound, .int reached])), (h1, .inr (7, [.int shown1, .int owed1, .int bound1, .int reached1]))] := hD
  refine lv_aload_n hx hb dX3_copyFrom_8 rfl (lv_at hl 0 rfl) ?_
  refine lv_aload_n hx hb dX3_copyFrom_9 rfl (lv_at hl 1 rfl) ?_
  refine va_get (D := D) (ci := 7) (v := .int owed1) (C := RX3) (T := TX3) (N := 4) hx hb hts in_X3 hown hK hP 1 rfl rfl 1 (by decide) (hts _ k_230) (fun _ h9 => h9) rfl dX3_copyFrom_10 ?_
  refine va_put (D := D) (ci := 7) (v := .int owed1) (ty := .int) (C := RX3) (T := TX3) (N := 4) hx hb hts in_X3 tyX3 tyX3_ok nmX3 hown hK hP hD hS 0 rfl rfl 1 (by decide) (hts _ k_230) (fun _ h9 => h9) rfl (by decide +kernel) rfl rfl (Nat.le_of_ble_eq_true rfl) dX3_copyFrom_13 (fun H locs hP hD hS => ?_)
  have hP : va_P D vwCl [(h0, .inr (7, [.int shown1, .int owed1, .int bound, .int reached])), (h1, .inr (7, [.int shown1, .int owed1, .int bound1, .int reached1]))] H := hP
  have hD : va_D A [(h0, .inr (7, [.int shown1, .int owed1, .int bound, .int reached])), (h1, .inr (7, [.int shown1, .int owed1, .int bound1, .int reached1]))] := hD
  refine lv_aload_n hx hb dX3_copyFrom_16 rfl (lv_at hl 0 rfl) ?_
  refine lv_aload_n hx hb dX3_copyFrom_17 rfl (lv_at hl 1 rfl) ?_
  refine va_get (D := D) (ci := 7) (v := .int bound1) (C := RX3) (T := TX3) (N := 4) hx hb hts in_X3 hown hK hP 1 rfl rfl 2 (by decide) (hts _ k_231) (fun _ h9 => h9) rfl dX3_copyFrom_18 ?_
  refine va_put (D := D) (ci := 7) (v := .int bound1) (ty := .int) (C := RX3) (T := TX3) (N := 4) hx hb hts in_X3 tyX3 tyX3_ok nmX3 hown hK hP hD hS 0 rfl rfl 2 (by decide) (hts _ k_231) (fun _ h9 => h9) rfl (by decide +kernel) rfl rfl (Nat.le_of_ble_eq_true rfl) dX3_copyFrom_21 (fun H locs hP hD hS => ?_)
  have hP : va_P D vwCl [(h0, .inr (7, [.int shown1, .int owed1, .int bound1, .int reached])), (h1, .inr (7, [.int shown1, .int owed1, .int bound1, .int reached1]))] H := hP
  have hD : va_D A [(h0, .inr (7, [.int shown1, .int owed1, .int bound1, .int reached])), (h1, .inr (7, [.int shown1, .int owed1, .int bound1, .int reached1]))] := hD
  refine lv_aload_n hx hb dX3_copyFrom_24 rfl (lv_at hl 0 rfl) ?_
  refine lv_aload_n hx hb dX3_copyFrom_25 rfl (lv_at hl 1 rfl) ?_
  refine va_get (D := D) (ci := 7) (v := .int reached1) (C := RX3) (T := TX3) (N := 4) hx hb hts in_X3 hown hK hP 1 rfl rfl 3 (by decide) (hts _ k_232) (fun _ h9 => h9) rfl dX3_copyFrom_26 ?_
  refine va_put (D := D) (ci := 7) (v := .int reached1) (ty := .int) (C := RX3) (T := TX3) (N := 4) hx hb hts in_X3 tyX3 tyX3_ok nmX3 hown hK hP hD hS 0 rfl rfl 3 (by decide) (hts _ k_232) (fun _ h9 => h9) rfl (by decide +kernel) rfl rfl (Nat.le_of_ble_eq_true rfl) dX3_copyFrom_29 (fun H locs hP hD hS => ?_)
  have hP : va_P D vwCl [(h0, .inr (7, [.int shown1, .int owed1, .int bound1, .int reached1])), (h1, .inr (7, [.int shown1, .int owed1, .int bound1, .int reached1]))] H := hP
  have hD : va_D A [(h0, .inr (7, [.int shown1, .int owed1, .int bound1, .int reached1])), (h1, .inr (7, [.int shown1, .int owed1, .int bound1, .int reached1]))] := hD
  obtain rfl := Option.some.inj hf
  exact W.vret hx hb hr (fun t ht _ => ⟨⟨(shown1, owed1, bound1, reached1), rfl, rfl, by rw [ht]; exact hP, hD⟩, hS.F ht⟩) hS.2.2 dX3_copyFrom_32
