noncomputable def J3_checkIndex_8e157_b9 : Option (Int32 × Unit) := none
noncomputable def J3_checkIndex_8e157_f (p0 : Int32) (p1 : Int32) : Option (Int32 × Unit) := (if p0 < (0 : Int32) then J3_checkIndex_8e157_b9 else (if p0 < p1 then some (p0, ()) else J3_checkIndex_8e157_b9))
set_option maxHeartbeats 4000000 in
set_option maxRecDepth 100000 in
theorem c_J3_checkIndex_8e157 (l : Launch) (D : va_G) (cy : Nat → ClassId) (sa : Nat → Nat) (z0 sz : Nat) (p0 : Int32) (p1 : Int32) (o : (Int32 × Unit)) (ho : J3_checkIndex_8e157_f p0 p1 = some o) : Met l yJ3_checkIndex_8e157 (ws_ yJ3_checkIndex_8e157 cJ3_checkIndex_8e157 3 (some .int)) ({ frames := 0, cells := 0, slots := 0, locals := 0 } : Room) (va_Pc [.int p0, .int p1, .null] (Pr D cy sa z0 [] sz)) (QI D o (fun u => []) (va_A [] sz)) 0 0 (va_A [] sz) := by
  refine MT (Qf := QI D o (fun u => [])) (plainFor_of_name (by decide +kernel)) (Nat.le_of_ble_eq_true rfl) ?_
  intro p e s m below meth c A ls H hx hb hml hr hlocks hown hnm hts hG hA hZ hP hD hS hl
  have hK := hG.K
  have hl : lv_has ls 3 [(0, .int p0), (1, .int p1), (2, .null)] := hl
  have hf : J3_checkIndex_8e157_f p0 p1 = some o := ho
  clear ho
  unfold J3_checkIndex_8e157_f at hf
  have J9 : ∀ (H : Heap) (locs : List Loc), va_P D vwCl [] H → va_D A [] → va_S A s.heap H locs → ∀ (ls : Array Slot), lv_has ls 3 [(0, .int p0), (1, .int p1), (2, .null)] → J3_checkIndex_8e157_b9 = some o → W p l e ({ frames := 0, cells := 0, slots := 0, locals := 0 } : Room) s m ([.int p0, .int p1, .null] : List Value).toArray below meth c H locs 0 0 (MQ below (QI D o (fun u => []) A) ([.int p0, .int p1, .null] : List Value).toArray s 0 0 A) (F0 m 9 ls []) := by
    intro  H locs hP hD hS ls hl hf
    unfold J3_checkIndex_8e157_b9 at hf
    cases hf
  refine lv_iload_n hx hb dJ3_checkIndex_8e157_0 rfl (lv_at hl 0 rfl) ?_
  refine lv_if_lt (tgt := 9) hx hb dJ3_checkIndex_8e157_1 (by decide) (fun c1 => ?_) (fun c1 => ?_)
  · rw [if_pos c1] at hf
    exact J9  _ _ hP hD hS _ (lv_sub hl [0, 1, 2] rfl) hf
  · rw [if_neg c1] at hf
    refine lv_iload_n hx hb dJ3_checkIndex_8e157_4 rfl (lv_at hl 0 rfl) ?_
    refine lv_iload_n hx hb dJ3_checkIndex_8e157_5 rfl (lv_at hl 1 rfl) ?_
    refine lv_icmp_lt (tgt := 16) hx hb dJ3_checkIndex_8e157_6 (by decide) (fun c2 => ?_) (fun c2 => ?_)
    · rw [if_pos c2] at hf
      refine lv_iload_n hx hb dJ3_checkIndex_8e157_16 rfl (lv_at hl 0 rfl) ?_
      obtain rfl := Option.some.inj hf
      exact W.iret (v := p0) hx hb hr (fun t ht _ => ⟨⟨p0, (), rfl, rfl, by rw [ht]; exact hP, hD⟩, hS.F ht⟩) hS.2.2 dJ3_checkIndex_8e157_17
    · rw [if_neg c2] at hf
      exact J9  _ _ hP hD hS _ (lv_sub hl [0, 1, 2] rfl) hf
noncomputable def J15_checkIndex_7cf53_f (p0 : Int32) (p1 : Int32) : Option (Int32 × Unit) := (J3_checkIndex_8e157_f p0 p1).bind fun v1 => some (v1.1, ())
set_option maxHeartbeats 4000000 in
set_option maxRecDepth 100000 in
theorem c_J15_checkIndex_7cf53 (l : Launch) (D : va_G) (cy : Nat → ClassId) (sa : Nat → Nat) (z0 sz : Nat) (p0 : Int32) (p1 : Int32) (o : (Int32 × Unit)) (ho : J15_checkIndex_7cf53_f p0 p1 = some o) : Met l yJ15_checkIndex_7cf53 (ws_ yJ15_checkIndex_7cf53 cJ15_checkIndex_7cf53 2 (some .int)) ({ frames := 1, cells := 0, slots := 0, locals := 22 } : Room) (va_Pc [.int p0, .int p1] (Pr D cy sa z0 [] sz)) (QI D o (fun u => []) (va_A [] sz)) 0 0 (va_A [] sz) := by
  refine MT (Qf := QI D o (fun u => [])) (plainFor_of_name (by decide +kernel)) (Nat.le_of_ble_eq_true rfl) ?_
  intro p e s m below meth c A ls H hx hb hml hr hlocks hown hnm hts hG hA hZ hP hD hS hl
  have hK := hG.K
  have hl : lv_has ls 2 [(0, .int p0), (1, .int p1)] := hl
  have hf : J15_checkIndex_7cf53_f p0 p1 = some o := ho
  clear ho
  unfold J15_checkIndex_7cf53_f at hf
  refine lv_iload_n hx hb dJ15_checkIndex_7cf53_0 rfl (lv_at hl 0 rfl) ?_
  refine lv_iload_n hx hb dJ15_checkIndex_7cf53_1 rfl (lv_at hl 1 rfl) ?_
  refine lv_null hx hb dJ15_checkIndex_7cf53_2 ?_
  obtain ⟨v1, e2, hf⟩ := bind_some' hf
  refine cl_i (va_runS (As := [.int p0, .int p1, .null]) (rest := []) ⟨hx, hb, hml, hown, hts⟩ (c_J3_checkIndex_8e157 l D cy sa z0 H.size p0 p1 _ e2) (va_cwS 3 hts (lw_gS k_561 k_562 k_59 k_563) rfl rfl rfl (by decide +kernel) ⟨Nat.le_of_ble_eq_true rfl, Nat.le_of_ble_eq_true rfl⟩) (preS hG hS hZ hP hD [] rfl rfl) rfl rfl hl.1 rfl (lv_room (Nat.le_of_ble_eq_true rfl)) dJ15_checkIndex_7cf53_3 ⟨Nat.le_of_ble_eq_true rfl, Nat.le_of_ble_eq_true rfl⟩) hP hD hS hA [] rfl rfl rfl (fun H locs hP hD hS => ?_)
  have hP : va_P D vwCl [] H := hP
  have hD : va_D A [] := hD
  obtain rfl := Option.some.inj hf
  exact W.iret (v := v1.1) hx hb hr (fun t ht _ => ⟨⟨v1.1, (), rfl, rfl, by rw [ht]; exact hP, hD⟩, hS.F ht⟩) hS.2.2 dJ15_checkIndex_7cf53_6
noncomputable def Jx4a65c_size_8abf5_f (lsz : Int32) : Option (Int32 × Unit) := some (lsz, ())
set_option maxHeartbeats 4000000 in
set_option maxRecDepth 100000 in
theorem c_Jx4a65c_size_8abf5 (l : Launch) (D : va_G) (cy : Nat → ClassId) (sa : Nat → Nat) (z0 sz : Nat) (h0 : Nat) (modc : Int32) (h1 : Nat) (lsz : Int32) (row : Nat → Option Nat) (o : (Int32 × Unit)) (ho : Jx4a65c_size_8abf5_f lsz = some o) : Met l yJx4a65c_size_8abf5 (ws_ yJx4a65c_size_8abf5 cJx4a65c_size_8abf5 1 (some .int)) ({ frames := 0, cells := 0, slots := 0, locals := 0 } : Room) (va_Pc [.ref h0] (Pr D cy sa z0 [(h0, .inr (3, [.int modc, .ref h1, .int lsz])), (h1, .inl (cy 3, 10, .inr (.inr (.inr (.inr row)))))] sz)) (QI D o (fun u => [(h0, .inr (3, [.int modc, .ref h1, .int lsz])), (h1, .inl (cy 3, 10, .inr (.inr (.inr (.inr row)))))]) (va_A [(h0, .inr (3, [.int modc, .ref h1, .int lsz])), (h1, .inl (cy 3, 10, .inr (.inr (.inr (.inr row)))))] sz)) 0 0 (va_A [(h0, .inr (3, [.int modc, .ref h1, .int lsz])), (h1, .inl (cy 3, 10, .inr (.inr (.inr (.inr row)))))] sz) := by
  refine MT (Qf := QI D o (fun u => [(h0, .inr (3, [.int modc, .ref h1, .int lsz])), (h1, .inl (cy 3, 10, .inr (.inr (.inr (.inr row)))))])) (plainFor_of_name (by decide +kernel)) (Nat.le_of_ble_eq_true rfl) ?_
  intro p e s m below meth c A ls H hx hb hml hr hlocks hown hnm hts hG hA hZ hP hD hS hl
  have hK := hG.K
  have hl : lv_has ls 1 [(0, .ref h0)] := hl
  have hf : Jx4a65c_size_8abf5_f lsz = some o := ho
  clear ho
  unfold Jx4a65c_size_8abf5_f at hf
  refine lv_aload_n hx hb dJx4a65c_size_8abf5_0 rfl (lv_at hl 0 rfl) ?_
  refine va_get (D := D) (ci := 3) (v := .int lsz) (C := RJx4a65c) (T := TJx4a65c) (N := 3) hx hb hts in_Jx4a65c hown hK hP 0 rfl rfl 2 (by decide) (hts _ k_104) (fun _ h9 => h9) rfl dJx4a65c_size_8abf5_1 ?_
  obtain rfl := Option.some.inj hf
  exact W.iret (v := lsz) hx hb hr (fun t ht _ => ⟨⟨lsz, (), rfl, rfl, by rw [ht]; exact hP, hD⟩, hS.F ht⟩) hS.2.2 dJx4a65c_size_8abf5_4
noncomputable def Jx4a65c_elementData_915e3_f (row : Nat → Option Nat) (p0 : Int32) : Option (Option Nat × Unit) := if ¬ (p0 < 0 ∨ 10 ≤ p0.toNatClampNeg) then some ((row p0.toNatClampNeg), ()) else none
set_option maxHeartbeats 4000000 in
set_option maxRecDepth 100000 in
theorem c_Jx4a65c_elementData_915e3 (l : Launch) (D : va_G) (cy : Nat → ClassId) (sa : Nat → Nat) (z0 sz : Nat) (h0 : Nat) (modc : Int32) (h1 : Nat) (lsz : Int32) (row : Nat → Option Nat) (p0 : Int32) (o : (Option Nat × Unit)) (ho : Jx4a65c_elementData_915e3_f row p0 = some o) : Met l yJx4a65c_elementData_915e3 (ws_ yJx4a65c_elementData_915e3 cJx4a65c_elementData_915e3 2 (some (.object "java/lang/Object"))) ({ frames := 0, cells := 0, slots := 0, locals := 0 } : Room) (va_Pc [.ref h0, .int p0] (Pr D cy sa z0 [(h0, .inr (3, [.int modc, .ref h1, .int lsz])), (h1, .inl (cy 3, 10, .inr (.inr (.inr (.inr row)))))] sz)) (QQ D o (fun u => [(h0, .inr (3, [.int modc, .ref h1, .int lsz])), (h1, .inl (cy 3, 10, .inr (.inr (.inr (.inr row)))))]) (va_A [(h0, .inr (3, [.int modc, .ref h1, .int lsz])), (h1, .inl (cy 3, 10, .inr (.inr (.inr (.inr row)))))] sz)) 0 0 (va_A [(h0, .inr (3, [.int modc, .ref h1, .int lsz])), (h1, .inl (cy 3, 10, .inr (.inr (.inr (.inr row)))))] sz) := by
  refine MT (Qf := QQ D o (fun u => [(h0, .inr (3, [.int modc, .ref h1, .int lsz])), (h1, .inl (cy 3, 10, .inr (.inr (.inr (.inr row)))))])) (plainFor_of_name (by decide +kernel)) (Nat.le_of_ble_eq_true rfl) ?_
  intro p e s m below meth c A ls H hx hb hml hr hlocks hown hnm hts hG hA hZ hP hD hS hl
  have hK := hG.K
  have hl : lv_has ls 2 [(0, .ref h0), (1, .int p0)] := hl
  have hf : Jx4a65c_elementData_915e3_f row p0 = some o := ho
  clear ho
  unfold Jx4a65c_elementData_915e3_f at hf
  refine lv_aload_n hx hb dJx4a65c_elementData_915e3_0 rfl (lv_at hl 0 rfl) ?_
  refine va_get (D := D) (ci := 3) (v := .ref h1) (C := RJx4a65c) (T := TJx4a65c) (N := 3) hx hb hts in_Jx4a65c hown hK hP 0 rfl rfl 1 (by decide) (hts _ k_103) (fun _ h9 => h9) rfl dJx4a65c_elementData_915e3_1 ?_
  refine lv_iload_n hx hb dJx4a65c_elementData_915e3_4 rfl (lv_at hl 1 rfl) ?_
  obtain ⟨g1, hf⟩ := ite_some' hf
  refine va_aldq hx hb hK hP 1 3 rfl rfl g1 dJx4a65c_elementData_915e3_5 ?_
  obtain rfl := Option.some.inj hf
  exact W.aret (v := va_rf (row p0.toNatClampNeg)) hx hb hr (Or.inl ⟨_, rfl⟩) (va_rf_or _) (fun t ht _ => ⟨⟨(row p0.toNatClampNeg), (), rfl, rfl, by rw [ht]; exact hP, hD⟩, hS.F ht⟩) hS.2.2 dJx4a65c_elementData_915e3_6
noncomputable def Jx4a65c_get_915e3_f (lsz : Int32) (row : Nat → Option Nat) (p0 : Int32) : Option (Option Nat × Unit) := (J15_checkIndex_7cf53_f p0 lsz).bind fun v1 => (Jx4a65c_elementData_915e3_f row p0).bind fun v3 => some (v3.1, ())
set_option maxHeartbeats 4000000 in
set_option maxRecDepth 100000 in
theorem c_Jx4a65c_get_915e3 (l : Launch) (D : va_G) (cy : Nat → ClassId) (sa : Nat → Nat) (z0 sz : Nat) (h0 : Nat) (modc : Int32) (h1 : Nat) (lsz : Int32) (row : Nat → Option Nat) (p0 : Int32) (o : (Option Nat × Unit)) (ho : Jx4a65c_get_915e3_f lsz row p0 = some o) : Met l yJx4a65c_get_915e3 (ws_ yJx4a65c_get_915e3 cJx4a65c_get_915e3 2 (some (.object "java/lang/Object"))) ({ frames := 2, cells := 0, slots := 0, locals := 43 } : Room) (va_Pc [.ref h0, .int p0] (Pr D cy sa z0 [(h0, .inr (3, [.int modc, .ref h1, .int lsz])), (h1, .inl (cy 3, 10, .inr (.inr (.inr (.inr row)))))] sz)) (QQ D o (fun u => [(h0, .inr (3, [.int modc, .ref h1, .int lsz])), (h1, .inl (cy 3, 10, .inr (.inr (.inr (.inr row)))))]) (va_A [(h0, .inr (3, [.int modc, .ref h1, .int lsz])), (h1, .inl (cy 3, 10, .inr (.inr (.inr (.inr row)))))] sz)) 0 0 (va_A [(h0, .inr (3, [.int modc, .ref h1, .int lsz])), (h1, .inl (cy 3, 10, .inr (.inr (.inr (.inr row)))))] sz) := by
  refine MT (Qf := QQ D o (fun u => [(h0, .inr (3, [.int modc, .ref h1, .int lsz])), (h1, .inl (cy 3, 10, .inr (.inr (.inr (.inr row)))))])) (plainFor_of_name (by decide +kernel)) (Nat.le_of_ble_eq_true rfl) ?_
  intro p e s m below meth c A ls H hx hb hml hr hlocks hown hnm hts hG hA hZ hP hD hS hl
  have hK := hG.K
  have hl : lv_has ls 2 [(0, .ref h0), (1, .int p0)] := hl
  have hf : Jx4a65c_get_915e3_f lsz row p0 = some o := ho
  clear ho
  unfold Jx4a65c_get_915e3_f at hf
  refine lv_iload_n hx hb dJx4a65c_get_915e3_0 rfl (lv_at hl 1 rfl) ?_
  refine lv_aload_n hx hb dJx4a65c_get_915e3_1 rfl (lv_at hl 0 rfl) ?_
  refine va_get (D := D) (ci := 3) (v := .int lsz) (C := RJx4a65c) (T := TJx4a65c) (N := 3) hx hb hts in_Jx4a65c hown hK hP 0 rfl rfl 2 (by decide) (hts _ k_104) (fun _ h9 => h9) rfl dJx4a65c_get_915e3_2 ?_
  obtain ⟨v1, e2, hf⟩ := bind_some' hf
  refine cl_i (va_runS (As := [.int p0, .int lsz]) (rest := []) ⟨hx, hb, hml, hown, hts⟩ (c_J15_checkIndex_7cf53 l D cy sa z0 H.size p0 lsz _ e2) (va_cwS 2 hts (lw_gS k_558 k_559 k_58 k_560) rfl rfl rfl (by decide +kernel) ⟨Nat.le_of_ble_eq_true rfl, Nat.le_of_ble_eq_true rfl⟩) (preS hG hS hZ hP hD [] rfl rfl) rfl rfl hl.1 rfl (lv_room (Nat.le_of_ble_eq_true rfl)) dJx4a65c_get_915e3_5 ⟨Nat.le_of_ble_eq_true rfl, Nat.le_of_ble_eq_true rfl⟩) hP hD hS hA [] rfl rfl rfl (fun H locs hP hD hS => ?_)
  have hP : va_P D vwCl [(h0, .inr (3, [.int modc, .ref h1, .int lsz])), (h1, .inl (cy 3, 10, .inr (.inr (.inr (.inr row)))))] H := hP
  have hD : va_D A [(h0, .inr (3, [.int modc, .ref h1, .int lsz])), (h1, .inl (cy 3, 10, .inr (.inr (.inr (.inr row)))))] := hD
  refine lv_pop hx hb dJx4a65c_get_915e3_8 rfl ?_
  refine lv_aload_n hx hb dJx4a65c_get_915e3_9 rfl (lv_at hl 0 rfl) ?_
  refine lv_iload_n hx hb dJx4a65c_get_915e3_10 rfl (lv_at hl 1 rfl) ?_
  obtain ⟨v3, e4, hf⟩ := bind_some' hf
  refine cl_q (va_runV (As := [.int p0]) (rest := []) ⟨hx, hb, hml, hown, hts⟩ (c_Jx4a65c_elementData_915e3 l D cy sa z0 H.size h0 modc h1 lsz row p0 _ e4) (cwV 1 hts (lw_gV k_564 k_565 k_566 k_40 k_567) rfl rfl rfl (by decide +kernel) ⟨Nat.le_of_ble_eq_true rfl, Nat.le_of_ble_eq_true rfl⟩) (preV hG hS hZ hP hD [0, 1] rfl rfl (ci := 3) (q0 := 0) rfl rfl) rfl rfl hl.1 rfl (lv_room (Nat.le_of_ble_eq_true rfl)) dJx4a65c_get_915e3_11 ⟨Nat.le_of_ble_eq_true rfl, Nat.le_of_ble_eq_true rfl⟩) hP hD hS hA [0, 1] rfl rfl rfl (fun H locs hP hD hS => ?_)
  have hP : va_P D vwCl [(h0, .inr (3, [.int modc, .ref h1, .int lsz])), (h1, .inl (cy 3, 10, .inr (.inr (.inr (.inr row)))))] H := hP
  have hD : va_D A [(h0, .inr (3, [.int modc, .ref h1, .int lsz])), (h1, .inl (cy 3, 10, .inr (.inr (.inr (.inr row)))))] := hD
  obtain rfl := Option.some.inj hf
  exact W.aret (v := va_rf v3.1) hx hb hr (Or.inl ⟨_, rfl⟩) (va_rf_or _) (fun t ht _ => ⟨⟨v3.1, (), rfl, rfl, by rw [ht]; exact hP, hD⟩, hS.F ht⟩) hS.2.2 dJx4a65c_get_915e3_14
