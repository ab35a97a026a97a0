noncomputable def Jx4a65c_size_O_f (lsz : Int32) : Option (Int32 × Unit) := some (lsz, ())
set_option maxHeartbeats 4000000 in
set_option maxRecDepth 100000 in
theorem c_Jx4a65c_size_O (l : Launch) (D : va_G) (cy : Nat → ClassId) (sa : Nat → Nat) (z0 sz : Nat) (h0 : Nat) (modc : Int32) (h1 : Nat) (lsz : Int32) (o : (Int32 × Unit)) (ho : Jx4a65c_size_O_f lsz = some o) : Met l yJx4a65c_size_8abf5 (ws_ yJx4a65c_size_8abf5 cJx4a65c_size_8abf5 1 (some .int)) ({ frames := 0, cells := 0, slots := 0, locals := 0 } : Room) (va_Pc [.ref h0] (Pr D cy sa z0 [(h0, .inr (3, [.int modc, .ref h1, .int lsz]))] sz)) (QI D o (fun u => [(h0, .inr (3, [.int modc, .ref h1, .int lsz]))]) (va_A [(h0, .inr (3, [.int modc, .ref h1, .int lsz]))] sz)) 0 0 (va_A [(h0, .inr (3, [.int modc, .ref h1, .int lsz]))] sz) := by
  refine MT (Qf := QI D o (fun u => [(h0, .inr (3, [.int modc, .ref h1, .int lsz]))])) (plainFor_of_name (by decide +kernel)) (Nat.le_of_ble_eq_true rfl) ?_
  intro p e s m below meth c A ls H hx hb hml hr hlocks hown hnm hts hG hA hZ hP hD hS hl
  have hK := hG.K
  have hl : lv_has ls 1 [(0, .ref h0)] := hl
  have hf : Jx4a65c_size_O_f lsz = some o := ho
  clear ho
  unfold Jx4a65c_size_O_f at hf
  refine lv_aload_n hx hb dJx4a65c_size_8abf5_0 rfl (lv_at hl 0 rfl) ?_
  refine va_get (D := D) (ci := 3) (v := .int lsz) (C := RJx4a65c) (T := TJx4a65c) (N := 3) hx hb hts in_Jx4a65c hown hK hP 0 rfl rfl 2 (by decide) (hts _ k_104) (fun _ h9 => h9) rfl dJx4a65c_size_8abf5_1 ?_
  obtain rfl := Option.some.inj hf
  exact W.iret (v := lsz) hx hb hr (fun t ht _ => ⟨⟨lsz, (), rfl, rfl, by rw [ht]; exact hP, hD⟩, hS.F ht⟩) hS.2.2 dJx4a65c_size_8abf5_4
noncomputable def Jx4a65c_elementData_P_f (h1 : Nat) (L : List Nat) (K : Nat → Nat) (dr : Nat → Nat → Option Nat) (p0 : Int32) : Option (Option Nat × Unit) := if (h1 ∈ L ∧ K h1 = 3) then if ¬ (p0 < 0 ∨ 10 ≤ p0.toNatClampNeg) then some ((dr h1 p0.toNatClampNeg), ()) else none else none
set_option maxHeartbeats 4000000 in
set_option maxRecDepth 100000 in
theorem c_Jx4a65c_elementData_P (l : Launch) (D : va_G) (cy : Nat → ClassId) (sa : Nat → Nat) (z0 sz : Nat) (h0 : Nat) (modc : Int32) (h1 : Nat) (lsz : Int32) (L : List Nat) (K : Nat → Nat) (te : Nat → Int32) (le : Nat → Int32) (tb : Nat → Int32) (mb : Nat → Int64) (wr : Nat → Int64) (nu : Nat → Int32) (ro : Nat → Nat) (pn : Nat → Int32) (rw : Nat → Nat → Int32) (dr : Nat → Nat → Option Nat) (p0 : Int32) (o : (Option Nat × Unit)) (ho : Jx4a65c_elementData_P_f h1 L K dr p0 = some o) : Met l yJx4a65c_elementData_915e3 (ws_ yJx4a65c_elementData_915e3 cJx4a65c_elementData_915e3 2 (some (.object "java/lang/Object"))) ({ frames := 0, cells := 0, slots := 0, locals := 0 } : Room) (va_Pc [.ref h0, .int p0] (Pr D cy sa z0 (([(h0, .inr (3, [.int modc, .ref h1, .int lsz]))] : va_W) ++ va_pl L (plF cy K te le tb mb wr nu ro pn rw dr)) sz)) (QQ D o (fun u => (([(h0, .inr (3, [.int modc, .ref h1, .int lsz]))] : va_W) ++ va_pl L (plF cy K te le tb mb wr nu ro pn rw dr))) (va_A (([(h0, .inr (3, [.int modc, .ref h1, .int lsz]))] : va_W) ++ va_pl L (plF cy K te le tb mb wr nu ro pn rw dr)) sz)) 0 0 (va_A (([(h0, .inr (3, [.int modc, .ref h1, .int lsz]))] : va_W) ++ va_pl L (plF cy K te le tb mb wr nu ro pn rw dr)) sz) := by
  refine MT (Qf := QQ D o (fun u => (([(h0, .inr (3, [.int modc, .ref h1, .int lsz]))] : va_W) ++ va_pl L (plF cy K te le tb mb wr nu ro pn rw dr)))) (plainFor_of_name (by decide +kernel)) (Nat.le_of_ble_eq_true rfl) ?_
  intro p e s m below meth c A ls H hx hb hml hr hlocks hown hnm hts hG hA hZ hP hD hS hl
  have hK := hG.K
  have hl : lv_has ls 2 [(0, .ref h0), (1, .int p0)] := hl
  have hf : Jx4a65c_elementData_P_f h1 L K dr p0 = some o := ho
  clear ho
  unfold Jx4a65c_elementData_P_f at hf
  refine lv_aload_n hx hb dJx4a65c_elementData_915e3_0 rfl (lv_at hl 0 rfl) ?_
  refine va_get (D := D) (ci := 3) (v := .ref h1) (C := RJx4a65c) (T := TJx4a65c) (N := 3) hx hb hts in_Jx4a65c hown hK hP 0 rfl rfl 1 (by decide) (hts _ k_103) (fun _ h9 => h9) rfl dJx4a65c_elementData_915e3_1 ?_
  refine lv_iload_n hx hb dJx4a65c_elementData_915e3_4 rfl (lv_at hl 1 rfl) ?_
  obtain ⟨g1, hf⟩ := ite_some' hf
  obtain ⟨k2, e3⟩ := pl_3 (cy := cy) (te := te) (le := le) (tb := tb) (mb := mb) (wr := wr) (nu := nu) (ro := ro) (pn := pn) (rw := rw) (dr := dr) (X := [(h0, .inr (3, [.int modc, .ref h1, .int lsz]))]) g1.1 g1.2
  obtain ⟨g4, hf⟩ := ite_some' hf
  refine va_aldq hx hb hK hP k2 3 e3 rfl g4 dJx4a65c_elementData_915e3_5 ?_
  obtain rfl := Option.some.inj hf
  exact W.aret (v := va_rf (dr h1 p0.toNatClampNeg)) hx hb hr (Or.inl ⟨_, rfl⟩) (va_rf_or _) (fun t ht _ => ⟨⟨(dr h1 p0.toNatClampNeg), (), rfl, rfl, by rw [ht]; exact hP, hD⟩, hS.F ht⟩) hS.2.2 dJx4a65c_elementData_915e3_6
noncomputable def Jx4a65c_get_P_f (h1 : Nat) (lsz : Int32) (L : List Nat) (K : Nat → Nat) (dr : Nat → Nat → Option Nat) (p0 : Int32) : Option (Option Nat × Unit) := (J15_checkIndex_7cf53_f p0 lsz).bind fun v1 => (Jx4a65c_elementData_P_f h1 L K dr p0).bind fun v3 => some (v3.1, ())
set_option maxHeartbeats 4000000 in
set_option maxRecDepth 100000 in
theorem c_Jx4a65c_get_P (l : Launch) (D : va_G) (cy : Nat → ClassId) (sa : Nat → Nat) (z0 sz : Nat) (h0 : Nat) (modc : Int32) (h1 : Nat) (lsz : Int32) (L : List Nat) (K : Nat → Nat) (te : Nat → Int32) (le : Nat → Int32) (tb : Nat → Int32) (mb : Nat → Int64) (wr : Nat → Int64) (nu : Nat → Int32) (ro : Nat → Nat) (pn : Nat → Int32) (rw : Nat → Nat → Int32) (dr : Nat → Nat → Option Nat) (p0 : Int32) (o : (Option Nat × Unit)) (ho : Jx4a65c_get_P_f h1 lsz L K dr p0 = some o) : Met l yJx4a65c_get_915e3 (ws_ yJx4a65c_get_915e3 cJx4a65c_get_915e3 2 (some (.object "java/lang/Object"))) ({ frames := 2, cells := 0, slots := 0, locals := 43 } : Room) (va_Pc [.ref h0, .int p0] (Pr D cy sa z0 (([(h0, .inr (3, [.int modc, .ref h1, .int lsz]))] : va_W) ++ va_pl L (plF cy K te le tb mb wr nu ro pn rw dr)) sz)) (QQ D o (fun u => (([(h0, .inr (3, [.int modc, .ref h1, .int lsz]))] : va_W) ++ va_pl L (plF cy K te le tb mb wr nu ro pn rw dr))) (va_A (([(h0, .inr (3, [.int modc, .ref h1, .int lsz]))] : va_W) ++ va_pl L (plF cy K te le tb mb wr nu ro pn rw dr)) sz)) 0 0 (va_A (([(h0, .inr (3, [.int modc, .ref h1, .int lsz]))] : va_W) ++ va_pl L (plF cy K te le tb mb wr nu ro pn rw dr)) sz) := by
  refine MT (Qf := QQ D o (fun u => (([(h0, .inr (3, [.int modc, .ref h1, .int lsz]))] : va_W) ++ va_pl L (plF cy K te le tb mb wr nu ro pn rw dr)))) (plainFor_of_name (by decide +kernel)) (Nat.le_of_ble_eq_true rfl) ?_
  intro p e s m below meth c A ls H hx hb hml hr hlocks hown hnm hts hG hA hZ hP hD hS hl
  have hK := hG.K
  have hl : lv_has ls 2 [(0, .ref h0), (1, .int p0)] := hl
  have hf : Jx4a65c_get_P_f h1 lsz L K dr p0 = some o := ho
  clear ho
  unfold Jx4a65c_get_P_f at hf
  refine lv_iload_n hx hb dJx4a65c_get_915e3_0 rfl (lv_at hl 1 rfl) ?_
  refine lv_aload_n hx hb dJx4a65c_get_915e3_1 rfl (lv_at hl 0 rfl) ?_
  refine va_get (D := D) (ci := 3) (v := .int lsz) (C := RJx4a65c) (T := TJx4a65c) (N := 3) hx hb hts in_Jx4a65c hown hK hP 0 rfl rfl 2 (by decide) (hts _ k_104) (fun _ h9 => h9) rfl dJx4a65c_get_915e3_2 ?_
  obtain ⟨v1, e2, hf⟩ := bind_some' hf
  refine cl_i (va_runS (As := [.int p0, .int lsz]) (rest := []) ⟨hx, hb, hml, hown, hts⟩ (c_J15_checkIndex_7cf53 l D cy sa z0 H.size p0 lsz _ e2) (va_cwS 2 hts (lw_gS k_558 k_559 k_58 k_560) rfl rfl rfl (by decide +kernel) ⟨Nat.le_of_ble_eq_true rfl, Nat.le_of_ble_eq_true rfl⟩) (preS hG hS hZ hP hD [] rfl rfl) rfl rfl hl.1 rfl (lv_room (Nat.le_of_ble_eq_true rfl)) dJx4a65c_get_915e3_5 ⟨Nat.le_of_ble_eq_true rfl, Nat.le_of_ble_eq_true rfl⟩) hP hD hS hA [] rfl rfl rfl (fun H locs hP hD hS => ?_)
  have hP : va_P D vwCl (([(h0, .inr (3, [.int modc, .ref h1, .int lsz]))] : va_W) ++ va_pl L (plF cy K te le tb mb wr nu ro pn rw dr)) H := hP
  have hD : va_D A (([(h0, .inr (3, [.int modc, .ref h1, .int lsz]))] : va_W) ++ va_pl L (plF cy K te le tb mb wr nu ro pn rw dr)) := hD
  refine lv_pop hx hb dJx4a65c_get_915e3_8 rfl ?_
  refine lv_aload_n hx hb dJx4a65c_get_915e3_9 rfl (lv_at hl 0 rfl) ?_
  refine lv_iload_n hx hb dJx4a65c_get_915e3_10 rfl (lv_at hl 1 rfl) ?_
  obtain ⟨v3, e4, hf⟩ := bind_some' hf
  refine clP_q (va_runV (As := [.int p0]) (rest := []) ⟨hx, hb, hml, hown, hts⟩ (c_Jx4a65c_elementData_P l D cy sa z0 H.size h0 modc h1 lsz L K te le tb mb wr nu ro pn rw dr p0 _ e4) (cwV 1 hts (lw_gV k_564 k_565 k_566 k_40 k_567) rfl rfl rfl (by decide +kernel) ⟨Nat.le_of_ble_eq_true rfl, Nat.le_of_ble_eq_true rfl⟩) (preVP hG hS hZ hP hD [0] rfl rfl (ci := 3) (q0 := 0) rfl rfl) rfl rfl hl.1 rfl (lv_room (Nat.le_of_ble_eq_true rfl)) dJx4a65c_get_915e3_11 ⟨Nat.le_of_ble_eq_true rfl, Nat.le_of_ble_eq_true rfl⟩) hP hD hS hA [0] rfl rfl rfl (fun H locs hP hD hS => ?_)
  have hP : va_P D vwCl (([(h0, .inr (3, [.int modc, .ref h1, .int lsz]))] : va_W) ++ va_pl L (plF cy K te le tb mb wr nu ro pn rw dr)) H := hP
  have hD : va_D A (([(h0, .inr (3, [.int modc, .ref h1, .int lsz]))] : va_W) ++ va_pl L (plF cy K te le tb mb wr nu ro pn rw dr)) := hD
  obtain rfl := Option.some.inj hf
  exact W.aret (v := va_rf v3.1) hx hb hr (Or.inl ⟨_, rfl⟩) (va_rf_or _) (fun t ht _ => ⟨⟨v3.1, (), rfl, rfl, by rw [ht]; exact hP, hD⟩, hS.F ht⟩) hS.2.2 dJx4a65c_get_915e3_14
