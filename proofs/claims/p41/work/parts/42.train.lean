noncomputable def X7_toothCount_f (w0 : Nat) (L : List Nat) (K : Nat → Nat) (te : Nat → Int32) : Option (Int32 × Unit) := if (w0 ∈ L ∧ K w0 = 0) then some ((te w0), ()) else none
set_option maxHeartbeats 4000000 in
set_option maxRecDepth 100000 in
theorem c_X7_toothCount (l : Launch) (D : va_G) (cy : Nat → ClassId) (sa : Nat → Nat) (z0 sz : Nat) (w0 : Nat) (L : List Nat) (K : Nat → Nat) (te : Nat → Int32) (le : Nat → Int32) (tb : Nat → Int32) (mb : Nat → Int64) (wr : Nat → Int64) (nu : Nat → Int32) (ro : Nat → Nat) (pn : Nat → Int32) (rw : Nat → Nat → Int32) (dr : Nat → Nat → Option Nat) (o : (Int32 × Unit)) (ho : X7_toothCount_f w0 L K te = some o) : Met l yX7_toothCount (ws_ yX7_toothCount cX7_toothCount 1 (some .int)) ({ frames := 0, cells := 0, slots := 0, locals := 0 } : Room) (va_Pc [.ref w0] (Pr D cy sa z0 (([] : va_W) ++ va_pl L (plF cy K te le tb mb wr nu ro pn rw dr)) sz)) (QI D o (fun u => (([] : va_W) ++ va_pl L (plF cy K te le tb mb wr nu ro pn rw dr))) (va_A (([] : va_W) ++ va_pl L (plF cy K te le tb mb wr nu ro pn rw dr)) sz)) 0 0 (va_A (([] : va_W) ++ va_pl L (plF cy K te le tb mb wr nu ro pn rw dr)) sz) := by
  refine MT (Qf := QI D o (fun u => (([] : va_W) ++ va_pl L (plF cy K te le tb mb wr nu ro pn rw dr)))) (plainFor_of_name (by decide +kernel)) (Nat.le_of_ble_eq_true rfl) ?_
  intro p e s m below meth c A ls H hx hb hml hr hlocks hown hnm hts hG hA hZ hP hD hS hl
  have hK := hG.K
  have hl : lv_has ls 1 [(0, .ref w0)] := hl
  have hf : X7_toothCount_f w0 L K te = some o := ho
  clear ho
  unfold X7_toothCount_f at hf
  refine lv_aload_n hx hb dX7_toothCount_0 rfl (lv_at hl 0 rfl) ?_
  obtain ⟨g1, hf⟩ := ite_some' hf
  obtain ⟨k2, e3⟩ := pl_0 (cy := cy) (te := te) (le := le) (tb := tb) (mb := mb) (wr := wr) (nu := nu) (ro := ro) (pn := pn) (rw := rw) (dr := dr) (X := []) g1.1 g1.2
  refine va_get (D := D) (ci := 11) (v := .int (te w0)) (C := RX7) (T := TX7) (N := 5) hx hb hts in_X7 hown hK hP k2 e3 rfl 0 (by decide) (hts _ k_121) (fun _ h9 => h9) rfl dX7_toothCount_1 ?_
  obtain rfl := Option.some.inj hf
  exact W.iret (v := (te w0)) hx hb hr (fun t ht _ => ⟨⟨(te w0), (), rfl, rfl, by rw [ht]; exact hP, hD⟩, hS.F ht⟩) hS.2.2 dX7_toothCount_4
noncomputable def X7_leafCount_f (w0 : Nat) (L : List Nat) (K : Nat → Nat) (le : Nat → Int32) : Option (Int32 × Unit) := if (w0 ∈ L ∧ K w0 = 0) then some ((le w0), ()) else none
set_option maxHeartbeats 4000000 in
set_option maxRecDepth 100000 in
theorem c_X7_leafCount (l : Launch) (D : va_G) (cy : Nat → ClassId) (sa : Nat → Nat) (z0 sz : Nat) (w0 : Nat) (L : List Nat) (K : Nat → Nat) (te : Nat → Int32) (le : Nat → Int32) (tb : Nat → Int32) (mb : Nat → Int64) (wr : Nat → Int64) (nu : Nat → Int32) (ro : Nat → Nat) (pn : Nat → Int32) (rw : Nat → Nat → Int32) (dr : Nat → Nat → Option Nat) (o : (Int32 × Unit)) (ho : X7_leafCount_f w0 L K le = some o) : Met l yX7_leafCount (ws_ yX7_leafCount cX7_leafCount 1 (some .int)) ({ frames := 0, cells := 0, slots := 0, locals := 0 } : Room) (va_Pc [.ref w0] (Pr D cy sa z0 (([] : va_W) ++ va_pl L (plF cy K te le tb mb wr nu ro pn rw dr)) sz)) (QI D o (fun u => (([] : va_W) ++ va_pl L (plF cy K te le tb mb wr nu ro pn rw dr))) (va_A (([] : va_W) ++ va_pl L (plF cy K te le tb mb wr nu ro pn rw dr)) sz)) 0 0 (va_A (([] : va_W) ++ va_pl L (plF cy K te le tb mb wr nu ro pn rw dr)) sz) := by
  refine MT (Qf := QI D o (fun u => (([] : va_W) ++ va_pl L (plF cy K te le tb mb wr nu ro pn rw dr)))) (plainFor_of_name (by decide +kernel)) (Nat.le_of_ble_eq_true rfl) ?_
  intro p e s m below meth c A ls H hx hb hml hr hlocks hown hnm hts hG hA hZ hP hD hS hl
  have hK := hG.K
  have hl : lv_has ls 1 [(0, .ref w0)] := hl
  have hf : X7_leafCount_f w0 L K le = some o := ho
  clear ho
  unfold X7_leafCount_f at hf
  refine lv_aload_n hx hb dX7_leafCount_0 rfl (lv_at hl 0 rfl) ?_
  obtain ⟨g1, hf⟩ := ite_some' hf
  obtain ⟨k2, e3⟩ := pl_0 (cy := cy) (te := te) (le := le) (tb := tb) (mb := mb) (wr := wr) (nu := nu) (ro := ro) (pn := pn) (rw := rw) (dr := dr) (X := []) g1.1 g1.2
  refine va_get (D := D) (ci := 11) (v := .int (le w0)) (C := RX7) (T := TX7) (N := 5) hx hb hts in_X7 hown hK hP k2 e3 rfl 1 (by decide) (hts _ k_122) (fun _ h9 => h9) rfl dX7_leafCount_1 ?_
  obtain rfl := Option.some.inj hf
  exact W.iret (v := (le w0)) hx hb hr (fun t ht _ => ⟨⟨(le w0), (), rfl, rfl, by rw [ht]; exact hP, hD⟩, hS.F ht⟩) hS.2.2 dX7_leafCount_4
noncomputable def X7_movedWhen_f (w0 : Nat) (L : List Nat) (K : Nat → Nat) (le : Nat → Int32) (tb : Nat → Int32) (mb : Nat → Int64) (p0 : Int64) : Option (Int64 × Unit) := if (w0 ∈ L ∧ K w0 = 0) then (X8_wholePart_f ((p0 - (mb w0)) * (le w0).toInt64) ((tb w0).toInt64)).bind fun v8 => some (v8.1, ()) else none
set_option maxHeartbeats 4000000 in
set_option maxRecDepth 100000 in
theorem c_X7_movedWhen (l : Launch) (D : va_G) (cy : Nat → ClassId) (sa : Nat → Nat) (z0 sz : Nat) (w0 : Nat) (L : List Nat) (K : Nat → Nat) (te : Nat → Int32) (le : Nat → Int32) (tb : Nat → Int32) (mb : Nat → Int64) (wr : Nat → Int64) (nu : Nat → Int32) (ro : Nat → Nat) (pn : Nat → Int32) (rw : Nat → Nat → Int32) (dr : Nat → Nat → Option Nat) (p0 : Int64) (o : (Int64 × Unit)) (ho : X7_movedWhen_f w0 L K le tb mb p0 = some o) : Met l yX7_movedWhen (ws_ yX7_movedWhen cX7_movedWhen 3 (some .long)) ({ frames := 2, cells := 0, slots := 0, locals := 48 } : Room) (va_Pc [.ref w0, .long p0] (Pr D cy sa z0 (([] : va_W) ++ va_pl L (plF cy K te le tb mb wr nu ro pn rw dr)) sz)) (QL D o (fun u => (([] : va_W) ++ va_pl L (plF cy K te le tb mb wr nu ro pn rw dr))) (va_A (([] : va_W) ++ va_pl L (plF cy K te le tb mb wr nu ro pn rw dr)) sz)) 0 0 (va_A (([] : va_W) ++ va_pl L (plF cy K te le tb mb wr nu ro pn rw dr)) sz) := by
  refine MT (Qf := QL D o (fun u => (([] : va_W) ++ va_pl L (plF cy K te le tb mb wr nu ro pn rw dr)))) (plainFor_of_name (by decide +kernel)) (Nat.le_of_ble_eq_true rfl) ?_
  intro p e s m below meth c A ls H hx hb hml hr hlocks hown hnm hts hG hA hZ hP hD hS hl
  have hK := hG.K
  have hl : lv_has ls 3 [(0, .ref w0), (1, .long p0)] := hl
  have hf : X7_movedWhen_f w0 L K le tb mb p0 = some o := ho
  clear ho
  unfold X7_movedWhen_f at hf
  refine lv_lload_n hx hb dX7_movedWhen_0 rfl (lv_at hl 1 rfl) ?_
  refine lv_aload_n hx hb dX7_movedWhen_1 rfl (lv_at hl 0 rfl) ?_
  obtain ⟨g1, hf⟩ := ite_some' hf
  obtain ⟨k2, e3⟩ := pl_0 (cy := cy) (te := te) (le := le) (tb := tb) (mb := mb) (wr := wr) (nu := nu) (ro := ro) (pn := pn) (rw := rw) (dr := dr) (X := []) g1.1 g1.2
  refine va_get (D := D) (ci := 11) (v := .long (mb w0)) (C := RX7) (T := TX7) (N := 5) hx hb hts in_X7 hown hK hP k2 e3 rfl 3 (by decide) (hts _ k_124) (fun _ h9 => h9) rfl dX7_movedWhen_2 ?_
  refine lv_lsub hx hb dX7_movedWhen_5 ?_
  refine lv_aload_n hx hb dX7_movedWhen_6 rfl (lv_at hl 0 rfl) ?_
  obtain ⟨k4, e5⟩ := pl_0 (cy := cy) (te := te) (le := le) (tb := tb) (mb := mb) (wr := wr) (nu := nu) (ro := ro) (pn := pn) (rw := rw) (dr := dr) (X := []) g1.1 g1.2
  refine va_get (D := D) (ci := 11) (v := .int (le w0)) (C := RX7) (T := TX7) (N := 5) hx hb hts in_X7 hown hK hP k4 e5 rfl 1 (by decide) (hts _ k_122) (fun _ h9 => h9) rfl dX7_movedWhen_7 ?_
  refine lv_i2l hx hb dX7_movedWhen_10 rfl ?_
  refine lv_lmul hx hb dX7_movedWhen_11 ?_
  refine lv_aload_n hx hb dX7_movedWhen_12 rfl (lv_at hl 0 rfl) ?_
  obtain ⟨k6, e7⟩ := pl_0 (cy := cy) (te := te) (le := le) (tb := tb) (mb := mb) (wr := wr) (nu := nu) (ro := ro) (pn := pn) (rw := rw) (dr := dr) (X := []) g1.1 g1.2
  refine va_get (D := D) (ci := 11) (v := .int (tb w0)) (C := RX7) (T := TX7) (N := 5) hx hb hts in_X7 hown hK hP k6 e7 rfl 2 (by decide) (hts _ k_123) (fun _ h9 => h9) rfl dX7_movedWhen_13 ?_
  refine lv_i2l hx hb dX7_movedWhen_16 rfl ?_
  obtain ⟨v8, e9, hf⟩ := bind_some' hf
  refine cl_l (va_runSN (As := [.long ((p0 - (mb w0)) * (le w0).toInt64), .long (tb w0).toInt64]) (rest := []) ⟨hx, hb, hml, hown, hts⟩ (c_X8_wholePart l D cy sa z0 H.size ((p0 - (mb w0)) * (le w0).toInt64) ((tb w0).toInt64) _ e9) ⟨va_cnB 2 hts (lw_gd k_582) rfl rfl rfl (amb_N (w := Cond.methodLinkNest RX7 23 yX8_wholePart RX8) hG (List.mem_of_getElem? (i := 580) (by decide +kernel)) rfl rfl) (hts _ k_36) (by decide +kernel) ⟨Nat.le_of_ble_eq_true rfl, Nat.le_of_ble_eq_true rfl⟩, hts _ k_581, trivial⟩ (preS hG hS hZ hP hD [] rfl rfl) rfl rfl hl.1 rfl (lv_room (Nat.le_of_ble_eq_true rfl)) dX7_movedWhen_17 ⟨Nat.le_of_ble_eq_true rfl, Nat.le_of_ble_eq_true rfl⟩) hP hD hS hA [] rfl rfl rfl (fun H locs hP hD hS => ?_)
  have hP : va_P D vwCl (([] : va_W) ++ va_pl L (plF cy K te le tb mb wr nu ro pn rw dr)) H := hP
  have hD : va_D A (([] : va_W) ++ va_pl L (plF cy K te le tb mb wr nu ro pn rw dr)) := hD
  obtain rfl := Option.some.inj hf
  exact W.lret (v := v8.1) hx hb hr (fun t ht _ => ⟨⟨v8.1, (), rfl, rfl, by rw [ht]; exact hP, hD⟩, hS.F ht⟩) hS.2.2 dX7_movedWhen_20
noncomputable def X7_startWalk_f (w0 : Nat) (L : List Nat) (K : Nat → Nat) (le : Nat → Int32) (tb : Nat → Int32) (mb : Nat → Int64) (wr : Nat → Int64) (p0 : Int64) : Option ((Nat → Int64)) := if (w0 ∈ L ∧ K w0 = 0) then (X7_movedWhen_f w0 L K le tb mb p0).bind fun v8 => some (va_up wr w0 (((p0 - (mb w0)) * (le w0).toInt64) - (v8.1 * (tb w0).toInt64))) else none
set_option maxHeartbeats 4000000 in
set_option maxRecDepth 100000 in
theorem c_X7_startWalk (l : Launch) (D : va_G) (cy : Nat → ClassId) (sa : Nat → Nat) (z0 sz : Nat) (w0 : Nat) (L : List Nat) (K : Nat → Nat) (te : Nat → Int32) (le : Nat → Int32) (tb : Nat → Int32) (mb : Nat → Int64) (wr : Nat → Int64) (nu : Nat → Int32) (ro : Nat → Nat) (pn : Nat → Int32) (rw : Nat → Nat → Int32) (dr : Nat → Nat → Option Nat) (p0 : Int64) (o : ((Nat → Int64))) (ho : X7_startWalk_f w0 L K le tb mb wr p0 = some o) : Met l yX7_startWalk (ws_ yX7_startWalk cX7_startWalk 3 none) ({ frames := 3, cells := 0, slots := 0, locals := 70 } : Room) (va_Pc [.ref w0, .long p0] (Pr D cy sa z0 (([] : va_W) ++ va_pl L (plF cy K te le tb mb wr nu ro pn rw dr)) sz)) (QV D o (fun u => (([] : va_W) ++ va_pl L (plF cy K te le tb mb u nu ro pn rw dr))) (va_A (([] : va_W) ++ va_pl L (plF cy K te le tb mb wr nu ro pn rw dr)) sz)) 0 0 (va_A (([] : va_W) ++ va_pl L (plF cy K te le tb mb wr nu ro pn rw dr)) sz) := by
  refine MT (Qf := QV D o (fun u => (([] : va_W) ++ va_pl L (plF cy K te le tb mb u nu ro pn rw dr)))) (plainFor_of_name (by decide +kernel)) (Nat.le_of_ble_eq_true rfl) ?_
  intro p e s m below meth c A ls H hx hb hml hr hlocks hown hnm hts hG hA hZ hP hD hS hl
  have hK := hG.K
  have hl : lv_has ls 3 [(0, .ref w0), (1, .long p0)] := hl
  have hf : X7_startWalk_f w0 L K le tb mb wr p0 = some o := ho
  clear ho
  unfold X7_startWalk_f at hf
  refine lv_aload_n hx hb dX7_startWalk_0 rfl (lv_at hl 0 rfl) ?_
  refine lv_lload_n hx hb dX7_startWalk_1 rfl (lv_at hl 1 rfl) ?_
  refine lv_aload_n hx hb dX7_startWalk_2 rfl (lv_at hl 0 rfl) ?_
  obtain ⟨g1, hf⟩ := ite_some' hf
  obtain ⟨k2, e3⟩ := pl_0 (cy := cy) (te := te) (le := le) (tb := tb) (mb := mb) (wr := wr) (nu := nu) (ro := ro) (pn := pn) (rw := rw) (dr := dr) (X := []) g1.1 g1.2
  refine va_get (D := D) (ci := 11) (v := .long (mb w0)) (C := RX7) (T := TX7) (N := 5) hx hb hts in_X7 hown hK hP k2 e3 rfl 3 (by decide) (hts _ k_124) (fun _ h9 => h9) rfl dX7_startWalk_3 ?_
  refine lv_lsub hx hb dX7_startWalk_6 ?_
  refine lv_aload_n hx hb dX7_startWalk_7 rfl (lv_at hl 0 rfl) ?_
  obtain ⟨k4, e5⟩ := pl_0 (cy := cy) (te := te) (le := le) (tb := tb) (mb := mb) (wr := wr) (nu := nu) (ro := ro) (pn := pn) (rw := rw) (dr := dr) (X := []) g1.1 g1.2
  refine va_get (D := D) (ci := 11) (v := .int (le w0)) (C := RX7) (T := TX7) (N := 5) hx hb hts in_X7 hown hK hP k4 e5 rfl 1 (by decide) (hts _ k_122) (fun _ h9 => h9) rfl dX7_startWalk_8 ?_
  refine lv_i2l hx hb dX7_startWalk_11 rfl ?_
  refine lv_lmul hx hb dX7_startWalk_12 ?_
  refine lv_aload_n hx hb dX7_startWalk_13 rfl (lv_at hl 0 rfl) ?_
  refine lv_lload_n hx hb dX7_startWalk_14 rfl (lv_at hl 1 rfl) ?_
  obtain ⟨k6, e7⟩ := pl_0 (cy := cy) (te := te) (le := le) (tb := tb) (mb := mb) (wr := wr) (nu := nu) (ro := ro) (pn := pn) (rw := rw) (dr := dr) (X := []) g1.1 g1.2
  obtain ⟨v8, e9, hf⟩ := bind_some' hf
  refine clP_l (va_runV (As := [.long p0]) (rest := [.long ((p0 - (mb w0)) * (le w0).toInt64), .ref w0]) ⟨hx, hb, hml, hown, hts⟩ (c_X7_movedWhen l D cy sa z0 H.size w0 L K te le tb mb wr nu ro pn rw dr p0 _ e9) (cwV 1 hts (lw_gV k_1651 k_577 k_578 k_41 k_579) rfl rfl rfl (by decide +kernel) ⟨Nat.le_of_ble_eq_true rfl, Nat.le_of_ble_eq_true rfl⟩) (preVP hG hS hZ hP hD [] rfl rfl (ci := 9) (q0 := k6) rfl e7) rfl rfl hl.1 rfl (lv_room (Nat.le_of_ble_eq_true rfl)) dX7_startWalk_15 ⟨Nat.le_of_ble_eq_true rfl, Nat.le_of_ble_eq_true rfl⟩) hP hD hS hA [] rfl rfl rfl (fun H locs hP hD hS => ?_)
  have hP : va_P D vwCl (([] : va_W) ++ va_pl L (plF cy K te le tb mb wr nu ro pn rw dr)) H := hP
  have hD : va_D A (([] : va_W) ++ va_pl L (plF cy K te le tb mb wr nu ro pn rw dr)) := hD
  refine lv_aload_n hx hb dX7_startWalk_18 rfl (lv_at hl 0 rfl) ?_
  obtain ⟨k10, e11⟩ := pl_0 (cy := cy) (te := te) (le := le) (tb := tb) (mb := mb) (wr := wr) (nu := nu) (ro := ro) (pn := pn) (rw := rw) (dr := dr) (X := []) g1.1 g1.2
  refine va_get (D := D) (ci := 11) (v := .int (tb w0)) (C := RX7) (T := TX7) (N := 5) hx hb hts in_X7 hown hK hP k10 e11 rfl 2 (by decide) (hts _ k_123) (fun _ h9 => h9) rfl dX7_startWalk_19 ?_
  refine lv_i2l hx hb dX7_startWalk_22 rfl ?_
  refine lv_lmul hx hb dX7_startWalk_23 ?_
  refine lv_lsub hx hb dX7_startWalk_24 ?_
  obtain ⟨k12, e13⟩ := pl_0 (cy := cy) (te := te) (le := le) (tb := tb) (mb := mb) (wr := wr) (nu := nu) (ro := ro) (pn := pn) (rw := rw) (dr := dr) (X := []) g1.1 g1.2
  have e9 := pl_put0 (v := (((p0 - (mb w0)) * (le w0).toInt64) - (v8.1 * (tb w0).toInt64))) hD g1.1 g1.2 e13
  refine va_put (D := D) (ci := 11) (v := .long (((p0 - (mb w0)) * (le w0).toInt64) - (v8.1 * (tb w0).toInt64))) (ty := .long) (C := RX7) (T := TX7) (N := 5) hx hb hts in_X7 tyX7 tyX7_ok nmX7 hown hK hP hD hS k12 e13 rfl 4 (by decide) (hts _ k_125) (fun _ h9 => h9) rfl (by decide +kernel) rfl rfl (Nat.le_of_ble_eq_true rfl) dX7_startWalk_25 (fun H locs hP hD hS => ?_)
  have hP : va_P D vwCl (([] : va_W) ++ va_pl L (plF cy K te le tb mb (va_up wr w0 (((p0 - (mb w0)) * (le w0).toInt64) - (v8.1 * (tb w0).toInt64))) nu ro pn rw dr)) H := e9 ▸ hP
  have hD : va_D A (([] : va_W) ++ va_pl L (plF cy K te le tb mb (va_up wr w0 (((p0 - (mb w0)) * (le w0).toInt64) - (v8.1 * (tb w0).toInt64))) nu ro pn rw dr)) := e9 ▸ hD
  obtain rfl := Option.some.inj hf
  exact W.vret hx hb hr (fun t ht _ => ⟨⟨(va_up wr w0 (((p0 - (mb w0)) * (le w0).toInt64) - (v8.1 * (tb w0).toInt64))), rfl, rfl, by rw [ht]; exact hP, hD⟩, hS.F ht⟩) hS.2.2 dX7_startWalk_28
noncomputable def X7_walk_f (w0 : Nat) (L : List Nat) (K : Nat → Nat) (le : Nat → Int32) (tb : Nat → Int32) (wr : Nat → Int64) (p0 : Int64) : Option (Int64 × (Nat → Int64)) := if (w0 ∈ L ∧ K w0 = 0) then (X8_wholePart_f ((va_up wr w0 ((wr w0) + (p0 * (le w0).toInt64))) w0) ((tb w0).toInt64)).bind fun v12 => some (v12.1, (va_up (va_up wr w0 ((wr w0) + (p0 * (le w0).toInt64))) w0 (((va_up wr w0 ((wr w0) + (p0 * (le w0).toInt64))) w0) - (v12.1 * (tb w0).toInt64)))) else none
set_option maxHeartbeats 4000000 in
set_option maxRecDepth 100000 in
theorem c_X7_walk (l : Launch) (D : va_G) (cy : Nat → ClassId) (sa : Nat → Nat) (z0 sz : Nat) (w0 : Nat) (L : List Nat) (K : Nat → Nat) (te : Nat → Int32) (le : Nat → Int32) (tb : Nat → Int32) (mb : Nat → Int64) (wr : Nat → Int64) (nu : Nat → Int32) (ro : Nat → Nat) (pn : Nat → Int32) (rw : Nat → Nat → Int32) (dr : Nat → Nat → Option Nat) (p0 : Int64) (o : (Int64 × (Nat → Int64))) (ho : X7_walk_f w0 L K le tb wr p0 = some o) : Met l yX7_walk (ws_ yX7_walk cX7_walk 5 (some .long)) ({ frames := 2, cells := 0, slots := 0, locals := 48 } : Room) (va_Pc [.ref w0, .long p0] (Pr D cy sa z0 (([] : va_W) ++ va_pl L (plF cy K te le tb mb wr nu ro pn rw dr)) sz)) (QL D o (fun u => (([] : va_W) ++ va_pl L (plF cy K te le tb mb u nu ro pn rw dr))) (va_A (([] : va_W) ++ va_pl L (plF cy K te le tb mb wr nu ro pn rw dr)) sz)) 0 0 (va_A (([] : va_W) ++ va_pl L (plF cy K te le tb mb wr nu ro pn rw dr)) sz) := by
  refine MT (Qf := QL D o (fun u => (([] : va_W) ++ va_pl L (plF cy K te le tb mb u nu ro pn rw dr)))) (plainFor_of_name (by decide +kernel)) (Nat.le_of_ble_eq_true rfl) ?_
  intro p e s m below meth c A ls H hx hb hml hr hlocks hown hnm hts hG hA hZ hP hD hS hl
  have hK := hG.K
  have hl : lv_has ls 5 [(0, .ref w0), (1, .long p0)] := hl
  have hf : X7_walk_f w0 L K le tb wr p0 = some o := ho
  clear ho
  unfold X7_walk_f at hf
  refine lv_aload_n hx hb dX7_walk_0 rfl (lv_at hl 0 rfl) ?_
  refine lv_dup hx hb dX7_walk_1 rfl ?_
  obtain ⟨g1, hf⟩ := ite_some' hf
  obtain ⟨k2, e3⟩ := pl_0 (cy := cy) (te := te) (le := le) (tb := tb) (mb := mb) (wr := wr) (nu := nu) (ro := ro) (pn := pn) (rw := rw) (dr := dr) (X := []) g1.1 g1.2
  refine va_get (D := D) (ci := 11) (v := .long (wr w0)) (C := RX7) (T := TX7) (N := 5) hx hb hts in_X7 hown hK hP k2 e3 rfl 4 (by decide) (hts _ k_125) (fun _ h9 => h9) rfl dX7_walk_2 ?_
  refine lv_lload_n hx hb dX7_walk_5 rfl (lv_at hl 1 rfl) ?_
  refine lv_aload_n hx hb dX7_walk_6 rfl (lv_at hl 0 rfl) ?_
  obtain ⟨k4, e5⟩ := pl_0 (cy := cy) (te := te) (le := le) (tb := tb) (mb := mb) (wr := wr) (nu := nu) (ro := ro) (pn := pn) (rw := rw) (dr := dr) (X := []) g1.1 g1.2
  refine va_get (D := D) (ci := 11) (v := .int (le w0)) (C := RX7) (T := TX7) (N := 5) hx hb hts in_X7 hown hK hP k4 e5 rfl 1 (by decide) (hts _ k_122) (fun _ h9 => h9) rfl dX7_walk_7 ?_
  refine lv_i2l hx hb dX7_walk_10 rfl ?_
  refine lv_lmul hx hb dX7_walk_11 ?_
  refine lv_ladd hx hb dX7_walk_12 ?_
  obtain ⟨k6, e7⟩ := pl_0 (cy := cy) (te := te) (le := le) (tb := tb) (mb := mb) (wr := wr) (nu := nu) (ro := ro) (pn := pn) (rw := rw) (dr := dr) (X := []) g1.1 g1.2
  have e9 := pl_put0 (v := ((wr w0) + (p0 * (le w0).toInt64))) hD g1.1 g1.2 e7
  refine va_put (D := D) (ci := 11) (v := .long ((wr w0) + (p0 * (le w0).toInt64))) (ty := .long) (C := RX7) (T := TX7) (N := 5) hx hb hts in_X7 tyX7 tyX7_ok nmX7 hown hK hP hD hS k6 e7 rfl 4 (by decide) (hts _ k_125) (fun _ h9 => h9) rfl (by decide +kernel) rfl rfl (Nat.le_of_ble_eq_true rfl) dX7_walk_13 (fun H locs hP hD hS => ?_)
  have hP : va_P D vwCl (([] : va_W) ++ va_pl L (plF cy K te le tb mb (va_up wr w0 ((wr w0) + (p0 * (le w0).toInt64))) nu ro pn rw dr)) H := e9 ▸ hP
  have hD : va_D A (([] : va_W) ++ va_pl L (plF cy K te le tb mb (va_up wr w0 ((wr w0) + (p0 * (le w0).toInt64))) nu ro pn rw dr)) := e9 ▸ hD
  refine lv_aload_n hx hb dX7_walk_16 rfl (lv_at hl 0 rfl) ?_
  obtain ⟨k8, e9⟩ := pl_0 (cy := cy) (te := te) (le := le) (tb := tb) (mb := mb) (wr := (va_up wr w0 ((wr w0) + (p0 * (le w0).toInt64)))) (nu := nu) (ro := ro) (pn := pn) (rw := rw) (dr := dr) (X := []) g1.1 g1.2
  refine va_get (D := D) (ci := 11) (v := .long ((va_up wr w0 ((wr w0) + (p0 * (le w0).toInt64))) w0)) (C := RX7) (T := TX7) (N := 5) hx hb hts in_X7 hown hK hP k8 e9 rfl 4 (by decide) (hts _ k_125) (fun _ h9 => h9) rfl dX7_walk_17 ?_
  refine lv_aload_n hx hb dX7_walk_20 rfl (lv_at hl 0 rfl) ?_
  obtain ⟨k10, e11⟩ := pl_0 (cy := cy) (te := te) (le := le) (tb := tb) (mb := mb) (wr := (va_up wr w0 ((wr w0) + (p0 * (le w0).toInt64)))) (nu := nu) (ro := ro) (pn := pn) (rw := rw) (dr := dr) (X := []) g1.1 g1.2
  refine va_get (D := D) (ci := 11) (v := .int (tb w0)) (C := RX7) (T := TX7) (N := 5) hx hb hts in_X7 hown hK hP k10 e11 rfl 2 (by decide) (hts _ k_123) (fun _ h9 => h9) rfl dX7_walk_21 ?_
  refine lv_i2l hx hb dX7_walk_24 rfl ?_
  obtain ⟨v12, e13, hf⟩ := bind_some' hf
  refine cl_l (va_runSN (As := [.long ((va_up wr w0 ((wr w0) + (p0 * (le w0).toInt64))) w0), .long (tb w0).toInt64]) (rest := []) ⟨hx, hb, hml, hown, hts⟩ (c_X8_wholePart l D cy sa z0 H.size ((va_up wr w0 ((wr w0) + (p0 * (le w0).toInt64))) w0) ((tb w0).toInt64) _ e13) ⟨va_cnB 2 hts (lw_gd k_582) rfl rfl rfl (amb_N (w := Cond.methodLinkNest RX7 23 yX8_wholePart RX8) hG (List.mem_of_getElem? (i := 580) (by decide +kernel)) rfl rfl) (hts _ k_36) (by decide +kernel) ⟨Nat.le_of_ble_eq_true rfl, Nat.le_of_ble_eq_true rfl⟩, hts _ k_581, trivial⟩ (preS hG hS hZ hP hD [] rfl rfl) rfl rfl hl.1 rfl (lv_room (Nat.le_of_ble_eq_true rfl)) dX7_walk_25 ⟨Nat.le_of_ble_eq_true rfl, Nat.le_of_ble_eq_true rfl⟩) hP hD hS hA [] rfl rfl rfl (fun H locs hP hD hS => ?_)
  have hP : va_P D vwCl (([] : va_W) ++ va_pl L (plF cy K te le tb mb (va_up wr w0 ((wr w0) + (p0 * (le w0).toInt64))) nu ro pn rw dr)) H := hP
  have hD : va_D A (([] : va_W) ++ va_pl L (plF cy K te le tb mb (va_up wr w0 ((wr w0) + (p0 * (le w0).toInt64))) nu ro pn rw dr)) := hD
  refine lv_lstore_n (lv' := [(3, .long v12.1), (0, .ref w0), (1, .long p0)]) hx hb dX7_walk_28 rfl hl (by decide) rfl (fun ls hl => ?_)
  refine lv_aload_n hx hb dX7_walk_29 rfl (lv_at hl 1 rfl) ?_
  refine lv_dup hx hb dX7_walk_30 rfl ?_
  obtain ⟨k14, e15⟩ := pl_0 (cy := cy) (te := te) (le := le) (tb := tb) (mb := mb) (wr := (va_up wr w0 ((wr w0) + (p0 * (le w0).toInt64)))) (nu := nu) (ro := ro) (pn := pn) (rw := rw) (dr := dr) (X := []) g1.1 g1.2
  refine va_get (D := D) (ci := 11) (v := .long ((va_up wr w0 ((wr w0) + (p0 * (le w0).toInt64))) w0)) (C := RX7) (T := TX7) (N := 5) hx hb hts in_X7 hown hK hP k14 e15 rfl 4 (by decide) (hts _ k_125) (fun _ h9 => h9) rfl dX7_walk_31 ?_
  refine lv_lload_n hx hb dX7_walk_34 rfl (lv_at hl 0 rfl) ?_
  refine lv_aload_n hx hb dX7_walk_35 rfl (lv_at hl 1 rfl) ?_
  obtain ⟨k16, e17⟩ := pl_0 (cy := cy) (te := te) (le := le) (tb := tb) (mb := mb) (wr := (va_up wr w0 ((wr w0) + (p0 * (le w0).toInt64)))) (nu := nu) (ro := ro) (pn := pn) (rw := rw) (dr := dr) (X := []) g1.1 g1.2
  refine va_get (D := D) (ci := 11) (v := .int (tb w0)) (C := RX7) (T := TX7) (N := 5) hx hb hts in_X7 hown hK hP k16 e17 rfl 2 (by decide) (hts _ k_123) (fun _ h9 => h9) rfl dX7_walk_36 ?_
  refine lv_i2l hx hb dX7_walk_39 rfl ?_
  refine lv_lmul hx hb dX7_walk_40 ?_
  refine lv_lsub hx hb dX7_walk_41 ?_
  obtain ⟨k18, e19⟩ := pl_0 (cy := cy) (te := te) (le := le) (tb := tb) (mb := mb) (wr := (va_up wr w0 ((wr w0) + (p0 * (le w0).toInt64)))) (nu := nu) (ro := ro) (pn := pn) (rw := rw) (dr := dr) (X := []) g1.1 g1.2
  have e9 := pl_put0 (v := (((va_up wr w0 ((wr w0) + (p0 * (le w0).toInt64))) w0) - (v12.1 * (tb w0).toInt64))) hD g1.1 g1.2 e19
  refine va_put (D := D) (ci := 11) (v := .long (((va_up wr w0 ((wr w0) + (p0 * (le w0).toInt64))) w0) - (v12.1 * (tb w0).toInt64))) (ty := .long) (C := RX7) (T := TX7) (N := 5) hx hb hts in_X7 tyX7 tyX7_ok nmX7 hown hK hP hD hS k18 e19 rfl 4 (by decide) (hts _ k_125) (fun _ h9 => h9) rfl (by decide +kernel) rfl rfl (Nat.le_of_ble_eq_true rfl) dX7_walk_42 (fun H locs hP hD hS => ?_)
  have hP : va_P D vwCl (([] : va_W) ++ va_pl L (plF cy K te le tb mb (va_up (va_up wr w0 ((wr w0) + (p0 * (le w0).toInt64))) w0 (((va_up wr w0 ((wr w0) + (p0 * (le w0).toInt64))) w0) - (v12.1 * (tb w0).toInt64))) nu ro pn rw dr)) H := e9 ▸ hP
  have hD : va_D A (([] : va_W) ++ va_pl L (plF cy K te le tb mb (va_up (va_up wr w0 ((wr w0) + (p0 * (le w0).toInt64))) w0 (((va_up wr w0 ((wr w0) + (p0 * (le w0).toInt64))) w0) - (v12.1 * (tb w0).toInt64))) nu ro pn rw dr)) := e9 ▸ hD
  refine lv_lload_n hx hb dX7_walk_45 rfl (lv_at hl 0 rfl) ?_
  obtain rfl := Option.some.inj hf
  exact W.lret (v := v12.1) hx hb hr (fun t ht _ => ⟨⟨v12.1, (va_up (va_up wr w0 ((wr w0) + (p0 * (le w0).toInt64))) w0 (((va_up wr w0 ((wr w0) + (p0 * (le w0).toInt64))) w0) - (v12.1 * (tb w0).toInt64))), rfl, rfl, by rw [ht]; exact hP, hD⟩, hS.F ht⟩) hS.2.2 dX7_walk_46
noncomputable def X6_size_f (tsz : Int32) : Option (Int32 × Unit) := (Jx4a65c_size_8abf5_f tsz).bind fun v1 => some (v1.1, ())
set_option maxHeartbeats 4000000 in
set_option maxRecDepth 100000 in
theorem c_X6_size (l : Launch) (D : va_G) (cy : Nat → ClassId) (sa : Nat → Nat) (z0 sz : Nat) (h0 : Nat) (h1 : Nat) (modc : Int32) (h2 : Nat) (tsz : Int32) (trow : Nat → Option Nat) (L : List Nat) (K : Nat → Nat) (te : Nat → Int32) (le : Nat → Int32) (tb : Nat → Int32) (mb : Nat → Int64) (wr : Nat → Int64) (nu : Nat → Int32) (ro : Nat → Nat) (pn : Nat → Int32) (rw : Nat → Nat → Int32) (dr : Nat → Nat → Option Nat) (o : (Int32 × Unit)) (ho : X6_size_f tsz = some o) : Met l yX6_size (ws_ yX6_size cX6_size 1 (some .int)) ({ frames := 1, cells := 0, slots := 0, locals := 20 } : Room) (va_Pc [.ref h0] (Pr D cy sa z0 (([(h0, .inr (10, [.ref h1])), (h1, .inr (3, [.int modc, .ref h2, .int tsz])), (h2, .inl (cy 3, 10, .inr (.inr (.inr (.inr trow)))))] : va_W) ++ va_pl L (plF cy K te le tb mb wr nu ro pn rw dr)) sz)) (QI D o (fun u => (([(h0, .inr (10, [.ref h1])), (h1, .inr (3, [.int modc, .ref h2, .int tsz])), (h2, .inl (cy 3, 10, .inr (.inr (.inr (.inr trow)))))] : va_W) ++ va_pl L (plF cy K te le tb mb wr nu ro pn rw dr))) (va_A (([(h0, .inr (10, [.ref h1])), (h1, .inr (3, [.int modc, .ref h2, .int tsz])), (h2, .inl (cy 3, 10, .inr (.inr (.inr (.inr trow)))))] : va_W) ++ va_pl L (plF cy K te le tb mb wr nu ro pn rw dr)) sz)) 0 0 (va_A (([(h0, .inr (10, [.ref h1])), (h1, .inr (3, [.int modc, .ref h2, .int tsz])), (h2, .inl (cy 3, 10, .inr (.inr (.inr (.inr trow)))))] : va_W) ++ va_pl L (plF cy K te le tb mb wr nu ro pn rw dr)) sz) := by
  refine MT (Qf := QI D o (fun u => (([(h0, .inr (10, [.ref h1])), (h1, .inr (3, [.int modc, .ref h2, .int tsz])), (h2, .inl (cy 3, 10, .inr (.inr (.inr (.inr trow)))))] : va_W) ++ va_pl L (plF cy K te le tb mb wr nu ro pn rw dr)))) (plainFor_of_name (by decide +kernel)) (Nat.le_of_ble_eq_true rfl) ?_
  intro p e s m below meth c A ls H hx hb hml hr hlocks hown hnm hts hG hA hZ hP hD hS hl
  have hK := hG.K
  have hl : lv_has ls 1 [(0, .ref h0)] := hl
  have hf : X6_size_f tsz = some o := ho
  clear ho
  unfold X6_size_f at hf
  refine lv_aload_n hx hb dX6_size_0 rfl (lv_at hl 0 rfl) ?_
  refine va_get (D := D) (ci := 10) (v := .ref h1) (C := RX6) (T := TX6) (N := 1) hx hb hts in_X6 hown hK hP 0 rfl rfl 0 (by decide) (hts _ k_203) (fun _ h9 => h9) rfl dX6_size_1 ?_
  obtain ⟨v1, e2, hf⟩ := bind_some' hf
  refine cl_i (va_runV (As := []) (rest := []) ⟨hx, hb, hml, hown, hts⟩ (c_Jx4a65c_size_8abf5 l D cy sa z0 H.size h1 modc h2 tsz trow _ e2) (cwV 0 hts (lw_gV k_348 k_349 k_350 k_40 k_351) rfl rfl rfl (by decide +kernel) ⟨Nat.le_of_ble_eq_true rfl, Nat.le_of_ble_eq_true rfl⟩) (preV hG hS hZ hP hD [1, 2] rfl rfl (ci := 3) (q0 := 1) rfl rfl) rfl rfl hl.1 rfl (lv_room (Nat.le_of_ble_eq_true rfl)) dX6_size_4 ⟨Nat.le_of_ble_eq_true rfl, Nat.le_of_ble_eq_true rfl⟩) hP hD hS hA [1, 2] rfl rfl rfl (fun H locs hP hD hS => ?_)
  have hP : va_P D vwCl (([(h0, .inr (10, [.ref h1])), (h1, .inr (3, [.int modc, .ref h2, .int tsz])), (h2, .inl (cy 3, 10, .inr (.inr (.inr (.inr trow)))))] : va_W) ++ va_pl L (plF cy K te le tb mb wr nu ro pn rw dr)) H := hP
  have hD : va_D A (([(h0, .inr (10, [.ref h1])), (h1, .inr (3, [.int modc, .ref h2, .int tsz])), (h2, .inl (cy 3, 10, .inr (.inr (.inr (.inr trow)))))] : va_W) ++ va_pl L (plF cy K te le tb mb wr nu ro pn rw dr)) := hD
  obtain rfl := Option.some.inj hf
  exact W.iret (v := v1.1) hx hb hr (fun t ht _ => ⟨⟨v1.1, (), rfl, rfl, by rw [ht]; exact hP, hD⟩, hS.F ht⟩) hS.2.2 dX6_size_7
noncomputable def X6_teethOf_b33 (b33_1 : Int32) : Option (Int32 × Unit) := some (b33_1, ())
noncomputable def X6_teethOf_b32 : Option (Int32 × Unit) := X6_teethOf_b33 (0 : Int32)
noncomputable def X6_teethOf_f (tsz : Int32) (trow : Nat → Option Nat) (L : List Nat) (K : Nat → Nat) (te : Nat → Int32) (p0 : Int32) : Option (Int32 × Unit) := (if p0 < (0 : Int32) then X6_teethOf_b32 else (Jx4a65c_size_8abf5_f tsz).bind fun v2 => (if v2.1 ≤ p0 then X6_teethOf_b32 else (Jx4a65c_get_915e3_f tsz trow p0).bind fun v5 => (v5.1).bind fun a7 => if (a7 ∈ L ∧ K a7 = 0) then (X7_toothCount_f a7 L K te).bind fun v14 => X6_teethOf_b33 v14.1 else none))
set_option maxHeartbeats 4000000 in
set_option maxRecDepth 100000 in
theorem c_X6_teethOf (l : Launch) (D : va_G) (cy : Nat → ClassId) (sa : Nat → Nat) (z0 sz : Nat) (h0 : Nat) (h1 : Nat) (modc : Int32) (h2 : Nat) (tsz : Int32) (trow : Nat → Option Nat) (L : List Nat) (K : Nat → Nat) (te : Nat → Int32) (le : Nat → Int32) (tb : Nat → Int32) (mb : Nat → Int64) (wr : Nat → Int64) (nu : Nat → Int32) (ro : Nat → Nat) (pn : Nat → Int32) (rw : Nat → Nat → Int32) (dr : Nat → Nat → Option Nat) (p0 : Int32) (o : (Int32 × Unit)) (ho : X6_teethOf_f tsz trow L K te p0 = some o) : Met l yX6_teethOf (ws_ yX6_teethOf cX6_teethOf 2 (some .int)) ({ frames := 3, cells := 0, slots := 0, locals := 64 } : Room) (va_Pc [.ref h0, .int p0] (Pr D cy sa z0 (([(h0, .inr (10, [.ref h1])), (h1, .inr (3, [.int modc, .ref h2, .int tsz])), (h2, .inl (cy 3, 10, .inr (.inr (.inr (.inr trow)))))] : va_W) ++ va_pl L (plF cy K te le tb mb wr nu ro pn rw dr)) sz)) (QI D o (fun u => (([(h0, .inr (10, [.ref h1])), (h1, .inr (3, [.int modc, .ref h2, .int tsz])), (h2, .inl (cy 3, 10, .inr (.inr (.inr (.inr trow)))))] : va_W) ++ va_pl L (plF cy K te le tb mb wr nu ro pn rw dr))) (va_A (([(h0, .inr (10, [.ref h1])), (h1, .inr (3, [.int modc, .ref h2, .int tsz])), (h2, .inl (cy 3, 10, .inr (.inr (.inr (.inr trow)))))] : va_W) ++ va_pl L (plF cy K te le tb mb wr nu ro pn rw dr)) sz)) 0 0 (va_A (([(h0, .inr (10, [.ref h1])), (h1, .inr (3, [.int modc, .ref h2, .int tsz])), (h2, .inl (cy 3, 10, .inr (.inr (.inr (.inr trow)))))] : va_W) ++ va_pl L (plF cy K te le tb mb wr nu ro pn rw dr)) sz) := by
  refine MT (Qf := QI D o (fun u => (([(h0, .inr (10, [.ref h1])), (h1, .inr (3, [.int modc, .ref h2, .int tsz])), (h2, .inl (cy 3, 10, .inr (.inr (.inr (.inr trow)))))] : va_W) ++ va_pl L (plF cy K te le tb mb wr nu ro pn rw dr)))) (plainFor_of_name (by decide +kernel)) (Nat.le_of_ble_eq_true rfl) ?_
  intro p e s m below meth c A ls H hx hb hml hr hlocks hown hnm hts hG hA hZ hP hD hS hl
  have hK := hG.K
  have hl : lv_has ls 2 [(0, .ref h0), (1, .int p0)] := hl
  have hf : X6_teethOf_f tsz trow L K te p0 = some o := ho
  clear ho
  unfold X6_teethOf_f at hf
  have J33 : ∀ (b33_1 : Int32), ∀ (H : Heap) (locs : List Loc), va_P D vwCl (([(h0, .inr (10, [.ref h1])), (h1, .inr (3, [.int modc, .ref h2, .int tsz])), (h2, .inl (cy 3, 10, .inr (.inr (.inr (.inr trow)))))] : va_W) ++ va_pl L (plF cy K te le tb mb wr nu ro pn rw dr)) H → va_D A (([(h0, .inr (10, [.ref h1])), (h1, .inr (3, [.int modc, .ref h2, .int tsz])), (h2, .inl (cy 3, 10, .inr (.inr (.inr (.inr trow)))))] : va_W) ++ va_pl L (plF cy K te le tb mb wr nu ro pn rw dr)) → va_S A s.heap H locs → ∀ (ls : Array Slot), lv_has ls 2 [] → X6_teethOf_b33 b33_1 = some o → W p l e ({ frames := 3, cells := 0, slots := 0, locals := 64 } : Room) s m ([.ref h0, .int p0] : List Value).toArray below meth c H locs 0 0 (MQ below (QI D o (fun u => (([(h0, .inr (10, [.ref h1])), (h1, .inr (3, [.int modc, .ref h2, .int tsz])), (h2, .inl (cy 3, 10, .inr (.inr (.inr (.inr trow)))))] : va_W) ++ va_pl L (plF cy K te le tb mb wr nu ro pn rw dr))) A) ([.ref h0, .int p0] : List Value).toArray s 0 0 A) (F0 m 33 ls [.int b33_1]) := by
    intro b33_1 H locs hP hD hS ls hl hf
    unfold X6_teethOf_b33 at hf
    obtain rfl := Option.some.inj hf
    exact W.iret (v := b33_1) hx hb hr (fun t ht _ => ⟨⟨b33_1, (), rfl, rfl, by rw [ht]; exact hP, hD⟩, hS.F ht⟩) hS.2.2 dX6_teethOf_33
  have J32 : ∀ (H : Heap) (locs : List Loc), va_P D vwCl (([(h0, .inr (10, [.ref h1])), (h1, .inr (3, [.int modc, .ref h2, .int tsz])), (h2, .inl (cy 3, 10, .inr (.inr (.inr (.inr trow)))))] : va_W) ++ va_pl L (plF cy K te le tb mb wr nu ro pn rw dr)) H → va_D A (([(h0, .inr (10, [.ref h1])), (h1, .inr (3, [.int modc, .ref h2, .int tsz])), (h2, .inl (cy 3, 10, .inr (.inr (.inr (.inr trow)))))] : va_W) ++ va_pl L (plF cy K te le tb mb wr nu ro pn rw dr)) → va_S A s.heap H locs → ∀ (ls : Array Slot), lv_has ls 2 [] → X6_teethOf_b32 = some o → W p l e ({ frames := 3, cells := 0, slots := 0, locals := 64 } : Room) s m ([.ref h0, .int p0] : List Value).toArray below meth c H locs 0 0 (MQ below (QI D o (fun u => (([(h0, .inr (10, [.ref h1])), (h1, .inr (3, [.int modc, .ref h2, .int tsz])), (h2, .inl (cy 3, 10, .inr (.inr (.inr (.inr trow)))))] : va_W) ++ va_pl L (plF cy K te le tb mb wr nu ro pn rw dr))) A) ([.ref h0, .int p0] : List Value).toArray s 0 0 A) (F0 m 32 ls []) := by
    intro  H locs hP hD hS ls hl hf
    unfold X6_teethOf_b32 at hf
    refine lv_iconst (v := (0 : Int32)) hx hb dX6_teethOf_32 (by decide) ?_
    exact J33 (0 : Int32) _ _ hP hD hS _ (lv_sub hl [] rfl) hf
  refine lv_iload_n hx hb dX6_teethOf_0 rfl (lv_at hl 1 rfl) ?_
  refine lv_if_lt (tgt := 32) hx hb dX6_teethOf_1 (by decide) (fun c1 => ?_) (fun c1 => ?_)
  · rw [if_pos c1] at hf
    exact J32  _ _ hP hD hS _ (lv_sub hl [] rfl) hf
  · rw [if_neg c1] at hf
    refine lv_iload_n hx hb dX6_teethOf_4 rfl (lv_at hl 1 rfl) ?_
    refine lv_aload_n hx hb dX6_teethOf_5 rfl (lv_at hl 0 rfl) ?_
    refine va_get (D := D) (ci := 10) (v := .ref h1) (C := RX6) (T := TX6) (N := 1) hx hb hts in_X6 hown hK hP 0 rfl rfl 0 (by decide) (hts _ k_203) (fun _ h9 => h9) rfl dX6_teethOf_6 ?_
    obtain ⟨v2, e3, hf⟩ := bind_some' hf
    refine cl_i (va_runV (As := []) (rest := [.int p0]) ⟨hx, hb, hml, hown, hts⟩ (c_Jx4a65c_size_8abf5 l D cy sa z0 H.size h1 modc h2 tsz trow _ e3) (cwV 0 hts (lw_gV k_348 k_349 k_350 k_40 k_351) rfl rfl rfl (by decide +kernel) ⟨Nat.le_of_ble_eq_true rfl, Nat.le_of_ble_eq_true rfl⟩) (preV hG hS hZ hP hD [1, 2] rfl rfl (ci := 3) (q0 := 1) rfl rfl) rfl rfl hl.1 rfl (lv_room (Nat.le_of_ble_eq_true rfl)) dX6_teethOf_9 ⟨Nat.le_of_ble_eq_true rfl, Nat.le_of_ble_eq_true rfl⟩) hP hD hS hA [1, 2] rfl rfl rfl (fun H locs hP hD hS => ?_)
    have hP : va_P D vwCl (([(h0, .inr (10, [.ref h1])), (h1, .inr (3, [.int modc, .ref h2, .int tsz])), (h2, .inl (cy 3, 10, .inr (.inr (.inr (.inr trow)))))] : va_W) ++ va_pl L (plF cy K te le tb mb wr nu ro pn rw dr)) H := hP
    have hD : va_D A (([(h0, .inr (10, [.ref h1])), (h1, .inr (3, [.int modc, .ref h2, .int tsz])), (h2, .inl (cy 3, 10, .inr (.inr (.inr (.inr trow)))))] : va_W) ++ va_pl L (plF cy K te le tb mb wr nu ro pn rw dr)) := hD
    refine lv_icmp_ge (tgt := 32) hx hb dX6_teethOf_12 (by decide) (fun c4 => ?_) (fun c4 => ?_)
    · rw [if_pos c4] at hf
      exact J32  _ _ hP hD hS _ (lv_sub hl [] rfl) hf
    · rw [if_neg c4] at hf
      refine lv_aload_n hx hb dX6_teethOf_15 rfl (lv_at hl 0 rfl) ?_
      refine va_get (D := D) (ci := 10) (v := .ref h1) (C := RX6) (T := TX6) (N := 1) hx hb hts in_X6 hown hK hP 0 rfl rfl 0 (by decide) (hts _ k_203) (fun _ h9 => h9) rfl dX6_teethOf_16 ?_
      refine lv_iload_n hx hb dX6_teethOf_19 rfl (lv_at hl 1 rfl) ?_
      obtain ⟨v5, e6, hf⟩ := bind_some' hf
      refine cl_q (va_runV (As := [.int p0]) (rest := []) ⟨hx, hb, hml, hown, hts⟩ (c_Jx4a65c_get_915e3 l D cy sa z0 H.size h1 modc h2 tsz trow p0 _ e6) (cwV 1 hts (lw_gV k_554 k_555 k_556 k_40 k_557) rfl rfl rfl (by decide +kernel) ⟨Nat.le_of_ble_eq_true rfl, Nat.le_of_ble_eq_true rfl⟩) (preV hG hS hZ hP hD [1, 2] rfl rfl (ci := 3) (q0 := 1) rfl rfl) rfl rfl hl.1 rfl (lv_room (Nat.le_of_ble_eq_true rfl)) dX6_teethOf_20 ⟨Nat.le_of_ble_eq_true rfl, Nat.le_of_ble_eq_true rfl⟩) hP hD hS hA [1, 2] rfl rfl rfl (fun H locs hP hD hS => ?_)
      have hP : va_P D vwCl (([(h0, .inr (10, [.ref h1])), (h1, .inr (3, [.int modc, .ref h2, .int tsz])), (h2, .inl (cy 3, 10, .inr (.inr (.inr (.inr trow)))))] : va_W) ++ va_pl L (plF cy K te le tb mb wr nu ro pn rw dr)) H := hP
      have hD : va_D A (([(h0, .inr (10, [.ref h1])), (h1, .inr (3, [.int modc, .ref h2, .int tsz])), (h2, .inl (cy 3, 10, .inr (.inr (.inr (.inr trow)))))] : va_W) ++ va_pl L (plF cy K te le tb mb wr nu ro pn rw dr)) := hD
      obtain ⟨a7, e8, hf⟩ := bind_some' hf
      rw [e8]
      obtain ⟨g9, hf⟩ := ite_some' hf
      obtain ⟨k10, e11⟩ := pl_0 (cy := cy) (te := te) (le := le) (tb := tb) (mb := mb) (wr := wr) (nu := nu) (ro := ro) (pn := pn) (rw := rw) (dr := dr) (X := [(h0, .inr (10, [.ref h1])), (h1, .inr (3, [.int modc, .ref h2, .int tsz])), (h2, .inl (cy 3, 10, .inr (.inr (.inr (.inr trow)))))]) g9.1 g9.2
      refine va_castS hx hb hown (hts _ k_115) (hK.1 11 _ rfl).2 (va_recv hK hP (ci := 11) (q0 := k10) rfl e11) dX6_teethOf_23 ?_
      obtain ⟨k12, e13⟩ := pl_0 (cy := cy) (te := te) (le := le) (tb := tb) (mb := mb) (wr := wr) (nu := nu) (ro := ro) (pn := pn) (rw := rw) (dr := dr) (X := [(h0, .inr (10, [.ref h1])), (h1, .inr (3, [.int modc, .ref h2, .int tsz])), (h2, .inl (cy 3, 10, .inr (.inr (.inr (.inr trow)))))]) g9.1 g9.2
      obtain ⟨v14, e15, hf⟩ := bind_some' hf
      refine clP_i (va_runV (As := []) (rest := []) ⟨hx, hb, hml, hown, hts⟩ (c_X7_toothCount l D cy sa z0 H.size a7 L K te le tb mb wr nu ro pn rw dr _ e15) (cwV 0 hts (lw_gV k_568 k_569 k_570 k_41 k_571) rfl rfl rfl (by decide +kernel) ⟨Nat.le_of_ble_eq_true rfl, Nat.le_of_ble_eq_true rfl⟩) (preVP hG hS hZ hP hD [] rfl rfl (ci := 9) (q0 := k12) rfl e13) rfl rfl hl.1 rfl (lv_room (Nat.le_of_ble_eq_true rfl)) dX6_teethOf_26 ⟨Nat.le_of_ble_eq_true rfl, Nat.le_of_ble_eq_true rfl⟩) hP hD hS hA [] rfl rfl rfl (fun H locs hP hD hS => ?_)
      have hP : va_P D vwCl (([(h0, .inr (10, [.ref h1])), (h1, .inr (3, [.int modc, .ref h2, .int tsz])), (h2, .inl (cy 3, 10, .inr (.inr (.inr (.inr trow)))))] : va_W) ++ va_pl L (plF cy K te le tb mb wr nu ro pn rw dr)) H := hP
      have hD : va_D A (([(h0, .inr (10, [.ref h1])), (h1, .inr (3, [.int modc, .ref h2, .int tsz])), (h2, .inl (cy 3, 10, .inr (.inr (.inr (.inr trow)))))] : va_W) ++ va_pl L (plF cy K te le tb mb wr nu ro pn rw dr)) := hD
      refine lv_goto (tgt := 33) hx hb dX6_teethOf_29 (by decide) ?_
      exact J33 v14.1 _ _ hP hD hS _ (lv_sub hl [] rfl) hf
noncomputable def X6_movedByRatios_b49 (b49_1 : Int64) : Option (Int64 × Unit) := some (b49_1, ())
noncomputable def X6_movedByRatios_L6_body (tsz : Int32) (trow : Nat → Option Nat) (L : List Nat) (K : Nat → Nat) (le : Nat → Int32) (tb : Nat → Int32) (mb : Nat → Int64) (p0 : Int32) (k6 : Int64 → Int32 → Option (Int64 × Unit)) (b6_1 : Int64) (b6_2 : Int32) : Option (Int64 × Unit) := (if p0 < b6_2 then X6_movedByRatios_b49 b6_1 else (Jx4a65c_size_8abf5_f tsz).bind fun v2 => (if v2.1 ≤ b6_2 then X6_movedByRatios_b49 b6_1 else (Jx4a65c_get_915e3_f tsz trow b6_2).bind fun v5 => (v5.1).bind fun a7 => if (a7 ∈ L ∧ K a7 = 0) then (X7_movedWhen_f a7 L K le tb mb b6_1).bind fun v14 => k6 v14.1 (b6_2 + (1 : Int32)) else none))
noncomputable def X6_movedByRatios_L6 (tsz : Int32) (trow : Nat → Option Nat) (L : List Nat) (K : Nat → Nat) (le : Nat → Int32) (tb : Nat → Int32) (mb : Nat → Int64) (p0 : Int32) (n : Nat) : Int64 → Int32 → Option (Int64 × Unit) := Nat.rec (motive := fun _ => Int64 → Int32 → Option (Int64 × Unit)) (fun _ _ => none) (fun _ k6 b6_1 b6_2 => X6_movedByRatios_L6_body tsz trow L K le tb mb p0 k6 b6_1 b6_2) n
noncomputable def X6_movedByRatios_f (N : Nat) (tsz : Int32) (trow : Nat → Option Nat) (L : List Nat) (K : Nat → Nat) (le : Nat → Int32) (tb : Nat → Int32) (mb : Nat → Int64) (p0 : Int32) (p1 : Int64) : Option (Int64 × Unit) := X6_movedByRatios_L6 tsz trow L K le tb mb p0 N p1 (0 : Int32)
set_option maxHeartbeats 4000000 in
set_option maxRecDepth 100000 in
theorem c_X6_movedByRatios (l : Launch) (D : va_G) (cy : Nat → ClassId) (sa : Nat → Nat) (z0 sz : Nat) (h0 : Nat) (h1 : Nat) (modc : Int32) (h2 : Nat) (tsz : Int32) (trow : Nat → Option Nat) (L : List Nat) (K : Nat → Nat) (te : Nat → Int32) (le : Nat → Int32) (tb : Nat → Int32) (mb : Nat → Int64) (wr : Nat → Int64) (nu : Nat → Int32) (ro : Nat → Nat) (pn : Nat → Int32) (rw : Nat → Nat → Int32) (dr : Nat → Nat → Option Nat) (p0 : Int32) (p1 : Int64) (N : Nat) (o : (Int64 × Unit)) (ho : X6_movedByRatios_f N tsz trow L K le tb mb p0 p1 = some o) : Met l yX6_movedByRatios (ws_ yX6_movedByRatios cX6_movedByRatios 7 (some .long)) ({ frames := 3, cells := 0, slots := 0, locals := 70 } : Room) (va_Pc [.ref h0, .int p0, .long p1] (Pr D cy sa z0 (([(h0, .inr (10, [.ref h1])), (h1, .inr (3, [.int modc, .ref h2, .int tsz])), (h2, .inl (cy 3, 10, .inr (.inr (.inr (.inr trow)))))] : va_W) ++ va_pl L (plF cy K te le tb mb wr nu ro pn rw dr)) sz)) (QL D o (fun u => (([(h0, .inr (10, [.ref h1])), (h1, .inr (3, [.int modc, .ref h2, .int tsz])), (h2, .inl (cy 3, 10, .inr (.inr (.inr (.inr trow)))))] : va_W) ++ va_pl L (plF cy K te le tb mb wr nu ro pn rw dr))) (va_A (([(h0, .inr (10, [.ref h1])), (h1, .inr (3, [.int modc, .ref h2, .int tsz])), (h2, .inl (cy 3, 10, .inr (.inr (.inr (.inr trow)))))] : va_W) ++ va_pl L (plF cy K te le tb mb wr nu ro pn rw dr)) sz)) 0 0 (va_A (([(h0, .inr (10, [.ref h1])), (h1, .inr (3, [.int modc, .ref h2, .int tsz])), (h2, .inl (cy 3, 10, .inr (.inr (.inr (.inr trow)))))] : va_W) ++ va_pl L (plF cy K te le tb mb wr nu ro pn rw dr)) sz) := by
  refine MT (Qf := QL D o (fun u => (([(h0, .inr (10, [.ref h1])), (h1, .inr (3, [.int modc, .ref h2, .int tsz])), (h2, .inl (cy 3, 10, .inr (.inr (.inr (.inr trow)))))] : va_W) ++ va_pl L (plF cy K te le tb mb wr nu ro pn rw dr)))) (plainFor_of_name (by decide +kernel)) (Nat.le_of_ble_eq_true rfl) ?_
  intro p e s m below meth c A ls H hx hb hml hr hlocks hown hnm hts hG hA hZ hP hD hS hl
  have hK := hG.K
  have hl : lv_has ls 7 [(0, .ref h0), (1, .int p0), (2, .long p1)] := hl
  have hf : X6_movedByRatios_f N tsz trow L K le tb mb p0 p1 = some o := ho
  clear ho
  unfold X6_movedByRatios_f at hf
  have J49 : ∀ (b49_1 : Int64), ∀ (H : Heap) (locs : List Loc), va_P D vwCl (([(h0, .inr (10, [.ref h1])), (h1, .inr (3, [.int modc, .ref h2, .int tsz])), (h2, .inl (cy 3, 10, .inr (.inr (.inr (.inr trow)))))] : va_W) ++ va_pl L (plF cy K te le tb mb wr nu ro pn rw dr)) H → va_D A (([(h0, .inr (10, [.ref h1])), (h1, .inr (3, [.int modc, .ref h2, .int tsz])), (h2, .inl (cy 3, 10, .inr (.inr (.inr (.inr trow)))))] : va_W) ++ va_pl L (plF cy K te le tb mb wr nu ro pn rw dr)) → va_S A s.heap H locs → ∀ (ls : Array Slot), lv_has ls 7 [(4, .long b49_1)] → X6_movedByRatios_b49 b49_1 = some o → W p l e ({ frames := 3, cells := 0, slots := 0, locals := 70 } : Room) s m ([.ref h0, .int p0, .long p1] : List Value).toArray below meth c H locs 0 0 (MQ below (QL D o (fun u => (([(h0, .inr (10, [.ref h1])), (h1, .inr (3, [.int modc, .ref h2, .int tsz])), (h2, .inl (cy 3, 10, .inr (.inr (.inr (.inr trow)))))] : va_W) ++ va_pl L (plF cy K te le tb mb wr nu ro pn rw dr))) A) ([.ref h0, .int p0, .long p1] : List Value).toArray s 0 0 A) (F0 m 49 ls []) := by
    intro b49_1 H locs hP hD hS ls hl hf
    unfold X6_movedByRatios_b49 at hf
    refine lv_lload hx hb dX6_movedByRatios_49 (lv_at hl 0 rfl) ?_
    obtain rfl := Option.some.inj hf
    exact W.lret (v := b49_1) hx hb hr (fun t ht _ => ⟨⟨b49_1, (), rfl, rfl, by rw [ht]; exact hP, hD⟩, hS.F ht⟩) hS.2.2 dX6_movedByRatios_51
  have L6 : ∀ (n : Nat) (b6_1 : Int64) (b6_2 : Int32), ∀ (H : Heap) (locs : List Loc), va_P D vwCl (([(h0, .inr (10, [.ref h1])), (h1, .inr (3, [.int modc, .ref h2, .int tsz])), (h2, .inl (cy 3, 10, .inr (.inr (.inr (.inr trow)))))] : va_W) ++ va_pl L (plF cy K te le tb mb wr nu ro pn rw dr)) H → va_D A (([(h0, .inr (10, [.ref h1])), (h1, .inr (3, [.int modc, .ref h2, .int tsz])), (h2, .inl (cy 3, 10, .inr (.inr (.inr (.inr trow)))))] : va_W) ++ va_pl L (plF cy K te le tb mb wr nu ro pn rw dr)) → va_S A s.heap H locs → ∀ (ls : Array Slot), lv_has ls 7 [(0, .ref h0), (1, .int p0), (4, .long b6_1), (6, .int b6_2)] → X6_movedByRatios_L6 tsz trow L K le tb mb p0 n b6_1 b6_2 = some o → W p l e ({ frames := 3, cells := 0, slots := 0, locals := 70 } : Room) s m ([.ref h0, .int p0, .long p1] : List Value).toArray below meth c H locs 0 0 (MQ below (QL D o (fun u => (([(h0, .inr (10, [.ref h1])), (h1, .inr (3, [.int modc, .ref h2, .int tsz])), (h2, .inl (cy 3, 10, .inr (.inr (.inr (.inr trow)))))] : va_W) ++ va_pl L (plF cy K te le tb mb wr nu ro pn rw dr))) A) ([.ref h0, .int p0, .long p1] : List Value).toArray s 0 0 A) (F0 m 6 ls []) := by
    intro n
    induction n with
    | zero => intro b6_1 b6_2 H locs hP hD hS ls hl hf; cases (show (none : Option (Int64 × Unit)) = some o from hf)
    | succ n ih_6 =>
      intro b6_1 b6_2 H locs hP hD hS ls hl hf
      have hf : X6_movedByRatios_L6_body tsz trow L K le tb mb p0 (X6_movedByRatios_L6 tsz trow L K le tb mb p0 n) b6_1 b6_2 = some o := hf
      generalize X6_movedByRatios_L6 tsz trow L K le tb mb p0 n = k6 at ih_6 hf
      unfold X6_movedByRatios_L6_body at hf
      refine lv_iload hx hb dX6_movedByRatios_6 (lv_at hl 3 rfl) ?_
      refine lv_iload_n hx hb dX6_movedByRatios_8 rfl (lv_at hl 1 rfl) ?_
      refine lv_icmp_gt (tgt := 49) hx hb dX6_movedByRatios_9 (by decide) (fun c1 => ?_) (fun c1 => ?_)
      · rw [if_pos c1] at hf
        exact J49 b6_1 _ _ hP hD hS _ (lv_sub hl [2] rfl) hf
      · rw [if_neg c1] at hf
        refine lv_iload hx hb dX6_movedByRatios_12 (lv_at hl 3 rfl) ?_
        refine lv_aload_n hx hb dX6_movedByRatios_14 rfl (lv_at hl 0 rfl) ?_
        refine va_get (D := D) (ci := 10) (v := .ref h1) (C := RX6) (T := TX6) (N := 1) hx hb hts in_X6 hown hK hP 0 rfl rfl 0 (by decide) (hts _ k_203) (fun _ h9 => h9) rfl dX6_movedByRatios_15 ?_
        obtain ⟨v2, e3, hf⟩ := bind_some' hf
        refine cl_i (va_runV (As := []) (rest := [.int b6_2]) ⟨hx, hb, hml, hown, hts⟩ (c_Jx4a65c_size_8abf5 l D cy sa z0 H.size h1 modc h2 tsz trow _ e3) (cwV 0 hts (lw_gV k_348 k_349 k_350 k_40 k_351) rfl rfl rfl (by decide +kernel) ⟨Nat.le_of_ble_eq_true rfl, Nat.le_of_ble_eq_true rfl⟩) (preV hG hS hZ hP hD [1, 2] rfl rfl (ci := 3) (q0 := 1) rfl rfl) rfl rfl hl.1 rfl (lv_room (Nat.le_of_ble_eq_true rfl)) dX6_movedByRatios_18 ⟨Nat.le_of_ble_eq_true rfl, Nat.le_of_ble_eq_true rfl⟩) hP hD hS hA [1, 2] rfl rfl rfl (fun H locs hP hD hS => ?_)
        have hP : va_P D vwCl (([(h0, .inr (10, [.ref h1])), (h1, .inr (3, [.int modc, .ref h2, .int tsz])), (h2, .inl (cy 3, 10, .inr (.inr (.inr (.inr trow)))))] : va_W) ++ va_pl L (plF cy K te le tb mb wr nu ro pn rw dr)) H := hP
        have hD : va_D A (([(h0, .inr (10, [.ref h1])), (h1, .inr (3, [.int modc, .ref h2, .int tsz])), (h2, .inl (cy 3, 10, .inr (.inr (.inr (.inr trow)))))] : va_W) ++ va_pl L (plF cy K te le tb mb wr nu ro pn rw dr)) := hD
        refine lv_icmp_ge (tgt := 49) hx hb dX6_movedByRatios_21 (by decide) (fun c4 => ?_) (fun c4 => ?_)
        · rw [if_pos c4] at hf
          exact J49 b6_1 _ _ hP hD hS _ (lv_sub hl [2] rfl) hf
        · rw [if_neg c4] at hf
          refine lv_aload_n hx hb dX6_movedByRatios_24 rfl (lv_at hl 0 rfl) ?_
          refine va_get (D := D) (ci := 10) (v := .ref h1) (C := RX6) (T := TX6) (N := 1) hx hb hts in_X6 hown hK hP 0 rfl rfl 0 (by decide) (hts _ k_203) (fun _ h9 => h9) rfl dX6_movedByRatios_25 ?_
          refine lv_iload hx hb dX6_movedByRatios_28 (lv_at hl 3 rfl) ?_
          obtain ⟨v5, e6, hf⟩ := bind_some' hf
          refine cl_q (va_runV (As := [.int b6_2]) (rest := []) ⟨hx, hb, hml, hown, hts⟩ (c_Jx4a65c_get_915e3 l D cy sa z0 H.size h1 modc h2 tsz trow b6_2 _ e6) (cwV 1 hts (lw_gV k_554 k_555 k_556 k_40 k_557) rfl rfl rfl (by decide +kernel) ⟨Nat.le_of_ble_eq_true rfl, Nat.le_of_ble_eq_true rfl⟩) (preV hG hS hZ hP hD [1, 2] rfl rfl (ci := 3) (q0 := 1) rfl rfl) rfl rfl hl.1 rfl (lv_room (Nat.le_of_ble_eq_true rfl)) dX6_movedByRatios_30 ⟨Nat.le_of_ble_eq_true rfl, Nat.le_of_ble_eq_true rfl⟩) hP hD hS hA [1, 2] rfl rfl rfl (fun H locs hP hD hS => ?_)
          have hP : va_P D vwCl (([(h0, .inr (10, [.ref h1])), (h1, .inr (3, [.int modc, .ref h2, .int tsz])), (h2, .inl (cy 3, 10, .inr (.inr (.inr (.inr trow)))))] : va_W) ++ va_pl L (plF cy K te le tb mb wr nu ro pn rw dr)) H := hP
          have hD : va_D A (([(h0, .inr (10, [.ref h1])), (h1, .inr (3, [.int modc, .ref h2, .int tsz])), (h2, .inl (cy 3, 10, .inr (.inr (.inr (.inr trow)))))] : va_W) ++ va_pl L (plF cy K te le tb mb wr nu ro pn rw dr)) := hD
          obtain ⟨a7, e8, hf⟩ := bind_some' hf
          rw [e8]
          obtain ⟨g9, hf⟩ := ite_some' hf
          obtain ⟨k10, e11⟩ := pl_0 (cy := cy) (te := te) (le := le) (tb := tb) (mb := mb) (wr := wr) (nu := nu) (ro := ro) (pn := pn) (rw := rw) (dr := dr) (X := [(h0, .inr (10, [.ref h1])), (h1, .inr (3, [.int modc, .ref h2, .int tsz])), (h2, .inl (cy 3, 10, .inr (.inr (.inr (.inr trow)))))]) g9.1 g9.2
          refine va_castS hx hb hown (hts _ k_115) (hK.1 11 _ rfl).2 (va_recv hK hP (ci := 11) (q0 := k10) rfl e11) dX6_movedByRatios_33 ?_
          refine lv_lload hx hb dX6_movedByRatios_36 (lv_at hl 2 rfl) ?_
          obtain ⟨k12, e13⟩ := pl_0 (cy := cy) (te := te) (le := le) (tb := tb) (mb := mb) (wr := wr) (nu := nu) (ro := ro) (pn := pn) (rw := rw) (dr := dr) (X := [(h0, .inr (10, [.ref h1])), (h1, .inr (3, [.int modc, .ref h2, .int tsz])), (h2, .inl (cy 3, 10, .inr (.inr (.inr (.inr trow)))))]) g9.1 g9.2
          obtain ⟨v14, e15, hf⟩ := bind_some' hf
          refine clP_l (va_runV (As := [.long b6_1]) (rest := []) ⟨hx, hb, hml, hown, hts⟩ (c_X7_movedWhen l D cy sa z0 H.size a7 L K te le tb mb wr nu ro pn rw dr b6_1 _ e15) (cwV 1 hts (lw_gV k_576 k_577 k_578 k_41 k_579) rfl rfl rfl (by decide +kernel) ⟨Nat.le_of_ble_eq_true rfl, Nat.le_of_ble_eq_true rfl⟩) (preVP hG hS hZ hP hD [] rfl rfl (ci := 9) (q0 := k12) rfl e13) rfl rfl hl.1 rfl (lv_room (Nat.le_of_ble_eq_true rfl)) dX6_movedByRatios_38 ⟨Nat.le_of_ble_eq_true rfl, Nat.le_of_ble_eq_true rfl⟩) hP hD hS hA [] rfl rfl rfl (fun H locs hP hD hS => ?_)
          have hP : va_P D vwCl (([(h0, .inr (10, [.ref h1])), (h1, .inr (3, [.int modc, .ref h2, .int tsz])), (h2, .inl (cy 3, 10, .inr (.inr (.inr (.inr trow)))))] : va_W) ++ va_pl L (plF cy K te le tb mb wr nu ro pn rw dr)) H := hP
          have hD : va_D A (([(h0, .inr (10, [.ref h1])), (h1, .inr (3, [.int modc, .ref h2, .int tsz])), (h2, .inl (cy 3, 10, .inr (.inr (.inr (.inr trow)))))] : va_W) ++ va_pl L (plF cy K te le tb mb wr nu ro pn rw dr)) := hD
          refine lv_lstore (lv' := [(4, .long v14.1), (0, .ref h0), (1, .int p0), (6, .int b6_2)]) hx hb dX6_movedByRatios_41 hl (by decide) rfl (fun ls hl => ?_)
          refine lv_iinc (v := (b6_2 + (1 : Int32))) (lv' := [(6, .int (b6_2 + (1 : Int32))), (4, .long v14.1), (0, .ref h0), (1, .int p0)]) hx hb dX6_movedByRatios_43 hl (k := 3) rfl (by rfl) (by decide) rfl (fun ls hl => ?_)
          refine lv_goto (tgt := 6) hx hb dX6_movedByRatios_46 (by decide) ?_
          exact ih_6 v14.1 (b6_2 + (1 : Int32)) _ _ hP hD hS _ (lv_sub hl [2, 3, 1, 0] rfl) hf
  refine lv_lload_n hx hb dX6_movedByRatios_0 rfl (lv_at hl 2 rfl) ?_
  refine lv_lstore (lv' := [(4, .long p1), (0, .ref h0), (1, .int p0), (2, .long p1)]) hx hb dX6_movedByRatios_1 hl (by decide) rfl (fun ls hl => ?_)
  refine lv_iconst (v := (0 : Int32)) hx hb dX6_movedByRatios_3 (by decide) ?_
  refine lv_istore (lv' := [(6, .int (0 : Int32)), (4, .long p1), (0, .ref h0), (1, .int p0), (2, .long p1)]) hx hb dX6_movedByRatios_4 hl (by decide) rfl (fun ls hl => ?_)
  exact L6 N p1 (0 : Int32) _ _ hP hD hS _ (lv_sub hl [2, 3, 1, 0] rfl) hf
noncomputable def X6_turnsByRatios_f (N : Nat) (tsz : Int32) (trow : Nat → Option Nat) (L : List Nat) (K : Nat → Nat) (te : Nat → Int32) (le : Nat → Int32) (tb : Nat → Int32) (mb : Nat → Int64) (p0 : Int32) (p1 : Int64) : Option (Int64 × Unit) := (X6_movedByRatios_f N tsz trow L K le tb mb p0 p1).bind fun v1 => (X6_teethOf_f tsz trow L K te p0).bind fun v3 => (X8_wholePart_f v1.1 v3.1.toInt64).bind fun v5 => some (v5.1, ())
set_option maxHeartbeats 4000000 in
set_option maxRecDepth 100000 in
theorem c_X6_turnsByRatios (l : Launch) (D : va_G) (cy : Nat → ClassId) (sa : Nat → Nat) (z0 sz : Nat) (h0 : Nat) (h1 : Nat) (modc : Int32) (h2 : Nat) (tsz : Int32) (trow : Nat → Option Nat) (L : List Nat) (K : Nat → Nat) (te : Nat → Int32) (le : Nat → Int32) (tb : Nat → Int32) (mb : Nat → Int64) (wr : Nat → Int64) (nu : Nat → Int32) (ro : Nat → Nat) (pn : Nat → Int32) (rw : Nat → Nat → Int32) (dr : Nat → Nat → Option Nat) (p0 : Int32) (p1 : Int64) (N : Nat) (o : (Int64 × Unit)) (ho : X6_turnsByRatios_f N tsz trow L K te le tb mb p0 p1 = some o) : Met l yX6_turnsByRatios (ws_ yX6_turnsByRatios cX6_turnsByRatios 4 (some .long)) ({ frames := 4, cells := 0, slots := 0, locals := 96 } : Room) (va_Pc [.ref h0, .int p0, .long p1] (Pr D cy sa z0 (([(h0, .inr (10, [.ref h1])), (h1, .inr (3, [.int modc, .ref h2, .int tsz])), (h2, .inl (cy 3, 10, .inr (.inr (.inr (.inr trow)))))] : va_W) ++ va_pl L (plF cy K te le tb mb wr nu ro pn rw dr)) sz)) (QL D o (fun u => (([(h0, .inr (10, [.ref h1])), (h1, .inr (3, [.int modc, .ref h2, .int tsz])), (h2, .inl (cy 3, 10, .inr (.inr (.inr (.inr trow)))))] : va_W) ++ va_pl L (plF cy K te le tb mb wr nu ro pn rw dr))) (va_A (([(h0, .inr (10, [.ref h1])), (h1, .inr (3, [.int modc, .ref h2, .int tsz])), (h2, .inl (cy 3, 10, .inr (.inr (.inr (.inr trow)))))] : va_W) ++ va_pl L (plF cy K te le tb mb wr nu ro pn rw dr)) sz)) 0 0 (va_A (([(h0, .inr (10, [.ref h1])), (h1, .inr (3, [.int modc, .ref h2, .int tsz])), (h2, .inl (cy 3, 10, .inr (.inr (.inr (.inr trow)))))] : va_W) ++ va_pl L (plF cy K te le tb mb wr nu ro pn rw dr)) sz) := by
  refine MT (Qf := QL D o (fun u => (([(h0, .inr (10, [.ref h1])), (h1, .inr (3, [.int modc, .ref h2, .int tsz])), (h2, .inl (cy 3, 10, .inr (.inr (.inr (.inr trow)))))] : va_W) ++ va_pl L (plF cy K te le tb mb wr nu ro pn rw dr)))) (plainFor_of_name (by decide +kernel)) (Nat.le_of_ble_eq_true rfl) ?_
  intro p e s m below meth c A ls H hx hb hml hr hlocks hown hnm hts hG hA hZ hP hD hS hl
  have hK := hG.K
  have hl : lv_has ls 4 [(0, .ref h0), (1, .int p0), (2, .long p1)] := hl
  have hf : X6_turnsByRatios_f N tsz trow L K te le tb mb p0 p1 = some o := ho
  clear ho
  unfold X6_turnsByRatios_f at hf
  refine lv_aload_n hx hb dX6_turnsByRatios_0 rfl (lv_at hl 0 rfl) ?_
  refine lv_iload_n hx hb dX6_turnsByRatios_1 rfl (lv_at hl 1 rfl) ?_
  refine lv_lload_n hx hb dX6_turnsByRatios_2 rfl (lv_at hl 2 rfl) ?_
  obtain ⟨v1, e2, hf⟩ := bind_some' hf
  refine clP_l (va_runV (As := [.int p0, .long p1]) (rest := []) ⟨hx, hb, hml, hown, hts⟩ (c_X6_movedByRatios l D cy sa z0 H.size h0 h1 modc h2 tsz trow L K te le tb mb wr nu ro pn rw dr p0 p1 N _ e2) (cwV 2 hts (lw_gV k_572 k_573 k_574 k_37 k_575) rfl rfl rfl (by decide +kernel) ⟨Nat.le_of_ble_eq_true rfl, Nat.le_of_ble_eq_true rfl⟩) (preVP hG hS hZ hP hD [0, 1, 2] rfl rfl (ci := 10) (q0 := 0) rfl rfl) rfl rfl hl.1 rfl (lv_room (Nat.le_of_ble_eq_true rfl)) dX6_turnsByRatios_3 ⟨Nat.le_of_ble_eq_true rfl, Nat.le_of_ble_eq_true rfl⟩) hP hD hS hA [0, 1, 2] rfl rfl rfl (fun H locs hP hD hS => ?_)
  have hP : va_P D vwCl (([(h0, .inr (10, [.ref h1])), (h1, .inr (3, [.int modc, .ref h2, .int tsz])), (h2, .inl (cy 3, 10, .inr (.inr (.inr (.inr trow)))))] : va_W) ++ va_pl L (plF cy K te le tb mb wr nu ro pn rw dr)) H := hP
  have hD : va_D A (([(h0, .inr (10, [.ref h1])), (h1, .inr (3, [.int modc, .ref h2, .int tsz])), (h2, .inl (cy 3, 10, .inr (.inr (.inr (.inr trow)))))] : va_W) ++ va_pl L (plF cy K te le tb mb wr nu ro pn rw dr)) := hD
  refine lv_aload_n hx hb dX6_turnsByRatios_6 rfl (lv_at hl 0 rfl) ?_
  refine lv_iload_n hx hb dX6_turnsByRatios_7 rfl (lv_at hl 1 rfl) ?_
  obtain ⟨v3, e4, hf⟩ := bind_some' hf
  refine clP_i (va_runV (As := [.int p0]) (rest := [.long v1.1]) ⟨hx, hb, hml, hown, hts⟩ (c_X6_teethOf l D cy sa z0 H.size h0 h1 modc h2 tsz trow L K te le tb mb wr nu ro pn rw dr p0 _ e4) (cwV 1 hts (lw_gV k_550 k_552 k_6 k_37 k_553) rfl rfl rfl (by decide +kernel) ⟨Nat.le_of_ble_eq_true rfl, Nat.le_of_ble_eq_true rfl⟩) (preVP hG hS hZ hP hD [0, 1, 2] rfl rfl (ci := 10) (q0 := 0) rfl rfl) rfl rfl hl.1 rfl (lv_room (Nat.le_of_ble_eq_true rfl)) dX6_turnsByRatios_8 ⟨Nat.le_of_ble_eq_true rfl, Nat.le_of_ble_eq_true rfl⟩) hP hD hS hA [0, 1, 2] rfl rfl rfl (fun H locs hP hD hS => ?_)
  have hP : va_P D vwCl (([(h0, .inr (10, [.ref h1])), (h1, .inr (3, [.int modc, .ref h2, .int tsz])), (h2, .inl (cy 3, 10, .inr (.inr (.inr (.inr trow)))))] : va_W) ++ va_pl L (plF cy K te le tb mb wr nu ro pn rw dr)) H := hP
  have hD : va_D A (([(h0, .inr (10, [.ref h1])), (h1, .inr (3, [.int modc, .ref h2, .int tsz])), (h2, .inl (cy 3, 10, .inr (.inr (.inr (.inr trow)))))] : va_W) ++ va_pl L (plF cy K te le tb mb wr nu ro pn rw dr)) := hD
  refine lv_i2l hx hb dX6_turnsByRatios_11 rfl ?_
  obtain ⟨v5, e6, hf⟩ := bind_some' hf
  refine cl_l (va_runSN (As := [.long v1.1, .long v3.1.toInt64]) (rest := []) ⟨hx, hb, hml, hown, hts⟩ (c_X8_wholePart l D cy sa z0 H.size v1.1 v3.1.toInt64 _ e6) ⟨va_cnB 2 hts (lw_gd k_582) rfl rfl rfl (amb_N (w := Cond.methodLinkNest RX6 45 yX8_wholePart RX8) hG (List.mem_of_getElem? (i := 646) (by decide +kernel)) rfl rfl) (hts _ k_36) (by decide +kernel) ⟨Nat.le_of_ble_eq_true rfl, Nat.le_of_ble_eq_true rfl⟩, hts _ k_581, trivial⟩ (preS hG hS hZ hP hD [] rfl rfl) rfl rfl hl.1 rfl (lv_room (Nat.le_of_ble_eq_true rfl)) dX6_turnsByRatios_12 ⟨Nat.le_of_ble_eq_true rfl, Nat.le_of_ble_eq_true rfl⟩) hP hD hS hA [] rfl rfl rfl (fun H locs hP hD hS => ?_)
  have hP : va_P D vwCl (([(h0, .inr (10, [.ref h1])), (h1, .inr (3, [.int modc, .ref h2, .int tsz])), (h2, .inl (cy 3, 10, .inr (.inr (.inr (.inr trow)))))] : va_W) ++ va_pl L (plF cy K te le tb mb wr nu ro pn rw dr)) H := hP
  have hD : va_D A (([(h0, .inr (10, [.ref h1])), (h1, .inr (3, [.int modc, .ref h2, .int tsz])), (h2, .inl (cy 3, 10, .inr (.inr (.inr (.inr trow)))))] : va_W) ++ va_pl L (plF cy K te le tb mb wr nu ro pn rw dr)) := hD
  obtain rfl := Option.some.inj hf
  exact W.lret (v := v5.1) hx hb hr (fun t ht _ => ⟨⟨v5.1, (), rfl, rfl, by rw [ht]; exact hP, hD⟩, hS.F ht⟩) hS.2.2 dX6_turnsByRatios_15
noncomputable def X6_beatsOfTurn_b65 (b65_1 : UInt64) : Option (UInt64 × Unit) := some (b65_1, ())
noncomputable def X6_beatsOfTurn_L5_body (tsz : Int32) (trow : Nat → Option Nat) (L : List Nat) (K : Nat → Nat) (te : Nat → Int32) (le : Nat → Int32) (p0 : Int32) (k5 : UInt64 → Int32 → Option (UInt64 × Unit)) (b5_1 : UInt64) (b5_2 : Int32) : Option (UInt64 × Unit) := (if p0 < b5_2 then X6_beatsOfTurn_b65 b5_1 else (Jx4a65c_size_8abf5_f tsz).bind fun v2 => (if v2.1 ≤ b5_2 then X6_beatsOfTurn_b65 b5_1 else (Jx4a65c_get_915e3_f tsz trow b5_2).bind fun v5 => (v5.1).bind fun a7 => if (a7 ∈ L ∧ K a7 = 0) then (X7_toothCount_f a7 L K te).bind fun v14 => if (FP.dmul b5_1 (FP.i2d v14.1)) &&& 0x7fffffffffffffff ≤ 0x7ff0000000000000 then (Jx4a65c_get_915e3_f tsz trow b5_2).bind fun v17 => (v17.1).bind fun a19 => if (a19 ∈ L ∧ K a19 = 0) then (X7_leafCount_f a19 L K le).bind fun v26 => if (FP.ddiv (FP.dmul b5_1 (FP.i2d v14.1)) (FP.i2d v26.1)) &&& 0x7fffffffffffffff ≤ 0x7ff0000000000000 then k5 (FP.ddiv (FP.dmul b5_1 (FP.i2d v14.1)) (FP.i2d v26.1)) (b5_2 + (1 : Int32)) else none else none else none else none))
noncomputable def X6_beatsOfTurn_L5 (tsz : Int32) (trow : Nat → Option Nat) (L : List Nat) (K : Nat → Nat) (te : Nat → Int32) (le : Nat → Int32) (p0 : Int32) (n : Nat) : UInt64 → Int32 → Option (UInt64 × Unit) := Nat.rec (motive := fun _ => UInt64 → Int32 → Option (UInt64 × Unit)) (fun _ _ => none) (fun _ k5 b5_1 b5_2 => X6_beatsOfTurn_L5_body tsz trow L K te le p0 k5 b5_1 b5_2) n
noncomputable def X6_beatsOfTurn_f (N : Nat) (tsz : Int32) (trow : Nat → Option Nat) (L : List Nat) (K : Nat → Nat) (te : Nat → Int32) (le : Nat → Int32) (p0 : Int32) : Option (UInt64 × Unit) := X6_beatsOfTurn_L5 tsz trow L K te le p0 N (4607182418800017408 : UInt64) (0 : Int32)
set_option maxHeartbeats 4000000 in
set_option maxRecDepth 100000 in
theorem c_X6_beatsOfTurn (l : Launch) (D : va_G) (cy : Nat → ClassId) (sa : Nat → Nat) (z0 sz : Nat) (h0 : Nat) (h1 : Nat) (modc : Int32) (h2 : Nat) (tsz : Int32) (trow : Nat → Option Nat) (L : List Nat) (K : Nat → Nat) (te : Nat → Int32) (le : Nat → Int32) (tb : Nat → Int32) (mb : Nat → Int64) (wr : Nat → Int64) (nu : Nat → Int32) (ro : Nat → Nat) (pn : Nat → Int32) (rw : Nat → Nat → Int32) (dr : Nat → Nat → Option Nat) (p0 : Int32) (N : Nat) (o : (UInt64 × Unit)) (ho : X6_beatsOfTurn_f N tsz trow L K te le p0 = some o) : Met l yX6_beatsOfTurn (ws_ yX6_beatsOfTurn cX6_beatsOfTurn 5 (some .double)) ({ frames := 3, cells := 0, slots := 0, locals := 64 } : Room) (va_Pc [.ref h0, .int p0] (Pr D cy sa z0 (([(h0, .inr (10, [.ref h1])), (h1, .inr (3, [.int modc, .ref h2, .int tsz])), (h2, .inl (cy 3, 10, .inr (.inr (.inr (.inr trow)))))] : va_W) ++ va_pl L (plF cy K te le tb mb wr nu ro pn rw dr)) sz)) (QD D o (fun u => (([(h0, .inr (10, [.ref h1])), (h1, .inr (3, [.int modc, .ref h2, .int tsz])), (h2, .inl (cy 3, 10, .inr (.inr (.inr (.inr trow)))))] : va_W) ++ va_pl L (plF cy K te le tb mb wr nu ro pn rw dr))) (va_A (([(h0, .inr (10, [.ref h1])), (h1, .inr (3, [.int modc, .ref h2, .int tsz])), (h2, .inl (cy 3, 10, .inr (.inr (.inr (.inr trow)))))] : va_W) ++ va_pl L (plF cy K te le tb mb wr nu ro pn rw dr)) sz)) 0 0 (va_A (([(h0, .inr (10, [.ref h1])), (h1, .inr (3, [.int modc, .ref h2, .int tsz])), (h2, .inl (cy 3, 10, .inr (.inr (.inr (.inr trow)))))] : va_W) ++ va_pl L (plF cy K te le tb mb wr nu ro pn rw dr)) sz) := by
  refine MT (Qf := QD D o (fun u => (([(h0, .inr (10, [.ref h1])), (h1, .inr (3, [.int modc, .ref h2, .int tsz])), (h2, .inl (cy 3, 10, .inr (.inr (.inr (.inr trow)))))] : va_W) ++ va_pl L (plF cy K te le tb mb wr nu ro pn rw dr)))) (plainFor_of_name (by decide +kernel)) (Nat.le_of_ble_eq_true rfl) ?_
  intro p e s m below meth c A ls H hx hb hml hr hlocks hown hnm hts hG hA hZ hP hD hS hl
  have hK := hG.K
  have hl : lv_has ls 5 [(0, .ref h0), (1, .int p0)] := hl
  have hf : X6_beatsOfTurn_f N tsz trow L K te le p0 = some o := ho
  clear ho
  unfold X6_beatsOfTurn_f at hf
  have J65 : ∀ (b65_1 : UInt64), ∀ (H : Heap) (locs : List Loc), va_P D vwCl (([(h0, .inr (10, [.ref h1])), (h1, .inr (3, [.int modc, .ref h2, .int tsz])), (h2, .inl (cy 3, 10, .inr (.inr (.inr (.inr trow)))))] : va_W) ++ va_pl L (plF cy K te le tb mb wr nu ro pn rw dr)) H → va_D A (([(h0, .inr (10, [.ref h1])), (h1, .inr (3, [.int modc, .ref h2, .int tsz])), (h2, .inl (cy 3, 10, .inr (.inr (.inr (.inr trow)))))] : va_W) ++ va_pl L (plF cy K te le tb mb wr nu ro pn rw dr)) → va_S A s.heap H locs → ∀ (ls : Array Slot), lv_has ls 5 [(2, .double b65_1)] → X6_beatsOfTurn_b65 b65_1 = some o → W p l e ({ frames := 3, cells := 0, slots := 0, locals := 64 } : Room) s m ([.ref h0, .int p0] : List Value).toArray below meth c H locs 0 0 (MQ below (QD D o (fun u => (([(h0, .inr (10, [.ref h1])), (h1, .inr (3, [.int modc, .ref h2, .int tsz])), (h2, .inl (cy 3, 10, .inr (.inr (.inr (.inr trow)))))] : va_W) ++ va_pl L (plF cy K te le tb mb wr nu ro pn rw dr))) A) ([.ref h0, .int p0] : List Value).toArray s 0 0 A) (F0 m 65 ls []) := by
    intro b65_1 H locs hP hD hS ls hl hf
    unfold X6_beatsOfTurn_b65 at hf
    refine lv_dload_n hx hb dX6_beatsOfTurn_65 rfl (lv_at hl 0 rfl) ?_
    obtain rfl := Option.some.inj hf
    exact W.dret (v := b65_1) hx hb hr (fun t ht _ => ⟨⟨b65_1, (), rfl, rfl, by rw [ht]; exact hP, hD⟩, hS.F ht⟩) hS.2.2 dX6_beatsOfTurn_66
  have L5 : ∀ (n : Nat) (b5_1 : UInt64) (b5_2 : Int32), ∀ (H : Heap) (locs : List Loc), va_P D vwCl (([(h0, .inr (10, [.ref h1])), (h1, .inr (3, [.int modc, .ref h2, .int tsz])), (h2, .inl (cy 3, 10, .inr (.inr (.inr (.inr trow)))))] : va_W) ++ va_pl L (plF cy K te le tb mb wr nu ro pn rw dr)) H → va_D A (([(h0, .inr (10, [.ref h1])), (h1, .inr (3, [.int modc, .ref h2, .int tsz])), (h2, .inl (cy 3, 10, .inr (.inr (.inr (.inr trow)))))] : va_W) ++ va_pl L (plF cy K te le tb mb wr nu ro pn rw dr)) → va_S A s.heap H locs → ∀ (ls : Array Slot), lv_has ls 5 [(0, .ref h0), (1, .int p0), (2, .double b5_1), (4, .int b5_2)] → X6_beatsOfTurn_L5 tsz trow L K te le p0 n b5_1 b5_2 = some o → W p l e ({ frames := 3, cells := 0, slots := 0, locals := 64 } : Room) s m ([.ref h0, .int p0] : List Value).toArray below meth c H locs 0 0 (MQ below (QD D o (fun u => (([(h0, .inr (10, [.ref h1])), (h1, .inr (3, [.int modc, .ref h2, .int tsz])), (h2, .inl (cy 3, 10, .inr (.inr (.inr (.inr trow)))))] : va_W) ++ va_pl L (plF cy K te le tb mb wr nu ro pn rw dr))) A) ([.ref h0, .int p0] : List Value).toArray s 0 0 A) (F0 m 5 ls []) := by
    intro n
    induction n with
    | zero => intro b5_1 b5_2 H locs hP hD hS ls hl hf; cases (show (none : Option (UInt64 × Unit)) = some o from hf)
    | succ n ih_5 =>
      intro b5_1 b5_2 H locs hP hD hS ls hl hf
      have hf : X6_beatsOfTurn_L5_body tsz trow L K te le p0 (X6_beatsOfTurn_L5 tsz trow L K te le p0 n) b5_1 b5_2 = some o := hf
      generalize X6_beatsOfTurn_L5 tsz trow L K te le p0 n = k5 at ih_5 hf
      unfold X6_beatsOfTurn_L5_body at hf
      refine lv_iload hx hb dX6_beatsOfTurn_5 (lv_at hl 3 rfl) ?_
      refine lv_iload_n hx hb dX6_beatsOfTurn_7 rfl (lv_at hl 1 rfl) ?_
      refine lv_icmp_gt (tgt := 65) hx hb dX6_beatsOfTurn_8 (by decide) (fun c1 => ?_) (fun c1 => ?_)
      · rw [if_pos c1] at hf
        exact J65 b5_1 _ _ hP hD hS _ (lv_sub hl [2] rfl) hf
      · rw [if_neg c1] at hf
        refine lv_iload hx hb dX6_beatsOfTurn_11 (lv_at hl 3 rfl) ?_
        refine lv_aload_n hx hb dX6_beatsOfTurn_13 rfl (lv_at hl 0 rfl) ?_
        refine va_get (D := D) (ci := 10) (v := .ref h1) (C := RX6) (T := TX6) (N := 1) hx hb hts in_X6 hown hK hP 0 rfl rfl 0 (by decide) (hts _ k_203) (fun _ h9 => h9) rfl dX6_beatsOfTurn_14 ?_
        obtain ⟨v2, e3, hf⟩ := bind_some' hf
        refine cl_i (va_runV (As := []) (rest := [.int b5_2]) ⟨hx, hb, hml, hown, hts⟩ (c_Jx4a65c_size_8abf5 l D cy sa z0 H.size h1 modc h2 tsz trow _ e3) (cwV 0 hts (lw_gV k_348 k_349 k_350 k_40 k_351) rfl rfl rfl (by decide +kernel) ⟨Nat.le_of_ble_eq_true rfl, Nat.le_of_ble_eq_true rfl⟩) (preV hG hS hZ hP hD [1, 2] rfl rfl (ci := 3) (q0 := 1) rfl rfl) rfl rfl hl.1 rfl (lv_room (Nat.le_of_ble_eq_true rfl)) dX6_beatsOfTurn_17 ⟨Nat.le_of_ble_eq_true rfl, Nat.le_of_ble_eq_true rfl⟩) hP hD hS hA [1, 2] rfl rfl rfl (fun H locs hP hD hS => ?_)
        have hP : va_P D vwCl (([(h0, .inr (10, [.ref h1])), (h1, .inr (3, [.int modc, .ref h2, .int tsz])), (h2, .inl (cy 3, 10, .inr (.inr (.inr (.inr trow)))))] : va_W) ++ va_pl L (plF cy K te le tb mb wr nu ro pn rw dr)) H := hP
        have hD : va_D A (([(h0, .inr (10, [.ref h1])), (h1, .inr (3, [.int modc, .ref h2, .int tsz])), (h2, .inl (cy 3, 10, .inr (.inr (.inr (.inr trow)))))] : va_W) ++ va_pl L (plF cy K te le tb mb wr nu ro pn rw dr)) := hD
        refine lv_icmp_ge (tgt := 65) hx hb dX6_beatsOfTurn_20 (by decide) (fun c4 => ?_) (fun c4 => ?_)
        · rw [if_pos c4] at hf
          exact J65 b5_1 _ _ hP hD hS _ (lv_sub hl [2] rfl) hf
        · rw [if_neg c4] at hf
          refine lv_dload_n hx hb dX6_beatsOfTurn_23 rfl (lv_at hl 2 rfl) ?_
          refine lv_aload_n hx hb dX6_beatsOfTurn_24 rfl (lv_at hl 0 rfl) ?_
          refine va_get (D := D) (ci := 10) (v := .ref h1) (C := RX6) (T := TX6) (N := 1) hx hb hts in_X6 hown hK hP 0 rfl rfl 0 (by decide) (hts _ k_203) (fun _ h9 => h9) rfl dX6_beatsOfTurn_25 ?_
          refine lv_iload hx hb dX6_beatsOfTurn_28 (lv_at hl 3 rfl) ?_
          obtain ⟨v5, e6, hf⟩ := bind_some' hf
          refine cl_q (va_runV (As := [.int b5_2]) (rest := [.double b5_1]) ⟨hx, hb, hml, hown, hts⟩ (c_Jx4a65c_get_915e3 l D cy sa z0 H.size h1 modc h2 tsz trow b5_2 _ e6) (cwV 1 hts (lw_gV k_554 k_555 k_556 k_40 k_557) rfl rfl rfl (by decide +kernel) ⟨Nat.le_of_ble_eq_true rfl, Nat.le_of_ble_eq_true rfl⟩) (preV hG hS hZ hP hD [1, 2] rfl rfl (ci := 3) (q0 := 1) rfl rfl) rfl rfl hl.1 rfl (lv_room (Nat.le_of_ble_eq_true rfl)) dX6_beatsOfTurn_30 ⟨Nat.le_of_ble_eq_true rfl, Nat.le_of_ble_eq_true rfl⟩) hP hD hS hA [1, 2] rfl rfl rfl (fun H locs hP hD hS => ?_)
          have hP : va_P D vwCl (([(h0, .inr (10, [.ref h1])), (h1, .inr (3, [.int modc, .ref h2, .int tsz])), (h2, .inl (cy 3, 10, .inr (.inr (.inr (.inr trow)))))] : va_W) ++ va_pl L (plF cy K te le tb mb wr nu ro pn rw dr)) H := hP
          have hD : va_D A (([(h0, .inr (10, [.ref h1])), (h1, .inr (3, [.int modc, .ref h2, .int tsz])), (h2, .inl (cy 3, 10, .inr (.inr (.inr (.inr trow)))))] : va_W) ++ va_pl L (plF cy K te le tb mb wr nu ro pn rw dr)) := hD
          obtain ⟨a7, e8, hf⟩ := bind_some' hf
          rw [e8]
          obtain ⟨g9, hf⟩ := ite_some' hf
          obtain ⟨k10, e11⟩ := pl_0 (cy := cy) (te := te) (le := le) (tb := tb) (mb := mb) (wr := wr) (nu := nu) (ro := ro) (pn := pn) (rw := rw) (dr := dr) (X := [(h0, .inr (10, [.ref h1])), (h1, .inr (3, [.int modc, .ref h2, .int tsz])), (h2, .inl (cy 3, 10, .inr (.inr (.inr (.inr trow)))))]) g9.1 g9.2
          refine va_castS hx hb hown (hts _ k_115) (hK.1 11 _ rfl).2 (va_recv hK hP (ci := 11) (q0 := k10) rfl e11) dX6_beatsOfTurn_33 ?_
          obtain ⟨k12, e13⟩ := pl_0 (cy := cy) (te := te) (le := le) (tb := tb) (mb := mb) (wr := wr) (nu := nu) (ro := ro) (pn := pn) (rw := rw) (dr := dr) (X := [(h0, .inr (10, [.ref h1])), (h1, .inr (3, [.int modc, .ref h2, .int tsz])), (h2, .inl (cy 3, 10, .inr (.inr (.inr (.inr trow)))))]) g9.1 g9.2
          obtain ⟨v14, e15, hf⟩ := bind_some' hf
          refine clP_i (va_runV (As := []) (rest := [.double b5_1]) ⟨hx, hb, hml, hown, hts⟩ (c_X7_toothCount l D cy sa z0 H.size a7 L K te le tb mb wr nu ro pn rw dr _ e15) (cwV 0 hts (lw_gV k_568 k_569 k_570 k_41 k_571) rfl rfl rfl (by decide +kernel) ⟨Nat.le_of_ble_eq_true rfl, Nat.le_of_ble_eq_true rfl⟩) (preVP hG hS hZ hP hD [] rfl rfl (ci := 9) (q0 := k12) rfl e13) rfl rfl hl.1 rfl (lv_room (Nat.le_of_ble_eq_true rfl)) dX6_beatsOfTurn_36 ⟨Nat.le_of_ble_eq_true rfl, Nat.le_of_ble_eq_true rfl⟩) hP hD hS hA [] rfl rfl rfl (fun H locs hP hD hS => ?_)
          have hP : va_P D vwCl (([(h0, .inr (10, [.ref h1])), (h1, .inr (3, [.int modc, .ref h2, .int tsz])), (h2, .inl (cy 3, 10, .inr (.inr (.inr (.inr trow)))))] : va_W) ++ va_pl L (plF cy K te le tb mb wr nu ro pn rw dr)) H := hP
          have hD : va_D A (([(h0, .inr (10, [.ref h1])), (h1, .inr (3, [.int modc, .ref h2, .int tsz])), (h2, .inl (cy 3, 10, .inr (.inr (.inr (.inr trow)))))] : va_W) ++ va_pl L (plF cy K te le tb mb wr nu ro pn rw dr)) := hD
          refine lv_i2d hx hb dX6_beatsOfTurn_39 ?_
          obtain ⟨g16, hf⟩ := ite_some' hf
          refine lv_dmul hx hb dX6_beatsOfTurn_40 g16 ?_
          refine lv_aload_n hx hb dX6_beatsOfTurn_41 rfl (lv_at hl 0 rfl) ?_
          refine va_get (D := D) (ci := 10) (v := .ref h1) (C := RX6) (T := TX6) (N := 1) hx hb hts in_X6 hown hK hP 0 rfl rfl 0 (by decide) (hts _ k_203) (fun _ h9 => h9) rfl dX6_beatsOfTurn_42 ?_
          refine lv_iload hx hb dX6_beatsOfTurn_45 (lv_at hl 3 rfl) ?_
          obtain ⟨v17, e18, hf⟩ := bind_some' hf
          refine cl_q (va_runV (As := [.int b5_2]) (rest := [.double (FP.dmul b5_1 (FP.i2d v14.1))]) ⟨hx, hb, hml, hown, hts⟩ (c_Jx4a65c_get_915e3 l D cy sa z0 H.size h1 modc h2 tsz trow b5_2 _ e18) (cwV 1 hts (lw_gV k_554 k_555 k_556 k_40 k_557) rfl rfl rfl (by decide +kernel) ⟨Nat.le_of_ble_eq_true rfl, Nat.le_of_ble_eq_true rfl⟩) (preV hG hS hZ hP hD [1, 2] rfl rfl (ci := 3) (q0 := 1) rfl rfl) rfl rfl hl.1 rfl (lv_room (Nat.le_of_ble_eq_true rfl)) dX6_beatsOfTurn_47 ⟨Nat.le_of_ble_eq_true rfl, Nat.le_of_ble_eq_true rfl⟩) hP hD hS hA [1, 2] rfl rfl rfl (fun H locs hP hD hS => ?_)
          have hP : va_P D vwCl (([(h0, .inr (10, [.ref h1])), (h1, .inr (3, [.int modc, .ref h2, .int tsz])), (h2, .inl (cy 3, 10, .inr (.inr (.inr (.inr trow)))))] : va_W) ++ va_pl L (plF cy K te le tb mb wr nu ro pn rw dr)) H := hP
          have hD : va_D A (([(h0, .inr (10, [.ref h1])), (h1, .inr (3, [.int modc, .ref h2, .int tsz])), (h2, .inl (cy 3, 10, .inr (.inr (.inr (.inr trow)))))] : va_W) ++ va_pl L (plF cy K te le tb mb wr nu ro pn rw dr)) := hD
          obtain ⟨a19, e20, hf⟩ := bind_some' hf
          rw [e20]
          obtain ⟨g21, hf⟩ := ite_some' hf
          obtain ⟨k22, e23⟩ := pl_0 (cy := cy) (te := te) (le := le) (tb := tb) (mb := mb) (wr := wr) (nu := nu) (ro := ro) (pn := pn) (rw := rw) (dr := dr) (X := [(h0, .inr (10, [.ref h1])), (h1, .inr (3, [.int modc, .ref h2, .int tsz])), (h2, .inl (cy 3, 10, .inr (.inr (.inr (.inr trow)))))]) g21.1 g21.2
          refine va_castS hx hb hown (hts _ k_115) (hK.1 11 _ rfl).2 (va_recv hK hP (ci := 11) (q0 := k22) rfl e23) dX6_beatsOfTurn_50 ?_
          obtain ⟨k24, e25⟩ := pl_0 (cy := cy) (te := te) (le := le) (tb := tb) (mb := mb) (wr := wr) (nu := nu) (ro := ro) (pn := pn) (rw := rw) (dr := dr) (X := [(h0, .inr (10, [.ref h1])), (h1, .inr (3, [.int modc, .ref h2, .int tsz])), (h2, .inl (cy 3, 10, .inr (.inr (.inr (.inr trow)))))]) g21.1 g21.2
          obtain ⟨v26, e27, hf⟩ := bind_some' hf
          refine clP_i (va_runV (As := []) (rest := [.double (FP.dmul b5_1 (FP.i2d v14.1))]) ⟨hx, hb, hml, hown, hts⟩ (c_X7_leafCount l D cy sa z0 H.size a19 L K te le tb mb wr nu ro pn rw dr _ e27) (cwV 0 hts (lw_gV k_658 k_659 k_660 k_41 k_661) rfl rfl rfl (by decide +kernel) ⟨Nat.le_of_ble_eq_true rfl, Nat.le_of_ble_eq_true rfl⟩) (preVP hG hS hZ hP hD [] rfl rfl (ci := 9) (q0 := k24) rfl e25) rfl rfl hl.1 rfl (lv_room (Nat.le_of_ble_eq_true rfl)) dX6_beatsOfTurn_53 ⟨Nat.le_of_ble_eq_true rfl, Nat.le_of_ble_eq_true rfl⟩) hP hD hS hA [] rfl rfl rfl (fun H locs hP hD hS => ?_)
          have hP : va_P D vwCl (([(h0, .inr (10, [.ref h1])), (h1, .inr (3, [.int modc, .ref h2, .int tsz])), (h2, .inl (cy 3, 10, .inr (.inr (.inr (.inr trow)))))] : va_W) ++ va_pl L (plF cy K te le tb mb wr nu ro pn rw dr)) H := hP
          have hD : va_D A (([(h0, .inr (10, [.ref h1])), (h1, .inr (3, [.int modc, .ref h2, .int tsz])), (h2, .inl (cy 3, 10, .inr (.inr (.inr (.inr trow)))))] : va_W) ++ va_pl L (plF cy K te le tb mb wr nu ro pn rw dr)) := hD
          refine lv_i2d hx hb dX6_beatsOfTurn_56 ?_
          obtain ⟨g28, hf⟩ := ite_some' hf
          refine lv_ddiv hx hb dX6_beatsOfTurn_57 g28 ?_
          refine lv_dstore_n (lv' := [(2, .double (FP.ddiv (FP.dmul b5_1 (FP.i2d v14.1)) (FP.i2d v26.1))), (0, .ref h0), (1, .int p0), (4, .int b5_2)]) hx hb dX6_beatsOfTurn_58 rfl hl (by decide) rfl (fun ls hl => ?_)
          refine lv_iinc (v := (b5_2 + (1 : Int32))) (lv' := [(4, .int (b5_2 + (1 : Int32))), (2, .double (FP.ddiv (FP.dmul b5_1 (FP.i2d v14.1)) (FP.i2d v26.1))), (0, .ref h0), (1, .int p0)]) hx hb dX6_beatsOfTurn_59 hl (k := 3) rfl (by rfl) (by decide) rfl (fun ls hl => ?_)
          refine lv_goto (tgt := 5) hx hb dX6_beatsOfTurn_62 (by decide) ?_
          exact ih_5 (FP.ddiv (FP.dmul b5_1 (FP.i2d v14.1)) (FP.i2d v26.1)) (b5_2 + (1 : Int32)) _ _ hP hD hS _ (lv_sub hl [2, 3, 1, 0] rfl) hf
  refine lv_dconst1 hx hb dX6_beatsOfTurn_0 ?_
  refine lv_dstore_n (lv' := [(2, .double (4607182418800017408 : UInt64)), (0, .ref h0), (1, .int p0)]) hx hb dX6_beatsOfTurn_1 rfl hl (by decide) rfl (fun ls hl => ?_)
  refine lv_iconst (v := (0 : Int32)) hx hb dX6_beatsOfTurn_2 (by decide) ?_
  refine lv_istore (lv' := [(4, .int (0 : Int32)), (2, .double (4607182418800017408 : UInt64)), (0, .ref h0), (1, .int p0)]) hx hb dX6_beatsOfTurn_3 hl (by decide) rfl (fun ls hl => ?_)
  exact L5 N (4607182418800017408 : UInt64) (0 : Int32) _ _ hP hD hS _ (lv_sub hl [2, 3, 1, 0] rfl) hf
noncomputable def X6_startWalk_b66 (b66_1 : Int64) (b66_2 : (Nat → Int64)) : Option (Int64 × (Nat → Int64)) := some (b66_1, b66_2)
noncomputable def X6_startWalk_L6_body (tsz : Int32) (trow : Nat → Option Nat) (L : List Nat) (K : Nat → Nat) (le : Nat → Int32) (tb : Nat → Int32) (mb : Nat → Int64) (p0 : Int32) (k6 : Int64 → Int32 → (Nat → Int64) → Option (Int64 × (Nat → Int64))) (b6_1 : Int64) (b6_2 : Int32) (b6_3 : (Nat → Int64)) : Option (Int64 × (Nat → Int64)) := (if p0 < b6_2 then X6_startWalk_b66 b6_1 b6_3 else (Jx4a65c_size_8abf5_f tsz).bind fun v2 => (if v2.1 ≤ b6_2 then X6_startWalk_b66 b6_1 b6_3 else (Jx4a65c_get_915e3_f tsz trow b6_2).bind fun v5 => (v5.1).bind fun a7 => if (a7 ∈ L ∧ K a7 = 0) then (X7_startWalk_f a7 L K le tb mb b6_3 b6_1).bind fun v14 => (Jx4a65c_get_915e3_f tsz trow b6_2).bind fun v16 => (v16.1).bind fun a18 => if (a18 ∈ L ∧ K a18 = 0) then (X7_movedWhen_f a18 L K le tb mb b6_1).bind fun v25 => k6 v25.1 (b6_2 + (1 : Int32)) v14 else none else none))
noncomputable def X6_startWalk_L6 (tsz : Int32) (trow : Nat → Option Nat) (L : List Nat) (K : Nat → Nat) (le : Nat → Int32) (tb : Nat → Int32) (mb : Nat → Int64) (p0 : Int32) (n : Nat) : Int64 → Int32 → (Nat → Int64) → Option (Int64 × (Nat → Int64)) := Nat.rec (motive := fun _ => Int64 → Int32 → (Nat → Int64) → Option (Int64 × (Nat → Int64))) (fun _ _ _ => none) (fun _ k6 b6_1 b6_2 b6_3 => X6_startWalk_L6_body tsz trow L K le tb mb p0 k6 b6_1 b6_2 b6_3) n
noncomputable def X6_startWalk_f (N : Nat) (tsz : Int32) (trow : Nat → Option Nat) (L : List Nat) (K : Nat → Nat) (le : Nat → Int32) (tb : Nat → Int32) (mb : Nat → Int64) (wr : Nat → Int64) (p0 : Int32) (p1 : Int64) : Option (Int64 × (Nat → Int64)) := X6_startWalk_L6 tsz trow L K le tb mb p0 N p1 (0 : Int32) wr
set_option maxHeartbeats 4000000 in
set_option maxRecDepth 100000 in
theorem c_X6_startWalk (l : Launch) (D : va_G) (cy : Nat → ClassId) (sa : Nat → Nat) (z0 sz : Nat) (h0 : Nat) (h1 : Nat) (modc : Int32) (h2 : Nat) (tsz : Int32) (trow : Nat → Option Nat) (L : List Nat) (K : Nat → Nat) (te : Nat → Int32) (le : Nat → Int32) (tb : Nat → Int32) (mb : Nat → Int64) (wr : Nat → Int64) (nu : Nat → Int32) (ro : Nat → Nat) (pn : Nat → Int32) (rw : Nat → Nat → Int32) (dr : Nat → Nat → Option Nat) (p0 : Int32) (p1 : Int64) (N : Nat) (o : (Int64 × (Nat → Int64))) (ho : X6_startWalk_f N tsz trow L K le tb mb wr p0 p1 = some o) : Met l yX6_startWalk (ws_ yX6_startWalk cX6_startWalk 7 (some .long)) ({ frames := 4, cells := 0, slots := 0, locals := 92 } : Room) (va_Pc [.ref h0, .int p0, .long p1] (Pr D cy sa z0 (([(h0, .inr (10, [.ref h1])), (h1, .inr (3, [.int modc, .ref h2, .int tsz])), (h2, .inl (cy 3, 10, .inr (.inr (.inr (.inr trow)))))] : va_W) ++ va_pl L (plF cy K te le tb mb wr nu ro pn rw dr)) sz)) (QL D o (fun u => (([(h0, .inr (10, [.ref h1])), (h1, .inr (3, [.int modc, .ref h2, .int tsz])), (h2, .inl (cy 3, 10, .inr (.inr (.inr (.inr trow)))))] : va_W) ++ va_pl L (plF cy K te le tb mb u nu ro pn rw dr))) (va_A (([(h0, .inr (10, [.ref h1])), (h1, .inr (3, [.int modc, .ref h2, .int tsz])), (h2, .inl (cy 3, 10, .inr (.inr (.inr (.inr trow)))))] : va_W) ++ va_pl L (plF cy K te le tb mb wr nu ro pn rw dr)) sz)) 0 0 (va_A (([(h0, .inr (10, [.ref h1])), (h1, .inr (3, [.int modc, .ref h2, .int tsz])), (h2, .inl (cy 3, 10, .inr (.inr (.inr (.inr trow)))))] : va_W) ++ va_pl L (plF cy K te le tb mb wr nu ro pn rw dr)) sz) := by
  refine MT (Qf := QL D o (fun u => (([(h0, .inr (10, [.ref h1])), (h1, .inr (3, [.int modc, .ref h2, .int tsz])), (h2, .inl (cy 3, 10, .inr (.inr (.inr (.inr trow)))))] : va_W) ++ va_pl L (plF cy K te le tb mb u nu ro pn rw dr)))) (plainFor_of_name (by decide +kernel)) (Nat.le_of_ble_eq_true rfl) ?_
  intro p e s m below meth c A ls H hx hb hml hr hlocks hown hnm hts hG hA hZ hP hD hS hl
  have hK := hG.K
  have hl : lv_has ls 7 [(0, .ref h0), (1, .int p0), (2, .long p1)] := hl
  have hf : X6_startWalk_f N tsz trow L K le tb mb wr p0 p1 = some o := ho
  clear ho
  unfold X6_startWalk_f at hf
  have J66 : ∀ (b66_1 : Int64) (b66_2 : (Nat → Int64)), ∀ (H : Heap) (locs : List Loc), va_P D vwCl (([(h0, .inr (10, [.ref h1])), (h1, .inr (3, [.int modc, .ref h2, .int tsz])), (h2, .inl (cy 3, 10, .inr (.inr (.inr (.inr trow)))))] : va_W) ++ va_pl L (plF cy K te le tb mb b66_2 nu ro pn rw dr)) H → va_D A (([(h0, .inr (10, [.ref h1])), (h1, .inr (3, [.int modc, .ref h2, .int tsz])), (h2, .inl (cy 3, 10, .inr (.inr (.inr (.inr trow)))))] : va_W) ++ va_pl L (plF cy K te le tb mb b66_2 nu ro pn rw dr)) → va_S A s.heap H locs → ∀ (ls : Array Slot), lv_has ls 7 [(4, .long b66_1)] → X6_startWalk_b66 b66_1 b66_2 = some o → W p l e ({ frames := 4, cells := 0, slots := 0, locals := 92 } : Room) s m ([.ref h0, .int p0, .long p1] : List Value).toArray below meth c H locs 0 0 (MQ below (QL D o (fun u => (([(h0, .inr (10, [.ref h1])), (h1, .inr (3, [.int modc, .ref h2, .int tsz])), (h2, .inl (cy 3, 10, .inr (.inr (.inr (.inr trow)))))] : va_W) ++ va_pl L (plF cy K te le tb mb u nu ro pn rw dr))) A) ([.ref h0, .int p0, .long p1] : List Value).toArray s 0 0 A) (F0 m 66 ls []) := by
    intro b66_1 b66_2 H locs hP hD hS ls hl hf
    unfold X6_startWalk_b66 at hf
    refine lv_lload hx hb dX6_startWalk_66 (lv_at hl 0 rfl) ?_
    obtain rfl := Option.some.inj hf
    exact W.lret (v := b66_1) hx hb hr (fun t ht _ => ⟨⟨b66_1, b66_2, rfl, rfl, by rw [ht]; exact hP, hD⟩, hS.F ht⟩) hS.2.2 dX6_startWalk_68
  have L6 : ∀ (n : Nat) (b6_1 : Int64) (b6_2 : Int32) (b6_3 : (Nat → Int64)), ∀ (H : Heap) (locs : List Loc), va_P D vwCl (([(h0, .inr (10, [.ref h1])), (h1, .inr (3, [.int modc, .ref h2, .int tsz])), (h2, .inl (cy 3, 10, .inr (.inr (.inr (.inr trow)))))] : va_W) ++ va_pl L (plF cy K te le tb mb b6_3 nu ro pn rw dr)) H → va_D A (([(h0, .inr (10, [.ref h1])), (h1, .inr (3, [.int modc, .ref h2, .int tsz])), (h2, .inl (cy 3, 10, .inr (.inr (.inr (.inr trow)))))] : va_W) ++ va_pl L (plF cy K te le tb mb b6_3 nu ro pn rw dr)) → va_S A s.heap H locs → ∀ (ls : Array Slot), lv_has ls 7 [(0, .ref h0), (1, .int p0), (4, .long b6_1), (6, .int b6_2)] → X6_startWalk_L6 tsz trow L K le tb mb p0 n b6_1 b6_2 b6_3 = some o → W p l e ({ frames := 4, cells := 0, slots := 0, locals := 92 } : Room) s m ([.ref h0, .int p0, .long p1] : List Value).toArray below meth c H locs 0 0 (MQ below (QL D o (fun u => (([(h0, .inr (10, [.ref h1])), (h1, .inr (3, [.int modc, .ref h2, .int tsz])), (h2, .inl (cy 3, 10, .inr (.inr (.inr (.inr trow)))))] : va_W) ++ va_pl L (plF cy K te le tb mb u nu ro pn rw dr))) A) ([.ref h0, .int p0, .long p1] : List Value).toArray s 0 0 A) (F0 m 6 ls []) := by
    intro n
    induction n with
    | zero => intro b6_1 b6_2 b6_3 H locs hP hD hS ls hl hf; cases (show (none : Option (Int64 × (Nat → Int64))) = some o from hf)
    | succ n ih_6 =>
      intro b6_1 b6_2 b6_3 H locs hP hD hS ls hl hf
      have hf : X6_startWalk_L6_body tsz trow L K le tb mb p0 (X6_startWalk_L6 tsz trow L K le tb mb p0 n) b6_1 b6_2 b6_3 = some o := hf
      generalize X6_startWalk_L6 tsz trow L K le tb mb p0 n = k6 at ih_6 hf
      unfold X6_startWalk_L6_body at hf
      refine lv_iload hx hb dX6_startWalk_6 (lv_at hl 3 rfl) ?_
      refine lv_iload_n hx hb dX6_startWalk_8 rfl (lv_at hl 1 rfl) ?_
      refine lv_icmp_gt (tgt := 66) hx hb dX6_startWalk_9 (by decide) (fun c1 => ?_) (fun c1 => ?_)
      · rw [if_pos c1] at hf
        exact J66 b6_1 b6_3 _ _ hP hD hS _ (lv_sub hl [2] rfl) hf
      · rw [if_neg c1] at hf
        refine lv_iload hx hb dX6_startWalk_12 (lv_at hl 3 rfl) ?_
        refine lv_aload_n hx hb dX6_startWalk_14 rfl (lv_at hl 0 rfl) ?_
        refine va_get (D := D) (ci := 10) (v := .ref h1) (C := RX6) (T := TX6) (N := 1) hx hb hts in_X6 hown hK hP 0 rfl rfl 0 (by decide) (hts _ k_203) (fun _ h9 => h9) rfl dX6_startWalk_15 ?_
        obtain ⟨v2, e3, hf⟩ := bind_some' hf
        refine cl_i (va_runV (As := []) (rest := [.int b6_2]) ⟨hx, hb, hml, hown, hts⟩ (c_Jx4a65c_size_8abf5 l D cy sa z0 H.size h1 modc h2 tsz trow _ e3) (cwV 0 hts (lw_gV k_348 k_349 k_350 k_40 k_351) rfl rfl rfl (by decide +kernel) ⟨Nat.le_of_ble_eq_true rfl, Nat.le_of_ble_eq_true rfl⟩) (preV hG hS hZ hP hD [1, 2] rfl rfl (ci := 3) (q0 := 1) rfl rfl) rfl rfl hl.1 rfl (lv_room (Nat.le_of_ble_eq_true rfl)) dX6_startWalk_18 ⟨Nat.le_of_ble_eq_true rfl, Nat.le_of_ble_eq_true rfl⟩) hP hD hS hA [1, 2] rfl rfl rfl (fun H locs hP hD hS => ?_)
        have hP : va_P D vwCl (([(h0, .inr (10, [.ref h1])), (h1, .inr (3, [.int modc, .ref h2, .int tsz])), (h2, .inl (cy 3, 10, .inr (.inr (.inr (.inr trow)))))] : va_W) ++ va_pl L (plF cy K te le tb mb b6_3 nu ro pn rw dr)) H := hP
        have hD : va_D A (([(h0, .inr (10, [.ref h1])), (h1, .inr (3, [.int modc, .ref h2, .int tsz])), (h2, .inl (cy 3, 10, .inr (.inr (.inr (.inr trow)))))] : va_W) ++ va_pl L (plF cy K te le tb mb b6_3 nu ro pn rw dr)) := hD
        refine lv_icmp_ge (tgt := 66) hx hb dX6_startWalk_21 (by decide) (fun c4 => ?_) (fun c4 => ?_)
        · rw [if_pos c4] at hf
          exact J66 b6_1 b6_3 _ _ hP hD hS _ (lv_sub hl [2] rfl) hf
        · rw [if_neg c4] at hf
          refine lv_aload_n hx hb dX6_startWalk_24 rfl (lv_at hl 0 rfl) ?_
          refine va_get (D := D) (ci := 10) (v := .ref h1) (C := RX6) (T := TX6) (N := 1) hx hb hts in_X6 hown hK hP 0 rfl rfl 0 (by decide) (hts _ k_203) (fun _ h9 => h9) rfl dX6_startWalk_25 ?_
          refine lv_iload hx hb dX6_startWalk_28 (lv_at hl 3 rfl) ?_
          obtain ⟨v5, e6, hf⟩ := bind_some' hf
          refine cl_q (va_runV (As := [.int b6_2]) (rest := []) ⟨hx, hb, hml, hown, hts⟩ (c_Jx4a65c_get_915e3 l D cy sa z0 H.size h1 modc h2 tsz trow b6_2 _ e6) (cwV 1 hts (lw_gV k_554 k_555 k_556 k_40 k_557) rfl rfl rfl (by decide +kernel) ⟨Nat.le_of_ble_eq_true rfl, Nat.le_of_ble_eq_true rfl⟩) (preV hG hS hZ hP hD [1, 2] rfl rfl (ci := 3) (q0 := 1) rfl rfl) rfl rfl hl.1 rfl (lv_room (Nat.le_of_ble_eq_true rfl)) dX6_startWalk_30 ⟨Nat.le_of_ble_eq_true rfl, Nat.le_of_ble_eq_true rfl⟩) hP hD hS hA [1, 2] rfl rfl rfl (fun H locs hP hD hS => ?_)
          have hP : va_P D vwCl (([(h0, .inr (10, [.ref h1])), (h1, .inr (3, [.int modc, .ref h2, .int tsz])), (h2, .inl (cy 3, 10, .inr (.inr (.inr (.inr trow)))))] : va_W) ++ va_pl L (plF cy K te le tb mb b6_3 nu ro pn rw dr)) H := hP
          have hD : va_D A (([(h0, .inr (10, [.ref h1])), (h1, .inr (3, [.int modc, .ref h2, .int tsz])), (h2, .inl (cy 3, 10, .inr (.inr (.inr (.inr trow)))))] : va_W) ++ va_pl L (plF cy K te le tb mb b6_3 nu ro pn rw dr)) := hD
          obtain ⟨a7, e8, hf⟩ := bind_some' hf
          rw [e8]
          obtain ⟨g9, hf⟩ := ite_some' hf
          obtain ⟨k10, e11⟩ := pl_0 (cy := cy) (te := te) (le := le) (tb := tb) (mb := mb) (wr := b6_3) (nu := nu) (ro := ro) (pn := pn) (rw := rw) (dr := dr) (X := [(h0, .inr (10, [.ref h1])), (h1, .inr (3, [.int modc, .ref h2, .int tsz])), (h2, .inl (cy 3, 10, .inr (.inr (.inr (.inr trow)))))]) g9.1 g9.2
          refine va_castS hx hb hown (hts _ k_115) (hK.1 11 _ rfl).2 (va_recv hK hP (ci := 11) (q0 := k10) rfl e11) dX6_startWalk_33 ?_
          refine lv_lload hx hb dX6_startWalk_36 (lv_at hl 2 rfl) ?_
          obtain ⟨k12, e13⟩ := pl_0 (cy := cy) (te := te) (le := le) (tb := tb) (mb := mb) (wr := b6_3) (nu := nu) (ro := ro) (pn := pn) (rw := rw) (dr := dr) (X := [(h0, .inr (10, [.ref h1])), (h1, .inr (3, [.int modc, .ref h2, .int tsz])), (h2, .inl (cy 3, 10, .inr (.inr (.inr (.inr trow)))))]) g9.1 g9.2
          obtain ⟨v14, e15, hf⟩ := bind_some' hf
          refine clP_v (va_runV (As := [.long b6_1]) (rest := []) ⟨hx, hb, hml, hown, hts⟩ (c_X7_startWalk l D cy sa z0 H.size a7 L K te le tb mb b6_3 nu ro pn rw dr b6_1 _ e15) (cwV 1 hts (lw_gV k_1647 k_1648 k_1649 k_41 k_1650) rfl rfl rfl (by decide +kernel) ⟨Nat.le_of_ble_eq_true rfl, Nat.le_of_ble_eq_true rfl⟩) (preVP hG hS hZ hP hD [] rfl rfl (ci := 9) (q0 := k12) rfl e13) rfl rfl hl.1 rfl (lv_room (Nat.le_of_ble_eq_true rfl)) dX6_startWalk_38 ⟨Nat.le_of_ble_eq_true rfl, Nat.le_of_ble_eq_true rfl⟩) hP hD hS hA [] rfl rfl rfl (fun H locs hP hD hS => ?_)
          have hP : va_P D vwCl (([(h0, .inr (10, [.ref h1])), (h1, .inr (3, [.int modc, .ref h2, .int tsz])), (h2, .inl (cy 3, 10, .inr (.inr (.inr (.inr trow)))))] : va_W) ++ va_pl L (plF cy K te le tb mb v14 nu ro pn rw dr)) H := hP
          have hD : va_D A (([(h0, .inr (10, [.ref h1])), (h1, .inr (3, [.int modc, .ref h2, .int tsz])), (h2, .inl (cy 3, 10, .inr (.inr (.inr (.inr trow)))))] : va_W) ++ va_pl L (plF cy K te le tb mb v14 nu ro pn rw dr)) := hD
          have hP : va_P D vwCl (([(h0, .inr (10, [.ref h1])), (h1, .inr (3, [.int modc, .ref h2, .int tsz])), (h2, .inl (cy 3, 10, .inr (.inr (.inr (.inr trow)))))] : va_W) ++ va_pl L (plF cy K te le tb mb v14 nu ro pn rw dr)) H := hP
          have hD : va_D A (([(h0, .inr (10, [.ref h1])), (h1, .inr (3, [.int modc, .ref h2, .int tsz])), (h2, .inl (cy 3, 10, .inr (.inr (.inr (.inr trow)))))] : va_W) ++ va_pl L (plF cy K te le tb mb v14 nu ro pn rw dr)) := hD
          refine lv_aload_n hx hb dX6_startWalk_41 rfl (lv_at hl 0 rfl) ?_
          refine va_get (D := D) (ci := 10) (v := .ref h1) (C := RX6) (T := TX6) (N := 1) hx hb hts in_X6 hown hK hP 0 rfl rfl 0 (by decide) (hts _ k_203) (fun _ h9 => h9) rfl dX6_startWalk_42 ?_
          refine lv_iload hx hb dX6_startWalk_45 (lv_at hl 3 rfl) ?_
          obtain ⟨v16, e17, hf⟩ := bind_some' hf
          refine cl_q (va_runV (As := [.int b6_2]) (rest := []) ⟨hx, hb, hml, hown, hts⟩ (c_Jx4a65c_get_915e3 l D cy sa z0 H.size h1 modc h2 tsz trow b6_2 _ e17) (cwV 1 hts (lw_gV k_554 k_555 k_556 k_40 k_557) rfl rfl rfl (by decide +kernel) ⟨Nat.le_of_ble_eq_true rfl, Nat.le_of_ble_eq_true rfl⟩) (preV hG hS hZ hP hD [1, 2] rfl rfl (ci := 3) (q0 := 1) rfl rfl) rfl rfl hl.1 rfl (lv_room (Nat.le_of_ble_eq_true rfl)) dX6_startWalk_47 ⟨Nat.le_of_ble_eq_true rfl, Nat.le_of_ble_eq_true rfl⟩) hP hD hS hA [1, 2] rfl rfl rfl (fun H locs hP hD hS => ?_)
          have hP : va_P D vwCl (([(h0, .inr (10, [.ref h1])), (h1, .inr (3, [.int modc, .ref h2, .int tsz])), (h2, .inl (cy 3, 10, .inr (.inr (.inr (.inr trow)))))] : va_W) ++ va_pl L (plF cy K te le tb mb v14 nu ro pn rw dr)) H := hP
          have hD : va_D A (([(h0, .inr (10, [.ref h1])), (h1, .inr (3, [.int modc, .ref h2, .int tsz])), (h2, .inl (cy 3, 10, .inr (.inr (.inr (.inr trow)))))] : va_W) ++ va_pl L (plF cy K te le tb mb v14 nu ro pn rw dr)) := hD
          obtain ⟨a18, e19, hf⟩ := bind_some' hf
          rw [e19]
          obtain ⟨g20, hf⟩ := ite_some' hf
          obtain ⟨k21, e22⟩ := pl_0 (cy := cy) (te := te) (le := le) (tb := tb) (mb := mb) (wr := v14) (nu := nu) (ro := ro) (pn := pn) (rw := rw) (dr := dr) (X := [(h0, .inr (10, [.ref h1])), (h1, .inr (3, [.int modc, .ref h2, .int tsz])), (h2, .inl (cy 3, 10, .inr (.inr (.inr (.inr trow)))))]) g20.1 g20.2
          refine va_castS hx hb hown (hts _ k_115) (hK.1 11 _ rfl).2 (va_recv hK hP (ci := 11) (q0 := k21) rfl e22) dX6_startWalk_50 ?_
          refine lv_lload hx hb dX6_startWalk_53 (lv_at hl 2 rfl) ?_
          obtain ⟨k23, e24⟩ := pl_0 (cy := cy) (te := te) (le := le) (tb := tb) (mb := mb) (wr := v14) (nu := nu) (ro := ro) (pn := pn) (rw := rw) (dr := dr) (X := [(h0, .inr (10, [.ref h1])), (h1, .inr (3, [.int modc, .ref h2, .int tsz])), (h2, .inl (cy 3, 10, .inr (.inr (.inr (.inr trow)))))]) g20.1 g20.2
          obtain ⟨v25, e26, hf⟩ := bind_some' hf
          refine clP_l (va_runV (As := [.long b6_1]) (rest := []) ⟨hx, hb, hml, hown, hts⟩ (c_X7_movedWhen l D cy sa z0 H.size a18 L K te le tb mb v14 nu ro pn rw dr b6_1 _ e26) (cwV 1 hts (lw_gV k_576 k_577 k_578 k_41 k_579) rfl rfl rfl (by decide +kernel) ⟨Nat.le_of_ble_eq_true rfl, Nat.le_of_ble_eq_true rfl⟩) (preVP hG hS hZ hP hD [] rfl rfl (ci := 9) (q0 := k23) rfl e24) rfl rfl hl.1 rfl (lv_room (Nat.le_of_ble_eq_true rfl)) dX6_startWalk_55 ⟨Nat.le_of_ble_eq_true rfl, Nat.le_of_ble_eq_true rfl⟩) hP hD hS hA [] rfl rfl rfl (fun H locs hP hD hS => ?_)
          have hP : va_P D vwCl (([(h0, .inr (10, [.ref h1])), (h1, .inr (3, [.int modc, .ref h2, .int tsz])), (h2, .inl (cy 3, 10, .inr (.inr (.inr (.inr trow)))))] : va_W) ++ va_pl L (plF cy K te le tb mb v14 nu ro pn rw dr)) H := hP
          have hD : va_D A (([(h0, .inr (10, [.ref h1])), (h1, .inr (3, [.int modc, .ref h2, .int tsz])), (h2, .inl (cy 3, 10, .inr (.inr (.inr (.inr trow)))))] : va_W) ++ va_pl L (plF cy K te le tb mb v14 nu ro pn rw dr)) := hD
          refine lv_lstore (lv' := [(4, .long v25.1), (0, .ref h0), (1, .int p0), (6, .int b6_2)]) hx hb dX6_startWalk_58 hl (by decide) rfl (fun ls hl => ?_)
          refine lv_iinc (v := (b6_2 + (1 : Int32))) (lv' := [(6, .int (b6_2 + (1 : Int32))), (4, .long v25.1), (0, .ref h0), (1, .int p0)]) hx hb dX6_startWalk_60 hl (k := 3) rfl (by rfl) (by decide) rfl (fun ls hl => ?_)
          refine lv_goto (tgt := 6) hx hb dX6_startWalk_63 (by decide) ?_
          exact ih_6 v25.1 (b6_2 + (1 : Int32)) v14 _ _ hP hD hS _ (lv_sub hl [2, 3, 1, 0] rfl) hf
  refine lv_lload_n hx hb dX6_startWalk_0 rfl (lv_at hl 2 rfl) ?_
  refine lv_lstore (lv' := [(4, .long p1), (0, .ref h0), (1, .int p0), (2, .long p1)]) hx hb dX6_startWalk_1 hl (by decide) rfl (fun ls hl => ?_)
  refine lv_iconst (v := (0 : Int32)) hx hb dX6_startWalk_3 (by decide) ?_
  refine lv_istore (lv' := [(6, .int (0 : Int32)), (4, .long p1), (0, .ref h0), (1, .int p0), (2, .long p1)]) hx hb dX6_startWalk_4 hl (by decide) rfl (fun ls hl => ?_)
  exact L6 N p1 (0 : Int32) wr _ _ hP hD hS _ (lv_sub hl [2, 3, 1, 0] rfl) hf
noncomputable def X6_walkOneBeat_b46 (b46_1 : Int64) (b46_2 : (Nat → Int64)) : Option (Int64 × (Nat → Int64)) := some (b46_1, b46_2)
noncomputable def X6_walkOneBeat_L5_body (tsz : Int32) (trow : Nat → Option Nat) (L : List Nat) (K : Nat → Nat) (le : Nat → Int32) (tb : Nat → Int32) (p0 : Int32) (k5 : Int64 → Int32 → (Nat → Int64) → Option (Int64 × (Nat → Int64))) (b5_1 : Int64) (b5_2 : Int32) (b5_3 : (Nat → Int64)) : Option (Int64 × (Nat → Int64)) := (if p0 < b5_2 then X6_walkOneBeat_b46 b5_1 b5_3 else (Jx4a65c_size_8abf5_f tsz).bind fun v2 => (if v2.1 ≤ b5_2 then X6_walkOneBeat_b46 b5_1 b5_3 else (Jx4a65c_get_915e3_f tsz trow b5_2).bind fun v5 => (v5.1).bind fun a7 => if (a7 ∈ L ∧ K a7 = 0) then (X7_walk_f a7 L K le tb b5_3 b5_1).bind fun v14 => k5 v14.1 (b5_2 + (1 : Int32)) v14.2 else none))
noncomputable def X6_walkOneBeat_L5 (tsz : Int32) (trow : Nat → Option Nat) (L : List Nat) (K : Nat → Nat) (le : Nat → Int32) (tb : Nat → Int32) (p0 : Int32) (n : Nat) : Int64 → Int32 → (Nat → Int64) → Option (Int64 × (Nat → Int64)) := Nat.rec (motive := fun _ => Int64 → Int32 → (Nat → Int64) → Option (Int64 × (Nat → Int64))) (fun _ _ _ => none) (fun _ k5 b5_1 b5_2 b5_3 => X6_walkOneBeat_L5_body tsz trow L K le tb p0 k5 b5_1 b5_2 b5_3) n
noncomputable def X6_walkOneBeat_f (N : Nat) (tsz : Int32) (trow : Nat → Option Nat) (L : List Nat) (K : Nat → Nat) (le : Nat → Int32) (tb : Nat → Int32) (wr : Nat → Int64) (p0 : Int32) : Option (Int64 × (Nat → Int64)) := X6_walkOneBeat_L5 tsz trow L K le tb p0 N (1 : Int64) (0 : Int32) wr
set_option maxHeartbeats 4000000 in
set_option maxRecDepth 100000 in
theorem c_X6_walkOneBeat (l : Launch) (D : va_G) (cy : Nat → ClassId) (sa : Nat → Nat) (z0 sz : Nat) (h0 : Nat) (h1 : Nat) (modc : Int32) (h2 : Nat) (tsz : Int32) (trow : Nat → Option Nat) (L : List Nat) (K : Nat → Nat) (te : Nat → Int32) (le : Nat → Int32) (tb : Nat → Int32) (mb : Nat → Int64) (wr : Nat → Int64) (nu : Nat → Int32) (ro : Nat → Nat) (pn : Nat → Int32) (rw : Nat → Nat → Int32) (dr : Nat → Nat → Option Nat) (p0 : Int32) (N : Nat) (o : (Int64 × (Nat → Int64))) (ho : X6_walkOneBeat_f N tsz trow L K le tb wr p0 = some o) : Met l yX6_walkOneBeat (ws_ yX6_walkOneBeat cX6_walkOneBeat 5 (some .long)) ({ frames := 3, cells := 0, slots := 0, locals := 72 } : Room) (va_Pc [.ref h0, .int p0] (Pr D cy sa z0 (([(h0, .inr (10, [.ref h1])), (h1, .inr (3, [.int modc, .ref h2, .int tsz])), (h2, .inl (cy 3, 10, .inr (.inr (.inr (.inr trow)))))] : va_W) ++ va_pl L (plF cy K te le tb mb wr nu ro pn rw dr)) sz)) (QL D o (fun u => (([(h0, .inr (10, [.ref h1])), (h1, .inr (3, [.int modc, .ref h2, .int tsz])), (h2, .inl (cy 3, 10, .inr (.inr (.inr (.inr trow)))))] : va_W) ++ va_pl L (plF cy K te le tb mb u nu ro pn rw dr))) (va_A (([(h0, .inr (10, [.ref h1])), (h1, .inr (3, [.int modc, .ref h2, .int tsz])), (h2, .inl (cy 3, 10, .inr (.inr (.inr (.inr trow)))))] : va_W) ++ va_pl L (plF cy K te le tb mb wr nu ro pn rw dr)) sz)) 0 0 (va_A (([(h0, .inr (10, [.ref h1])), (h1, .inr (3, [.int modc, .ref h2, .int tsz])), (h2, .inl (cy 3, 10, .inr (.inr (.inr (.inr trow)))))] : va_W) ++ va_pl L (plF cy K te le tb mb wr nu ro pn rw dr)) sz) := by
  refine MT (Qf := QL D o (fun u => (([(h0, .inr (10, [.ref h1])), (h1, .inr (3, [.int modc, .ref h2, .int tsz])), (h2, .inl (cy 3, 10, .inr (.inr (.inr (.inr trow)))))] : va_W) ++ va_pl L (plF cy K te le tb mb u nu ro pn rw dr)))) (plainFor_of_name (by decide +kernel)) (Nat.le_of_ble_eq_true rfl) ?_
  intro p e s m below meth c A ls H hx hb hml hr hlocks hown hnm hts hG hA hZ hP hD hS hl
  have hK := hG.K
  have hl : lv_has ls 5 [(0, .ref h0), (1, .int p0)] := hl
  have hf : X6_walkOneBeat_f N tsz trow L K le tb wr p0 = some o := ho
  clear ho
  unfold X6_walkOneBeat_f at hf
  have J46 : ∀ (b46_1 : Int64) (b46_2 : (Nat → Int64)), ∀ (H : Heap) (locs : List Loc), va_P D vwCl (([(h0, .inr (10, [.ref h1])), (h1, .inr (3, [.int modc, .ref h2, .int tsz])), (h2, .inl (cy 3, 10, .inr (.inr (.inr (.inr trow)))))] : va_W) ++ va_pl L (plF cy K te le tb mb b46_2 nu ro pn rw dr)) H → va_D A (([(h0, .inr (10, [.ref h1])), (h1, .inr (3, [.int modc, .ref h2, .int tsz])), (h2, .inl (cy 3, 10, .inr (.inr (.inr (.inr trow)))))] : va_W) ++ va_pl L (plF cy K te le tb mb b46_2 nu ro pn rw dr)) → va_S A s.heap H locs → ∀ (ls : Array Slot), lv_has ls 5 [(2, .long b46_1)] → X6_walkOneBeat_b46 b46_1 b46_2 = some o → W p l e ({ frames := 3, cells := 0, slots := 0, locals := 72 } : Room) s m ([.ref h0, .int p0] : List Value).toArray below meth c H locs 0 0 (MQ below (QL D o (fun u => (([(h0, .inr (10, [.ref h1])), (h1, .inr (3, [.int modc, .ref h2, .int tsz])), (h2, .inl (cy 3, 10, .inr (.inr (.inr (.inr trow)))))] : va_W) ++ va_pl L (plF cy K te le tb mb u nu ro pn rw dr))) A) ([.ref h0, .int p0] : List Value).toArray s 0 0 A) (F0 m 46 ls []) := by
    intro b46_1 b46_2 H locs hP hD hS ls hl hf
    unfold X6_walkOneBeat_b46 at hf
    refine lv_lload_n hx hb dX6_walkOneBeat_46 rfl (lv_at hl 0 rfl) ?_
    obtain rfl := Option.some.inj hf
    exact W.lret (v := b46_1) hx hb hr (fun t ht _ => ⟨⟨b46_1, b46_2, rfl, rfl, by rw [ht]; exact hP, hD⟩, hS.F ht⟩) hS.2.2 dX6_walkOneBeat_47
  have L5 : ∀ (n : Nat) (b5_1 : Int64) (b5_2 : Int32) (b5_3 : (Nat → Int64)), ∀ (H : Heap) (locs : List Loc), va_P D vwCl (([(h0, .inr (10, [.ref h1])), (h1, .inr (3, [.int modc, .ref h2, .int tsz])), (h2, .inl (cy 3, 10, .inr (.inr (.inr (.inr trow)))))] : va_W) ++ va_pl L (plF cy K te le tb mb b5_3 nu ro pn rw dr)) H → va_D A (([(h0, .inr (10, [.ref h1])), (h1, .inr (3, [.int modc, .ref h2, .int tsz])), (h2, .inl (cy 3, 10, .inr (.inr (.inr (.inr trow)))))] : va_W) ++ va_pl L (plF cy K te le tb mb b5_3 nu ro pn rw dr)) → va_S A s.heap H locs → ∀ (ls : Array Slot), lv_has ls 5 [(0, .ref h0), (1, .int p0), (2, .long b5_1), (4, .int b5_2)] → X6_walkOneBeat_L5 tsz trow L K le tb p0 n b5_1 b5_2 b5_3 = some o → W p l e ({ frames := 3, cells := 0, slots := 0, locals := 72 } : Room) s m ([.ref h0, .int p0] : List Value).toArray below meth c H locs 0 0 (MQ below (QL D o (fun u => (([(h0, .inr (10, [.ref h1])), (h1, .inr (3, [.int modc, .ref h2, .int tsz])), (h2, .inl (cy 3, 10, .inr (.inr (.inr (.inr trow)))))] : va_W) ++ va_pl L (plF cy K te le tb mb u nu ro pn rw dr))) A) ([.ref h0, .int p0] : List Value).toArray s 0 0 A) (F0 m 5 ls []) := by
    intro n
    induction n with
    | zero => intro b5_1 b5_2 b5_3 H locs hP hD hS ls hl hf; cases (show (none : Option (Int64 × (Nat → Int64))) = some o from hf)
    | succ n ih_5 =>
      intro b5_1 b5_2 b5_3 H locs hP hD hS ls hl hf
      have hf : X6_walkOneBeat_L5_body tsz trow L K le tb p0 (X6_walkOneBeat_L5 tsz trow L K le tb p0 n) b5_1 b5_2 b5_3 = some o := hf
      generalize X6_walkOneBeat_L5 tsz trow L K le tb p0 n = k5 at ih_5 hf
      unfold X6_walkOneBeat_L5_body at hf
      refine lv_iload hx hb dX6_walkOneBeat_5 (lv_at hl 3 rfl) ?_
      refine lv_iload_n hx hb dX6_walkOneBeat_7 rfl (lv_at hl 1 rfl) ?_
      refine lv_icmp_gt (tgt := 46) hx hb dX6_walkOneBeat_8 (by decide) (fun c1 => ?_) (fun c1 => ?_)
      · rw [if_pos c1] at hf
        exact J46 b5_1 b5_3 _ _ hP hD hS _ (lv_sub hl [2] rfl) hf
      · rw [if_neg c1] at hf
        refine lv_iload hx hb dX6_walkOneBeat_11 (lv_at hl 3 rfl) ?_
        refine lv_aload_n hx hb dX6_walkOneBeat_13 rfl (lv_at hl 0 rfl) ?_
        refine va_get (D := D) (ci := 10) (v := .ref h1) (C := RX6) (T := TX6) (N := 1) hx hb hts in_X6 hown hK hP 0 rfl rfl 0 (by decide) (hts _ k_203) (fun _ h9 => h9) rfl dX6_walkOneBeat_14 ?_
        obtain ⟨v2, e3, hf⟩ := bind_some' hf
        refine cl_i (va_runV (As := []) (rest := [.int b5_2]) ⟨hx, hb, hml, hown, hts⟩ (c_Jx4a65c_size_8abf5 l D cy sa z0 H.size h1 modc h2 tsz trow _ e3) (cwV 0 hts (lw_gV k_348 k_349 k_350 k_40 k_351) rfl rfl rfl (by decide +kernel) ⟨Nat.le_of_ble_eq_true rfl, Nat.le_of_ble_eq_true rfl⟩) (preV hG hS hZ hP hD [1, 2] rfl rfl (ci := 3) (q0 := 1) rfl rfl) rfl rfl hl.1 rfl (lv_room (Nat.le_of_ble_eq_true rfl)) dX6_walkOneBeat_17 ⟨Nat.le_of_ble_eq_true rfl, Nat.le_of_ble_eq_true rfl⟩) hP hD hS hA [1, 2] rfl rfl rfl (fun H locs hP hD hS => ?_)
        have hP : va_P D vwCl (([(h0, .inr (10, [.ref h1])), (h1, .inr (3, [.int modc, .ref h2, .int tsz])), (h2, .inl (cy 3, 10, .inr (.inr (.inr (.inr trow)))))] : va_W) ++ va_pl L (plF cy K te le tb mb b5_3 nu ro pn rw dr)) H := hP
        have hD : va_D A (([(h0, .inr (10, [.ref h1])), (h1, .inr (3, [.int modc, .ref h2, .int tsz])), (h2, .inl (cy 3, 10, .inr (.inr (.inr (.inr trow)))))] : va_W) ++ va_pl L (plF cy K te le tb mb b5_3 nu ro pn rw dr)) := hD
        refine lv_icmp_ge (tgt := 46) hx hb dX6_walkOneBeat_20 (by decide) (fun c4 => ?_) (fun c4 => ?_)
        · rw [if_pos c4] at hf
          exact J46 b5_1 b5_3 _ _ hP hD hS _ (lv_sub hl [2] rfl) hf
        · rw [if_neg c4] at hf
          refine lv_aload_n hx hb dX6_walkOneBeat_23 rfl (lv_at hl 0 rfl) ?_
          refine va_get (D := D) (ci := 10) (v := .ref h1) (C := RX6) (T := TX6) (N := 1) hx hb hts in_X6 hown hK hP 0 rfl rfl 0 (by decide) (hts _ k_203) (fun _ h9 => h9) rfl dX6_walkOneBeat_24 ?_
          refine lv_iload hx hb dX6_walkOneBeat_27 (lv_at hl 3 rfl) ?_
          obtain ⟨v5, e6, hf⟩ := bind_some' hf
          refine cl_q (va_runV (As := [.int b5_2]) (rest := []) ⟨hx, hb, hml, hown, hts⟩ (c_Jx4a65c_get_915e3 l D cy sa z0 H.size h1 modc h2 tsz trow b5_2 _ e6) (cwV 1 hts (lw_gV k_554 k_555 k_556 k_40 k_557) rfl rfl rfl (by decide +kernel) ⟨Nat.le_of_ble_eq_true rfl, Nat.le_of_ble_eq_true rfl⟩) (preV hG hS hZ hP hD [1, 2] rfl rfl (ci := 3) (q0 := 1) rfl rfl) rfl rfl hl.1 rfl (lv_room (Nat.le_of_ble_eq_true rfl)) dX6_walkOneBeat_29 ⟨Nat.le_of_ble_eq_true rfl, Nat.le_of_ble_eq_true rfl⟩) hP hD hS hA [1, 2] rfl rfl rfl (fun H locs hP hD hS => ?_)
          have hP : va_P D vwCl (([(h0, .inr (10, [.ref h1])), (h1, .inr (3, [.int modc, .ref h2, .int tsz])), (h2, .inl (cy 3, 10, .inr (.inr (.inr (.inr trow)))))] : va_W) ++ va_pl L (plF cy K te le tb mb b5_3 nu ro pn rw dr)) H := hP
          have hD : va_D A (([(h0, .inr (10, [.ref h1])), (h1, .inr (3, [.int modc, .ref h2, .int tsz])), (h2, .inl (cy 3, 10, .inr (.inr (.inr (.inr trow)))))] : va_W) ++ va_pl L (plF cy K te le tb mb b5_3 nu ro pn rw dr)) := hD
          obtain ⟨a7, e8, hf⟩ := bind_some' hf
          rw [e8]
          obtain ⟨g9, hf⟩ := ite_some' hf
          obtain ⟨k10, e11⟩ := pl_0 (cy := cy) (te := te) (le := le) (tb := tb) (mb := mb) (wr := b5_3) (nu := nu) (ro := ro) (pn := pn) (rw := rw) (dr := dr) (X := [(h0, .inr (10, [.ref h1])), (h1, .inr (3, [.int modc, .ref h2, .int tsz])), (h2, .inl (cy 3, 10, .inr (.inr (.inr (.inr trow)))))]) g9.1 g9.2
          refine va_castS hx hb hown (hts _ k_115) (hK.1 11 _ rfl).2 (va_recv hK hP (ci := 11) (q0 := k10) rfl e11) dX6_walkOneBeat_32 ?_
          refine lv_lload_n hx hb dX6_walkOneBeat_35 rfl (lv_at hl 2 rfl) ?_
          obtain ⟨k12, e13⟩ := pl_0 (cy := cy) (te := te) (le := le) (tb := tb) (mb := mb) (wr := b5_3) (nu := nu) (ro := ro) (pn := pn) (rw := rw) (dr := dr) (X := [(h0, .inr (10, [.ref h1])), (h1, .inr (3, [.int modc, .ref h2, .int tsz])), (h2, .inl (cy 3, 10, .inr (.inr (.inr (.inr trow)))))]) g9.1 g9.2
          obtain ⟨v14, e15, hf⟩ := bind_some' hf
          refine clP_l (va_runV (As := [.long b5_1]) (rest := []) ⟨hx, hb, hml, hown, hts⟩ (c_X7_walk l D cy sa z0 H.size a7 L K te le tb mb b5_3 nu ro pn rw dr b5_1 _ e15) (cwV 1 hts (lw_gV k_1656 k_1657 k_1658 k_41 k_1659) rfl rfl rfl (by decide +kernel) ⟨Nat.le_of_ble_eq_true rfl, Nat.le_of_ble_eq_true rfl⟩) (preVP hG hS hZ hP hD [] rfl rfl (ci := 9) (q0 := k12) rfl e13) rfl rfl hl.1 rfl (lv_room (Nat.le_of_ble_eq_true rfl)) dX6_walkOneBeat_36 ⟨Nat.le_of_ble_eq_true rfl, Nat.le_of_ble_eq_true rfl⟩) hP hD hS hA [] rfl rfl rfl (fun H locs hP hD hS => ?_)
          have hP : va_P D vwCl (([(h0, .inr (10, [.ref h1])), (h1, .inr (3, [.int modc, .ref h2, .int tsz])), (h2, .inl (cy 3, 10, .inr (.inr (.inr (.inr trow)))))] : va_W) ++ va_pl L (plF cy K te le tb mb v14.2 nu ro pn rw dr)) H := hP
          have hD : va_D A (([(h0, .inr (10, [.ref h1])), (h1, .inr (3, [.int modc, .ref h2, .int tsz])), (h2, .inl (cy 3, 10, .inr (.inr (.inr (.inr trow)))))] : va_W) ++ va_pl L (plF cy K te le tb mb v14.2 nu ro pn rw dr)) := hD
          have hP : va_P D vwCl (([(h0, .inr (10, [.ref h1])), (h1, .inr (3, [.int modc, .ref h2, .int tsz])), (h2, .inl (cy 3, 10, .inr (.inr (.inr (.inr trow)))))] : va_W) ++ va_pl L (plF cy K te le tb mb v14.2 nu ro pn rw dr)) H := hP
          have hD : va_D A (([(h0, .inr (10, [.ref h1])), (h1, .inr (3, [.int modc, .ref h2, .int tsz])), (h2, .inl (cy 3, 10, .inr (.inr (.inr (.inr trow)))))] : va_W) ++ va_pl L (plF cy K te le tb mb v14.2 nu ro pn rw dr)) := hD
          refine lv_lstore_n (lv' := [(2, .long v14.1), (0, .ref h0), (1, .int p0), (4, .int b5_2)]) hx hb dX6_walkOneBeat_39 rfl hl (by decide) rfl (fun ls hl => ?_)
          refine lv_iinc (v := (b5_2 + (1 : Int32))) (lv' := [(4, .int (b5_2 + (1 : Int32))), (2, .long v14.1), (0, .ref h0), (1, .int p0)]) hx hb dX6_walkOneBeat_40 hl (k := 3) rfl (by rfl) (by decide) rfl (fun ls hl => ?_)
          refine lv_goto (tgt := 5) hx hb dX6_walkOneBeat_43 (by decide) ?_
          exact ih_5 v14.1 (b5_2 + (1 : Int32)) v14.2 _ _ hP hD hS _ (lv_sub hl [2, 3, 1, 0] rfl) hf
  refine lv_lconst (v := (1 : Int64)) hx hb dX6_walkOneBeat_0 (by decide) ?_
  refine lv_lstore_n (lv' := [(2, .long (1 : Int64)), (0, .ref h0), (1, .int p0)]) hx hb dX6_walkOneBeat_1 rfl hl (by decide) rfl (fun ls hl => ?_)
  refine lv_iconst (v := (0 : Int32)) hx hb dX6_walkOneBeat_2 (by decide) ?_
  refine lv_istore (lv' := [(4, .int (0 : Int32)), (2, .long (1 : Int64)), (0, .ref h0), (1, .int p0)]) hx hb dX6_walkOneBeat_3 hl (by decide) rfl (fun ls hl => ?_)
  exact L5 N (1 : Int64) (0 : Int32) wr _ _ hP hD hS _ (lv_sub hl [2, 3, 1, 0] rfl) hf
noncomputable def X6_movedByWalking_L11_body (N : Nat) (tsz : Int32) (trow : Nat → Option Nat) (L : List Nat) (K : Nat → Nat) (le : Nat → Int32) (tb : Nat → Int32) (p0 : Int32) (p2 : Int32) (k11 : Int64 → Int32 → (Nat → Int64) → Option (Int64 × (Nat → Int64))) (b11_1 : Int64) (b11_2 : Int32) (b11_3 : (Nat → Int64)) : Option (Int64 × (Nat → Int64)) := (if p2 ≤ b11_2 then some (b11_1, b11_3) else (X6_walkOneBeat_f N tsz trow L K le tb b11_3 p0).bind fun v4 => k11 (b11_1 + v4.1) (b11_2 + (1 : Int32)) v4.2)
noncomputable def X6_movedByWalking_L11 (N : Nat) (tsz : Int32) (trow : Nat → Option Nat) (L : List Nat) (K : Nat → Nat) (le : Nat → Int32) (tb : Nat → Int32) (p0 : Int32) (p2 : Int32) (n : Nat) : Int64 → Int32 → (Nat → Int64) → Option (Int64 × (Nat → Int64)) := Nat.rec (motive := fun _ => Int64 → Int32 → (Nat → Int64) → Option (Int64 × (Nat → Int64))) (fun _ _ _ => none) (fun _ k11 b11_1 b11_2 b11_3 => X6_movedByWalking_L11_body N tsz trow L K le tb p0 p2 k11 b11_1 b11_2 b11_3) n
noncomputable def X6_movedByWalking_f (N : Nat) (tsz : Int32) (trow : Nat → Option Nat) (L : List Nat) (K : Nat → Nat) (le : Nat → Int32) (tb : Nat → Int32) (mb : Nat → Int64) (wr : Nat → Int64) (p0 : Int32) (p1 : Int64) (p2 : Int32) : Option (Int64 × (Nat → Int64)) := (X6_startWalk_f N tsz trow L K le tb mb wr p0 p1).bind fun v1 => X6_movedByWalking_L11 N tsz trow L K le tb p0 p2 N v1.1 (0 : Int32) v1.2
set_option maxHeartbeats 4000000 in
set_option maxRecDepth 100000 in
theorem c_X6_movedByWalking (l : Launch) (D : va_G) (cy : Nat → ClassId) (sa : Nat → Nat) (z0 sz : Nat) (h0 : Nat) (h1 : Nat) (modc : Int32) (h2 : Nat) (tsz : Int32) (trow : Nat → Option Nat) (L : List Nat) (K : Nat → Nat) (te : Nat → Int32) (le : Nat → Int32) (tb : Nat → Int32) (mb : Nat → Int64) (wr : Nat → Int64) (nu : Nat → Int32) (ro : Nat → Nat) (pn : Nat → Int32) (rw : Nat → Nat → Int32) (dr : Nat → Nat → Option Nat) (p0 : Int32) (p1 : Int64) (p2 : Int32) (N : Nat) (o : (Int64 × (Nat → Int64))) (ho : X6_movedByWalking_f N tsz trow L K le tb mb wr p0 p1 p2 = some o) : Met l yX6_movedByWalking (ws_ yX6_movedByWalking cX6_movedByWalking 8 (some .long)) ({ frames := 5, cells := 0, slots := 0, locals := 118 } : Room) (va_Pc [.ref h0, .int p0, .long p1, .int p2] (Pr D cy sa z0 (([(h0, .inr (10, [.ref h1])), (h1, .inr (3, [.int modc, .ref h2, .int tsz])), (h2, .inl (cy 3, 10, .inr (.inr (.inr (.inr trow)))))] : va_W) ++ va_pl L (plF cy K te le tb mb wr nu ro pn rw dr)) sz)) (QL D o (fun u => (([(h0, .inr (10, [.ref h1])), (h1, .inr (3, [.int modc, .ref h2, .int tsz])), (h2, .inl (cy 3, 10, .inr (.inr (.inr (.inr trow)))))] : va_W) ++ va_pl L (plF cy K te le tb mb u nu ro pn rw dr))) (va_A (([(h0, .inr (10, [.ref h1])), (h1, .inr (3, [.int modc, .ref h2, .int tsz])), (h2, .inl (cy 3, 10, .inr (.inr (.inr (.inr trow)))))] : va_W) ++ va_pl L (plF cy K te le tb mb wr nu ro pn rw dr)) sz)) 0 0 (va_A (([(h0, .inr (10, [.ref h1])), (h1, .inr (3, [.int modc, .ref h2, .int tsz])), (h2, .inl (cy 3, 10, .inr (.inr (.inr (.inr trow)))))] : va_W) ++ va_pl L (plF cy K te le tb mb wr nu ro pn rw dr)) sz) := by
  refine MT (Qf := QL D o (fun u => (([(h0, .inr (10, [.ref h1])), (h1, .inr (3, [.int modc, .ref h2, .int tsz])), (h2, .inl (cy 3, 10, .inr (.inr (.inr (.inr trow)))))] : va_W) ++ va_pl L (plF cy K te le tb mb u nu ro pn rw dr)))) (plainFor_of_name (by decide +kernel)) (Nat.le_of_ble_eq_true rfl) ?_
  intro p e s m below meth c A ls H hx hb hml hr hlocks hown hnm hts hG hA hZ hP hD hS hl
  have hK := hG.K
  have hl : lv_has ls 8 [(0, .ref h0), (1, .int p0), (2, .long p1), (4, .int p2)] := hl
  have hf : X6_movedByWalking_f N tsz trow L K le tb mb wr p0 p1 p2 = some o := ho
  clear ho
  unfold X6_movedByWalking_f at hf
  have L11 : ∀ (n : Nat) (b11_1 : Int64) (b11_2 : Int32) (b11_3 : (Nat → Int64)), ∀ (H : Heap) (locs : List Loc), va_P D vwCl (([(h0, .inr (10, [.ref h1])), (h1, .inr (3, [.int modc, .ref h2, .int tsz])), (h2, .inl (cy 3, 10, .inr (.inr (.inr (.inr trow)))))] : va_W) ++ va_pl L (plF cy K te le tb mb b11_3 nu ro pn rw dr)) H → va_D A (([(h0, .inr (10, [.ref h1])), (h1, .inr (3, [.int modc, .ref h2, .int tsz])), (h2, .inl (cy 3, 10, .inr (.inr (.inr (.inr trow)))))] : va_W) ++ va_pl L (plF cy K te le tb mb b11_3 nu ro pn rw dr)) → va_S A s.heap H locs → ∀ (ls : Array Slot), lv_has ls 8 [(0, .ref h0), (1, .int p0), (4, .int p2), (5, .long b11_1), (7, .int b11_2)] → X6_movedByWalking_L11 N tsz trow L K le tb p0 p2 n b11_1 b11_2 b11_3 = some o → W p l e ({ frames := 5, cells := 0, slots := 0, locals := 118 } : Room) s m ([.ref h0, .int p0, .long p1, .int p2] : List Value).toArray below meth c H locs 0 0 (MQ below (QL D o (fun u => (([(h0, .inr (10, [.ref h1])), (h1, .inr (3, [.int modc, .ref h2, .int tsz])), (h2, .inl (cy 3, 10, .inr (.inr (.inr (.inr trow)))))] : va_W) ++ va_pl L (plF cy K te le tb mb u nu ro pn rw dr))) A) ([.ref h0, .int p0, .long p1, .int p2] : List Value).toArray s 0 0 A) (F0 m 11 ls []) := by
    intro n
    induction n with
    | zero => intro b11_1 b11_2 b11_3 H locs hP hD hS ls hl hf; cases (show (none : Option (Int64 × (Nat → Int64))) = some o from hf)
    | succ n ih_11 =>
      intro b11_1 b11_2 b11_3 H locs hP hD hS ls hl hf
      have hf : X6_movedByWalking_L11_body N tsz trow L K le tb p0 p2 (X6_movedByWalking_L11 N tsz trow L K le tb p0 p2 n) b11_1 b11_2 b11_3 = some o := hf
      generalize X6_movedByWalking_L11 N tsz trow L K le tb p0 p2 n = k11 at ih_11 hf
      unfold X6_movedByWalking_L11_body at hf
      refine lv_iload hx hb dX6_movedByWalking_11 (lv_at hl 4 rfl) ?_
      refine lv_iload hx hb dX6_movedByWalking_13 (lv_at hl 2 rfl) ?_
      refine lv_icmp_ge (tgt := 34) hx hb dX6_movedByWalking_15 (by decide) (fun c3 => ?_) (fun c3 => ?_)
      · rw [if_pos c3] at hf
        refine lv_lload hx hb dX6_movedByWalking_34 (lv_at hl 3 rfl) ?_
        obtain rfl := Option.some.inj hf
        exact W.lret (v := b11_1) hx hb hr (fun t ht _ => ⟨⟨b11_1, b11_3, rfl, rfl, by rw [ht]; exact hP, hD⟩, hS.F ht⟩) hS.2.2 dX6_movedByWalking_36
      · rw [if_neg c3] at hf
        refine lv_lload hx hb dX6_movedByWalking_18 (lv_at hl 3 rfl) ?_
        refine lv_aload_n hx hb dX6_movedByWalking_20 rfl (lv_at hl 0 rfl) ?_
        refine lv_iload_n hx hb dX6_movedByWalking_21 rfl (lv_at hl 1 rfl) ?_
        obtain ⟨v4, e5, hf⟩ := bind_some' hf
        refine clP_l (va_runV (As := [.int p0]) (rest := [.long b11_1]) ⟨hx, hb, hml, hown, hts⟩ (c_X6_walkOneBeat l D cy sa z0 H.size h0 h1 modc h2 tsz trow L K te le tb mb b11_3 nu ro pn rw dr p0 N _ e5) (cwV 1 hts (lw_gV k_1652 k_1654 k_34 k_37 k_1655) rfl rfl rfl (by decide +kernel) ⟨Nat.le_of_ble_eq_true rfl, Nat.le_of_ble_eq_true rfl⟩) (preVP hG hS hZ hP hD [0, 1, 2] rfl rfl (ci := 10) (q0 := 0) rfl rfl) rfl rfl hl.1 rfl (lv_room (Nat.le_of_ble_eq_true rfl)) dX6_movedByWalking_22 ⟨Nat.le_of_ble_eq_true rfl, Nat.le_of_ble_eq_true rfl⟩) hP hD hS hA [0, 1, 2] rfl rfl rfl (fun H locs hP hD hS => ?_)
        have hP : va_P D vwCl (([(h0, .inr (10, [.ref h1])), (h1, .inr (3, [.int modc, .ref h2, .int tsz])), (h2, .inl (cy 3, 10, .inr (.inr (.inr (.inr trow)))))] : va_W) ++ va_pl L (plF cy K te le tb mb v4.2 nu ro pn rw dr)) H := hP
        have hD : va_D A (([(h0, .inr (10, [.ref h1])), (h1, .inr (3, [.int modc, .ref h2, .int tsz])), (h2, .inl (cy 3, 10, .inr (.inr (.inr (.inr trow)))))] : va_W) ++ va_pl L (plF cy K te le tb mb v4.2 nu ro pn rw dr)) := hD
        refine lv_ladd hx hb dX6_movedByWalking_25 ?_
        refine lv_lstore (lv' := [(5, .long (b11_1 + v4.1)), (0, .ref h0), (1, .int p0), (4, .int p2), (7, .int b11_2)]) hx hb dX6_movedByWalking_26 hl (by decide) rfl (fun ls hl => ?_)
        refine lv_iinc (v := (b11_2 + (1 : Int32))) (lv' := [(7, .int (b11_2 + (1 : Int32))), (5, .long (b11_1 + v4.1)), (0, .ref h0), (1, .int p0), (4, .int p2)]) hx hb dX6_movedByWalking_28 hl (k := 4) rfl (by rfl) (by decide) rfl (fun ls hl => ?_)
        refine lv_goto (tgt := 11) hx hb dX6_movedByWalking_31 (by decide) ?_
        exact ih_11 (b11_1 + v4.1) (b11_2 + (1 : Int32)) v4.2 _ _ hP hD hS _ (lv_sub hl [2, 3, 4, 1, 0] rfl) hf
  refine lv_aload_n hx hb dX6_movedByWalking_0 rfl (lv_at hl 0 rfl) ?_
  refine lv_iload_n hx hb dX6_movedByWalking_1 rfl (lv_at hl 1 rfl) ?_
  refine lv_lload_n hx hb dX6_movedByWalking_2 rfl (lv_at hl 2 rfl) ?_
  obtain ⟨v1, e2, hf⟩ := bind_some' hf
  refine clP_l (va_runV (As := [.int p0, .long p1]) (rest := []) ⟨hx, hb, hml, hown, hts⟩ (c_X6_startWalk l D cy sa z0 H.size h0 h1 modc h2 tsz trow L K te le tb mb wr nu ro pn rw dr p0 p1 N _ e2) (cwV 2 hts (lw_gV k_1643 k_1645 k_33 k_37 k_1646) rfl rfl rfl (by decide +kernel) ⟨Nat.le_of_ble_eq_true rfl, Nat.le_of_ble_eq_true rfl⟩) (preVP hG hS hZ hP hD [0, 1, 2] rfl rfl (ci := 10) (q0 := 0) rfl rfl) rfl rfl hl.1 rfl (lv_room (Nat.le_of_ble_eq_true rfl)) dX6_movedByWalking_3 ⟨Nat.le_of_ble_eq_true rfl, Nat.le_of_ble_eq_true rfl⟩) hP hD hS hA [0, 1, 2] rfl rfl rfl (fun H locs hP hD hS => ?_)
  have hP : va_P D vwCl (([(h0, .inr (10, [.ref h1])), (h1, .inr (3, [.int modc, .ref h2, .int tsz])), (h2, .inl (cy 3, 10, .inr (.inr (.inr (.inr trow)))))] : va_W) ++ va_pl L (plF cy K te le tb mb v1.2 nu ro pn rw dr)) H := hP
  have hD : va_D A (([(h0, .inr (10, [.ref h1])), (h1, .inr (3, [.int modc, .ref h2, .int tsz])), (h2, .inl (cy 3, 10, .inr (.inr (.inr (.inr trow)))))] : va_W) ++ va_pl L (plF cy K te le tb mb v1.2 nu ro pn rw dr)) := hD
  refine lv_lstore (lv' := [(5, .long v1.1), (0, .ref h0), (1, .int p0), (2, .long p1), (4, .int p2)]) hx hb dX6_movedByWalking_6 hl (by decide) rfl (fun ls hl => ?_)
  refine lv_iconst (v := (0 : Int32)) hx hb dX6_movedByWalking_8 (by decide) ?_
  refine lv_istore (lv' := [(7, .int (0 : Int32)), (5, .long v1.1), (0, .ref h0), (1, .int p0), (2, .long p1), (4, .int p2)]) hx hb dX6_movedByWalking_9 hl (by decide) rfl (fun ls hl => ?_)
  exact L11 N v1.1 (0 : Int32) v1.2 _ _ hP hD hS _ (lv_sub hl [2, 3, 5, 1, 0] rfl) hf
