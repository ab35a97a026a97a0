noncomputable def X0_strokesOfHour_b16 (b16_1 : Int32) : Option (Int32 × Unit) := some (b16_1, ())
noncomputable def X0_strokesOfHour_f (p0 : Int32) : Option (Int32 × Unit) := (if (p0 - p0 / (12 : Int32) * (12 : Int32)) = (0 : Int32) then X0_strokesOfHour_b16 (12 : Int32) else X0_strokesOfHour_b16 (p0 - p0 / (12 : Int32) * (12 : Int32)))
set_option maxHeartbeats 4000000 in
set_option maxRecDepth 100000 in
theorem c_X0_strokesOfHour (l : Launch) (D : va_G) (cy : Nat → ClassId) (sa : Nat → Nat) (z0 sz : Nat) (p0 : Int32) (o : (Int32 × Unit)) (ho : X0_strokesOfHour_f p0 = some o) : Met l yX0_strokesOfHour (ws_ yX0_strokesOfHour cX0_strokesOfHour 1 (some .int)) ({ frames := 0, cells := 0, slots := 0, locals := 0 } : Room) (va_Pc [.int p0] (Pr D cy sa z0 [] sz)) (QI D o (fun u => []) (va_A [] sz)) 0 0 (va_A [] sz) := by
  refine MT (Qf := QI D o (fun u => [])) (plainFor_of_name (by decide +kernel)) (Nat.le_of_ble_eq_true rfl) ?_
  intro p e s m below meth c A ls H hx hb hml hr hlocks hown hnm hts hG hA hZ hP hD hS hl
  have hK := hG.K
  have hl : lv_has ls 1 [(0, .int p0)] := hl
  have hf : X0_strokesOfHour_f p0 = some o := ho
  clear ho
  unfold X0_strokesOfHour_f at hf
  have J16 : ∀ (b16_1 : Int32), ∀ (H : Heap) (locs : List Loc), va_P D vwCl [] H → va_D A [] → va_S A s.heap H locs → ∀ (ls : Array Slot), lv_has ls 1 [] → X0_strokesOfHour_b16 b16_1 = some o → W p l e ({ frames := 0, cells := 0, slots := 0, locals := 0 } : Room) s m ([.int p0] : List Value).toArray below meth c H locs 0 0 (MQ below (QI D o (fun u => []) A) ([.int p0] : List Value).toArray s 0 0 A) (F0 m 16 ls [.int b16_1]) := by
    intro b16_1 H locs hP hD hS ls hl hf
    unfold X0_strokesOfHour_b16 at hf
    obtain rfl := Option.some.inj hf
    exact W.iret (v := b16_1) hx hb hr (fun t ht _ => ⟨⟨b16_1, (), rfl, rfl, by rw [ht]; exact hP, hD⟩, hS.F ht⟩) hS.2.2 dX0_strokesOfHour_16
  refine lv_iload_n hx hb dX0_strokesOfHour_0 rfl (lv_at hl 0 rfl) ?_
  refine lv_bipush (v := (12 : Int32)) hx hb dX0_strokesOfHour_1 (by decide) ?_
  refine lv_irem hx hb dX0_strokesOfHour_3 (by decide) ?_
  refine lv_if_ne (tgt := 12) hx hb dX0_strokesOfHour_4 (by decide) (fun c1 => ?_) (fun c1 => ?_)
  · rw [if_neg c1] at hf
    refine lv_iload_n hx hb dX0_strokesOfHour_12 rfl (lv_at hl 0 rfl) ?_
    refine lv_bipush (v := (12 : Int32)) hx hb dX0_strokesOfHour_13 (by decide) ?_
    refine lv_irem hx hb dX0_strokesOfHour_15 (by decide) ?_
    exact J16 (p0 - p0 / (12 : Int32) * (12 : Int32)) _ _ hP hD hS _ (lv_sub hl [] rfl) hf
  · rw [if_pos c1] at hf
    refine lv_bipush (v := (12 : Int32)) hx hb dX0_strokesOfHour_7 (by decide) ?_
    refine lv_goto (tgt := 16) hx hb dX0_strokesOfHour_9 (by decide) ?_
    exact J16 (12 : Int32) _ _ hP hD hS _ (lv_sub hl [] rfl) hf
noncomputable def X0_quarterOf_f (p0 : Int32) : Option (Int32 × Unit) := (J9_floorMod_7cf53_f p0 (3600 : Int32)).bind fun v1 => some ((v1.1 / (900 : Int32)), ())
set_option maxHeartbeats 4000000 in
set_option maxRecDepth 100000 in
theorem c_X0_quarterOf (l : Launch) (D : va_G) (cy : Nat → ClassId) (sa : Nat → Nat) (z0 sz : Nat) (p0 : Int32) (o : (Int32 × Unit)) (ho : X0_quarterOf_f p0 = some o) : Met l yX0_quarterOf (ws_ yX0_quarterOf cX0_quarterOf 1 (some .int)) ({ frames := 1, cells := 0, slots := 0, locals := 22 } : Room) (va_Pc [.int p0] (Pr D cy sa z0 [] sz)) (QI D o (fun u => []) (va_A [] sz)) 0 0 (va_A [] sz) := by
  refine MT (Qf := QI D o (fun u => [])) (plainFor_of_name (by decide +kernel)) (Nat.le_of_ble_eq_true rfl) ?_
  intro p e s m below meth c A ls H hx hb hml hr hlocks hown hnm hts hG hA hZ hP hD hS hl
  have hK := hG.K
  have hl : lv_has ls 1 [(0, .int p0)] := hl
  have hf : X0_quarterOf_f p0 = some o := ho
  clear ho
  unfold X0_quarterOf_f at hf
  refine lv_iload_n hx hb dX0_quarterOf_0 rfl (lv_at hl 0 rfl) ?_
  refine lv_sipush (v := (3600 : Int32)) hx hb dX0_quarterOf_1 (by decide) ?_
  obtain ⟨v1, e2, hf⟩ := bind_some' hf
  refine cl_i (va_runS (As := [.int p0, .int (3600 : Int32)]) (rest := []) ⟨hx, hb, hml, hown, hts⟩ (c_J9_floorMod_7cf53 l D cy sa z0 H.size p0 (3600 : Int32) _ e2) (va_cwS 2 hts (lw_gS k_741 k_368 k_43 k_369) rfl rfl rfl (by decide +kernel) ⟨Nat.le_of_ble_eq_true rfl, Nat.le_of_ble_eq_true rfl⟩) (preS hG hS hZ hP hD [] rfl rfl) rfl rfl hl.1 rfl (lv_room (Nat.le_of_ble_eq_true rfl)) dX0_quarterOf_4 ⟨Nat.le_of_ble_eq_true rfl, Nat.le_of_ble_eq_true rfl⟩) hP hD hS hA [] rfl rfl rfl (fun H locs hP hD hS => ?_)
  have hP : va_P D vwCl [] H := hP
  have hD : va_D A [] := hD
  refine lv_sipush (v := (900 : Int32)) hx hb dX0_quarterOf_7 (by decide) ?_
  refine lv_idiv hx hb dX0_quarterOf_10 (by decide) ?_
  obtain rfl := Option.some.inj hf
  exact W.iret (v := (v1.1 / (900 : Int32))) hx hb hr (fun t ht _ => ⟨⟨(v1.1 / (900 : Int32)), (), rfl, rfl, by rw [ht]; exact hP, hD⟩, hS.F ht⟩) hS.2.2 dX0_quarterOf_11
noncomputable def X0_drumCount_f (dsz : Int32) : Option (Int32 × Unit) := (Jx4a65c_size_O_f dsz).bind fun v1 => some (v1.1, ())
set_option maxHeartbeats 4000000 in
set_option maxRecDepth 100000 in
theorem c_X0_drumCount (l : Launch) (D : va_G) (cy : Nat → ClassId) (sa : Nat → Nat) (z0 sz : Nat) (h0 : Nat) (h1 : Nat) (h3 : Nat) (h4 : Nat) (sfrom : Int32) (sto : Int32) (quar : Int32) (dmod : Int32) (h2 : Nat) (dsz : Int32) (tunes : Nat → Option Nat) (strk : Nat → Int32) (L : List Nat) (K : Nat → Nat) (te : Nat → Int32) (le : Nat → Int32) (tb : Nat → Int32) (mb : Nat → Int64) (wr : Nat → Int64) (nu : Nat → Int32) (ro : Nat → Nat) (pn : Nat → Int32) (rw : Nat → Nat → Int32) (dr : Nat → Nat → Option Nat) (o : (Int32 × Unit)) (ho : X0_drumCount_f dsz = some o) : Met l yX0_drumCount (ws_ yX0_drumCount cX0_drumCount 1 (some .int)) ({ frames := 1, cells := 0, slots := 0, locals := 20 } : Room) (va_Pc [.ref h0] (Pr D cy sa z0 (([(h0, .inr (5, [.ref h1, .ref h3, .ref h4, .int sfrom, .int sto, .int quar])), (h1, .inr (3, [.int dmod, .ref h2, .int dsz])), (h3, .inl (cy 2, 24, .inr (.inr (.inr (.inr tunes))))), (h4, .inl (cy 0, 9, .inl strk))] : va_W) ++ va_pl L (plF cy K te le tb mb wr nu ro pn rw dr)) sz)) (QI D o (fun u => (([(h0, .inr (5, [.ref h1, .ref h3, .ref h4, .int sfrom, .int sto, .int quar])), (h1, .inr (3, [.int dmod, .ref h2, .int dsz])), (h3, .inl (cy 2, 24, .inr (.inr (.inr (.inr tunes))))), (h4, .inl (cy 0, 9, .inl strk))] : va_W) ++ va_pl L (plF cy K te le tb mb wr nu ro pn rw dr))) (va_A (([(h0, .inr (5, [.ref h1, .ref h3, .ref h4, .int sfrom, .int sto, .int quar])), (h1, .inr (3, [.int dmod, .ref h2, .int dsz])), (h3, .inl (cy 2, 24, .inr (.inr (.inr (.inr tunes))))), (h4, .inl (cy 0, 9, .inl strk))] : va_W) ++ va_pl L (plF cy K te le tb mb wr nu ro pn rw dr)) sz)) 0 0 (va_A (([(h0, .inr (5, [.ref h1, .ref h3, .ref h4, .int sfrom, .int sto, .int quar])), (h1, .inr (3, [.int dmod, .ref h2, .int dsz])), (h3, .inl (cy 2, 24, .inr (.inr (.inr (.inr tunes))))), (h4, .inl (cy 0, 9, .inl strk))] : va_W) ++ va_pl L (plF cy K te le tb mb wr nu ro pn rw dr)) sz) := by
  refine MT (Qf := QI D o (fun u => (([(h0, .inr (5, [.ref h1, .ref h3, .ref h4, .int sfrom, .int sto, .int quar])), (h1, .inr (3, [.int dmod, .ref h2, .int dsz])), (h3, .inl (cy 2, 24, .inr (.inr (.inr (.inr tunes))))), (h4, .inl (cy 0, 9, .inl strk))] : va_W) ++ va_pl L (plF cy K te le tb mb wr nu ro pn rw dr)))) (plainFor_of_name (by decide +kernel)) (Nat.le_of_ble_eq_true rfl) ?_
  intro p e s m below meth c A ls H hx hb hml hr hlocks hown hnm hts hG hA hZ hP hD hS hl
  have hK := hG.K
  have hl : lv_has ls 1 [(0, .ref h0)] := hl
  have hf : X0_drumCount_f dsz = some o := ho
  clear ho
  unfold X0_drumCount_f at hf
  refine lv_aload_n hx hb dX0_drumCount_0 rfl (lv_at hl 0 rfl) ?_
  refine va_get (D := D) (ci := 5) (v := .ref h1) (C := RX0) (T := TX0) (N := 6) hx hb hts in_X0 hown hK hP 0 rfl rfl 0 (by decide) (hts _ k_252) (fun _ h9 => h9) rfl dX0_drumCount_1 ?_
  obtain ⟨v1, e2, hf⟩ := bind_some' hf
  refine cl_i (va_runV (As := []) (rest := []) ⟨hx, hb, hml, hown, hts⟩ (c_Jx4a65c_size_O l D cy sa z0 H.size h1 dmod h2 dsz _ e2) (cwV 0 hts (lw_gV k_825 k_349 k_350 k_40 k_351) rfl rfl rfl (by decide +kernel) ⟨Nat.le_of_ble_eq_true rfl, Nat.le_of_ble_eq_true rfl⟩) (preV hG hS hZ hP hD [1] rfl rfl (ci := 3) (q0 := 1) rfl rfl) rfl rfl hl.1 rfl (lv_room (Nat.le_of_ble_eq_true rfl)) dX0_drumCount_4 ⟨Nat.le_of_ble_eq_true rfl, Nat.le_of_ble_eq_true rfl⟩) hP hD hS hA [1] rfl rfl rfl (fun H locs hP hD hS => ?_)
  have hP : va_P D vwCl (([(h0, .inr (5, [.ref h1, .ref h3, .ref h4, .int sfrom, .int sto, .int quar])), (h1, .inr (3, [.int dmod, .ref h2, .int dsz])), (h3, .inl (cy 2, 24, .inr (.inr (.inr (.inr tunes))))), (h4, .inl (cy 0, 9, .inl strk))] : va_W) ++ va_pl L (plF cy K te le tb mb wr nu ro pn rw dr)) H := hP
  have hD : va_D A (([(h0, .inr (5, [.ref h1, .ref h3, .ref h4, .int sfrom, .int sto, .int quar])), (h1, .inr (3, [.int dmod, .ref h2, .int dsz])), (h3, .inl (cy 2, 24, .inr (.inr (.inr (.inr tunes))))), (h4, .inl (cy 0, 9, .inl strk))] : va_W) ++ va_pl L (plF cy K te le tb mb wr nu ro pn rw dr)) := hD
  obtain rfl := Option.some.inj hf
  exact W.iret (v := v1.1) hx hb hr (fun t ht _ => ⟨⟨v1.1, (), rfl, rfl, by rw [ht]; exact hP, hD⟩, hS.F ht⟩) hS.2.2 dX0_drumCount_7
noncomputable def X0_drumOrNull_b30 (b30_1 : (Option Nat)) : Option (Option Nat × Unit) := some (b30_1, ())
noncomputable def X0_drumOrNull_b29 : Option (Option Nat × Unit) := X0_drumOrNull_b30 none
noncomputable def X0_drumOrNull_f (h2 : Nat) (dsz : Int32) (L : List Nat) (K : Nat → Nat) (dr : Nat → Nat → Option Nat) (p0 : Int32) : Option (Option Nat × Unit) := (if p0 < (0 : Int32) then X0_drumOrNull_b29 else (Jx4a65c_size_O_f dsz).bind fun v2 => (if v2.1 ≤ p0 then X0_drumOrNull_b29 else (Jx4a65c_get_P_f h2 dsz L K dr p0).bind fun v5 => (v5.1).bind fun a7 => if (a7 ∈ L ∧ K a7 = 1) then X0_drumOrNull_b30 (some a7) else none))
set_option maxHeartbeats 4000000 in
set_option maxRecDepth 100000 in
theorem c_X0_drumOrNull (l : Launch) (D : va_G) (cy : Nat → ClassId) (sa : Nat → Nat) (z0 sz : Nat) (h0 : Nat) (h1 : Nat) (h3 : Nat) (h4 : Nat) (sfrom : Int32) (sto : Int32) (quar : Int32) (dmod : Int32) (h2 : Nat) (dsz : Int32) (tunes : Nat → Option Nat) (strk : Nat → Int32) (L : List Nat) (K : Nat → Nat) (te : Nat → Int32) (le : Nat → Int32) (tb : Nat → Int32) (mb : Nat → Int64) (wr : Nat → Int64) (nu : Nat → Int32) (ro : Nat → Nat) (pn : Nat → Int32) (rw : Nat → Nat → Int32) (dr : Nat → Nat → Option Nat) (p0 : Int32) (o : (Option Nat × Unit)) (ho : X0_drumOrNull_f h2 dsz L K dr p0 = some o) : Met l yX0_drumOrNull (ws_ yX0_drumOrNull cX0_drumOrNull 2 (some (.object "MinsterClock$Drum"))) ({ frames := 3, cells := 0, slots := 0, locals := 64 } : Room) (va_Pc [.ref h0, .int p0] (Pr D cy sa z0 (([(h0, .inr (5, [.ref h1, .ref h3, .ref h4, .int sfrom, .int sto, .int quar])), (h1, .inr (3, [.int dmod, .ref h2, .int dsz])), (h3, .inl (cy 2, 24, .inr (.inr (.inr (.inr tunes))))), (h4, .inl (cy 0, 9, .inl strk))] : va_W) ++ va_pl L (plF cy K te le tb mb wr nu ro pn rw dr)) sz)) (QQ D o (fun u => (([(h0, .inr (5, [.ref h1, .ref h3, .ref h4, .int sfrom, .int sto, .int quar])), (h1, .inr (3, [.int dmod, .ref h2, .int dsz])), (h3, .inl (cy 2, 24, .inr (.inr (.inr (.inr tunes))))), (h4, .inl (cy 0, 9, .inl strk))] : va_W) ++ va_pl L (plF cy K te le tb mb wr nu ro pn rw dr))) (va_A (([(h0, .inr (5, [.ref h1, .ref h3, .ref h4, .int sfrom, .int sto, .int quar])), (h1, .inr (3, [.int dmod, .ref h2, .int dsz])), (h3, .inl (cy 2, 24, .inr (.inr (.inr (.inr tunes))))), (h4, .inl (cy 0, 9, .inl strk))] : va_W) ++ va_pl L (plF cy K te le tb mb wr nu ro pn rw dr)) sz)) 0 0 (va_A (([(h0, .inr (5, [.ref h1, .ref h3, .ref h4, .int sfrom, .int sto, .int quar])), (h1, .inr (3, [.int dmod, .ref h2, .int dsz])), (h3, .inl (cy 2, 24, .inr (.inr (.inr (.inr tunes))))), (h4, .inl (cy 0, 9, .inl strk))] : va_W) ++ va_pl L (plF cy K te le tb mb wr nu ro pn rw dr)) sz) := by
  refine MT (Qf := QQ D o (fun u => (([(h0, .inr (5, [.ref h1, .ref h3, .ref h4, .int sfrom, .int sto, .int quar])), (h1, .inr (3, [.int dmod, .ref h2, .int dsz])), (h3, .inl (cy 2, 24, .inr (.inr (.inr (.inr tunes))))), (h4, .inl (cy 0, 9, .inl strk))] : va_W) ++ va_pl L (plF cy K te le tb mb wr nu ro pn rw dr)))) (plainFor_of_name (by decide +kernel)) (Nat.le_of_ble_eq_true rfl) ?_
  intro p e s m below meth c A ls H hx hb hml hr hlocks hown hnm hts hG hA hZ hP hD hS hl
  have hK := hG.K
  have hl : lv_has ls 2 [(0, .ref h0), (1, .int p0)] := hl
  have hf : X0_drumOrNull_f h2 dsz L K dr p0 = some o := ho
  clear ho
  unfold X0_drumOrNull_f at hf
  have J30 : ∀ (b30_1 : (Option Nat)), ∀ (H : Heap) (locs : List Loc), va_P D vwCl (([(h0, .inr (5, [.ref h1, .ref h3, .ref h4, .int sfrom, .int sto, .int quar])), (h1, .inr (3, [.int dmod, .ref h2, .int dsz])), (h3, .inl (cy 2, 24, .inr (.inr (.inr (.inr tunes))))), (h4, .inl (cy 0, 9, .inl strk))] : va_W) ++ va_pl L (plF cy K te le tb mb wr nu ro pn rw dr)) H → va_D A (([(h0, .inr (5, [.ref h1, .ref h3, .ref h4, .int sfrom, .int sto, .int quar])), (h1, .inr (3, [.int dmod, .ref h2, .int dsz])), (h3, .inl (cy 2, 24, .inr (.inr (.inr (.inr tunes))))), (h4, .inl (cy 0, 9, .inl strk))] : va_W) ++ va_pl L (plF cy K te le tb mb wr nu ro pn rw dr)) → va_S A s.heap H locs → ∀ (ls : Array Slot), lv_has ls 2 [] → X0_drumOrNull_b30 b30_1 = some o → W p l e ({ frames := 3, cells := 0, slots := 0, locals := 64 } : Room) s m ([.ref h0, .int p0] : List Value).toArray below meth c H locs 0 0 (MQ below (QQ D o (fun u => (([(h0, .inr (5, [.ref h1, .ref h3, .ref h4, .int sfrom, .int sto, .int quar])), (h1, .inr (3, [.int dmod, .ref h2, .int dsz])), (h3, .inl (cy 2, 24, .inr (.inr (.inr (.inr tunes))))), (h4, .inl (cy 0, 9, .inl strk))] : va_W) ++ va_pl L (plF cy K te le tb mb wr nu ro pn rw dr))) A) ([.ref h0, .int p0] : List Value).toArray s 0 0 A) (F0 m 30 ls [va_rf b30_1]) := by
    intro b30_1 H locs hP hD hS ls hl hf
    unfold X0_drumOrNull_b30 at hf
    obtain rfl := Option.some.inj hf
    exact W.aret (v := va_rf b30_1) hx hb hr (Or.inl ⟨_, rfl⟩) (va_rf_or _) (fun t ht _ => ⟨⟨b30_1, (), rfl, rfl, by rw [ht]; exact hP, hD⟩, hS.F ht⟩) hS.2.2 dX0_drumOrNull_30
  have J29 : ∀ (H : Heap) (locs : List Loc), va_P D vwCl (([(h0, .inr (5, [.ref h1, .ref h3, .ref h4, .int sfrom, .int sto, .int quar])), (h1, .inr (3, [.int dmod, .ref h2, .int dsz])), (h3, .inl (cy 2, 24, .inr (.inr (.inr (.inr tunes))))), (h4, .inl (cy 0, 9, .inl strk))] : va_W) ++ va_pl L (plF cy K te le tb mb wr nu ro pn rw dr)) H → va_D A (([(h0, .inr (5, [.ref h1, .ref h3, .ref h4, .int sfrom, .int sto, .int quar])), (h1, .inr (3, [.int dmod, .ref h2, .int dsz])), (h3, .inl (cy 2, 24, .inr (.inr (.inr (.inr tunes))))), (h4, .inl (cy 0, 9, .inl strk))] : va_W) ++ va_pl L (plF cy K te le tb mb wr nu ro pn rw dr)) → va_S A s.heap H locs → ∀ (ls : Array Slot), lv_has ls 2 [] → X0_drumOrNull_b29 = some o → W p l e ({ frames := 3, cells := 0, slots := 0, locals := 64 } : Room) s m ([.ref h0, .int p0] : List Value).toArray below meth c H locs 0 0 (MQ below (QQ D o (fun u => (([(h0, .inr (5, [.ref h1, .ref h3, .ref h4, .int sfrom, .int sto, .int quar])), (h1, .inr (3, [.int dmod, .ref h2, .int dsz])), (h3, .inl (cy 2, 24, .inr (.inr (.inr (.inr tunes))))), (h4, .inl (cy 0, 9, .inl strk))] : va_W) ++ va_pl L (plF cy K te le tb mb wr nu ro pn rw dr))) A) ([.ref h0, .int p0] : List Value).toArray s 0 0 A) (F0 m 29 ls []) := by
    intro  H locs hP hD hS ls hl hf
    unfold X0_drumOrNull_b29 at hf
    refine lv_null hx hb dX0_drumOrNull_29 ?_
    exact J30 none _ _ hP hD hS _ (lv_sub hl [] rfl) hf
  refine lv_iload_n hx hb dX0_drumOrNull_0 rfl (lv_at hl 1 rfl) ?_
  refine lv_if_lt (tgt := 29) hx hb dX0_drumOrNull_1 (by decide) (fun c1 => ?_) (fun c1 => ?_)
  · rw [if_pos c1] at hf
    exact J29  _ _ hP hD hS _ (lv_sub hl [] rfl) hf
  · rw [if_neg c1] at hf
    refine lv_iload_n hx hb dX0_drumOrNull_4 rfl (lv_at hl 1 rfl) ?_
    refine lv_aload_n hx hb dX0_drumOrNull_5 rfl (lv_at hl 0 rfl) ?_
    refine va_get (D := D) (ci := 5) (v := .ref h1) (C := RX0) (T := TX0) (N := 6) hx hb hts in_X0 hown hK hP 0 rfl rfl 0 (by decide) (hts _ k_252) (fun _ h9 => h9) rfl dX0_drumOrNull_6 ?_
    obtain ⟨v2, e3, hf⟩ := bind_some' hf
    refine cl_i (va_runV (As := []) (rest := [.int p0]) ⟨hx, hb, hml, hown, hts⟩ (c_Jx4a65c_size_O l D cy sa z0 H.size h1 dmod h2 dsz _ e3) (cwV 0 hts (lw_gV k_825 k_349 k_350 k_40 k_351) rfl rfl rfl (by decide +kernel) ⟨Nat.le_of_ble_eq_true rfl, Nat.le_of_ble_eq_true rfl⟩) (preV hG hS hZ hP hD [1] rfl rfl (ci := 3) (q0 := 1) rfl rfl) rfl rfl hl.1 rfl (lv_room (Nat.le_of_ble_eq_true rfl)) dX0_drumOrNull_9 ⟨Nat.le_of_ble_eq_true rfl, Nat.le_of_ble_eq_true rfl⟩) hP hD hS hA [1] rfl rfl rfl (fun H locs hP hD hS => ?_)
    have hP : va_P D vwCl (([(h0, .inr (5, [.ref h1, .ref h3, .ref h4, .int sfrom, .int sto, .int quar])), (h1, .inr (3, [.int dmod, .ref h2, .int dsz])), (h3, .inl (cy 2, 24, .inr (.inr (.inr (.inr tunes))))), (h4, .inl (cy 0, 9, .inl strk))] : va_W) ++ va_pl L (plF cy K te le tb mb wr nu ro pn rw dr)) H := hP
    have hD : va_D A (([(h0, .inr (5, [.ref h1, .ref h3, .ref h4, .int sfrom, .int sto, .int quar])), (h1, .inr (3, [.int dmod, .ref h2, .int dsz])), (h3, .inl (cy 2, 24, .inr (.inr (.inr (.inr tunes))))), (h4, .inl (cy 0, 9, .inl strk))] : va_W) ++ va_pl L (plF cy K te le tb mb wr nu ro pn rw dr)) := hD
    refine lv_icmp_ge (tgt := 29) hx hb dX0_drumOrNull_12 (by decide) (fun c4 => ?_) (fun c4 => ?_)
    · rw [if_pos c4] at hf
      exact J29  _ _ hP hD hS _ (lv_sub hl [] rfl) hf
    · rw [if_neg c4] at hf
      refine lv_aload_n hx hb dX0_drumOrNull_15 rfl (lv_at hl 0 rfl) ?_
      refine va_get (D := D) (ci := 5) (v := .ref h1) (C := RX0) (T := TX0) (N := 6) hx hb hts in_X0 hown hK hP 0 rfl rfl 0 (by decide) (hts _ k_252) (fun _ h9 => h9) rfl dX0_drumOrNull_16 ?_
      refine lv_iload_n hx hb dX0_drumOrNull_19 rfl (lv_at hl 1 rfl) ?_
      obtain ⟨v5, e6, hf⟩ := bind_some' hf
      refine clP_q (va_runV (As := [.int p0]) (rest := []) ⟨hx, hb, hml, hown, hts⟩ (c_Jx4a65c_get_P l D cy sa z0 H.size h1 dmod h2 dsz L K te le tb mb wr nu ro pn rw dr p0 _ e6) (cwV 1 hts (lw_gV k_861 k_555 k_556 k_40 k_557) rfl rfl rfl (by decide +kernel) ⟨Nat.le_of_ble_eq_true rfl, Nat.le_of_ble_eq_true rfl⟩) (preVP hG hS hZ hP hD [1] rfl rfl (ci := 3) (q0 := 1) rfl rfl) rfl rfl hl.1 rfl (lv_room (Nat.le_of_ble_eq_true rfl)) dX0_drumOrNull_20 ⟨Nat.le_of_ble_eq_true rfl, Nat.le_of_ble_eq_true rfl⟩) hP hD hS hA [1] rfl rfl rfl (fun H locs hP hD hS => ?_)
      have hP : va_P D vwCl (([(h0, .inr (5, [.ref h1, .ref h3, .ref h4, .int sfrom, .int sto, .int quar])), (h1, .inr (3, [.int dmod, .ref h2, .int dsz])), (h3, .inl (cy 2, 24, .inr (.inr (.inr (.inr tunes))))), (h4, .inl (cy 0, 9, .inl strk))] : va_W) ++ va_pl L (plF cy K te le tb mb wr nu ro pn rw dr)) H := hP
      have hD : va_D A (([(h0, .inr (5, [.ref h1, .ref h3, .ref h4, .int sfrom, .int sto, .int quar])), (h1, .inr (3, [.int dmod, .ref h2, .int dsz])), (h3, .inl (cy 2, 24, .inr (.inr (.inr (.inr tunes))))), (h4, .inl (cy 0, 9, .inl strk))] : va_W) ++ va_pl L (plF cy K te le tb mb wr nu ro pn rw dr)) := hD
      obtain ⟨a7, e8, hf⟩ := bind_some' hf
      rw [e8]
      obtain ⟨g9, hf⟩ := ite_some' hf
      obtain ⟨k10, e11⟩ := pl_1 (cy := cy) (te := te) (le := le) (tb := tb) (mb := mb) (wr := wr) (nu := nu) (ro := ro) (pn := pn) (rw := rw) (dr := dr) (X := [(h0, .inr (5, [.ref h1, .ref h3, .ref h4, .int sfrom, .int sto, .int quar])), (h1, .inr (3, [.int dmod, .ref h2, .int dsz])), (h3, .inl (cy 2, 24, .inr (.inr (.inr (.inr tunes))))), (h4, .inl (cy 0, 9, .inl strk))]) g9.1 g9.2
      refine va_castS hx hb hown (hts _ k_250) (hK.1 6 _ rfl).2 (va_recv hK hP (ci := 6) (q0 := k10) rfl e11) dX0_drumOrNull_23 ?_
      refine lv_goto (tgt := 30) hx hb dX0_drumOrNull_26 (by decide) ?_
      exact J30 (some a7) _ _ hP hD hS _ (lv_sub hl [] rfl) hf
noncomputable def X0_tuneOrNull_b23 (b23_1 : (Option Nat)) : Option (Option Nat × Unit) := some (b23_1, ())
noncomputable def X0_tuneOrNull_b22 : Option (Option Nat × Unit) := X0_tuneOrNull_b23 none
noncomputable def X0_tuneOrNull_f (tunes : Nat → Option Nat) (p0 : Int32) : Option (Option Nat × Unit) := (if p0 < (0 : Int32) then X0_tuneOrNull_b22 else (if (24 : Int32) ≤ p0 then X0_tuneOrNull_b22 else if ¬ (p0 < 0 ∨ 24 ≤ p0.toNatClampNeg) then X0_tuneOrNull_b23 (tunes p0.toNatClampNeg) else none))
set_option maxHeartbeats 4000000 in
set_option maxRecDepth 100000 in
theorem c_X0_tuneOrNull (l : Launch) (D : va_G) (cy : Nat → ClassId) (sa : Nat → Nat) (z0 sz : Nat) (h0 : Nat) (h1 : Nat) (h3 : Nat) (h4 : Nat) (sfrom : Int32) (sto : Int32) (quar : Int32) (dmod : Int32) (h2 : Nat) (dsz : Int32) (tunes : Nat → Option Nat) (strk : Nat → Int32) (L : List Nat) (K : Nat → Nat) (te : Nat → Int32) (le : Nat → Int32) (tb : Nat → Int32) (mb : Nat → Int64) (wr : Nat → Int64) (nu : Nat → Int32) (ro : Nat → Nat) (pn : Nat → Int32) (rw : Nat → Nat → Int32) (dr : Nat → Nat → Option Nat) (p0 : Int32) (o : (Option Nat × Unit)) (ho : X0_tuneOrNull_f tunes p0 = some o) : Met l yX0_tuneOrNull (ws_ yX0_tuneOrNull cX0_tuneOrNull 2 (some (.object "MinsterClock$Drum"))) ({ frames := 0, cells := 0, slots := 0, locals := 0 } : Room) (va_Pc [.ref h0, .int p0] (Pr D cy sa z0 (([(h0, .inr (5, [.ref h1, .ref h3, .ref h4, .int sfrom, .int sto, .int quar])), (h1, .inr (3, [.int dmod, .ref h2, .int dsz])), (h3, .inl (cy 2, 24, .inr (.inr (.inr (.inr tunes))))), (h4, .inl (cy 0, 9, .inl strk))] : va_W) ++ va_pl L (plF cy K te le tb mb wr nu ro pn rw dr)) sz)) (QQ D o (fun u => (([(h0, .inr (5, [.ref h1, .ref h3, .ref h4, .int sfrom, .int sto, .int quar])), (h1, .inr (3, [.int dmod, .ref h2, .int dsz])), (h3, .inl (cy 2, 24, .inr (.inr (.inr (.inr tunes))))), (h4, .inl (cy 0, 9, .inl strk))] : va_W) ++ va_pl L (plF cy K te le tb mb wr nu ro pn rw dr))) (va_A (([(h0, .inr (5, [.ref h1, .ref h3, .ref h4, .int sfrom, .int sto, .int quar])), (h1, .inr (3, [.int dmod, .ref h2, .int dsz])), (h3, .inl (cy 2, 24, .inr (.inr (.inr (.inr tunes))))), (h4, .inl (cy 0, 9, .inl strk))] : va_W) ++ va_pl L (plF cy K te le tb mb wr nu ro pn rw dr)) sz)) 0 0 (va_A (([(h0, .inr (5, [.ref h1, .ref h3, .ref h4, .int sfrom, .int sto, .int quar])), (h1, .inr (3, [.int dmod, .ref h2, .int dsz])), (h3, .inl (cy 2, 24, .inr (.inr (.inr (.inr tunes))))), (h4, .inl (cy 0, 9, .inl strk))] : va_W) ++ va_pl L (plF cy K te le tb mb wr nu ro pn rw dr)) sz) := by
  refine MT (Qf := QQ D o (fun u => (([(h0, .inr (5, [.ref h1, .ref h3, .ref h4, .int sfrom, .int sto, .int quar])), (h1, .inr (3, [.int dmod, .ref h2, .int dsz])), (h3, .inl (cy 2, 24, .inr (.inr (.inr (.inr tunes))))), (h4, .inl (cy 0, 9, .inl strk))] : va_W) ++ va_pl L (plF cy K te le tb mb wr nu ro pn rw dr)))) (plainFor_of_name (by decide +kernel)) (Nat.le_of_ble_eq_true rfl) ?_
  intro p e s m below meth c A ls H hx hb hml hr hlocks hown hnm hts hG hA hZ hP hD hS hl
  have hK := hG.K
  have hl : lv_has ls 2 [(0, .ref h0), (1, .int p0)] := hl
  have hf : X0_tuneOrNull_f tunes p0 = some o := ho
  clear ho
  unfold X0_tuneOrNull_f at hf
  have J23 : ∀ (b23_1 : (Option Nat)), ∀ (H : Heap) (locs : List Loc), va_P D vwCl (([(h0, .inr (5, [.ref h1, .ref h3, .ref h4, .int sfrom, .int sto, .int quar])), (h1, .inr (3, [.int dmod, .ref h2, .int dsz])), (h3, .inl (cy 2, 24, .inr (.inr (.inr (.inr tunes))))), (h4, .inl (cy 0, 9, .inl strk))] : va_W) ++ va_pl L (plF cy K te le tb mb wr nu ro pn rw dr)) H → va_D A (([(h0, .inr (5, [.ref h1, .ref h3, .ref h4, .int sfrom, .int sto, .int quar])), (h1, .inr (3, [.int dmod, .ref h2, .int dsz])), (h3, .inl (cy 2, 24, .inr (.inr (.inr (.inr tunes))))), (h4, .inl (cy 0, 9, .inl strk))] : va_W) ++ va_pl L (plF cy K te le tb mb wr nu ro pn rw dr)) → va_S A s.heap H locs → ∀ (ls : Array Slot), lv_has ls 2 [] → X0_tuneOrNull_b23 b23_1 = some o → W p l e ({ frames := 0, cells := 0, slots := 0, locals := 0 } : Room) s m ([.ref h0, .int p0] : List Value).toArray below meth c H locs 0 0 (MQ below (QQ D o (fun u => (([(h0, .inr (5, [.ref h1, .ref h3, .ref h4, .int sfrom, .int sto, .int quar])), (h1, .inr (3, [.int dmod, .ref h2, .int dsz])), (h3, .inl (cy 2, 24, .inr (.inr (.inr (.inr tunes))))), (h4, .inl (cy 0, 9, .inl strk))] : va_W) ++ va_pl L (plF cy K te le tb mb wr nu ro pn rw dr))) A) ([.ref h0, .int p0] : List Value).toArray s 0 0 A) (F0 m 23 ls [va_rf b23_1]) := by
    intro b23_1 H locs hP hD hS ls hl hf
    unfold X0_tuneOrNull_b23 at hf
    obtain rfl := Option.some.inj hf
    exact W.aret (v := va_rf b23_1) hx hb hr (Or.inl ⟨_, rfl⟩) (va_rf_or _) (fun t ht _ => ⟨⟨b23_1, (), rfl, rfl, by rw [ht]; exact hP, hD⟩, hS.F ht⟩) hS.2.2 dX0_tuneOrNull_23
  have J22 : ∀ (H : Heap) (locs : List Loc), va_P D vwCl (([(h0, .inr (5, [.ref h1, .ref h3, .ref h4, .int sfrom, .int sto, .int quar])), (h1, .inr (3, [.int dmod, .ref h2, .int dsz])), (h3, .inl (cy 2, 24, .inr (.inr (.inr (.inr tunes))))), (h4, .inl (cy 0, 9, .inl strk))] : va_W) ++ va_pl L (plF cy K te le tb mb wr nu ro pn rw dr)) H → va_D A (([(h0, .inr (5, [.ref h1, .ref h3, .ref h4, .int sfrom, .int sto, .int quar])), (h1, .inr (3, [.int dmod, .ref h2, .int dsz])), (h3, .inl (cy 2, 24, .inr (.inr (.inr (.inr tunes))))), (h4, .inl (cy 0, 9, .inl strk))] : va_W) ++ va_pl L (plF cy K te le tb mb wr nu ro pn rw dr)) → va_S A s.heap H locs → ∀ (ls : Array Slot), lv_has ls 2 [] → X0_tuneOrNull_b22 = some o → W p l e ({ frames := 0, cells := 0, slots := 0, locals := 0 } : Room) s m ([.ref h0, .int p0] : List Value).toArray below meth c H locs 0 0 (MQ below (QQ D o (fun u => (([(h0, .inr (5, [.ref h1, .ref h3, .ref h4, .int sfrom, .int sto, .int quar])), (h1, .inr (3, [.int dmod, .ref h2, .int dsz])), (h3, .inl (cy 2, 24, .inr (.inr (.inr (.inr tunes))))), (h4, .inl (cy 0, 9, .inl strk))] : va_W) ++ va_pl L (plF cy K te le tb mb wr nu ro pn rw dr))) A) ([.ref h0, .int p0] : List Value).toArray s 0 0 A) (F0 m 22 ls []) := by
    intro  H locs hP hD hS ls hl hf
    unfold X0_tuneOrNull_b22 at hf
    refine lv_null hx hb dX0_tuneOrNull_22 ?_
    exact J23 none _ _ hP hD hS _ (lv_sub hl [] rfl) hf
  refine lv_iload_n hx hb dX0_tuneOrNull_0 rfl (lv_at hl 1 rfl) ?_
  refine lv_if_lt (tgt := 22) hx hb dX0_tuneOrNull_1 (by decide) (fun c1 => ?_) (fun c1 => ?_)
  · rw [if_pos c1] at hf
    exact J22  _ _ hP hD hS _ (lv_sub hl [] rfl) hf
  · rw [if_neg c1] at hf
    refine lv_iload_n hx hb dX0_tuneOrNull_4 rfl (lv_at hl 1 rfl) ?_
    refine lv_aload_n hx hb dX0_tuneOrNull_5 rfl (lv_at hl 0 rfl) ?_
    refine va_get (D := D) (ci := 5) (v := .ref h3) (C := RX0) (T := TX0) (N := 6) hx hb hts in_X0 hown hK hP 0 rfl rfl 1 (by decide) (hts _ k_253) (fun _ h9 => h9) rfl dX0_tuneOrNull_6 ?_
    refine va_alen hx hb hK hP 2 2 rfl rfl (v := (24 : Int32)) (show Int32.ofNat 24 = 24 by decide) dX0_tuneOrNull_9 ?_
    refine lv_icmp_ge (tgt := 22) hx hb dX0_tuneOrNull_10 (by decide) (fun c2 => ?_) (fun c2 => ?_)
    · rw [if_pos c2] at hf
      exact J22  _ _ hP hD hS _ (lv_sub hl [] rfl) hf
    · rw [if_neg c2] at hf
      refine lv_aload_n hx hb dX0_tuneOrNull_13 rfl (lv_at hl 0 rfl) ?_
      refine va_get (D := D) (ci := 5) (v := .ref h3) (C := RX0) (T := TX0) (N := 6) hx hb hts in_X0 hown hK hP 0 rfl rfl 1 (by decide) (hts _ k_253) (fun _ h9 => h9) rfl dX0_tuneOrNull_14 ?_
      refine lv_iload_n hx hb dX0_tuneOrNull_17 rfl (lv_at hl 1 rfl) ?_
      obtain ⟨g3, hf⟩ := ite_some' hf
      refine va_aldq hx hb hK hP 2 2 rfl rfl g3 dX0_tuneOrNull_18 ?_
      refine lv_goto (tgt := 23) hx hb dX0_tuneOrNull_19 (by decide) ?_
      exact J23 (tunes p0.toNatClampNeg) _ _ hP hD hS _ (lv_sub hl [] rfl) hf
noncomputable def X0_changeTuneN_b26 (b26_1 : (Option Nat)) (b26_2 : (Nat → Option Nat)) : Option (Option Nat × (Nat → Option Nat)) := (optE b26_1 (some (none, b26_2)) (fun a11 => some ((some a11), b26_2)))
noncomputable def X0_changeTuneN_f (tunes : Nat → Option Nat) (p0 : Int32) : Option (Option Nat × (Nat → Option Nat)) := (X0_tuneOrNull_f tunes p0).bind fun v1 => (optE v1.1 ((if p0 < (0 : Int32) then X0_changeTuneN_b26 none tunes else (if (24 : Int32) ≤ p0 then X0_changeTuneN_b26 none tunes else if ¬ (p0 < 0 ∨ 24 ≤ p0.toNatClampNeg) then X0_changeTuneN_b26 none (va_up tunes p0.toNatClampNeg none) else none))) (fun a3 => (if p0 < (0 : Int32) then X0_changeTuneN_b26 (some a3) tunes else (if (24 : Int32) ≤ p0 then X0_changeTuneN_b26 (some a3) tunes else if ¬ (p0 < 0 ∨ 24 ≤ p0.toNatClampNeg) then X0_changeTuneN_b26 (some a3) (va_up tunes p0.toNatClampNeg none) else none))))
set_option maxHeartbeats 4000000 in
set_option maxRecDepth 100000 in
theorem c_X0_changeTuneN (l : Launch) (D : va_G) (cy : Nat → ClassId) (sa : Nat → Nat) (z0 sz : Nat) (h0 : Nat) (h1 : Nat) (h3 : Nat) (h4 : Nat) (sfrom : Int32) (sto : Int32) (quar : Int32) (dmod : Int32) (h2 : Nat) (dsz : Int32) (tunes : Nat → Option Nat) (strk : Nat → Int32) (L : List Nat) (K : Nat → Nat) (te : Nat → Int32) (le : Nat → Int32) (tb : Nat → Int32) (mb : Nat → Int64) (wr : Nat → Int64) (nu : Nat → Int32) (ro : Nat → Nat) (pn : Nat → Int32) (rw : Nat → Nat → Int32) (dr : Nat → Nat → Option Nat) (p0 : Int32) (o : (Option Nat × (Nat → Option Nat))) (ho : X0_changeTuneN_f tunes p0 = some o) : Met l yX0_changeTune (ws_ yX0_changeTune cX0_changeTune 4 (some (.object "MinsterClock$Drum"))) ({ frames := 1, cells := 0, slots := 0, locals := 21 } : Room) (va_Pc [.ref h0, .int p0, .null] (Pr D cy sa z0 (([(h0, .inr (5, [.ref h1, .ref h3, .ref h4, .int sfrom, .int sto, .int quar])), (h1, .inr (3, [.int dmod, .ref h2, .int dsz])), (h3, .inl (cy 2, 24, .inr (.inr (.inr (.inr tunes))))), (h4, .inl (cy 0, 9, .inl strk))] : va_W) ++ va_pl L (plF cy K te le tb mb wr nu ro pn rw dr)) sz)) (QQ D o (fun u => (([(h0, .inr (5, [.ref h1, .ref h3, .ref h4, .int sfrom, .int sto, .int quar])), (h1, .inr (3, [.int dmod, .ref h2, .int dsz])), (h3, .inl (cy 2, 24, .inr (.inr (.inr (.inr u))))), (h4, .inl (cy 0, 9, .inl strk))] : va_W) ++ va_pl L (plF cy K te le tb mb wr nu ro pn rw dr))) (va_A (([(h0, .inr (5, [.ref h1, .ref h3, .ref h4, .int sfrom, .int sto, .int quar])), (h1, .inr (3, [.int dmod, .ref h2, .int dsz])), (h3, .inl (cy 2, 24, .inr (.inr (.inr (.inr tunes))))), (h4, .inl (cy 0, 9, .inl strk))] : va_W) ++ va_pl L (plF cy K te le tb mb wr nu ro pn rw dr)) sz)) 0 0 (va_A (([(h0, .inr (5, [.ref h1, .ref h3, .ref h4, .int sfrom, .int sto, .int quar])), (h1, .inr (3, [.int dmod, .ref h2, .int dsz])), (h3, .inl (cy 2, 24, .inr (.inr (.inr (.inr tunes))))), (h4, .inl (cy 0, 9, .inl strk))] : va_W) ++ va_pl L (plF cy K te le tb mb wr nu ro pn rw dr)) sz) := by
  refine MT (Qf := QQ D o (fun u => (([(h0, .inr (5, [.ref h1, .ref h3, .ref h4, .int sfrom, .int sto, .int quar])), (h1, .inr (3, [.int dmod, .ref h2, .int dsz])), (h3, .inl (cy 2, 24, .inr (.inr (.inr (.inr u))))), (h4, .inl (cy 0, 9, .inl strk))] : va_W) ++ va_pl L (plF cy K te le tb mb wr nu ro pn rw dr)))) (plainFor_of_name (by decide +kernel)) (Nat.le_of_ble_eq_true rfl) ?_
  intro p e s m below meth c A ls H hx hb hml hr hlocks hown hnm hts hG hA hZ hP hD hS hl
  have hK := hG.K
  have hl : lv_has ls 4 [(0, .ref h0), (1, .int p0), (2, .null)] := hl
  have hf : X0_changeTuneN_f tunes p0 = some o := ho
  clear ho
  unfold X0_changeTuneN_f at hf
  have J26 : ∀ (b26_1 : (Option Nat)) (b26_2 : (Nat → Option Nat)), ∀ (H : Heap) (locs : List Loc), va_P D vwCl (([(h0, .inr (5, [.ref h1, .ref h3, .ref h4, .int sfrom, .int sto, .int quar])), (h1, .inr (3, [.int dmod, .ref h2, .int dsz])), (h3, .inl (cy 2, 24, .inr (.inr (.inr (.inr b26_2))))), (h4, .inl (cy 0, 9, .inl strk))] : va_W) ++ va_pl L (plF cy K te le tb mb wr nu ro pn rw dr)) H → va_D A (([(h0, .inr (5, [.ref h1, .ref h3, .ref h4, .int sfrom, .int sto, .int quar])), (h1, .inr (3, [.int dmod, .ref h2, .int dsz])), (h3, .inl (cy 2, 24, .inr (.inr (.inr (.inr b26_2))))), (h4, .inl (cy 0, 9, .inl strk))] : va_W) ++ va_pl L (plF cy K te le tb mb wr nu ro pn rw dr)) → va_S A s.heap H locs → ∀ (ls : Array Slot), lv_has ls 4 [(3, va_rf b26_1)] → X0_changeTuneN_b26 b26_1 b26_2 = some o → W p l e ({ frames := 1, cells := 0, slots := 0, locals := 21 } : Room) s m ([.ref h0, .int p0, .null] : List Value).toArray below meth c H locs 0 0 (MQ below (QQ D o (fun u => (([(h0, .inr (5, [.ref h1, .ref h3, .ref h4, .int sfrom, .int sto, .int quar])), (h1, .inr (3, [.int dmod, .ref h2, .int dsz])), (h3, .inl (cy 2, 24, .inr (.inr (.inr (.inr u))))), (h4, .inl (cy 0, 9, .inl strk))] : va_W) ++ va_pl L (plF cy K te le tb mb wr nu ro pn rw dr))) A) ([.ref h0, .int p0, .null] : List Value).toArray s 0 0 A) (F0 m 26 ls []) := by
    intro b26_1 b26_2 H locs hP hD hS ls hl hf
    unfold X0_changeTuneN_b26 at hf
    rcases optE_cases hf with ⟨e12, hf⟩ | ⟨a11, e12, hf⟩
    · simp only [e12, va_rf_none] at hl ⊢
      refine lv_aload_nN hx hb dX0_changeTune_26 rfl (lv_at hl 0 rfl) ?_
      obtain rfl := Option.some.inj hf
      exact W.aret (v := va_rf none) hx hb hr (Or.inl ⟨_, rfl⟩) (va_rf_or _) (fun t ht _ => ⟨⟨none, b26_2, rfl, rfl, by rw [ht]; exact hP, hD⟩, hS.F ht⟩) hS.2.2 dX0_changeTune_27
    · simp only [e12, va_rf_some] at hl ⊢
      refine lv_aload_n hx hb dX0_changeTune_26 rfl (lv_at hl 0 rfl) ?_
      obtain rfl := Option.some.inj hf
      exact W.aret (v := va_rf (some a11)) hx hb hr (Or.inl ⟨_, rfl⟩) (va_rf_or _) (fun t ht _ => ⟨⟨(some a11), b26_2, rfl, rfl, by rw [ht]; exact hP, hD⟩, hS.F ht⟩) hS.2.2 dX0_changeTune_27
  refine lv_aload_n hx hb dX0_changeTune_0 rfl (lv_at hl 0 rfl) ?_
  refine lv_iload_n hx hb dX0_changeTune_1 rfl (lv_at hl 1 rfl) ?_
  obtain ⟨v1, e2, hf⟩ := bind_some' hf
  refine clP_q (va_runV (As := [.int p0]) (rest := []) ⟨hx, hb, hml, hown, hts⟩ (c_X0_tuneOrNull l D cy sa z0 H.size h0 h1 h3 h4 sfrom sto quar dmod h2 dsz tunes strk L K te le tb mb wr nu ro pn rw dr p0 _ e2) (cwV 1 hts (lw_gV k_742 k_744 k_13 k_48 k_745) rfl rfl rfl (by decide +kernel) ⟨Nat.le_of_ble_eq_true rfl, Nat.le_of_ble_eq_true rfl⟩) (preVP hG hS hZ hP hD [0, 1, 2, 3] rfl rfl (ci := 5) (q0 := 0) rfl rfl) rfl rfl hl.1 rfl (lv_room (Nat.le_of_ble_eq_true rfl)) dX0_changeTune_2 ⟨Nat.le_of_ble_eq_true rfl, Nat.le_of_ble_eq_true rfl⟩) hP hD hS hA [0, 1, 2, 3] rfl rfl rfl (fun H locs hP hD hS => ?_)
  have hP : va_P D vwCl (([(h0, .inr (5, [.ref h1, .ref h3, .ref h4, .int sfrom, .int sto, .int quar])), (h1, .inr (3, [.int dmod, .ref h2, .int dsz])), (h3, .inl (cy 2, 24, .inr (.inr (.inr (.inr tunes))))), (h4, .inl (cy 0, 9, .inl strk))] : va_W) ++ va_pl L (plF cy K te le tb mb wr nu ro pn rw dr)) H := hP
  have hD : va_D A (([(h0, .inr (5, [.ref h1, .ref h3, .ref h4, .int sfrom, .int sto, .int quar])), (h1, .inr (3, [.int dmod, .ref h2, .int dsz])), (h3, .inl (cy 2, 24, .inr (.inr (.inr (.inr tunes))))), (h4, .inl (cy 0, 9, .inl strk))] : va_W) ++ va_pl L (plF cy K te le tb mb wr nu ro pn rw dr)) := hD
  rcases optE_cases hf with ⟨e4, hf⟩ | ⟨a3, e4, hf⟩
  · simp only [e4, va_rf_none] at hl ⊢
    refine lv_astore_nN (lv' := [(3, .null), (0, .ref h0), (1, .int p0), (2, .null)]) hx hb dX0_changeTune_5 rfl hl (by decide) rfl (fun ls hl => ?_)
    refine lv_iload_n hx hb dX0_changeTune_6 rfl (lv_at hl 2 rfl) ?_
    refine lv_if_lt (tgt := 26) hx hb dX0_changeTune_7 (by decide) (fun c5 => ?_) (fun c5 => ?_)
    · rw [if_pos c5] at hf
      exact J26 none tunes _ _ hP hD hS _ (lv_sub hl [0] rfl) hf
    · rw [if_neg c5] at hf
      refine lv_iload_n hx hb dX0_changeTune_10 rfl (lv_at hl 2 rfl) ?_
      refine lv_aload_n hx hb dX0_changeTune_11 rfl (lv_at hl 1 rfl) ?_
      refine va_get (D := D) (ci := 5) (v := .ref h3) (C := RX0) (T := TX0) (N := 6) hx hb hts in_X0 hown hK hP 0 rfl rfl 1 (by decide) (hts _ k_253) (fun _ h9 => h9) rfl dX0_changeTune_12 ?_
      refine va_alen hx hb hK hP 2 2 rfl rfl (v := (24 : Int32)) (show Int32.ofNat 24 = 24 by decide) dX0_changeTune_15 ?_
      refine lv_icmp_ge (tgt := 26) hx hb dX0_changeTune_16 (by decide) (fun c6 => ?_) (fun c6 => ?_)
      · rw [if_pos c6] at hf
        exact J26 none tunes _ _ hP hD hS _ (lv_sub hl [0] rfl) hf
      · rw [if_neg c6] at hf
        refine lv_aload_n hx hb dX0_changeTune_19 rfl (lv_at hl 1 rfl) ?_
        refine va_get (D := D) (ci := 5) (v := .ref h3) (C := RX0) (T := TX0) (N := 6) hx hb hts in_X0 hown hK hP 0 rfl rfl 1 (by decide) (hts _ k_253) (fun _ h9 => h9) rfl dX0_changeTune_20 ?_
        refine lv_iload_n hx hb dX0_changeTune_23 rfl (lv_at hl 2 rfl) ?_
        refine lv_aload_nN hx hb dX0_changeTune_24 rfl (lv_at hl 3 rfl) ?_
        obtain ⟨g7, hf⟩ := ite_some' hf
        refine va_astqN hx hb hK hP hD hS 2 2 rfl rfl g7 dX0_changeTune_25 (fun H locs hP hD hS => ?_)
        have hP : va_P D vwCl (([(h0, .inr (5, [.ref h1, .ref h3, .ref h4, .int sfrom, .int sto, .int quar])), (h1, .inr (3, [.int dmod, .ref h2, .int dsz])), (h3, .inl (cy 2, 24, .inr (.inr (.inr (.inr (va_up tunes p0.toNatClampNeg none)))))), (h4, .inl (cy 0, 9, .inl strk))] : va_W) ++ va_pl L (plF cy K te le tb mb wr nu ro pn rw dr)) H := hP
        have hD : va_D A (([(h0, .inr (5, [.ref h1, .ref h3, .ref h4, .int sfrom, .int sto, .int quar])), (h1, .inr (3, [.int dmod, .ref h2, .int dsz])), (h3, .inl (cy 2, 24, .inr (.inr (.inr (.inr (va_up tunes p0.toNatClampNeg none)))))), (h4, .inl (cy 0, 9, .inl strk))] : va_W) ++ va_pl L (plF cy K te le tb mb wr nu ro pn rw dr)) := hD
        exact J26 none (va_up tunes p0.toNatClampNeg none) _ _ hP hD hS _ (lv_sub hl [0] rfl) hf
  · simp only [e4, va_rf_some] at hl ⊢
    refine lv_astore_n (lv' := [(3, .ref a3), (0, .ref h0), (1, .int p0), (2, .null)]) hx hb dX0_changeTune_5 rfl hl (by decide) rfl (fun ls hl => ?_)
    refine lv_iload_n hx hb dX0_changeTune_6 rfl (lv_at hl 2 rfl) ?_
    refine lv_if_lt (tgt := 26) hx hb dX0_changeTune_7 (by decide) (fun c8 => ?_) (fun c8 => ?_)
    · rw [if_pos c8] at hf
      exact J26 (some a3) tunes _ _ hP hD hS _ (lv_sub hl [0] rfl) hf
    · rw [if_neg c8] at hf
      refine lv_iload_n hx hb dX0_changeTune_10 rfl (lv_at hl 2 rfl) ?_
      refine lv_aload_n hx hb dX0_changeTune_11 rfl (lv_at hl 1 rfl) ?_
      refine va_get (D := D) (ci := 5) (v := .ref h3) (C := RX0) (T := TX0) (N := 6) hx hb hts in_X0 hown hK hP 0 rfl rfl 1 (by decide) (hts _ k_253) (fun _ h9 => h9) rfl dX0_changeTune_12 ?_
      refine va_alen hx hb hK hP 2 2 rfl rfl (v := (24 : Int32)) (show Int32.ofNat 24 = 24 by decide) dX0_changeTune_15 ?_
      refine lv_icmp_ge (tgt := 26) hx hb dX0_changeTune_16 (by decide) (fun c9 => ?_) (fun c9 => ?_)
      · rw [if_pos c9] at hf
        exact J26 (some a3) tunes _ _ hP hD hS _ (lv_sub hl [0] rfl) hf
      · rw [if_neg c9] at hf
        refine lv_aload_n hx hb dX0_changeTune_19 rfl (lv_at hl 1 rfl) ?_
        refine va_get (D := D) (ci := 5) (v := .ref h3) (C := RX0) (T := TX0) (N := 6) hx hb hts in_X0 hown hK hP 0 rfl rfl 1 (by decide) (hts _ k_253) (fun _ h9 => h9) rfl dX0_changeTune_20 ?_
        refine lv_iload_n hx hb dX0_changeTune_23 rfl (lv_at hl 2 rfl) ?_
        refine lv_aload_nN hx hb dX0_changeTune_24 rfl (lv_at hl 3 rfl) ?_
        obtain ⟨g10, hf⟩ := ite_some' hf
        refine va_astqN hx hb hK hP hD hS 2 2 rfl rfl g10 dX0_changeTune_25 (fun H locs hP hD hS => ?_)
        have hP : va_P D vwCl (([(h0, .inr (5, [.ref h1, .ref h3, .ref h4, .int sfrom, .int sto, .int quar])), (h1, .inr (3, [.int dmod, .ref h2, .int dsz])), (h3, .inl (cy 2, 24, .inr (.inr (.inr (.inr (va_up tunes p0.toNatClampNeg none)))))), (h4, .inl (cy 0, 9, .inl strk))] : va_W) ++ va_pl L (plF cy K te le tb mb wr nu ro pn rw dr)) H := hP
        have hD : va_D A (([(h0, .inr (5, [.ref h1, .ref h3, .ref h4, .int sfrom, .int sto, .int quar])), (h1, .inr (3, [.int dmod, .ref h2, .int dsz])), (h3, .inl (cy 2, 24, .inr (.inr (.inr (.inr (va_up tunes p0.toNatClampNeg none)))))), (h4, .inl (cy 0, 9, .inl strk))] : va_W) ++ va_pl L (plF cy K te le tb mb wr nu ro pn rw dr)) := hD
        exact J26 (some a3) (va_up tunes p0.toNatClampNeg none) _ _ hP hD hS _ (lv_sub hl [0] rfl) hf
noncomputable def X0_changeTuneR_b26 (b26_1 : (Option Nat)) (b26_2 : (Nat → Option Nat)) : Option (Option Nat × (Nat → Option Nat)) := (optE b26_1 (some (none, b26_2)) (fun a17 => some ((some a17), b26_2)))
noncomputable def X0_changeTuneR_f (w1 : Nat) (tunes : Nat → Option Nat) (L : List Nat) (K : Nat → Nat) (p0 : Int32) : Option (Option Nat × (Nat → Option Nat)) := (X0_tuneOrNull_f tunes p0).bind fun v1 => (optE v1.1 ((if p0 < (0 : Int32) then X0_changeTuneR_b26 none tunes else (if (24 : Int32) ≤ p0 then X0_changeTuneR_b26 none tunes else if ¬ (p0 < 0 ∨ 24 ≤ p0.toNatClampNeg) then if (w1 ∈ L ∧ K w1 = 1) then X0_changeTuneR_b26 none (va_up tunes p0.toNatClampNeg (some w1)) else none else none))) (fun a3 => (if p0 < (0 : Int32) then X0_changeTuneR_b26 (some a3) tunes else (if (24 : Int32) ≤ p0 then X0_changeTuneR_b26 (some a3) tunes else if ¬ (p0 < 0 ∨ 24 ≤ p0.toNatClampNeg) then if (w1 ∈ L ∧ K w1 = 1) then X0_changeTuneR_b26 (some a3) (va_up tunes p0.toNatClampNeg (some w1)) else none else none))))
set_option maxHeartbeats 4000000 in
set_option maxRecDepth 100000 in
theorem c_X0_changeTuneR (l : Launch) (D : va_G) (cy : Nat → ClassId) (sa : Nat → Nat) (z0 sz : Nat) (h0 : Nat) (w1 : Nat) (h1 : Nat) (h3 : Nat) (h4 : Nat) (sfrom : Int32) (sto : Int32) (quar : Int32) (dmod : Int32) (h2 : Nat) (dsz : Int32) (tunes : Nat → Option Nat) (strk : Nat → Int32) (L : List Nat) (K : Nat → Nat) (te : Nat → Int32) (le : Nat → Int32) (tb : Nat → Int32) (mb : Nat → Int64) (wr : Nat → Int64) (nu : Nat → Int32) (ro : Nat → Nat) (pn : Nat → Int32) (rw : Nat → Nat → Int32) (dr : Nat → Nat → Option Nat) (p0 : Int32) (o : (Option Nat × (Nat → Option Nat))) (ho : X0_changeTuneR_f w1 tunes L K p0 = some o) : Met l yX0_changeTune (ws_ yX0_changeTune cX0_changeTune 4 (some (.object "MinsterClock$Drum"))) ({ frames := 1, cells := 0, slots := 0, locals := 21 } : Room) (va_Pc [.ref h0, .int p0, .ref w1] (Pr D cy sa z0 (([(h0, .inr (5, [.ref h1, .ref h3, .ref h4, .int sfrom, .int sto, .int quar])), (h1, .inr (3, [.int dmod, .ref h2, .int dsz])), (h3, .inl (cy 2, 24, .inr (.inr (.inr (.inr tunes))))), (h4, .inl (cy 0, 9, .inl strk))] : va_W) ++ va_pl L (plF cy K te le tb mb wr nu ro pn rw dr)) sz)) (QQ D o (fun u => (([(h0, .inr (5, [.ref h1, .ref h3, .ref h4, .int sfrom, .int sto, .int quar])), (h1, .inr (3, [.int dmod, .ref h2, .int dsz])), (h3, .inl (cy 2, 24, .inr (.inr (.inr (.inr u))))), (h4, .inl (cy 0, 9, .inl strk))] : va_W) ++ va_pl L (plF cy K te le tb mb wr nu ro pn rw dr))) (va_A (([(h0, .inr (5, [.ref h1, .ref h3, .ref h4, .int sfrom, .int sto, .int quar])), (h1, .inr (3, [.int dmod, .ref h2, .int dsz])), (h3, .inl (cy 2, 24, .inr (.inr (.inr (.inr tunes))))), (h4, .inl (cy 0, 9, .inl strk))] : va_W) ++ va_pl L (plF cy K te le tb mb wr nu ro pn rw dr)) sz)) 0 0 (va_A (([(h0, .inr (5, [.ref h1, .ref h3, .ref h4, .int sfrom, .int sto, .int quar])), (h1, .inr (3, [.int dmod, .ref h2, .int dsz])), (h3, .inl (cy 2, 24, .inr (.inr (.inr (.inr tunes))))), (h4, .inl (cy 0, 9, .inl strk))] : va_W) ++ va_pl L (plF cy K te le tb mb wr nu ro pn rw dr)) sz) := by
  refine MT (Qf := QQ D o (fun u => (([(h0, .inr (5, [.ref h1, .ref h3, .ref h4, .int sfrom, .int sto, .int quar])), (h1, .inr (3, [.int dmod, .ref h2, .int dsz])), (h3, .inl (cy 2, 24, .inr (.inr (.inr (.inr u))))), (h4, .inl (cy 0, 9, .inl strk))] : va_W) ++ va_pl L (plF cy K te le tb mb wr nu ro pn rw dr)))) (plainFor_of_name (by decide +kernel)) (Nat.le_of_ble_eq_true rfl) ?_
  intro p e s m below meth c A ls H hx hb hml hr hlocks hown hnm hts hG hA hZ hP hD hS hl
  have hK := hG.K
  have hl : lv_has ls 4 [(0, .ref h0), (1, .int p0), (2, .ref w1)] := hl
  have hf : X0_changeTuneR_f w1 tunes L K p0 = some o := ho
  clear ho
  unfold X0_changeTuneR_f at hf
  have J26 : ∀ (b26_1 : (Option Nat)) (b26_2 : (Nat → Option Nat)), ∀ (H : Heap) (locs : List Loc), va_P D vwCl (([(h0, .inr (5, [.ref h1, .ref h3, .ref h4, .int sfrom, .int sto, .int quar])), (h1, .inr (3, [.int dmod, .ref h2, .int dsz])), (h3, .inl (cy 2, 24, .inr (.inr (.inr (.inr b26_2))))), (h4, .inl (cy 0, 9, .inl strk))] : va_W) ++ va_pl L (plF cy K te le tb mb wr nu ro pn rw dr)) H → va_D A (([(h0, .inr (5, [.ref h1, .ref h3, .ref h4, .int sfrom, .int sto, .int quar])), (h1, .inr (3, [.int dmod, .ref h2, .int dsz])), (h3, .inl (cy 2, 24, .inr (.inr (.inr (.inr b26_2))))), (h4, .inl (cy 0, 9, .inl strk))] : va_W) ++ va_pl L (plF cy K te le tb mb wr nu ro pn rw dr)) → va_S A s.heap H locs → ∀ (ls : Array Slot), lv_has ls 4 [(3, va_rf b26_1)] → X0_changeTuneR_b26 b26_1 b26_2 = some o → W p l e ({ frames := 1, cells := 0, slots := 0, locals := 21 } : Room) s m ([.ref h0, .int p0, .ref w1] : List Value).toArray below meth c H locs 0 0 (MQ below (QQ D o (fun u => (([(h0, .inr (5, [.ref h1, .ref h3, .ref h4, .int sfrom, .int sto, .int quar])), (h1, .inr (3, [.int dmod, .ref h2, .int dsz])), (h3, .inl (cy 2, 24, .inr (.inr (.inr (.inr u))))), (h4, .inl (cy 0, 9, .inl strk))] : va_W) ++ va_pl L (plF cy K te le tb mb wr nu ro pn rw dr))) A) ([.ref h0, .int p0, .ref w1] : List Value).toArray s 0 0 A) (F0 m 26 ls []) := by
    intro b26_1 b26_2 H locs hP hD hS ls hl hf
    unfold X0_changeTuneR_b26 at hf
    rcases optE_cases hf with ⟨e18, hf⟩ | ⟨a17, e18, hf⟩
    · simp only [e18, va_rf_none] at hl ⊢
      refine lv_aload_nN hx hb dX0_changeTune_26 rfl (lv_at hl 0 rfl) ?_
      obtain rfl := Option.some.inj hf
      exact W.aret (v := va_rf none) hx hb hr (Or.inl ⟨_, rfl⟩) (va_rf_or _) (fun t ht _ => ⟨⟨none, b26_2, rfl, rfl, by rw [ht]; exact hP, hD⟩, hS.F ht⟩) hS.2.2 dX0_changeTune_27
    · simp only [e18, va_rf_some] at hl ⊢
      refine lv_aload_n hx hb dX0_changeTune_26 rfl (lv_at hl 0 rfl) ?_
      obtain rfl := Option.some.inj hf
      exact W.aret (v := va_rf (some a17)) hx hb hr (Or.inl ⟨_, rfl⟩) (va_rf_or _) (fun t ht _ => ⟨⟨(some a17), b26_2, rfl, rfl, by rw [ht]; exact hP, hD⟩, hS.F ht⟩) hS.2.2 dX0_changeTune_27
  refine lv_aload_n hx hb dX0_changeTune_0 rfl (lv_at hl 0 rfl) ?_
  refine lv_iload_n hx hb dX0_changeTune_1 rfl (lv_at hl 1 rfl) ?_
  obtain ⟨v1, e2, hf⟩ := bind_some' hf
  refine clP_q (va_runV (As := [.int p0]) (rest := []) ⟨hx, hb, hml, hown, hts⟩ (c_X0_tuneOrNull l D cy sa z0 H.size h0 h1 h3 h4 sfrom sto quar dmod h2 dsz tunes strk L K te le tb mb wr nu ro pn rw dr p0 _ e2) (cwV 1 hts (lw_gV k_742 k_744 k_13 k_48 k_745) rfl rfl rfl (by decide +kernel) ⟨Nat.le_of_ble_eq_true rfl, Nat.le_of_ble_eq_true rfl⟩) (preVP hG hS hZ hP hD [0, 1, 2, 3] rfl rfl (ci := 5) (q0 := 0) rfl rfl) rfl rfl hl.1 rfl (lv_room (Nat.le_of_ble_eq_true rfl)) dX0_changeTune_2 ⟨Nat.le_of_ble_eq_true rfl, Nat.le_of_ble_eq_true rfl⟩) hP hD hS hA [0, 1, 2, 3] rfl rfl rfl (fun H locs hP hD hS => ?_)
  have hP : va_P D vwCl (([(h0, .inr (5, [.ref h1, .ref h3, .ref h4, .int sfrom, .int sto, .int quar])), (h1, .inr (3, [.int dmod, .ref h2, .int dsz])), (h3, .inl (cy 2, 24, .inr (.inr (.inr (.inr tunes))))), (h4, .inl (cy 0, 9, .inl strk))] : va_W) ++ va_pl L (plF cy K te le tb mb wr nu ro pn rw dr)) H := hP
  have hD : va_D A (([(h0, .inr (5, [.ref h1, .ref h3, .ref h4, .int sfrom, .int sto, .int quar])), (h1, .inr (3, [.int dmod, .ref h2, .int dsz])), (h3, .inl (cy 2, 24, .inr (.inr (.inr (.inr tunes))))), (h4, .inl (cy 0, 9, .inl strk))] : va_W) ++ va_pl L (plF cy K te le tb mb wr nu ro pn rw dr)) := hD
  rcases optE_cases hf with ⟨e4, hf⟩ | ⟨a3, e4, hf⟩
  · simp only [e4, va_rf_none] at hl ⊢
    refine lv_astore_nN (lv' := [(3, .null), (0, .ref h0), (1, .int p0), (2, .ref w1)]) hx hb dX0_changeTune_5 rfl hl (by decide) rfl (fun ls hl => ?_)
    refine lv_iload_n hx hb dX0_changeTune_6 rfl (lv_at hl 2 rfl) ?_
    refine lv_if_lt (tgt := 26) hx hb dX0_changeTune_7 (by decide) (fun c5 => ?_) (fun c5 => ?_)
    · rw [if_pos c5] at hf
      exact J26 none tunes _ _ hP hD hS _ (lv_sub hl [0] rfl) hf
    · rw [if_neg c5] at hf
      refine lv_iload_n hx hb dX0_changeTune_10 rfl (lv_at hl 2 rfl) ?_
      refine lv_aload_n hx hb dX0_changeTune_11 rfl (lv_at hl 1 rfl) ?_
      refine va_get (D := D) (ci := 5) (v := .ref h3) (C := RX0) (T := TX0) (N := 6) hx hb hts in_X0 hown hK hP 0 rfl rfl 1 (by decide) (hts _ k_253) (fun _ h9 => h9) rfl dX0_changeTune_12 ?_
      refine va_alen hx hb hK hP 2 2 rfl rfl (v := (24 : Int32)) (show Int32.ofNat 24 = 24 by decide) dX0_changeTune_15 ?_
      refine lv_icmp_ge (tgt := 26) hx hb dX0_changeTune_16 (by decide) (fun c6 => ?_) (fun c6 => ?_)
      · rw [if_pos c6] at hf
        exact J26 none tunes _ _ hP hD hS _ (lv_sub hl [0] rfl) hf
      · rw [if_neg c6] at hf
        refine lv_aload_n hx hb dX0_changeTune_19 rfl (lv_at hl 1 rfl) ?_
        refine va_get (D := D) (ci := 5) (v := .ref h3) (C := RX0) (T := TX0) (N := 6) hx hb hts in_X0 hown hK hP 0 rfl rfl 1 (by decide) (hts _ k_253) (fun _ h9 => h9) rfl dX0_changeTune_20 ?_
        refine lv_iload_n hx hb dX0_changeTune_23 rfl (lv_at hl 2 rfl) ?_
        refine lv_aload_n hx hb dX0_changeTune_24 rfl (lv_at hl 3 rfl) ?_
        obtain ⟨g7, hf⟩ := ite_some' hf
        obtain ⟨g8, hf⟩ := ite_some' hf
        obtain ⟨k9, e10⟩ := pl_1 (cy := cy) (te := te) (le := le) (tb := tb) (mb := mb) (wr := wr) (nu := nu) (ro := ro) (pn := pn) (rw := rw) (dr := dr) (X := [(h0, .inr (5, [.ref h1, .ref h3, .ref h4, .int sfrom, .int sto, .int quar])), (h1, .inr (3, [.int dmod, .ref h2, .int dsz])), (h3, .inl (cy 2, 24, .inr (.inr (.inr (.inr tunes))))), (h4, .inl (cy 0, 9, .inl strk))]) g8.1 g8.2
        refine va_astq hx hb hK hP hD hS 2 2 k9 4 rfl rfl e10 rfl g7 dX0_changeTune_25 (fun H locs hP hD hS => ?_)
        have hP : va_P D vwCl (([(h0, .inr (5, [.ref h1, .ref h3, .ref h4, .int sfrom, .int sto, .int quar])), (h1, .inr (3, [.int dmod, .ref h2, .int dsz])), (h3, .inl (cy 2, 24, .inr (.inr (.inr (.inr (va_up tunes p0.toNatClampNeg (some w1))))))), (h4, .inl (cy 0, 9, .inl strk))] : va_W) ++ va_pl L (plF cy K te le tb mb wr nu ro pn rw dr)) H := hP
        have hD : va_D A (([(h0, .inr (5, [.ref h1, .ref h3, .ref h4, .int sfrom, .int sto, .int quar])), (h1, .inr (3, [.int dmod, .ref h2, .int dsz])), (h3, .inl (cy 2, 24, .inr (.inr (.inr (.inr (va_up tunes p0.toNatClampNeg (some w1))))))), (h4, .inl (cy 0, 9, .inl strk))] : va_W) ++ va_pl L (plF cy K te le tb mb wr nu ro pn rw dr)) := hD
        exact J26 none (va_up tunes p0.toNatClampNeg (some w1)) _ _ hP hD hS _ (lv_sub hl [0] rfl) hf
  · simp only [e4, va_rf_some] at hl ⊢
    refine lv_astore_n (lv' := [(3, .ref a3), (0, .ref h0), (1, .int p0), (2, .ref w1)]) hx hb dX0_changeTune_5 rfl hl (by decide) rfl (fun ls hl => ?_)
    refine lv_iload_n hx hb dX0_changeTune_6 rfl (lv_at hl 2 rfl) ?_
    refine lv_if_lt (tgt := 26) hx hb dX0_changeTune_7 (by decide) (fun c11 => ?_) (fun c11 => ?_)
    · rw [if_pos c11] at hf
      exact J26 (some a3) tunes _ _ hP hD hS _ (lv_sub hl [0] rfl) hf
    · rw [if_neg c11] at hf
      refine lv_iload_n hx hb dX0_changeTune_10 rfl (lv_at hl 2 rfl) ?_
      refine lv_aload_n hx hb dX0_changeTune_11 rfl (lv_at hl 1 rfl) ?_
      refine va_get (D := D) (ci := 5) (v := .ref h3) (C := RX0) (T := TX0) (N := 6) hx hb hts in_X0 hown hK hP 0 rfl rfl 1 (by decide) (hts _ k_253) (fun _ h9 => h9) rfl dX0_changeTune_12 ?_
      refine va_alen hx hb hK hP 2 2 rfl rfl (v := (24 : Int32)) (show Int32.ofNat 24 = 24 by decide) dX0_changeTune_15 ?_
      refine lv_icmp_ge (tgt := 26) hx hb dX0_changeTune_16 (by decide) (fun c12 => ?_) (fun c12 => ?_)
      · rw [if_pos c12] at hf
        exact J26 (some a3) tunes _ _ hP hD hS _ (lv_sub hl [0] rfl) hf
      · rw [if_neg c12] at hf
        refine lv_aload_n hx hb dX0_changeTune_19 rfl (lv_at hl 1 rfl) ?_
        refine va_get (D := D) (ci := 5) (v := .ref h3) (C := RX0) (T := TX0) (N := 6) hx hb hts in_X0 hown hK hP 0 rfl rfl 1 (by decide) (hts _ k_253) (fun _ h9 => h9) rfl dX0_changeTune_20 ?_
        refine lv_iload_n hx hb dX0_changeTune_23 rfl (lv_at hl 2 rfl) ?_
        refine lv_aload_n hx hb dX0_changeTune_24 rfl (lv_at hl 3 rfl) ?_
        obtain ⟨g13, hf⟩ := ite_some' hf
        obtain ⟨g14, hf⟩ := ite_some' hf
        obtain ⟨k15, e16⟩ := pl_1 (cy := cy) (te := te) (le := le) (tb := tb) (mb := mb) (wr := wr) (nu := nu) (ro := ro) (pn := pn) (rw := rw) (dr := dr) (X := [(h0, .inr (5, [.ref h1, .ref h3, .ref h4, .int sfrom, .int sto, .int quar])), (h1, .inr (3, [.int dmod, .ref h2, .int dsz])), (h3, .inl (cy 2, 24, .inr (.inr (.inr (.inr tunes))))), (h4, .inl (cy 0, 9, .inl strk))]) g14.1 g14.2
        refine va_astq hx hb hK hP hD hS 2 2 k15 4 rfl rfl e16 rfl g13 dX0_changeTune_25 (fun H locs hP hD hS => ?_)
        have hP : va_P D vwCl (([(h0, .inr (5, [.ref h1, .ref h3, .ref h4, .int sfrom, .int sto, .int quar])), (h1, .inr (3, [.int dmod, .ref h2, .int dsz])), (h3, .inl (cy 2, 24, .inr (.inr (.inr (.inr (va_up tunes p0.toNatClampNeg (some w1))))))), (h4, .inl (cy 0, 9, .inl strk))] : va_W) ++ va_pl L (plF cy K te le tb mb wr nu ro pn rw dr)) H := hP
        have hD : va_D A (([(h0, .inr (5, [.ref h1, .ref h3, .ref h4, .int sfrom, .int sto, .int quar])), (h1, .inr (3, [.int dmod, .ref h2, .int dsz])), (h3, .inl (cy 2, 24, .inr (.inr (.inr (.inr (va_up tunes p0.toNatClampNeg (some w1))))))), (h4, .inl (cy 0, 9, .inl strk))] : va_W) ++ va_pl L (plF cy K te le tb mb wr nu ro pn rw dr)) := hD
        exact J26 (some a3) (va_up tunes p0.toNatClampNeg (some w1)) _ _ hP hD hS _ (lv_sub hl [0] rfl) hf
noncomputable def X0_changeSilence_f (p0 : Int32) (p1 : Int32) : Option (Int32 × (Int32 × Int32)) := (J9_floorMod_7cf53_f (p1 - p0) (24 : Int32)).bind fun v1 => some (v1.1, (p0, p1))
set_option maxHeartbeats 4000000 in
set_option maxRecDepth 100000 in
theorem c_X0_changeSilence (l : Launch) (D : va_G) (cy : Nat → ClassId) (sa : Nat → Nat) (z0 sz : Nat) (h0 : Nat) (h1 : Nat) (h3 : Nat) (h4 : Nat) (sfrom : Int32) (sto : Int32) (quar : Int32) (dmod : Int32) (h2 : Nat) (dsz : Int32) (tunes : Nat → Option Nat) (strk : Nat → Int32) (L : List Nat) (K : Nat → Nat) (te : Nat → Int32) (le : Nat → Int32) (tb : Nat → Int32) (mb : Nat → Int64) (wr : Nat → Int64) (nu : Nat → Int32) (ro : Nat → Nat) (pn : Nat → Int32) (rw : Nat → Nat → Int32) (dr : Nat → Nat → Option Nat) (p0 : Int32) (p1 : Int32) (o : (Int32 × (Int32 × Int32))) (ho : X0_changeSilence_f p0 p1 = some o) : Met l yX0_changeSilence (ws_ yX0_changeSilence cX0_changeSilence 3 (some .int)) ({ frames := 1, cells := 0, slots := 0, locals := 22 } : Room) (va_Pc [.ref h0, .int p0, .int p1] (Pr D cy sa z0 (([(h0, .inr (5, [.ref h1, .ref h3, .ref h4, .int sfrom, .int sto, .int quar])), (h1, .inr (3, [.int dmod, .ref h2, .int dsz])), (h3, .inl (cy 2, 24, .inr (.inr (.inr (.inr tunes))))), (h4, .inl (cy 0, 9, .inl strk))] : va_W) ++ va_pl L (plF cy K te le tb mb wr nu ro pn rw dr)) sz)) (QI D o (fun u => (([(h0, .inr (5, [.ref h1, .ref h3, .ref h4, .int u.1, .int u.2, .int quar])), (h1, .inr (3, [.int dmod, .ref h2, .int dsz])), (h3, .inl (cy 2, 24, .inr (.inr (.inr (.inr tunes))))), (h4, .inl (cy 0, 9, .inl strk))] : va_W) ++ va_pl L (plF cy K te le tb mb wr nu ro pn rw dr))) (va_A (([(h0, .inr (5, [.ref h1, .ref h3, .ref h4, .int sfrom, .int sto, .int quar])), (h1, .inr (3, [.int dmod, .ref h2, .int dsz])), (h3, .inl (cy 2, 24, .inr (.inr (.inr (.inr tunes))))), (h4, .inl (cy 0, 9, .inl strk))] : va_W) ++ va_pl L (plF cy K te le tb mb wr nu ro pn rw dr)) sz)) 0 0 (va_A (([(h0, .inr (5, [.ref h1, .ref h3, .ref h4, .int sfrom, .int sto, .int quar])), (h1, .inr (3, [.int dmod, .ref h2, .int dsz])), (h3, .inl (cy 2, 24, .inr (.inr (.inr (.inr tunes))))), (h4, .inl (cy 0, 9, .inl strk))] : va_W) ++ va_pl L (plF cy K te le tb mb wr nu ro pn rw dr)) sz) := by
  refine MT (Qf := QI D o (fun u => (([(h0, .inr (5, [.ref h1, .ref h3, .ref h4, .int u.1, .int u.2, .int quar])), (h1, .inr (3, [.int dmod, .ref h2, .int dsz])), (h3, .inl (cy 2, 24, .inr (.inr (.inr (.inr tunes))))), (h4, .inl (cy 0, 9, .inl strk))] : va_W) ++ va_pl L (plF cy K te le tb mb wr nu ro pn rw dr)))) (plainFor_of_name (by decide +kernel)) (Nat.le_of_ble_eq_true rfl) ?_
  intro p e s m below meth c A ls H hx hb hml hr hlocks hown hnm hts hG hA hZ hP hD hS hl
  have hK := hG.K
  have hl : lv_has ls 3 [(0, .ref h0), (1, .int p0), (2, .int p1)] := hl
  have hf : X0_changeSilence_f p0 p1 = some o := ho
  clear ho
  unfold X0_changeSilence_f at hf
  refine lv_aload_n hx hb dX0_changeSilence_0 rfl (lv_at hl 0 rfl) ?_
  refine lv_iload_n hx hb dX0_changeSilence_1 rfl (lv_at hl 1 rfl) ?_
  refine va_put (D := D) (ci := 5) (v := .int p0) (ty := .int) (C := RX0) (T := TX0) (N := 6) hx hb hts in_X0 tyX0 tyX0_ok nmX0 hown hK hP hD hS 0 rfl rfl 3 (by decide) (hts _ k_255) (fun _ h9 => h9) rfl (by decide +kernel) rfl rfl (Nat.le_of_ble_eq_true rfl) dX0_changeSilence_2 (fun H locs hP hD hS => ?_)
  have hP : va_P D vwCl (([(h0, .inr (5, [.ref h1, .ref h3, .ref h4, .int p0, .int sto, .int quar])), (h1, .inr (3, [.int dmod, .ref h2, .int dsz])), (h3, .inl (cy 2, 24, .inr (.inr (.inr (.inr tunes))))), (h4, .inl (cy 0, 9, .inl strk))] : va_W) ++ va_pl L (plF cy K te le tb mb wr nu ro pn rw dr)) H := hP
  have hD : va_D A (([(h0, .inr (5, [.ref h1, .ref h3, .ref h4, .int p0, .int sto, .int quar])), (h1, .inr (3, [.int dmod, .ref h2, .int dsz])), (h3, .inl (cy 2, 24, .inr (.inr (.inr (.inr tunes))))), (h4, .inl (cy 0, 9, .inl strk))] : va_W) ++ va_pl L (plF cy K te le tb mb wr nu ro pn rw dr)) := hD
  refine lv_aload_n hx hb dX0_changeSilence_5 rfl (lv_at hl 0 rfl) ?_
  refine lv_iload_n hx hb dX0_changeSilence_6 rfl (lv_at hl 2 rfl) ?_
  refine va_put (D := D) (ci := 5) (v := .int p1) (ty := .int) (C := RX0) (T := TX0) (N := 6) hx hb hts in_X0 tyX0 tyX0_ok nmX0 hown hK hP hD hS 0 rfl rfl 4 (by decide) (hts _ k_256) (fun _ h9 => h9) rfl (by decide +kernel) rfl rfl (Nat.le_of_ble_eq_true rfl) dX0_changeSilence_7 (fun H locs hP hD hS => ?_)
  have hP : va_P D vwCl (([(h0, .inr (5, [.ref h1, .ref h3, .ref h4, .int p0, .int p1, .int quar])), (h1, .inr (3, [.int dmod, .ref h2, .int dsz])), (h3, .inl (cy 2, 24, .inr (.inr (.inr (.inr tunes))))), (h4, .inl (cy 0, 9, .inl strk))] : va_W) ++ va_pl L (plF cy K te le tb mb wr nu ro pn rw dr)) H := hP
  have hD : va_D A (([(h0, .inr (5, [.ref h1, .ref h3, .ref h4, .int p0, .int p1, .int quar])), (h1, .inr (3, [.int dmod, .ref h2, .int dsz])), (h3, .inl (cy 2, 24, .inr (.inr (.inr (.inr tunes))))), (h4, .inl (cy 0, 9, .inl strk))] : va_W) ++ va_pl L (plF cy K te le tb mb wr nu ro pn rw dr)) := hD
  refine lv_iload_n hx hb dX0_changeSilence_10 rfl (lv_at hl 2 rfl) ?_
  refine lv_iload_n hx hb dX0_changeSilence_11 rfl (lv_at hl 1 rfl) ?_
  refine lv_isub hx hb dX0_changeSilence_12 ?_
  refine lv_bipush (v := (24 : Int32)) hx hb dX0_changeSilence_13 (by decide) ?_
  obtain ⟨v1, e2, hf⟩ := bind_some' hf
  refine cl_i (va_runS (As := [.int (p1 - p0), .int (24 : Int32)]) (rest := []) ⟨hx, hb, hml, hown, hts⟩ (c_J9_floorMod_7cf53 l D cy sa z0 H.size (p1 - p0) (24 : Int32) _ e2) (va_cwS 2 hts (lw_gS k_741 k_368 k_43 k_369) rfl rfl rfl (by decide +kernel) ⟨Nat.le_of_ble_eq_true rfl, Nat.le_of_ble_eq_true rfl⟩) (preS hG hS hZ hP hD [] rfl rfl) rfl rfl hl.1 rfl (lv_room (Nat.le_of_ble_eq_true rfl)) dX0_changeSilence_15 ⟨Nat.le_of_ble_eq_true rfl, Nat.le_of_ble_eq_true rfl⟩) hP hD hS hA [] rfl rfl rfl (fun H locs hP hD hS => ?_)
  have hP : va_P D vwCl (([(h0, .inr (5, [.ref h1, .ref h3, .ref h4, .int p0, .int p1, .int quar])), (h1, .inr (3, [.int dmod, .ref h2, .int dsz])), (h3, .inl (cy 2, 24, .inr (.inr (.inr (.inr tunes))))), (h4, .inl (cy 0, 9, .inl strk))] : va_W) ++ va_pl L (plF cy K te le tb mb wr nu ro pn rw dr)) H := hP
  have hD : va_D A (([(h0, .inr (5, [.ref h1, .ref h3, .ref h4, .int p0, .int p1, .int quar])), (h1, .inr (3, [.int dmod, .ref h2, .int dsz])), (h3, .inl (cy 2, 24, .inr (.inr (.inr (.inr tunes))))), (h4, .inl (cy 0, 9, .inl strk))] : va_W) ++ va_pl L (plF cy K te le tb mb wr nu ro pn rw dr)) := hD
  obtain rfl := Option.some.inj hf
  exact W.iret (v := v1.1) hx hb hr (fun t ht _ => ⟨⟨v1.1, (p0, p1), rfl, rfl, by rw [ht]; exact hP, hD⟩, hS.F ht⟩) hS.2.2 dX0_changeSilence_18
noncomputable def X0_changeQuarters_f (quar : Int32) (p0 : Int32) : Option (Int32 × Int32) := if p0 &&& 1 = p0 then if quar &&& 1 = quar then some (quar, p0) else none else none
set_option maxHeartbeats 4000000 in
set_option maxRecDepth 100000 in
theorem c_X0_changeQuarters (l : Launch) (D : va_G) (cy : Nat → ClassId) (sa : Nat → Nat) (z0 sz : Nat) (h0 : Nat) (h1 : Nat) (h3 : Nat) (h4 : Nat) (sfrom : Int32) (sto : Int32) (quar : Int32) (dmod : Int32) (h2 : Nat) (dsz : Int32) (tunes : Nat → Option Nat) (strk : Nat → Int32) (L : List Nat) (K : Nat → Nat) (te : Nat → Int32) (le : Nat → Int32) (tb : Nat → Int32) (mb : Nat → Int64) (wr : Nat → Int64) (nu : Nat → Int32) (ro : Nat → Nat) (pn : Nat → Int32) (rw : Nat → Nat → Int32) (dr : Nat → Nat → Option Nat) (p0 : Int32) (o : (Int32 × Int32)) (ho : X0_changeQuarters_f quar p0 = some o) : Met l yX0_changeQuarters (ws_ yX0_changeQuarters cX0_changeQuarters 3 (some .boolean)) ({ frames := 0, cells := 0, slots := 0, locals := 0 } : Room) (va_Pc [.ref h0, .int p0] (Pr D cy sa z0 (([(h0, .inr (5, [.ref h1, .ref h3, .ref h4, .int sfrom, .int sto, .int quar])), (h1, .inr (3, [.int dmod, .ref h2, .int dsz])), (h3, .inl (cy 2, 24, .inr (.inr (.inr (.inr tunes))))), (h4, .inl (cy 0, 9, .inl strk))] : va_W) ++ va_pl L (plF cy K te le tb mb wr nu ro pn rw dr)) sz)) (QI D o (fun u => (([(h0, .inr (5, [.ref h1, .ref h3, .ref h4, .int sfrom, .int sto, .int u])), (h1, .inr (3, [.int dmod, .ref h2, .int dsz])), (h3, .inl (cy 2, 24, .inr (.inr (.inr (.inr tunes))))), (h4, .inl (cy 0, 9, .inl strk))] : va_W) ++ va_pl L (plF cy K te le tb mb wr nu ro pn rw dr))) (va_A (([(h0, .inr (5, [.ref h1, .ref h3, .ref h4, .int sfrom, .int sto, .int quar])), (h1, .inr (3, [.int dmod, .ref h2, .int dsz])), (h3, .inl (cy 2, 24, .inr (.inr (.inr (.inr tunes))))), (h4, .inl (cy 0, 9, .inl strk))] : va_W) ++ va_pl L (plF cy K te le tb mb wr nu ro pn rw dr)) sz)) 0 0 (va_A (([(h0, .inr (5, [.ref h1, .ref h3, .ref h4, .int sfrom, .int sto, .int quar])), (h1, .inr (3, [.int dmod, .ref h2, .int dsz])), (h3, .inl (cy 2, 24, .inr (.inr (.inr (.inr tunes))))), (h4, .inl (cy 0, 9, .inl strk))] : va_W) ++ va_pl L (plF cy K te le tb mb wr nu ro pn rw dr)) sz) := by
  refine MT (Qf := QI D o (fun u => (([(h0, .inr (5, [.ref h1, .ref h3, .ref h4, .int sfrom, .int sto, .int u])), (h1, .inr (3, [.int dmod, .ref h2, .int dsz])), (h3, .inl (cy 2, 24, .inr (.inr (.inr (.inr tunes))))), (h4, .inl (cy 0, 9, .inl strk))] : va_W) ++ va_pl L (plF cy K te le tb mb wr nu ro pn rw dr)))) (plainFor_of_name (by decide +kernel)) (Nat.le_of_ble_eq_true rfl) ?_
  intro p e s m below meth c A ls H hx hb hml hr hlocks hown hnm hts hG hA hZ hP hD hS hl
  have hK := hG.K
  have hl : lv_has ls 3 [(0, .ref h0), (1, .int p0)] := hl
  have hf : X0_changeQuarters_f quar p0 = some o := ho
  clear ho
  unfold X0_changeQuarters_f at hf
  refine lv_aload_n hx hb dX0_changeQuarters_0 rfl (lv_at hl 0 rfl) ?_
  refine va_get (D := D) (ci := 5) (v := .int quar) (C := RX0) (T := TX0) (N := 6) hx hb hts in_X0 hown hK hP 0 rfl rfl 5 (by decide) (hts _ k_257) (fun _ h9 => h9) rfl dX0_changeQuarters_1 ?_
  refine lv_istore_n (lv' := [(2, .int quar), (0, .ref h0), (1, .int p0)]) hx hb dX0_changeQuarters_4 rfl hl (by decide) rfl (fun ls hl => ?_)
  refine lv_aload_n hx hb dX0_changeQuarters_5 rfl (lv_at hl 1 rfl) ?_
  refine lv_iload_n hx hb dX0_changeQuarters_6 rfl (lv_at hl 2 rfl) ?_
  obtain ⟨g1, hf⟩ := ite_some' hf
  refine va_put (D := D) (ci := 5) (v := .int p0) (ty := .boolean) (C := RX0) (T := TX0) (N := 6) hx hb hts in_X0 tyX0 tyX0_ok nmX0 hown hK hP hD hS 0 rfl rfl 5 (by decide) (hts _ k_257) (fun _ h9 => h9) rfl (by decide +kernel) (zn_b g1) (zf_b g1) (Nat.le_of_ble_eq_true rfl) dX0_changeQuarters_7 (fun H locs hP hD hS => ?_)
  have hP : va_P D vwCl (([(h0, .inr (5, [.ref h1, .ref h3, .ref h4, .int sfrom, .int sto, .int p0])), (h1, .inr (3, [.int dmod, .ref h2, .int dsz])), (h3, .inl (cy 2, 24, .inr (.inr (.inr (.inr tunes))))), (h4, .inl (cy 0, 9, .inl strk))] : va_W) ++ va_pl L (plF cy K te le tb mb wr nu ro pn rw dr)) H := hP
  have hD : va_D A (([(h0, .inr (5, [.ref h1, .ref h3, .ref h4, .int sfrom, .int sto, .int p0])), (h1, .inr (3, [.int dmod, .ref h2, .int dsz])), (h3, .inl (cy 2, 24, .inr (.inr (.inr (.inr tunes))))), (h4, .inl (cy 0, 9, .inl strk))] : va_W) ++ va_pl L (plF cy K te le tb mb wr nu ro pn rw dr)) := hD
  refine lv_iload_n hx hb dX0_changeQuarters_10 rfl (lv_at hl 0 rfl) ?_
  obtain ⟨g2, hf⟩ := ite_some' hf
  obtain rfl := Option.some.inj hf
  exact W.zret (v := quar) hx hb hr (zn_b g2) (fun t ht _ => ⟨⟨quar, p0, rfl, rfl, by rw [ht]; exact hP, hD⟩, hS.F ht⟩) hS.2.2 dX0_changeQuarters_11
noncomputable def X0_strokesOfBell_b23 (b23_1 : Int32) : Option (Int32 × Unit) := some (b23_1, ())
noncomputable def X0_strokesOfBell_b22 : Option (Int32 × Unit) := X0_strokesOfBell_b23 (0 : Int32)
noncomputable def X0_strokesOfBell_f (strk : Nat → Int32) (p0 : Int32) : Option (Int32 × Unit) := (if p0 < (0 : Int32) then X0_strokesOfBell_b22 else (if (9 : Int32) ≤ p0 then X0_strokesOfBell_b22 else if ¬ (p0 < 0 ∨ 9 ≤ p0.toNatClampNeg) then X0_strokesOfBell_b23 (strk p0.toNatClampNeg) else none))
set_option maxHeartbeats 4000000 in
set_option maxRecDepth 100000 in
theorem c_X0_strokesOfBell (l : Launch) (D : va_G) (cy : Nat → ClassId) (sa : Nat → Nat) (z0 sz : Nat) (h0 : Nat) (h1 : Nat) (h3 : Nat) (h4 : Nat) (sfrom : Int32) (sto : Int32) (quar : Int32) (dmod : Int32) (h2 : Nat) (dsz : Int32) (tunes : Nat → Option Nat) (strk : Nat → Int32) (L : List Nat) (K : Nat → Nat) (te : Nat → Int32) (le : Nat → Int32) (tb : Nat → Int32) (mb : Nat → Int64) (wr : Nat → Int64) (nu : Nat → Int32) (ro : Nat → Nat) (pn : Nat → Int32) (rw : Nat → Nat → Int32) (dr : Nat → Nat → Option Nat) (p0 : Int32) (o : (Int32 × Unit)) (ho : X0_strokesOfBell_f strk p0 = some o) : Met l yX0_strokesOfBell (ws_ yX0_strokesOfBell cX0_strokesOfBell 2 (some .int)) ({ frames := 0, cells := 0, slots := 0, locals := 0 } : Room) (va_Pc [.ref h0, .int p0] (Pr D cy sa z0 (([(h0, .inr (5, [.ref h1, .ref h3, .ref h4, .int sfrom, .int sto, .int quar])), (h1, .inr (3, [.int dmod, .ref h2, .int dsz])), (h3, .inl (cy 2, 24, .inr (.inr (.inr (.inr tunes))))), (h4, .inl (cy 0, 9, .inl strk))] : va_W) ++ va_pl L (plF cy K te le tb mb wr nu ro pn rw dr)) sz)) (QI D o (fun u => (([(h0, .inr (5, [.ref h1, .ref h3, .ref h4, .int sfrom, .int sto, .int quar])), (h1, .inr (3, [.int dmod, .ref h2, .int dsz])), (h3, .inl (cy 2, 24, .inr (.inr (.inr (.inr tunes))))), (h4, .inl (cy 0, 9, .inl strk))] : va_W) ++ va_pl L (plF cy K te le tb mb wr nu ro pn rw dr))) (va_A (([(h0, .inr (5, [.ref h1, .ref h3, .ref h4, .int sfrom, .int sto, .int quar])), (h1, .inr (3, [.int dmod, .ref h2, .int dsz])), (h3, .inl (cy 2, 24, .inr (.inr (.inr (.inr tunes))))), (h4, .inl (cy 0, 9, .inl strk))] : va_W) ++ va_pl L (plF cy K te le tb mb wr nu ro pn rw dr)) sz)) 0 0 (va_A (([(h0, .inr (5, [.ref h1, .ref h3, .ref h4, .int sfrom, .int sto, .int quar])), (h1, .inr (3, [.int dmod, .ref h2, .int dsz])), (h3, .inl (cy 2, 24, .inr (.inr (.inr (.inr tunes))))), (h4, .inl (cy 0, 9, .inl strk))] : va_W) ++ va_pl L (plF cy K te le tb mb wr nu ro pn rw dr)) sz) := by
  refine MT (Qf := QI D o (fun u => (([(h0, .inr (5, [.ref h1, .ref h3, .ref h4, .int sfrom, .int sto, .int quar])), (h1, .inr (3, [.int dmod, .ref h2, .int dsz])), (h3, .inl (cy 2, 24, .inr (.inr (.inr (.inr tunes))))), (h4, .inl (cy 0, 9, .inl strk))] : va_W) ++ va_pl L (plF cy K te le tb mb wr nu ro pn rw dr)))) (plainFor_of_name (by decide +kernel)) (Nat.le_of_ble_eq_true rfl) ?_
  intro p e s m below meth c A ls H hx hb hml hr hlocks hown hnm hts hG hA hZ hP hD hS hl
  have hK := hG.K
  have hl : lv_has ls 2 [(0, .ref h0), (1, .int p0)] := hl
  have hf : X0_strokesOfBell_f strk p0 = some o := ho
  clear ho
  unfold X0_strokesOfBell_f at hf
  have J23 : ∀ (b23_1 : Int32), ∀ (H : Heap) (locs : List Loc), va_P D vwCl (([(h0, .inr (5, [.ref h1, .ref h3, .ref h4, .int sfrom, .int sto, .int quar])), (h1, .inr (3, [.int dmod, .ref h2, .int dsz])), (h3, .inl (cy 2, 24, .inr (.inr (.inr (.inr tunes))))), (h4, .inl (cy 0, 9, .inl strk))] : va_W) ++ va_pl L (plF cy K te le tb mb wr nu ro pn rw dr)) H → va_D A (([(h0, .inr (5, [.ref h1, .ref h3, .ref h4, .int sfrom, .int sto, .int quar])), (h1, .inr (3, [.int dmod, .ref h2, .int dsz])), (h3, .inl (cy 2, 24, .inr (.inr (.inr (.inr tunes))))), (h4, .inl (cy 0, 9, .inl strk))] : va_W) ++ va_pl L (plF cy K te le tb mb wr nu ro pn rw dr)) → va_S A s.heap H locs → ∀ (ls : Array Slot), lv_has ls 2 [] → X0_strokesOfBell_b23 b23_1 = some o → W p l e ({ frames := 0, cells := 0, slots := 0, locals := 0 } : Room) s m ([.ref h0, .int p0] : List Value).toArray below meth c H locs 0 0 (MQ below (QI D o (fun u => (([(h0, .inr (5, [.ref h1, .ref h3, .ref h4, .int sfrom, .int sto, .int quar])), (h1, .inr (3, [.int dmod, .ref h2, .int dsz])), (h3, .inl (cy 2, 24, .inr (.inr (.inr (.inr tunes))))), (h4, .inl (cy 0, 9, .inl strk))] : va_W) ++ va_pl L (plF cy K te le tb mb wr nu ro pn rw dr))) A) ([.ref h0, .int p0] : List Value).toArray s 0 0 A) (F0 m 23 ls [.int b23_1]) := by
    intro b23_1 H locs hP hD hS ls hl hf
    unfold X0_strokesOfBell_b23 at hf
    obtain rfl := Option.some.inj hf
    exact W.iret (v := b23_1) hx hb hr (fun t ht _ => ⟨⟨b23_1, (), rfl, rfl, by rw [ht]; exact hP, hD⟩, hS.F ht⟩) hS.2.2 dX0_strokesOfBell_23
  have J22 : ∀ (H : Heap) (locs : List Loc), va_P D vwCl (([(h0, .inr (5, [.ref h1, .ref h3, .ref h4, .int sfrom, .int sto, .int quar])), (h1, .inr (3, [.int dmod, .ref h2, .int dsz])), (h3, .inl (cy 2, 24, .inr (.inr (.inr (.inr tunes))))), (h4, .inl (cy 0, 9, .inl strk))] : va_W) ++ va_pl L (plF cy K te le tb mb wr nu ro pn rw dr)) H → va_D A (([(h0, .inr (5, [.ref h1, .ref h3, .ref h4, .int sfrom, .int sto, .int quar])), (h1, .inr (3, [.int dmod, .ref h2, .int dsz])), (h3, .inl (cy 2, 24, .inr (.inr (.inr (.inr tunes))))), (h4, .inl (cy 0, 9, .inl strk))] : va_W) ++ va_pl L (plF cy K te le tb mb wr nu ro pn rw dr)) → va_S A s.heap H locs → ∀ (ls : Array Slot), lv_has ls 2 [] → X0_strokesOfBell_b22 = some o → W p l e ({ frames := 0, cells := 0, slots := 0, locals := 0 } : Room) s m ([.ref h0, .int p0] : List Value).toArray below meth c H locs 0 0 (MQ below (QI D o (fun u => (([(h0, .inr (5, [.ref h1, .ref h3, .ref h4, .int sfrom, .int sto, .int quar])), (h1, .inr (3, [.int dmod, .ref h2, .int dsz])), (h3, .inl (cy 2, 24, .inr (.inr (.inr (.inr tunes))))), (h4, .inl (cy 0, 9, .inl strk))] : va_W) ++ va_pl L (plF cy K te le tb mb wr nu ro pn rw dr))) A) ([.ref h0, .int p0] : List Value).toArray s 0 0 A) (F0 m 22 ls []) := by
    intro  H locs hP hD hS ls hl hf
    unfold X0_strokesOfBell_b22 at hf
    refine lv_iconst (v := (0 : Int32)) hx hb dX0_strokesOfBell_22 (by decide) ?_
    exact J23 (0 : Int32) _ _ hP hD hS _ (lv_sub hl [] rfl) hf
  refine lv_iload_n hx hb dX0_strokesOfBell_0 rfl (lv_at hl 1 rfl) ?_
  refine lv_if_lt (tgt := 22) hx hb dX0_strokesOfBell_1 (by decide) (fun c1 => ?_) (fun c1 => ?_)
  · rw [if_pos c1] at hf
    exact J22  _ _ hP hD hS _ (lv_sub hl [] rfl) hf
  · rw [if_neg c1] at hf
    refine lv_iload_n hx hb dX0_strokesOfBell_4 rfl (lv_at hl 1 rfl) ?_
    refine lv_aload_n hx hb dX0_strokesOfBell_5 rfl (lv_at hl 0 rfl) ?_
    refine va_get (D := D) (ci := 5) (v := .ref h4) (C := RX0) (T := TX0) (N := 6) hx hb hts in_X0 hown hK hP 0 rfl rfl 2 (by decide) (hts _ k_254) (fun _ h9 => h9) rfl dX0_strokesOfBell_6 ?_
    refine va_alen hx hb hK hP 3 0 rfl rfl (v := (9 : Int32)) (show Int32.ofNat 9 = 9 by decide) dX0_strokesOfBell_9 ?_
    refine lv_icmp_ge (tgt := 22) hx hb dX0_strokesOfBell_10 (by decide) (fun c2 => ?_) (fun c2 => ?_)
    · rw [if_pos c2] at hf
      exact J22  _ _ hP hD hS _ (lv_sub hl [] rfl) hf
    · rw [if_neg c2] at hf
      refine lv_aload_n hx hb dX0_strokesOfBell_13 rfl (lv_at hl 0 rfl) ?_
      refine va_get (D := D) (ci := 5) (v := .ref h4) (C := RX0) (T := TX0) (N := 6) hx hb hts in_X0 hown hK hP 0 rfl rfl 2 (by decide) (hts _ k_254) (fun _ h9 => h9) rfl dX0_strokesOfBell_14 ?_
      refine lv_iload_n hx hb dX0_strokesOfBell_17 rfl (lv_at hl 1 rfl) ?_
      obtain ⟨g3, hf⟩ := ite_some' hf
      refine va_iald hx hb hK hP 3 0 rfl rfl g3 dX0_strokesOfBell_18 ?_
      refine lv_goto (tgt := 23) hx hb dX0_strokesOfBell_19 (by decide) ?_
      exact J23 (strk p0.toNatClampNeg) _ _ hP hD hS _ (lv_sub hl [] rfl) hf
noncomputable def X0_strokesOfAllBells_L4_body (strk : Nat → Int32) (k4 : Int64 → Int32 → Option (Int64 × Unit)) (b4_1 : Int64) (b4_2 : Int32) : Option (Int64 × Unit) := (if (9 : Int32) ≤ b4_2 then some (b4_1, ()) else if ¬ (b4_2 < 0 ∨ 9 ≤ b4_2.toNatClampNeg) then k4 (b4_1 + (strk b4_2.toNatClampNeg).toInt64) (b4_2 + (1 : Int32)) else none)
noncomputable def X0_strokesOfAllBells_L4 (strk : Nat → Int32) (n : Nat) : Int64 → Int32 → Option (Int64 × Unit) := Nat.rec (motive := fun _ => Int64 → Int32 → Option (Int64 × Unit)) (fun _ _ => none) (fun _ k4 b4_1 b4_2 => X0_strokesOfAllBells_L4_body strk k4 b4_1 b4_2) n
noncomputable def X0_strokesOfAllBells_f (N : Nat) (strk : Nat → Int32) : Option (Int64 × Unit) := X0_strokesOfAllBells_L4 strk N (0 : Int64) (0 : Int32)
set_option maxHeartbeats 4000000 in
set_option maxRecDepth 100000 in
theorem c_X0_strokesOfAllBells (l : Launch) (D : va_G) (cy : Nat → ClassId) (sa : Nat → Nat) (z0 sz : Nat) (h0 : Nat) (h1 : Nat) (h3 : Nat) (h4 : Nat) (sfrom : Int32) (sto : Int32) (quar : Int32) (dmod : Int32) (h2 : Nat) (dsz : Int32) (tunes : Nat → Option Nat) (strk : Nat → Int32) (L : List Nat) (K : Nat → Nat) (te : Nat → Int32) (le : Nat → Int32) (tb : Nat → Int32) (mb : Nat → Int64) (wr : Nat → Int64) (nu : Nat → Int32) (ro : Nat → Nat) (pn : Nat → Int32) (rw : Nat → Nat → Int32) (dr : Nat → Nat → Option Nat) (N : Nat) (o : (Int64 × Unit)) (ho : X0_strokesOfAllBells_f N strk = some o) : Met l yX0_strokesOfAllBells (ws_ yX0_strokesOfAllBells cX0_strokesOfAllBells 4 (some .long)) ({ frames := 0, cells := 0, slots := 0, locals := 0 } : Room) (va_Pc [.ref h0] (Pr D cy sa z0 (([(h0, .inr (5, [.ref h1, .ref h3, .ref h4, .int sfrom, .int sto, .int quar])), (h1, .inr (3, [.int dmod, .ref h2, .int dsz])), (h3, .inl (cy 2, 24, .inr (.inr (.inr (.inr tunes))))), (h4, .inl (cy 0, 9, .inl strk))] : va_W) ++ va_pl L (plF cy K te le tb mb wr nu ro pn rw dr)) sz)) (QL D o (fun u => (([(h0, .inr (5, [.ref h1, .ref h3, .ref h4, .int sfrom, .int sto, .int quar])), (h1, .inr (3, [.int dmod, .ref h2, .int dsz])), (h3, .inl (cy 2, 24, .inr (.inr (.inr (.inr tunes))))), (h4, .inl (cy 0, 9, .inl strk))] : va_W) ++ va_pl L (plF cy K te le tb mb wr nu ro pn rw dr))) (va_A (([(h0, .inr (5, [.ref h1, .ref h3, .ref h4, .int sfrom, .int sto, .int quar])), (h1, .inr (3, [.int dmod, .ref h2, .int dsz])), (h3, .inl (cy 2, 24, .inr (.inr (.inr (.inr tunes))))), (h4, .inl (cy 0, 9, .inl strk))] : va_W) ++ va_pl L (plF cy K te le tb mb wr nu ro pn rw dr)) sz)) 0 0 (va_A (([(h0, .inr (5, [.ref h1, .ref h3, .ref h4, .int sfrom, .int sto, .int quar])), (h1, .inr (3, [.int dmod, .ref h2, .int dsz])), (h3, .inl (cy 2, 24, .inr (.inr (.inr (.inr tunes))))), (h4, .inl (cy 0, 9, .inl strk))] : va_W) ++ va_pl L (plF cy K te le tb mb wr nu ro pn rw dr)) sz) := by
  refine MT (Qf := QL D o (fun u => (([(h0, .inr (5, [.ref h1, .ref h3, .ref h4, .int sfrom, .int sto, .int quar])), (h1, .inr (3, [.int dmod, .ref h2, .int dsz])), (h3, .inl (cy 2, 24, .inr (.inr (.inr (.inr tunes))))), (h4, .inl (cy 0, 9, .inl strk))] : va_W) ++ va_pl L (plF cy K te le tb mb wr nu ro pn rw dr)))) (plainFor_of_name (by decide +kernel)) (Nat.le_of_ble_eq_true rfl) ?_
  intro p e s m below meth c A ls H hx hb hml hr hlocks hown hnm hts hG hA hZ hP hD hS hl
  have hK := hG.K
  have hl : lv_has ls 4 [(0, .ref h0)] := hl
  have hf : X0_strokesOfAllBells_f N strk = some o := ho
  clear ho
  unfold X0_strokesOfAllBells_f at hf
  have L4 : ∀ (n : Nat) (b4_1 : Int64) (b4_2 : Int32), ∀ (H : Heap) (locs : List Loc), va_P D vwCl (([(h0, .inr (5, [.ref h1, .ref h3, .ref h4, .int sfrom, .int sto, .int quar])), (h1, .inr (3, [.int dmod, .ref h2, .int dsz])), (h3, .inl (cy 2, 24, .inr (.inr (.inr (.inr tunes))))), (h4, .inl (cy 0, 9, .inl strk))] : va_W) ++ va_pl L (plF cy K te le tb mb wr nu ro pn rw dr)) H → va_D A (([(h0, .inr (5, [.ref h1, .ref h3, .ref h4, .int sfrom, .int sto, .int quar])), (h1, .inr (3, [.int dmod, .ref h2, .int dsz])), (h3, .inl (cy 2, 24, .inr (.inr (.inr (.inr tunes))))), (h4, .inl (cy 0, 9, .inl strk))] : va_W) ++ va_pl L (plF cy K te le tb mb wr nu ro pn rw dr)) → va_S A s.heap H locs → ∀ (ls : Array Slot), lv_has ls 4 [(0, .ref h0), (1, .long b4_1), (3, .int b4_2)] → X0_strokesOfAllBells_L4 strk n b4_1 b4_2 = some o → W p l e ({ frames := 0, cells := 0, slots := 0, locals := 0 } : Room) s m ([.ref h0] : List Value).toArray below meth c H locs 0 0 (MQ below (QL D o (fun u => (([(h0, .inr (5, [.ref h1, .ref h3, .ref h4, .int sfrom, .int sto, .int quar])), (h1, .inr (3, [.int dmod, .ref h2, .int dsz])), (h3, .inl (cy 2, 24, .inr (.inr (.inr (.inr tunes))))), (h4, .inl (cy 0, 9, .inl strk))] : va_W) ++ va_pl L (plF cy K te le tb mb wr nu ro pn rw dr))) A) ([.ref h0] : List Value).toArray s 0 0 A) (F0 m 4 ls []) := by
    intro n
    induction n with
    | zero => intro b4_1 b4_2 H locs hP hD hS ls hl hf; cases (show (none : Option (Int64 × Unit)) = some o from hf)
    | succ n ih_4 =>
      intro b4_1 b4_2 H locs hP hD hS ls hl hf
      have hf : X0_strokesOfAllBells_L4_body strk (X0_strokesOfAllBells_L4 strk n) b4_1 b4_2 = some o := hf
      generalize X0_strokesOfAllBells_L4 strk n = k4 at ih_4 hf
      unfold X0_strokesOfAllBells_L4_body at hf
      refine lv_iload_n hx hb dX0_strokesOfAllBells_4 rfl (lv_at hl 2 rfl) ?_
      refine lv_aload_n hx hb dX0_strokesOfAllBells_5 rfl (lv_at hl 0 rfl) ?_
      refine va_get (D := D) (ci := 5) (v := .ref h4) (C := RX0) (T := TX0) (N := 6) hx hb hts in_X0 hown hK hP 0 rfl rfl 2 (by decide) (hts _ k_254) (fun _ h9 => h9) rfl dX0_strokesOfAllBells_6 ?_
      refine va_alen hx hb hK hP 3 0 rfl rfl (v := (9 : Int32)) (show Int32.ofNat 9 = 9 by decide) dX0_strokesOfAllBells_9 ?_
      refine lv_icmp_ge (tgt := 29) hx hb dX0_strokesOfAllBells_10 (by decide) (fun c1 => ?_) (fun c1 => ?_)
      · rw [if_pos c1] at hf
        refine lv_lload_n hx hb dX0_strokesOfAllBells_29 rfl (lv_at hl 1 rfl) ?_
        obtain rfl := Option.some.inj hf
        exact W.lret (v := b4_1) hx hb hr (fun t ht _ => ⟨⟨b4_1, (), rfl, rfl, by rw [ht]; exact hP, hD⟩, hS.F ht⟩) hS.2.2 dX0_strokesOfAllBells_30
      · rw [if_neg c1] at hf
        refine lv_lload_n hx hb dX0_strokesOfAllBells_13 rfl (lv_at hl 1 rfl) ?_
        refine lv_aload_n hx hb dX0_strokesOfAllBells_14 rfl (lv_at hl 0 rfl) ?_
        refine va_get (D := D) (ci := 5) (v := .ref h4) (C := RX0) (T := TX0) (N := 6) hx hb hts in_X0 hown hK hP 0 rfl rfl 2 (by decide) (hts _ k_254) (fun _ h9 => h9) rfl dX0_strokesOfAllBells_15 ?_
        refine lv_iload_n hx hb dX0_strokesOfAllBells_18 rfl (lv_at hl 2 rfl) ?_
        obtain ⟨g2, hf⟩ := ite_some' hf
        refine va_iald hx hb hK hP 3 0 rfl rfl g2 dX0_strokesOfAllBells_19 ?_
        refine lv_i2l hx hb dX0_strokesOfAllBells_20 rfl ?_
        refine lv_ladd hx hb dX0_strokesOfAllBells_21 ?_
        refine lv_lstore_n (lv' := [(1, .long (b4_1 + (strk b4_2.toNatClampNeg).toInt64)), (0, .ref h0), (3, .int b4_2)]) hx hb dX0_strokesOfAllBells_22 rfl hl (by decide) rfl (fun ls hl => ?_)
        refine lv_iinc (v := (b4_2 + (1 : Int32))) (lv' := [(3, .int (b4_2 + (1 : Int32))), (1, .long (b4_1 + (strk b4_2.toNatClampNeg).toInt64)), (0, .ref h0)]) hx hb dX0_strokesOfAllBells_23 hl (k := 2) rfl (by rfl) (by decide) rfl (fun ls hl => ?_)
        refine lv_goto (tgt := 4) hx hb dX0_strokesOfAllBells_26 (by decide) ?_
        exact ih_4 (b4_1 + (strk b4_2.toNatClampNeg).toInt64) (b4_2 + (1 : Int32)) _ _ hP hD hS _ (lv_sub hl [2, 1, 0] rfl) hf
  refine lv_lconst (v := (0 : Int64)) hx hb dX0_strokesOfAllBells_0 (by decide) ?_
  refine lv_lstore_n (lv' := [(1, .long (0 : Int64)), (0, .ref h0)]) hx hb dX0_strokesOfAllBells_1 rfl hl (by decide) rfl (fun ls hl => ?_)
  refine lv_iconst (v := (0 : Int32)) hx hb dX0_strokesOfAllBells_2 (by decide) ?_
  refine lv_istore_n (lv' := [(3, .int (0 : Int32)), (1, .long (0 : Int64)), (0, .ref h0)]) hx hb dX0_strokesOfAllBells_3 rfl hl (by decide) rfl (fun ls hl => ?_)
  exact L4 N (0 : Int64) (0 : Int32) _ _ hP hD hS _ (lv_sub hl [2, 1, 0] rfl) hf
noncomputable def X0_isSilent_b54 (b54_1 : Int32) : Option (Int32 × Unit) := if b54_1 &&& 1 = b54_1 then some (b54_1, ()) else none
noncomputable def X0_isSilent_b49 : Option (Int32 × Unit) := X0_isSilent_b54 (1 : Int32)
noncomputable def X0_isSilent_b32 (b32_1 : Int32) : Option (Int32 × Unit) := if b32_1 &&& 1 = b32_1 then some (b32_1, ()) else none
noncomputable def X0_isSilent_b31 : Option (Int32 × Unit) := X0_isSilent_b32 (0 : Int32)
noncomputable def X0_isSilent_f (sfrom : Int32) (sto : Int32) (p0 : Int32) : Option (Int32 × Unit) := (if sto < sfrom then (if sfrom ≤ p0 then X0_isSilent_b49 else (if sto ≤ p0 then X0_isSilent_b54 (0 : Int32) else X0_isSilent_b49)) else (if p0 < sfrom then X0_isSilent_b31 else (if sto ≤ p0 then X0_isSilent_b31 else X0_isSilent_b32 (1 : Int32))))
set_option maxHeartbeats 4000000 in
set_option maxRecDepth 100000 in
theorem c_X0_isSilent (l : Launch) (D : va_G) (cy : Nat → ClassId) (sa : Nat → Nat) (z0 sz : Nat) (h0 : Nat) (h1 : Nat) (h3 : Nat) (h4 : Nat) (sfrom : Int32) (sto : Int32) (quar : Int32) (dmod : Int32) (h2 : Nat) (dsz : Int32) (tunes : Nat → Option Nat) (strk : Nat → Int32) (L : List Nat) (K : Nat → Nat) (te : Nat → Int32) (le : Nat → Int32) (tb : Nat → Int32) (mb : Nat → Int64) (wr : Nat → Int64) (nu : Nat → Int32) (ro : Nat → Nat) (pn : Nat → Int32) (rw : Nat → Nat → Int32) (dr : Nat → Nat → Option Nat) (p0 : Int32) (o : (Int32 × Unit)) (ho : X0_isSilent_f sfrom sto p0 = some o) : Met l yX0_isSilent (ws_ yX0_isSilent cX0_isSilent 2 (some .boolean)) ({ frames := 0, cells := 0, slots := 0, locals := 0 } : Room) (va_Pc [.ref h0, .int p0] (Pr D cy sa z0 (([(h0, .inr (5, [.ref h1, .ref h3, .ref h4, .int sfrom, .int sto, .int quar])), (h1, .inr (3, [.int dmod, .ref h2, .int dsz])), (h3, .inl (cy 2, 24, .inr (.inr (.inr (.inr tunes))))), (h4, .inl (cy 0, 9, .inl strk))] : va_W) ++ va_pl L (plF cy K te le tb mb wr nu ro pn rw dr)) sz)) (QI D o (fun u => (([(h0, .inr (5, [.ref h1, .ref h3, .ref h4, .int sfrom, .int sto, .int quar])), (h1, .inr (3, [.int dmod, .ref h2, .int dsz])), (h3, .inl (cy 2, 24, .inr (.inr (.inr (.inr tunes))))), (h4, .inl (cy 0, 9, .inl strk))] : va_W) ++ va_pl L (plF cy K te le tb mb wr nu ro pn rw dr))) (va_A (([(h0, .inr (5, [.ref h1, .ref h3, .ref h4, .int sfrom, .int sto, .int quar])), (h1, .inr (3, [.int dmod, .ref h2, .int dsz])), (h3, .inl (cy 2, 24, .inr (.inr (.inr (.inr tunes))))), (h4, .inl (cy 0, 9, .inl strk))] : va_W) ++ va_pl L (plF cy K te le tb mb wr nu ro pn rw dr)) sz)) 0 0 (va_A (([(h0, .inr (5, [.ref h1, .ref h3, .ref h4, .int sfrom, .int sto, .int quar])), (h1, .inr (3, [.int dmod, .ref h2, .int dsz])), (h3, .inl (cy 2, 24, .inr (.inr (.inr (.inr tunes))))), (h4, .inl (cy 0, 9, .inl strk))] : va_W) ++ va_pl L (plF cy K te le tb mb wr nu ro pn rw dr)) sz) := by
  refine MT (Qf := QI D o (fun u => (([(h0, .inr (5, [.ref h1, .ref h3, .ref h4, .int sfrom, .int sto, .int quar])), (h1, .inr (3, [.int dmod, .ref h2, .int dsz])), (h3, .inl (cy 2, 24, .inr (.inr (.inr (.inr tunes))))), (h4, .inl (cy 0, 9, .inl strk))] : va_W) ++ va_pl L (plF cy K te le tb mb wr nu ro pn rw dr)))) (plainFor_of_name (by decide +kernel)) (Nat.le_of_ble_eq_true rfl) ?_
  intro p e s m below meth c A ls H hx hb hml hr hlocks hown hnm hts hG hA hZ hP hD hS hl
  have hK := hG.K
  have hl : lv_has ls 2 [(0, .ref h0), (1, .int p0)] := hl
  have hf : X0_isSilent_f sfrom sto p0 = some o := ho
  clear ho
  unfold X0_isSilent_f at hf
  have J54 : ∀ (b54_1 : Int32), ∀ (H : Heap) (locs : List Loc), va_P D vwCl (([(h0, .inr (5, [.ref h1, .ref h3, .ref h4, .int sfrom, .int sto, .int quar])), (h1, .inr (3, [.int dmod, .ref h2, .int dsz])), (h3, .inl (cy 2, 24, .inr (.inr (.inr (.inr tunes))))), (h4, .inl (cy 0, 9, .inl strk))] : va_W) ++ va_pl L (plF cy K te le tb mb wr nu ro pn rw dr)) H → va_D A (([(h0, .inr (5, [.ref h1, .ref h3, .ref h4, .int sfrom, .int sto, .int quar])), (h1, .inr (3, [.int dmod, .ref h2, .int dsz])), (h3, .inl (cy 2, 24, .inr (.inr (.inr (.inr tunes))))), (h4, .inl (cy 0, 9, .inl strk))] : va_W) ++ va_pl L (plF cy K te le tb mb wr nu ro pn rw dr)) → va_S A s.heap H locs → ∀ (ls : Array Slot), lv_has ls 2 [] → X0_isSilent_b54 b54_1 = some o → W p l e ({ frames := 0, cells := 0, slots := 0, locals := 0 } : Room) s m ([.ref h0, .int p0] : List Value).toArray below meth c H locs 0 0 (MQ below (QI D o (fun u => (([(h0, .inr (5, [.ref h1, .ref h3, .ref h4, .int sfrom, .int sto, .int quar])), (h1, .inr (3, [.int dmod, .ref h2, .int dsz])), (h3, .inl (cy 2, 24, .inr (.inr (.inr (.inr tunes))))), (h4, .inl (cy 0, 9, .inl strk))] : va_W) ++ va_pl L (plF cy K te le tb mb wr nu ro pn rw dr))) A) ([.ref h0, .int p0] : List Value).toArray s 0 0 A) (F0 m 54 ls [.int b54_1]) := by
    intro b54_1 H locs hP hD hS ls hl hf
    unfold X0_isSilent_b54 at hf
    obtain ⟨g6, hf⟩ := ite_some' hf
    obtain rfl := Option.some.inj hf
    exact W.zret (v := b54_1) hx hb hr (zn_b g6) (fun t ht _ => ⟨⟨b54_1, (), rfl, rfl, by rw [ht]; exact hP, hD⟩, hS.F ht⟩) hS.2.2 dX0_isSilent_54
  have J49 : ∀ (H : Heap) (locs : List Loc), va_P D vwCl (([(h0, .inr (5, [.ref h1, .ref h3, .ref h4, .int sfrom, .int sto, .int quar])), (h1, .inr (3, [.int dmod, .ref h2, .int dsz])), (h3, .inl (cy 2, 24, .inr (.inr (.inr (.inr tunes))))), (h4, .inl (cy 0, 9, .inl strk))] : va_W) ++ va_pl L (plF cy K te le tb mb wr nu ro pn rw dr)) H → va_D A (([(h0, .inr (5, [.ref h1, .ref h3, .ref h4, .int sfrom, .int sto, .int quar])), (h1, .inr (3, [.int dmod, .ref h2, .int dsz])), (h3, .inl (cy 2, 24, .inr (.inr (.inr (.inr tunes))))), (h4, .inl (cy 0, 9, .inl strk))] : va_W) ++ va_pl L (plF cy K te le tb mb wr nu ro pn rw dr)) → va_S A s.heap H locs → ∀ (ls : Array Slot), lv_has ls 2 [] → X0_isSilent_b49 = some o → W p l e ({ frames := 0, cells := 0, slots := 0, locals := 0 } : Room) s m ([.ref h0, .int p0] : List Value).toArray below meth c H locs 0 0 (MQ below (QI D o (fun u => (([(h0, .inr (5, [.ref h1, .ref h3, .ref h4, .int sfrom, .int sto, .int quar])), (h1, .inr (3, [.int dmod, .ref h2, .int dsz])), (h3, .inl (cy 2, 24, .inr (.inr (.inr (.inr tunes))))), (h4, .inl (cy 0, 9, .inl strk))] : va_W) ++ va_pl L (plF cy K te le tb mb wr nu ro pn rw dr))) A) ([.ref h0, .int p0] : List Value).toArray s 0 0 A) (F0 m 49 ls []) := by
    intro  H locs hP hD hS ls hl hf
    unfold X0_isSilent_b49 at hf
    refine lv_iconst (v := (1 : Int32)) hx hb dX0_isSilent_49 (by decide) ?_
    refine lv_goto (tgt := 54) hx hb dX0_isSilent_50 (by decide) ?_
    exact J54 (1 : Int32) _ _ hP hD hS _ (lv_sub hl [] rfl) hf
  have J32 : ∀ (b32_1 : Int32), ∀ (H : Heap) (locs : List Loc), va_P D vwCl (([(h0, .inr (5, [.ref h1, .ref h3, .ref h4, .int sfrom, .int sto, .int quar])), (h1, .inr (3, [.int dmod, .ref h2, .int dsz])), (h3, .inl (cy 2, 24, .inr (.inr (.inr (.inr tunes))))), (h4, .inl (cy 0, 9, .inl strk))] : va_W) ++ va_pl L (plF cy K te le tb mb wr nu ro pn rw dr)) H → va_D A (([(h0, .inr (5, [.ref h1, .ref h3, .ref h4, .int sfrom, .int sto, .int quar])), (h1, .inr (3, [.int dmod, .ref h2, .int dsz])), (h3, .inl (cy 2, 24, .inr (.inr (.inr (.inr tunes))))), (h4, .inl (cy 0, 9, .inl strk))] : va_W) ++ va_pl L (plF cy K te le tb mb wr nu ro pn rw dr)) → va_S A s.heap H locs → ∀ (ls : Array Slot), lv_has ls 2 [] → X0_isSilent_b32 b32_1 = some o → W p l e ({ frames := 0, cells := 0, slots := 0, locals := 0 } : Room) s m ([.ref h0, .int p0] : List Value).toArray below meth c H locs 0 0 (MQ below (QI D o (fun u => (([(h0, .inr (5, [.ref h1, .ref h3, .ref h4, .int sfrom, .int sto, .int quar])), (h1, .inr (3, [.int dmod, .ref h2, .int dsz])), (h3, .inl (cy 2, 24, .inr (.inr (.inr (.inr tunes))))), (h4, .inl (cy 0, 9, .inl strk))] : va_W) ++ va_pl L (plF cy K te le tb mb wr nu ro pn rw dr))) A) ([.ref h0, .int p0] : List Value).toArray s 0 0 A) (F0 m 32 ls [.int b32_1]) := by
    intro b32_1 H locs hP hD hS ls hl hf
    unfold X0_isSilent_b32 at hf
    obtain ⟨g7, hf⟩ := ite_some' hf
    obtain rfl := Option.some.inj hf
    exact W.zret (v := b32_1) hx hb hr (zn_b g7) (fun t ht _ => ⟨⟨b32_1, (), rfl, rfl, by rw [ht]; exact hP, hD⟩, hS.F ht⟩) hS.2.2 dX0_isSilent_32
  have J31 : ∀ (H : Heap) (locs : List Loc), va_P D vwCl (([(h0, .inr (5, [.ref h1, .ref h3, .ref h4, .int sfrom, .int sto, .int quar])), (h1, .inr (3, [.int dmod, .ref h2, .int dsz])), (h3, .inl (cy 2, 24, .inr (.inr (.inr (.inr tunes))))), (h4, .inl (cy 0, 9, .inl strk))] : va_W) ++ va_pl L (plF cy K te le tb mb wr nu ro pn rw dr)) H → va_D A (([(h0, .inr (5, [.ref h1, .ref h3, .ref h4, .int sfrom, .int sto, .int quar])), (h1, .inr (3, [.int dmod, .ref h2, .int dsz])), (h3, .inl (cy 2, 24, .inr (.inr (.inr (.inr tunes))))), (h4, .inl (cy 0, 9, .inl strk))] : va_W) ++ va_pl L (plF cy K te le tb mb wr nu ro pn rw dr)) → va_S A s.heap H locs → ∀ (ls : Array Slot), lv_has ls 2 [] → X0_isSilent_b31 = some o → W p l e ({ frames := 0, cells := 0, slots := 0, locals := 0 } : Room) s m ([.ref h0, .int p0] : List Value).toArray below meth c H locs 0 0 (MQ below (QI D o (fun u => (([(h0, .inr (5, [.ref h1, .ref h3, .ref h4, .int sfrom, .int sto, .int quar])), (h1, .inr (3, [.int dmod, .ref h2, .int dsz])), (h3, .inl (cy 2, 24, .inr (.inr (.inr (.inr tunes))))), (h4, .inl (cy 0, 9, .inl strk))] : va_W) ++ va_pl L (plF cy K te le tb mb wr nu ro pn rw dr))) A) ([.ref h0, .int p0] : List Value).toArray s 0 0 A) (F0 m 31 ls []) := by
    intro  H locs hP hD hS ls hl hf
    unfold X0_isSilent_b31 at hf
    refine lv_iconst (v := (0 : Int32)) hx hb dX0_isSilent_31 (by decide) ?_
    exact J32 (0 : Int32) _ _ hP hD hS _ (lv_sub hl [] rfl) hf
  refine lv_aload_n hx hb dX0_isSilent_0 rfl (lv_at hl 0 rfl) ?_
  refine va_get (D := D) (ci := 5) (v := .int sfrom) (C := RX0) (T := TX0) (N := 6) hx hb hts in_X0 hown hK hP 0 rfl rfl 3 (by decide) (hts _ k_255) (fun _ h9 => h9) rfl dX0_isSilent_1 ?_
  refine lv_aload_n hx hb dX0_isSilent_4 rfl (lv_at hl 0 rfl) ?_
  refine va_get (D := D) (ci := 5) (v := .int sto) (C := RX0) (T := TX0) (N := 6) hx hb hts in_X0 hown hK hP 0 rfl rfl 4 (by decide) (hts _ k_256) (fun _ h9 => h9) rfl dX0_isSilent_5 ?_
  refine lv_icmp_gt (tgt := 33) hx hb dX0_isSilent_8 (by decide) (fun c1 => ?_) (fun c1 => ?_)
  · rw [if_pos c1] at hf
    refine lv_iload_n hx hb dX0_isSilent_33 rfl (lv_at hl 1 rfl) ?_
    refine lv_aload_n hx hb dX0_isSilent_34 rfl (lv_at hl 0 rfl) ?_
    refine va_get (D := D) (ci := 5) (v := .int sfrom) (C := RX0) (T := TX0) (N := 6) hx hb hts in_X0 hown hK hP 0 rfl rfl 3 (by decide) (hts _ k_255) (fun _ h9 => h9) rfl dX0_isSilent_35 ?_
    refine lv_icmp_ge (tgt := 49) hx hb dX0_isSilent_38 (by decide) (fun c2 => ?_) (fun c2 => ?_)
    · rw [if_pos c2] at hf
      exact J49  _ _ hP hD hS _ (lv_sub hl [] rfl) hf
    · rw [if_neg c2] at hf
      refine lv_iload_n hx hb dX0_isSilent_41 rfl (lv_at hl 1 rfl) ?_
      refine lv_aload_n hx hb dX0_isSilent_42 rfl (lv_at hl 0 rfl) ?_
      refine va_get (D := D) (ci := 5) (v := .int sto) (C := RX0) (T := TX0) (N := 6) hx hb hts in_X0 hown hK hP 0 rfl rfl 4 (by decide) (hts _ k_256) (fun _ h9 => h9) rfl dX0_isSilent_43 ?_
      refine lv_icmp_ge (tgt := 53) hx hb dX0_isSilent_46 (by decide) (fun c3 => ?_) (fun c3 => ?_)
      · rw [if_pos c3] at hf
        refine lv_iconst (v := (0 : Int32)) hx hb dX0_isSilent_53 (by decide) ?_
        exact J54 (0 : Int32) _ _ hP hD hS _ (lv_sub hl [] rfl) hf
      · rw [if_neg c3] at hf
        exact J49  _ _ hP hD hS _ (lv_sub hl [] rfl) hf
  · rw [if_neg c1] at hf
    refine lv_iload_n hx hb dX0_isSilent_11 rfl (lv_at hl 1 rfl) ?_
    refine lv_aload_n hx hb dX0_isSilent_12 rfl (lv_at hl 0 rfl) ?_
    refine va_get (D := D) (ci := 5) (v := .int sfrom) (C := RX0) (T := TX0) (N := 6) hx hb hts in_X0 hown hK hP 0 rfl rfl 3 (by decide) (hts _ k_255) (fun _ h9 => h9) rfl dX0_isSilent_13 ?_
    refine lv_icmp_lt (tgt := 31) hx hb dX0_isSilent_16 (by decide) (fun c4 => ?_) (fun c4 => ?_)
    · rw [if_pos c4] at hf
      exact J31  _ _ hP hD hS _ (lv_sub hl [] rfl) hf
    · rw [if_neg c4] at hf
      refine lv_iload_n hx hb dX0_isSilent_19 rfl (lv_at hl 1 rfl) ?_
      refine lv_aload_n hx hb dX0_isSilent_20 rfl (lv_at hl 0 rfl) ?_
      refine va_get (D := D) (ci := 5) (v := .int sto) (C := RX0) (T := TX0) (N := 6) hx hb hts in_X0 hown hK hP 0 rfl rfl 4 (by decide) (hts _ k_256) (fun _ h9 => h9) rfl dX0_isSilent_21 ?_
      refine lv_icmp_ge (tgt := 31) hx hb dX0_isSilent_24 (by decide) (fun c5 => ?_) (fun c5 => ?_)
      · rw [if_pos c5] at hf
        exact J31  _ _ hP hD hS _ (lv_sub hl [] rfl) hf
      · rw [if_neg c5] at hf
        refine lv_iconst (v := (1 : Int32)) hx hb dX0_isSilent_27 (by decide) ?_
        refine lv_goto (tgt := 32) hx hb dX0_isSilent_28 (by decide) ?_
        exact J32 (1 : Int32) _ _ hP hD hS _ (lv_sub hl [] rfl) hf
noncomputable def X0_strokesDue_b62 (b62_1 : Int32) (b62_2 : Int32) : Option (Int32 × Unit) := some ((b62_2 + b62_1), ())
noncomputable def X0_strokesDue_b36 (b36_1 : Int32) : Option (Int32 × Unit) := some (b36_1, ())
noncomputable def X0_strokesDue_f (sfrom : Int32) (sto : Int32) (quar : Int32) (tunes : Nat → Option Nat) (L : List Nat) (K : Nat → Nat) (pn : Nat → Int32) (p0 : Int32) : Option (Int32 × Unit) := (X8_hourOf_f p0).bind fun v1 => (X0_isSilent_f sfrom sto v1.1).bind fun v3 => (if v3.1 = (0 : Int32) then (X0_quarterOf_f p0).bind fun v6 => (if v6.1 ≤ (0 : Int32) then (X0_tuneOrNull_f tunes v1.1).bind fun v9 => (optE v9.1 ((X0_strokesOfHour_f v1.1).bind fun v13 => X0_strokesDue_b62 (0 : Int32) v13.1) (fun a11 => (X0_strokesOfHour_f v1.1).bind fun v15 => if (a11 ∈ L ∧ K a11 = 1) then (X2_pinCount_f a11 L K pn).bind fun v20 => X0_strokesDue_b62 v20.1 v15.1 else none)) else (if quar = (0 : Int32) then X0_strokesDue_b36 (0 : Int32) else X0_strokesDue_b36 v6.1)) else some ((0 : Int32), ()))
set_option maxHeartbeats 4000000 in
set_option maxRecDepth 100000 in
theorem c_X0_strokesDue (l : Launch) (D : va_G) (cy : Nat → ClassId) (sa : Nat → Nat) (z0 sz : Nat) (h0 : Nat) (h1 : Nat) (h3 : Nat) (h4 : Nat) (sfrom : Int32) (sto : Int32) (quar : Int32) (dmod : Int32) (h2 : Nat) (dsz : Int32) (tunes : Nat → Option Nat) (strk : Nat → Int32) (L : List Nat) (K : Nat → Nat) (te : Nat → Int32) (le : Nat → Int32) (tb : Nat → Int32) (mb : Nat → Int64) (wr : Nat → Int64) (nu : Nat → Int32) (ro : Nat → Nat) (pn : Nat → Int32) (rw : Nat → Nat → Int32) (dr : Nat → Nat → Option Nat) (p0 : Int32) (o : (Int32 × Unit)) (ho : X0_strokesDue_f sfrom sto quar tunes L K pn p0 = some o) : Met l yX0_strokesDue (ws_ yX0_strokesDue cX0_strokesDue 5 (some .int)) ({ frames := 2, cells := 0, slots := 0, locals := 42 } : Room) (va_Pc [.ref h0, .int p0] (Pr D cy sa z0 (([(h0, .inr (5, [.ref h1, .ref h3, .ref h4, .int sfrom, .int sto, .int quar])), (h1, .inr (3, [.int dmod, .ref h2, .int dsz])), (h3, .inl (cy 2, 24, .inr (.inr (.inr (.inr tunes))))), (h4, .inl (cy 0, 9, .inl strk))] : va_W) ++ va_pl L (plF cy K te le tb mb wr nu ro pn rw dr)) sz)) (QI D o (fun u => (([(h0, .inr (5, [.ref h1, .ref h3, .ref h4, .int sfrom, .int sto, .int quar])), (h1, .inr (3, [.int dmod, .ref h2, .int dsz])), (h3, .inl (cy 2, 24, .inr (.inr (.inr (.inr tunes))))), (h4, .inl (cy 0, 9, .inl strk))] : va_W) ++ va_pl L (plF cy K te le tb mb wr nu ro pn rw dr))) (va_A (([(h0, .inr (5, [.ref h1, .ref h3, .ref h4, .int sfrom, .int sto, .int quar])), (h1, .inr (3, [.int dmod, .ref h2, .int dsz])), (h3, .inl (cy 2, 24, .inr (.inr (.inr (.inr tunes))))), (h4, .inl (cy 0, 9, .inl strk))] : va_W) ++ va_pl L (plF cy K te le tb mb wr nu ro pn rw dr)) sz)) 0 0 (va_A (([(h0, .inr (5, [.ref h1, .ref h3, .ref h4, .int sfrom, .int sto, .int quar])), (h1, .inr (3, [.int dmod, .ref h2, .int dsz])), (h3, .inl (cy 2, 24, .inr (.inr (.inr (.inr tunes))))), (h4, .inl (cy 0, 9, .inl strk))] : va_W) ++ va_pl L (plF cy K te le tb mb wr nu ro pn rw dr)) sz) := by
  refine MT (Qf := QI D o (fun u => (([(h0, .inr (5, [.ref h1, .ref h3, .ref h4, .int sfrom, .int sto, .int quar])), (h1, .inr (3, [.int dmod, .ref h2, .int dsz])), (h3, .inl (cy 2, 24, .inr (.inr (.inr (.inr tunes))))), (h4, .inl (cy 0, 9, .inl strk))] : va_W) ++ va_pl L (plF cy K te le tb mb wr nu ro pn rw dr)))) (plainFor_of_name (by decide +kernel)) (Nat.le_of_ble_eq_true rfl) ?_
  intro p e s m below meth c A ls H hx hb hml hr hlocks hown hnm hts hG hA hZ hP hD hS hl
  have hK := hG.K
  have hl : lv_has ls 5 [(0, .ref h0), (1, .int p0)] := hl
  have hf : X0_strokesDue_f sfrom sto quar tunes L K pn p0 = some o := ho
  clear ho
  unfold X0_strokesDue_f at hf
  have J62 : ∀ (b62_1 : Int32) (b62_2 : Int32), ∀ (H : Heap) (locs : List Loc), va_P D vwCl (([(h0, .inr (5, [.ref h1, .ref h3, .ref h4, .int sfrom, .int sto, .int quar])), (h1, .inr (3, [.int dmod, .ref h2, .int dsz])), (h3, .inl (cy 2, 24, .inr (.inr (.inr (.inr tunes))))), (h4, .inl (cy 0, 9, .inl strk))] : va_W) ++ va_pl L (plF cy K te le tb mb wr nu ro pn rw dr)) H → va_D A (([(h0, .inr (5, [.ref h1, .ref h3, .ref h4, .int sfrom, .int sto, .int quar])), (h1, .inr (3, [.int dmod, .ref h2, .int dsz])), (h3, .inl (cy 2, 24, .inr (.inr (.inr (.inr tunes))))), (h4, .inl (cy 0, 9, .inl strk))] : va_W) ++ va_pl L (plF cy K te le tb mb wr nu ro pn rw dr)) → va_S A s.heap H locs → ∀ (ls : Array Slot), lv_has ls 5 [] → X0_strokesDue_b62 b62_1 b62_2 = some o → W p l e ({ frames := 2, cells := 0, slots := 0, locals := 42 } : Room) s m ([.ref h0, .int p0] : List Value).toArray below meth c H locs 0 0 (MQ below (QI D o (fun u => (([(h0, .inr (5, [.ref h1, .ref h3, .ref h4, .int sfrom, .int sto, .int quar])), (h1, .inr (3, [.int dmod, .ref h2, .int dsz])), (h3, .inl (cy 2, 24, .inr (.inr (.inr (.inr tunes))))), (h4, .inl (cy 0, 9, .inl strk))] : va_W) ++ va_pl L (plF cy K te le tb mb wr nu ro pn rw dr))) A) ([.ref h0, .int p0] : List Value).toArray s 0 0 A) (F0 m 62 ls [.int b62_1, .int b62_2]) := by
    intro b62_1 b62_2 H locs hP hD hS ls hl hf
    unfold X0_strokesDue_b62 at hf
    refine lv_iadd hx hb dX0_strokesDue_62 ?_
    obtain rfl := Option.some.inj hf
    exact W.iret (v := (b62_2 + b62_1)) hx hb hr (fun t ht _ => ⟨⟨(b62_2 + b62_1), (), rfl, rfl, by rw [ht]; exact hP, hD⟩, hS.F ht⟩) hS.2.2 dX0_strokesDue_63
  have J36 : ∀ (b36_1 : Int32), ∀ (H : Heap) (locs : List Loc), va_P D vwCl (([(h0, .inr (5, [.ref h1, .ref h3, .ref h4, .int sfrom, .int sto, .int quar])), (h1, .inr (3, [.int dmod, .ref h2, .int dsz])), (h3, .inl (cy 2, 24, .inr (.inr (.inr (.inr tunes))))), (h4, .inl (cy 0, 9, .inl strk))] : va_W) ++ va_pl L (plF cy K te le tb mb wr nu ro pn rw dr)) H → va_D A (([(h0, .inr (5, [.ref h1, .ref h3, .ref h4, .int sfrom, .int sto, .int quar])), (h1, .inr (3, [.int dmod, .ref h2, .int dsz])), (h3, .inl (cy 2, 24, .inr (.inr (.inr (.inr tunes))))), (h4, .inl (cy 0, 9, .inl strk))] : va_W) ++ va_pl L (plF cy K te le tb mb wr nu ro pn rw dr)) → va_S A s.heap H locs → ∀ (ls : Array Slot), lv_has ls 5 [] → X0_strokesDue_b36 b36_1 = some o → W p l e ({ frames := 2, cells := 0, slots := 0, locals := 42 } : Room) s m ([.ref h0, .int p0] : List Value).toArray below meth c H locs 0 0 (MQ below (QI D o (fun u => (([(h0, .inr (5, [.ref h1, .ref h3, .ref h4, .int sfrom, .int sto, .int quar])), (h1, .inr (3, [.int dmod, .ref h2, .int dsz])), (h3, .inl (cy 2, 24, .inr (.inr (.inr (.inr tunes))))), (h4, .inl (cy 0, 9, .inl strk))] : va_W) ++ va_pl L (plF cy K te le tb mb wr nu ro pn rw dr))) A) ([.ref h0, .int p0] : List Value).toArray s 0 0 A) (F0 m 36 ls [.int b36_1]) := by
    intro b36_1 H locs hP hD hS ls hl hf
    unfold X0_strokesDue_b36 at hf
    obtain rfl := Option.some.inj hf
    exact W.iret (v := b36_1) hx hb hr (fun t ht _ => ⟨⟨b36_1, (), rfl, rfl, by rw [ht]; exact hP, hD⟩, hS.F ht⟩) hS.2.2 dX0_strokesDue_36
  refine lv_iload_n hx hb dX0_strokesDue_0 rfl (lv_at hl 1 rfl) ?_
  obtain ⟨v1, e2, hf⟩ := bind_some' hf
  refine cl_i (va_runSN (As := [.int p0]) (rest := []) ⟨hx, hb, hml, hown, hts⟩ (c_X8_hourOf l D cy sa z0 H.size p0 _ e2) ⟨va_cnB 1 hts (lw_gd k_733) rfl rfl rfl (amb_N (w := Cond.methodLinkNest RX0 64 yX8_hourOf RX8) hG (List.mem_of_getElem? (i := 731) (by decide +kernel)) rfl rfl) (hts _ k_36) (by decide +kernel) ⟨Nat.le_of_ble_eq_true rfl, Nat.le_of_ble_eq_true rfl⟩, hts _ k_732, trivial⟩ (preS hG hS hZ hP hD [] rfl rfl) rfl rfl hl.1 rfl (lv_room (Nat.le_of_ble_eq_true rfl)) dX0_strokesDue_1 ⟨Nat.le_of_ble_eq_true rfl, Nat.le_of_ble_eq_true rfl⟩) hP hD hS hA [] rfl rfl rfl (fun H locs hP hD hS => ?_)
  have hP : va_P D vwCl (([(h0, .inr (5, [.ref h1, .ref h3, .ref h4, .int sfrom, .int sto, .int quar])), (h1, .inr (3, [.int dmod, .ref h2, .int dsz])), (h3, .inl (cy 2, 24, .inr (.inr (.inr (.inr tunes))))), (h4, .inl (cy 0, 9, .inl strk))] : va_W) ++ va_pl L (plF cy K te le tb mb wr nu ro pn rw dr)) H := hP
  have hD : va_D A (([(h0, .inr (5, [.ref h1, .ref h3, .ref h4, .int sfrom, .int sto, .int quar])), (h1, .inr (3, [.int dmod, .ref h2, .int dsz])), (h3, .inl (cy 2, 24, .inr (.inr (.inr (.inr tunes))))), (h4, .inl (cy 0, 9, .inl strk))] : va_W) ++ va_pl L (plF cy K te le tb mb wr nu ro pn rw dr)) := hD
  refine lv_istore_n (lv' := [(2, .int v1.1), (0, .ref h0), (1, .int p0)]) hx hb dX0_strokesDue_4 rfl hl (by decide) rfl (fun ls hl => ?_)
  refine lv_aload_n hx hb dX0_strokesDue_5 rfl (lv_at hl 1 rfl) ?_
  refine lv_iload_n hx hb dX0_strokesDue_6 rfl (lv_at hl 0 rfl) ?_
  obtain ⟨v3, e4, hf⟩ := bind_some' hf
  refine clP_i (va_runV (As := [.int v1.1]) (rest := []) ⟨hx, hb, hml, hown, hts⟩ (c_X0_isSilent l D cy sa z0 H.size h0 h1 h3 h4 sfrom sto quar dmod h2 dsz tunes strk L K te le tb mb wr nu ro pn rw dr v1.1 _ e4) (cwV 1 hts (lw_gV k_734 k_736 k_12 k_48 k_737) rfl rfl rfl (by decide +kernel) ⟨Nat.le_of_ble_eq_true rfl, Nat.le_of_ble_eq_true rfl⟩) (preVP hG hS hZ hP hD [0, 1, 2, 3] rfl rfl (ci := 5) (q0 := 0) rfl rfl) rfl rfl hl.1 rfl (lv_room (Nat.le_of_ble_eq_true rfl)) dX0_strokesDue_7 ⟨Nat.le_of_ble_eq_true rfl, Nat.le_of_ble_eq_true rfl⟩) hP hD hS hA [0, 1, 2, 3] rfl rfl rfl (fun H locs hP hD hS => ?_)
  have hP : va_P D vwCl (([(h0, .inr (5, [.ref h1, .ref h3, .ref h4, .int sfrom, .int sto, .int quar])), (h1, .inr (3, [.int dmod, .ref h2, .int dsz])), (h3, .inl (cy 2, 24, .inr (.inr (.inr (.inr tunes))))), (h4, .inl (cy 0, 9, .inl strk))] : va_W) ++ va_pl L (plF cy K te le tb mb wr nu ro pn rw dr)) H := hP
  have hD : va_D A (([(h0, .inr (5, [.ref h1, .ref h3, .ref h4, .int sfrom, .int sto, .int quar])), (h1, .inr (3, [.int dmod, .ref h2, .int dsz])), (h3, .inl (cy 2, 24, .inr (.inr (.inr (.inr tunes))))), (h4, .inl (cy 0, 9, .inl strk))] : va_W) ++ va_pl L (plF cy K te le tb mb wr nu ro pn rw dr)) := hD
  refine lv_if_eq (tgt := 15) hx hb dX0_strokesDue_10 (by decide) (fun c5 => ?_) (fun c5 => ?_)
  · rw [if_pos c5] at hf
    refine lv_iload_n hx hb dX0_strokesDue_15 rfl (lv_at hl 2 rfl) ?_
    obtain ⟨v6, e7, hf⟩ := bind_some' hf
    refine cl_i (va_runS (As := [.int p0]) (rest := []) ⟨hx, hb, hml, hown, hts⟩ (c_X0_quarterOf l D cy sa z0 H.size p0 _ e7) (va_cwS 1 hts (lw_gS k_738 k_739 k_48 k_740) rfl rfl rfl (by decide +kernel) ⟨Nat.le_of_ble_eq_true rfl, Nat.le_of_ble_eq_true rfl⟩) (preS hG hS hZ hP hD [] rfl rfl) rfl rfl hl.1 rfl (lv_room (Nat.le_of_ble_eq_true rfl)) dX0_strokesDue_16 ⟨Nat.le_of_ble_eq_true rfl, Nat.le_of_ble_eq_true rfl⟩) hP hD hS hA [] rfl rfl rfl (fun H locs hP hD hS => ?_)
    have hP : va_P D vwCl (([(h0, .inr (5, [.ref h1, .ref h3, .ref h4, .int sfrom, .int sto, .int quar])), (h1, .inr (3, [.int dmod, .ref h2, .int dsz])), (h3, .inl (cy 2, 24, .inr (.inr (.inr (.inr tunes))))), (h4, .inl (cy 0, 9, .inl strk))] : va_W) ++ va_pl L (plF cy K te le tb mb wr nu ro pn rw dr)) H := hP
    have hD : va_D A (([(h0, .inr (5, [.ref h1, .ref h3, .ref h4, .int sfrom, .int sto, .int quar])), (h1, .inr (3, [.int dmod, .ref h2, .int dsz])), (h3, .inl (cy 2, 24, .inr (.inr (.inr (.inr tunes))))), (h4, .inl (cy 0, 9, .inl strk))] : va_W) ++ va_pl L (plF cy K te le tb mb wr nu ro pn rw dr)) := hD
    refine lv_istore_n (lv' := [(3, .int v6.1), (2, .int v1.1), (0, .ref h0), (1, .int p0)]) hx hb dX0_strokesDue_19 rfl hl (by decide) rfl (fun ls hl => ?_)
    refine lv_iload_n hx hb dX0_strokesDue_20 rfl (lv_at hl 0 rfl) ?_
    refine lv_if_le (tgt := 37) hx hb dX0_strokesDue_21 (by decide) (fun c8 => ?_) (fun c8 => ?_)
    · rw [if_pos c8] at hf
      refine lv_aload_n hx hb dX0_strokesDue_37 rfl (lv_at hl 2 rfl) ?_
      refine lv_iload_n hx hb dX0_strokesDue_38 rfl (lv_at hl 1 rfl) ?_
      obtain ⟨v9, e10, hf⟩ := bind_some' hf
      refine clP_q (va_runV (As := [.int v1.1]) (rest := []) ⟨hx, hb, hml, hown, hts⟩ (c_X0_tuneOrNull l D cy sa z0 H.size h0 h1 h3 h4 sfrom sto quar dmod h2 dsz tunes strk L K te le tb mb wr nu ro pn rw dr v1.1 _ e10) (cwV 1 hts (lw_gV k_742 k_744 k_13 k_48 k_745) rfl rfl rfl (by decide +kernel) ⟨Nat.le_of_ble_eq_true rfl, Nat.le_of_ble_eq_true rfl⟩) (preVP hG hS hZ hP hD [0, 1, 2, 3] rfl rfl (ci := 5) (q0 := 0) rfl rfl) rfl rfl hl.1 rfl (lv_room (Nat.le_of_ble_eq_true rfl)) dX0_strokesDue_39 ⟨Nat.le_of_ble_eq_true rfl, Nat.le_of_ble_eq_true rfl⟩) hP hD hS hA [0, 1, 2, 3] rfl rfl rfl (fun H locs hP hD hS => ?_)
      have hP : va_P D vwCl (([(h0, .inr (5, [.ref h1, .ref h3, .ref h4, .int sfrom, .int sto, .int quar])), (h1, .inr (3, [.int dmod, .ref h2, .int dsz])), (h3, .inl (cy 2, 24, .inr (.inr (.inr (.inr tunes))))), (h4, .inl (cy 0, 9, .inl strk))] : va_W) ++ va_pl L (plF cy K te le tb mb wr nu ro pn rw dr)) H := hP
      have hD : va_D A (([(h0, .inr (5, [.ref h1, .ref h3, .ref h4, .int sfrom, .int sto, .int quar])), (h1, .inr (3, [.int dmod, .ref h2, .int dsz])), (h3, .inl (cy 2, 24, .inr (.inr (.inr (.inr tunes))))), (h4, .inl (cy 0, 9, .inl strk))] : va_W) ++ va_pl L (plF cy K te le tb mb wr nu ro pn rw dr)) := hD
      rcases optE_cases hf with ⟨e12, hf⟩ | ⟨a11, e12, hf⟩
      · simp only [e12, va_rf_none] at hl ⊢
        refine lv_astoreN (lv' := [(4, .null), (3, .int v6.1), (2, .int v1.1), (0, .ref h0), (1, .int p0)]) hx hb dX0_strokesDue_42 hl (by decide) rfl (fun ls hl => ?_)
        refine lv_iload_n hx hb dX0_strokesDue_44 rfl (lv_at hl 2 rfl) ?_
        obtain ⟨v13, e14, hf⟩ := bind_some' hf
        refine cl_i (va_runS (As := [.int v1.1]) (rest := []) ⟨hx, hb, hml, hown, hts⟩ (c_X0_strokesOfHour l D cy sa z0 H.size v1.1 _ e14) (va_cwS 1 hts (lw_gS k_746 k_747 k_48 k_748) rfl rfl rfl (by decide +kernel) ⟨Nat.le_of_ble_eq_true rfl, Nat.le_of_ble_eq_true rfl⟩) (preS hG hS hZ hP hD [] rfl rfl) rfl rfl hl.1 rfl (lv_room (Nat.le_of_ble_eq_true rfl)) dX0_strokesDue_45 ⟨Nat.le_of_ble_eq_true rfl, Nat.le_of_ble_eq_true rfl⟩) hP hD hS hA [] rfl rfl rfl (fun H locs hP hD hS => ?_)
        have hP : va_P D vwCl (([(h0, .inr (5, [.ref h1, .ref h3, .ref h4, .int sfrom, .int sto, .int quar])), (h1, .inr (3, [.int dmod, .ref h2, .int dsz])), (h3, .inl (cy 2, 24, .inr (.inr (.inr (.inr tunes))))), (h4, .inl (cy 0, 9, .inl strk))] : va_W) ++ va_pl L (plF cy K te le tb mb wr nu ro pn rw dr)) H := hP
        have hD : va_D A (([(h0, .inr (5, [.ref h1, .ref h3, .ref h4, .int sfrom, .int sto, .int quar])), (h1, .inr (3, [.int dmod, .ref h2, .int dsz])), (h3, .inl (cy 2, 24, .inr (.inr (.inr (.inr tunes))))), (h4, .inl (cy 0, 9, .inl strk))] : va_W) ++ va_pl L (plF cy K te le tb mb wr nu ro pn rw dr)) := hD
        refine lv_aloadN hx hb dX0_strokesDue_48 (lv_at hl 0 rfl) ?_
        refine lv_ifnonnullN hx hb dX0_strokesDue_50 ?_
        refine lv_iconst (v := (0 : Int32)) hx hb dX0_strokesDue_53 (by decide) ?_
        refine lv_goto (tgt := 62) hx hb dX0_strokesDue_54 (by decide) ?_
        exact J62 (0 : Int32) v13.1 _ _ hP hD hS _ (lv_sub hl [] rfl) hf
      · simp only [e12, va_rf_some] at hl ⊢
        refine lv_astore (lv' := [(4, .ref a11), (3, .int v6.1), (2, .int v1.1), (0, .ref h0), (1, .int p0)]) hx hb dX0_strokesDue_42 hl (by decide) rfl (fun ls hl => ?_)
        refine lv_iload_n hx hb dX0_strokesDue_44 rfl (lv_at hl 2 rfl) ?_
        obtain ⟨v15, e16, hf⟩ := bind_some' hf
        refine cl_i (va_runS (As := [.int v1.1]) (rest := []) ⟨hx, hb, hml, hown, hts⟩ (c_X0_strokesOfHour l D cy sa z0 H.size v1.1 _ e16) (va_cwS 1 hts (lw_gS k_746 k_747 k_48 k_748) rfl rfl rfl (by decide +kernel) ⟨Nat.le_of_ble_eq_true rfl, Nat.le_of_ble_eq_true rfl⟩) (preS hG hS hZ hP hD [] rfl rfl) rfl rfl hl.1 rfl (lv_room (Nat.le_of_ble_eq_true rfl)) dX0_strokesDue_45 ⟨Nat.le_of_ble_eq_true rfl, Nat.le_of_ble_eq_true rfl⟩) hP hD hS hA [] rfl rfl rfl (fun H locs hP hD hS => ?_)
        have hP : va_P D vwCl (([(h0, .inr (5, [.ref h1, .ref h3, .ref h4, .int sfrom, .int sto, .int quar])), (h1, .inr (3, [.int dmod, .ref h2, .int dsz])), (h3, .inl (cy 2, 24, .inr (.inr (.inr (.inr tunes))))), (h4, .inl (cy 0, 9, .inl strk))] : va_W) ++ va_pl L (plF cy K te le tb mb wr nu ro pn rw dr)) H := hP
        have hD : va_D A (([(h0, .inr (5, [.ref h1, .ref h3, .ref h4, .int sfrom, .int sto, .int quar])), (h1, .inr (3, [.int dmod, .ref h2, .int dsz])), (h3, .inl (cy 2, 24, .inr (.inr (.inr (.inr tunes))))), (h4, .inl (cy 0, 9, .inl strk))] : va_W) ++ va_pl L (plF cy K te le tb mb wr nu ro pn rw dr)) := hD
        refine lv_aload hx hb dX0_strokesDue_48 (lv_at hl 0 rfl) ?_
        refine lv_ifnonnull (tgt := 57) hx hb dX0_strokesDue_50 (by decide) ?_
        refine lv_aload hx hb dX0_strokesDue_57 (lv_at hl 0 rfl) ?_
        obtain ⟨g17, hf⟩ := ite_some' hf
        obtain ⟨k18, e19⟩ := pl_1 (cy := cy) (te := te) (le := le) (tb := tb) (mb := mb) (wr := wr) (nu := nu) (ro := ro) (pn := pn) (rw := rw) (dr := dr) (X := [(h0, .inr (5, [.ref h1, .ref h3, .ref h4, .int sfrom, .int sto, .int quar])), (h1, .inr (3, [.int dmod, .ref h2, .int dsz])), (h3, .inl (cy 2, 24, .inr (.inr (.inr (.inr tunes))))), (h4, .inl (cy 0, 9, .inl strk))]) g17.1 g17.2
        obtain ⟨v20, e21, hf⟩ := bind_some' hf
        refine clP_i (va_runV (As := []) (rest := [.int v15.1]) ⟨hx, hb, hml, hown, hts⟩ (c_X2_pinCount l D cy sa z0 H.size a11 L K te le tb mb wr nu ro pn rw dr _ e21) (cwV 0 hts (lw_gV k_749 k_750 k_751 k_63 k_752) rfl rfl rfl (by decide +kernel) ⟨Nat.le_of_ble_eq_true rfl, Nat.le_of_ble_eq_true rfl⟩) (preVP hG hS hZ hP hD [] rfl rfl (ci := 4) (q0 := k18) rfl e19) rfl rfl hl.1 rfl (lv_room (Nat.le_of_ble_eq_true rfl)) dX0_strokesDue_59 ⟨Nat.le_of_ble_eq_true rfl, Nat.le_of_ble_eq_true rfl⟩) hP hD hS hA [] rfl rfl rfl (fun H locs hP hD hS => ?_)
        have hP : va_P D vwCl (([(h0, .inr (5, [.ref h1, .ref h3, .ref h4, .int sfrom, .int sto, .int quar])), (h1, .inr (3, [.int dmod, .ref h2, .int dsz])), (h3, .inl (cy 2, 24, .inr (.inr (.inr (.inr tunes))))), (h4, .inl (cy 0, 9, .inl strk))] : va_W) ++ va_pl L (plF cy K te le tb mb wr nu ro pn rw dr)) H := hP
        have hD : va_D A (([(h0, .inr (5, [.ref h1, .ref h3, .ref h4, .int sfrom, .int sto, .int quar])), (h1, .inr (3, [.int dmod, .ref h2, .int dsz])), (h3, .inl (cy 2, 24, .inr (.inr (.inr (.inr tunes))))), (h4, .inl (cy 0, 9, .inl strk))] : va_W) ++ va_pl L (plF cy K te le tb mb wr nu ro pn rw dr)) := hD
        exact J62 v20.1 v15.1 _ _ hP hD hS _ (lv_sub hl [] rfl) hf
    · rw [if_neg c8] at hf
      refine lv_aload_n hx hb dX0_strokesDue_24 rfl (lv_at hl 2 rfl) ?_
      refine va_get (D := D) (ci := 5) (v := .int quar) (C := RX0) (T := TX0) (N := 6) hx hb hts in_X0 hown hK hP 0 rfl rfl 5 (by decide) (hts _ k_257) (fun _ h9 => h9) rfl dX0_strokesDue_25 ?_
      refine lv_if_eq (tgt := 35) hx hb dX0_strokesDue_28 (by decide) (fun c22 => ?_) (fun c22 => ?_)
      · rw [if_pos c22] at hf
        refine lv_iconst (v := (0 : Int32)) hx hb dX0_strokesDue_35 (by decide) ?_
        exact J36 (0 : Int32) _ _ hP hD hS _ (lv_sub hl [] rfl) hf
      · rw [if_neg c22] at hf
        refine lv_iload_n hx hb dX0_strokesDue_31 rfl (lv_at hl 0 rfl) ?_
        refine lv_goto (tgt := 36) hx hb dX0_strokesDue_32 (by decide) ?_
        exact J36 v6.1 _ _ hP hD hS _ (lv_sub hl [] rfl) hf
  · rw [if_neg c5] at hf
    refine lv_iconst (v := (0 : Int32)) hx hb dX0_strokesDue_13 (by decide) ?_
    obtain rfl := Option.some.inj hf
    exact W.iret (v := (0 : Int32)) hx hb hr (fun t ht _ => ⟨⟨(0 : Int32), (), rfl, rfl, by rw [ht]; exact hP, hD⟩, hS.F ht⟩) hS.2.2 dX0_strokesDue_14
noncomputable def X0_ring_b59 (b59_1 : (Nat → Int32)) : Option ((Nat → Int32)) := some b59_1
noncomputable def X0_ring_f (N : Nat) (tunes : Nat → Option Nat) (strk : Nat → Int32) (L : List Nat) (K : Nat → Nat) (ro : Nat → Nat) (rw : Nat → Nat → Int32) (p0 : Int32) : Option ((Nat → Int32)) := (X0_quarterOf_f p0).bind fun v1 => (if v1.1 ≤ (0 : Int32) then (X8_hourOf_f p0).bind fun v4 => (X0_strokesOfHour_f v4.1).bind fun v6 => (X0_tuneOrNull_f tunes v4.1).bind fun v8 => (optE v8.1 (X0_ring_b59 (upd strk (0 : Int32).toNatClampNeg ((strk (0 : Int32).toNatClampNeg) + v6.1))) (fun a10 => if (a10 ∈ L ∧ K a10 = 1) then (X2_play_f N a10 (upd strk (0 : Int32).toNatClampNeg ((strk (0 : Int32).toNatClampNeg) + v6.1)) L K ro rw).bind fun v15 => X0_ring_b59 v15 else none)) else some (upd strk (1 : Int32).toNatClampNeg ((strk (1 : Int32).toNatClampNeg) + v1.1)))
set_option maxHeartbeats 4000000 in
set_option maxRecDepth 100000 in
theorem c_X0_ring (l : Launch) (D : va_G) (cy : Nat → ClassId) (sa : Nat → Nat) (z0 sz : Nat) (h0 : Nat) (h1 : Nat) (h3 : Nat) (h4 : Nat) (sfrom : Int32) (sto : Int32) (quar : Int32) (dmod : Int32) (h2 : Nat) (dsz : Int32) (tunes : Nat → Option Nat) (strk : Nat → Int32) (L : List Nat) (K : Nat → Nat) (te : Nat → Int32) (le : Nat → Int32) (tb : Nat → Int32) (mb : Nat → Int64) (wr : Nat → Int64) (nu : Nat → Int32) (ro : Nat → Nat) (pn : Nat → Int32) (rw : Nat → Nat → Int32) (dr : Nat → Nat → Option Nat) (p0 : Int32) (N : Nat) (o : ((Nat → Int32))) (ho : X0_ring_f N tunes strk L K ro rw p0 = some o) : Met l yX0_ring (ws_ yX0_ring cX0_ring 5 none) ({ frames := 2, cells := 0, slots := 0, locals := 45 } : Room) (va_Pc [.ref h0, .int p0] (Pr D cy sa z0 (([(h0, .inr (5, [.ref h1, .ref h3, .ref h4, .int sfrom, .int sto, .int quar])), (h1, .inr (3, [.int dmod, .ref h2, .int dsz])), (h3, .inl (cy 2, 24, .inr (.inr (.inr (.inr tunes))))), (h4, .inl (cy 0, 9, .inl strk))] : va_W) ++ va_pl L (plF cy K te le tb mb wr nu ro pn rw dr)) sz)) (QV D o (fun u => (([(h0, .inr (5, [.ref h1, .ref h3, .ref h4, .int sfrom, .int sto, .int quar])), (h1, .inr (3, [.int dmod, .ref h2, .int dsz])), (h3, .inl (cy 2, 24, .inr (.inr (.inr (.inr tunes))))), (h4, .inl (cy 0, 9, .inl u))] : va_W) ++ va_pl L (plF cy K te le tb mb wr nu ro pn rw dr))) (va_A (([(h0, .inr (5, [.ref h1, .ref h3, .ref h4, .int sfrom, .int sto, .int quar])), (h1, .inr (3, [.int dmod, .ref h2, .int dsz])), (h3, .inl (cy 2, 24, .inr (.inr (.inr (.inr tunes))))), (h4, .inl (cy 0, 9, .inl strk))] : va_W) ++ va_pl L (plF cy K te le tb mb wr nu ro pn rw dr)) sz)) 0 0 (va_A (([(h0, .inr (5, [.ref h1, .ref h3, .ref h4, .int sfrom, .int sto, .int quar])), (h1, .inr (3, [.int dmod, .ref h2, .int dsz])), (h3, .inl (cy 2, 24, .inr (.inr (.inr (.inr tunes))))), (h4, .inl (cy 0, 9, .inl strk))] : va_W) ++ va_pl L (plF cy K te le tb mb wr nu ro pn rw dr)) sz) := by
  refine MT (Qf := QV D o (fun u => (([(h0, .inr (5, [.ref h1, .ref h3, .ref h4, .int sfrom, .int sto, .int quar])), (h1, .inr (3, [.int dmod, .ref h2, .int dsz])), (h3, .inl (cy 2, 24, .inr (.inr (.inr (.inr tunes))))), (h4, .inl (cy 0, 9, .inl u))] : va_W) ++ va_pl L (plF cy K te le tb mb wr nu ro pn rw dr)))) (plainFor_of_name (by decide +kernel)) (Nat.le_of_ble_eq_true rfl) ?_
  intro p e s m below meth c A ls H hx hb hml hr hlocks hown hnm hts hG hA hZ hP hD hS hl
  have hK := hG.K
  have hl : lv_has ls 5 [(0, .ref h0), (1, .int p0)] := hl
  have hf : X0_ring_f N tunes strk L K ro rw p0 = some o := ho
  clear ho
  unfold X0_ring_f at hf
  have J59 : ∀ (b59_1 : (Nat → Int32)), ∀ (H : Heap) (locs : List Loc), va_P D vwCl (([(h0, .inr (5, [.ref h1, .ref h3, .ref h4, .int sfrom, .int sto, .int quar])), (h1, .inr (3, [.int dmod, .ref h2, .int dsz])), (h3, .inl (cy 2, 24, .inr (.inr (.inr (.inr tunes))))), (h4, .inl (cy 0, 9, .inl b59_1))] : va_W) ++ va_pl L (plF cy K te le tb mb wr nu ro pn rw dr)) H → va_D A (([(h0, .inr (5, [.ref h1, .ref h3, .ref h4, .int sfrom, .int sto, .int quar])), (h1, .inr (3, [.int dmod, .ref h2, .int dsz])), (h3, .inl (cy 2, 24, .inr (.inr (.inr (.inr tunes))))), (h4, .inl (cy 0, 9, .inl b59_1))] : va_W) ++ va_pl L (plF cy K te le tb mb wr nu ro pn rw dr)) → va_S A s.heap H locs → ∀ (ls : Array Slot), lv_has ls 5 [] → X0_ring_b59 b59_1 = some o → W p l e ({ frames := 2, cells := 0, slots := 0, locals := 45 } : Room) s m ([.ref h0, .int p0] : List Value).toArray below meth c H locs 0 0 (MQ below (QV D o (fun u => (([(h0, .inr (5, [.ref h1, .ref h3, .ref h4, .int sfrom, .int sto, .int quar])), (h1, .inr (3, [.int dmod, .ref h2, .int dsz])), (h3, .inl (cy 2, 24, .inr (.inr (.inr (.inr tunes))))), (h4, .inl (cy 0, 9, .inl u))] : va_W) ++ va_pl L (plF cy K te le tb mb wr nu ro pn rw dr))) A) ([.ref h0, .int p0] : List Value).toArray s 0 0 A) (F0 m 59 ls []) := by
    intro b59_1 H locs hP hD hS ls hl hf
    unfold X0_ring_b59 at hf
    obtain rfl := Option.some.inj hf
    exact W.vret hx hb hr (fun t ht _ => ⟨⟨b59_1, rfl, rfl, by rw [ht]; exact hP, hD⟩, hS.F ht⟩) hS.2.2 dX0_ring_59
  refine lv_iload_n hx hb dX0_ring_0 rfl (lv_at hl 1 rfl) ?_
  obtain ⟨v1, e2, hf⟩ := bind_some' hf
  refine cl_i (va_runS (As := [.int p0]) (rest := []) ⟨hx, hb, hml, hown, hts⟩ (c_X0_quarterOf l D cy sa z0 H.size p0 _ e2) (va_cwS 1 hts (lw_gS k_738 k_739 k_48 k_740) rfl rfl rfl (by decide +kernel) ⟨Nat.le_of_ble_eq_true rfl, Nat.le_of_ble_eq_true rfl⟩) (preS hG hS hZ hP hD [] rfl rfl) rfl rfl hl.1 rfl (lv_room (Nat.le_of_ble_eq_true rfl)) dX0_ring_1 ⟨Nat.le_of_ble_eq_true rfl, Nat.le_of_ble_eq_true rfl⟩) hP hD hS hA [] rfl rfl rfl (fun H locs hP hD hS => ?_)
  have hP : va_P D vwCl (([(h0, .inr (5, [.ref h1, .ref h3, .ref h4, .int sfrom, .int sto, .int quar])), (h1, .inr (3, [.int dmod, .ref h2, .int dsz])), (h3, .inl (cy 2, 24, .inr (.inr (.inr (.inr tunes))))), (h4, .inl (cy 0, 9, .inl strk))] : va_W) ++ va_pl L (plF cy K te le tb mb wr nu ro pn rw dr)) H := hP
  have hD : va_D A (([(h0, .inr (5, [.ref h1, .ref h3, .ref h4, .int sfrom, .int sto, .int quar])), (h1, .inr (3, [.int dmod, .ref h2, .int dsz])), (h3, .inl (cy 2, 24, .inr (.inr (.inr (.inr tunes))))), (h4, .inl (cy 0, 9, .inl strk))] : va_W) ++ va_pl L (plF cy K te le tb mb wr nu ro pn rw dr)) := hD
  refine lv_istore_n (lv' := [(2, .int v1.1), (0, .ref h0), (1, .int p0)]) hx hb dX0_ring_4 rfl hl (by decide) rfl (fun ls hl => ?_)
  refine lv_iload_n hx hb dX0_ring_5 rfl (lv_at hl 0 rfl) ?_
  refine lv_if_le (tgt := 20) hx hb dX0_ring_6 (by decide) (fun c3 => ?_) (fun c3 => ?_)
  · rw [if_pos c3] at hf
    refine lv_iload_n hx hb dX0_ring_20 rfl (lv_at hl 2 rfl) ?_
    obtain ⟨v4, e5, hf⟩ := bind_some' hf
    refine cl_i (va_runSN (As := [.int p0]) (rest := []) ⟨hx, hb, hml, hown, hts⟩ (c_X8_hourOf l D cy sa z0 H.size p0 _ e5) ⟨va_cnB 1 hts (lw_gd k_733) rfl rfl rfl (amb_N (w := Cond.methodLinkNest RX0 64 yX8_hourOf RX8) hG (List.mem_of_getElem? (i := 731) (by decide +kernel)) rfl rfl) (hts _ k_36) (by decide +kernel) ⟨Nat.le_of_ble_eq_true rfl, Nat.le_of_ble_eq_true rfl⟩, hts _ k_732, trivial⟩ (preS hG hS hZ hP hD [] rfl rfl) rfl rfl hl.1 rfl (lv_room (Nat.le_of_ble_eq_true rfl)) dX0_ring_21 ⟨Nat.le_of_ble_eq_true rfl, Nat.le_of_ble_eq_true rfl⟩) hP hD hS hA [] rfl rfl rfl (fun H locs hP hD hS => ?_)
    have hP : va_P D vwCl (([(h0, .inr (5, [.ref h1, .ref h3, .ref h4, .int sfrom, .int sto, .int quar])), (h1, .inr (3, [.int dmod, .ref h2, .int dsz])), (h3, .inl (cy 2, 24, .inr (.inr (.inr (.inr tunes))))), (h4, .inl (cy 0, 9, .inl strk))] : va_W) ++ va_pl L (plF cy K te le tb mb wr nu ro pn rw dr)) H := hP
    have hD : va_D A (([(h0, .inr (5, [.ref h1, .ref h3, .ref h4, .int sfrom, .int sto, .int quar])), (h1, .inr (3, [.int dmod, .ref h2, .int dsz])), (h3, .inl (cy 2, 24, .inr (.inr (.inr (.inr tunes))))), (h4, .inl (cy 0, 9, .inl strk))] : va_W) ++ va_pl L (plF cy K te le tb mb wr nu ro pn rw dr)) := hD
    refine lv_istore_n (lv' := [(3, .int v4.1), (2, .int v1.1), (0, .ref h0), (1, .int p0)]) hx hb dX0_ring_24 rfl hl (by decide) rfl (fun ls hl => ?_)
    refine lv_aload_n hx hb dX0_ring_25 rfl (lv_at hl 2 rfl) ?_
    refine va_get (D := D) (ci := 5) (v := .ref h4) (C := RX0) (T := TX0) (N := 6) hx hb hts in_X0 hown hK hP 0 rfl rfl 2 (by decide) (hts _ k_254) (fun _ h9 => h9) rfl dX0_ring_26 ?_
    refine lv_iconst (v := (0 : Int32)) hx hb dX0_ring_29 (by decide) ?_
    refine lv_dup2_11 hx hb dX0_ring_30 rfl rfl ?_
    refine va_iald hx hb hK hP 3 0 rfl rfl (by unfold vp_in; decide) dX0_ring_31 ?_
    refine lv_iload_n hx hb dX0_ring_32 rfl (lv_at hl 0 rfl) ?_
    obtain ⟨v6, e7, hf⟩ := bind_some' hf
    refine cl_i (va_runS (As := [.int v4.1]) (rest := [.int (strk (0 : Int32).toNatClampNeg), .int (0 : Int32), .ref h4]) ⟨hx, hb, hml, hown, hts⟩ (c_X0_strokesOfHour l D cy sa z0 H.size v4.1 _ e7) (va_cwS 1 hts (lw_gS k_746 k_747 k_48 k_748) rfl rfl rfl (by decide +kernel) ⟨Nat.le_of_ble_eq_true rfl, Nat.le_of_ble_eq_true rfl⟩) (preS hG hS hZ hP hD [] rfl rfl) rfl rfl hl.1 rfl (lv_room (Nat.le_of_ble_eq_true rfl)) dX0_ring_33 ⟨Nat.le_of_ble_eq_true rfl, Nat.le_of_ble_eq_true rfl⟩) hP hD hS hA [] rfl rfl rfl (fun H locs hP hD hS => ?_)
    have hP : va_P D vwCl (([(h0, .inr (5, [.ref h1, .ref h3, .ref h4, .int sfrom, .int sto, .int quar])), (h1, .inr (3, [.int dmod, .ref h2, .int dsz])), (h3, .inl (cy 2, 24, .inr (.inr (.inr (.inr tunes))))), (h4, .inl (cy 0, 9, .inl strk))] : va_W) ++ va_pl L (plF cy K te le tb mb wr nu ro pn rw dr)) H := hP
    have hD : va_D A (([(h0, .inr (5, [.ref h1, .ref h3, .ref h4, .int sfrom, .int sto, .int quar])), (h1, .inr (3, [.int dmod, .ref h2, .int dsz])), (h3, .inl (cy 2, 24, .inr (.inr (.inr (.inr tunes))))), (h4, .inl (cy 0, 9, .inl strk))] : va_W) ++ va_pl L (plF cy K te le tb mb wr nu ro pn rw dr)) := hD
    refine lv_iadd hx hb dX0_ring_36 ?_
    refine va_iast hx hb hK hP hD hS 3 0 rfl rfl (by unfold vp_in; decide) dX0_ring_37 (fun H locs hP hD hS => ?_)
    have hP : va_P D vwCl (([(h0, .inr (5, [.ref h1, .ref h3, .ref h4, .int sfrom, .int sto, .int quar])), (h1, .inr (3, [.int dmod, .ref h2, .int dsz])), (h3, .inl (cy 2, 24, .inr (.inr (.inr (.inr tunes))))), (h4, .inl (cy 0, 9, .inl (upd strk (0 : Int32).toNatClampNeg ((strk (0 : Int32).toNatClampNeg) + v6.1))))] : va_W) ++ va_pl L (plF cy K te le tb mb wr nu ro pn rw dr)) H := hP
    have hD : va_D A (([(h0, .inr (5, [.ref h1, .ref h3, .ref h4, .int sfrom, .int sto, .int quar])), (h1, .inr (3, [.int dmod, .ref h2, .int dsz])), (h3, .inl (cy 2, 24, .inr (.inr (.inr (.inr tunes))))), (h4, .inl (cy 0, 9, .inl (upd strk (0 : Int32).toNatClampNeg ((strk (0 : Int32).toNatClampNeg) + v6.1))))] : va_W) ++ va_pl L (plF cy K te le tb mb wr nu ro pn rw dr)) := hD
    refine lv_aload_n hx hb dX0_ring_38 rfl (lv_at hl 2 rfl) ?_
    refine lv_iload_n hx hb dX0_ring_39 rfl (lv_at hl 0 rfl) ?_
    obtain ⟨v8, e9, hf⟩ := bind_some' hf
    refine clP_q (va_runV (As := [.int v4.1]) (rest := []) ⟨hx, hb, hml, hown, hts⟩ (c_X0_tuneOrNull l D cy sa z0 H.size h0 h1 h3 h4 sfrom sto quar dmod h2 dsz tunes (upd strk (0 : Int32).toNatClampNeg ((strk (0 : Int32).toNatClampNeg) + v6.1)) L K te le tb mb wr nu ro pn rw dr v4.1 _ e9) (cwV 1 hts (lw_gV k_742 k_744 k_13 k_48 k_745) rfl rfl rfl (by decide +kernel) ⟨Nat.le_of_ble_eq_true rfl, Nat.le_of_ble_eq_true rfl⟩) (preVP hG hS hZ hP hD [0, 1, 2, 3] rfl rfl (ci := 5) (q0 := 0) rfl rfl) rfl rfl hl.1 rfl (lv_room (Nat.le_of_ble_eq_true rfl)) dX0_ring_40 ⟨Nat.le_of_ble_eq_true rfl, Nat.le_of_ble_eq_true rfl⟩) hP hD hS hA [0, 1, 2, 3] rfl rfl rfl (fun H locs hP hD hS => ?_)
    have hP : va_P D vwCl (([(h0, .inr (5, [.ref h1, .ref h3, .ref h4, .int sfrom, .int sto, .int quar])), (h1, .inr (3, [.int dmod, .ref h2, .int dsz])), (h3, .inl (cy 2, 24, .inr (.inr (.inr (.inr tunes))))), (h4, .inl (cy 0, 9, .inl (upd strk (0 : Int32).toNatClampNeg ((strk (0 : Int32).toNatClampNeg) + v6.1))))] : va_W) ++ va_pl L (plF cy K te le tb mb wr nu ro pn rw dr)) H := hP
    have hD : va_D A (([(h0, .inr (5, [.ref h1, .ref h3, .ref h4, .int sfrom, .int sto, .int quar])), (h1, .inr (3, [.int dmod, .ref h2, .int dsz])), (h3, .inl (cy 2, 24, .inr (.inr (.inr (.inr tunes))))), (h4, .inl (cy 0, 9, .inl (upd strk (0 : Int32).toNatClampNeg ((strk (0 : Int32).toNatClampNeg) + v6.1))))] : va_W) ++ va_pl L (plF cy K te le tb mb wr nu ro pn rw dr)) := hD
    rcases optE_cases hf with ⟨e11, hf⟩ | ⟨a10, e11, hf⟩
    · simp only [e11, va_rf_none] at hl ⊢
      refine lv_astoreN (lv' := [(4, .null), (3, .int v4.1), (2, .int v1.1), (0, .ref h0), (1, .int p0)]) hx hb dX0_ring_43 hl (by decide) rfl (fun ls hl => ?_)
      refine lv_aloadN hx hb dX0_ring_45 (lv_at hl 0 rfl) ?_
      refine lv_ifnullN (tgt := 59) hx hb dX0_ring_47 (by decide) ?_
      exact J59 (upd strk (0 : Int32).toNatClampNeg ((strk (0 : Int32).toNatClampNeg) + v6.1)) _ _ hP hD hS _ (lv_sub hl [] rfl) hf
    · simp only [e11, va_rf_some] at hl ⊢
      refine lv_astore (lv' := [(4, .ref a10), (3, .int v4.1), (2, .int v1.1), (0, .ref h0), (1, .int p0)]) hx hb dX0_ring_43 hl (by decide) rfl (fun ls hl => ?_)
      refine lv_aload hx hb dX0_ring_45 (lv_at hl 0 rfl) ?_
      refine lv_ifnull hx hb dX0_ring_47 ?_
      refine lv_aload hx hb dX0_ring_50 (lv_at hl 0 rfl) ?_
      refine lv_aload_n hx hb dX0_ring_52 rfl (lv_at hl 3 rfl) ?_
      refine va_get (D := D) (ci := 5) (v := .ref h4) (C := RX0) (T := TX0) (N := 6) hx hb hts in_X0 hown hK hP 0 rfl rfl 2 (by decide) (hts _ k_254) (fun _ h9 => h9) rfl dX0_ring_53 ?_
      obtain ⟨g12, hf⟩ := ite_some' hf
      obtain ⟨k13, e14⟩ := pl_1 (cy := cy) (te := te) (le := le) (tb := tb) (mb := mb) (wr := wr) (nu := nu) (ro := ro) (pn := pn) (rw := rw) (dr := dr) (X := [(h0, .inr (5, [.ref h1, .ref h3, .ref h4, .int sfrom, .int sto, .int quar])), (h1, .inr (3, [.int dmod, .ref h2, .int dsz])), (h3, .inl (cy 2, 24, .inr (.inr (.inr (.inr tunes))))), (h4, .inl (cy 0, 9, .inl (upd strk (0 : Int32).toNatClampNeg ((strk (0 : Int32).toNatClampNeg) + v6.1))))]) g12.1 g12.2
      obtain ⟨v15, e16, hf⟩ := bind_some' hf
      refine clP_v (va_runV (As := [.ref h4]) (rest := []) ⟨hx, hb, hml, hown, hts⟩ (c_X2_play l D cy sa z0 H.size a10 h4 (upd strk (0 : Int32).toNatClampNeg ((strk (0 : Int32).toNatClampNeg) + v6.1)) L K te le tb mb wr nu ro pn rw dr N _ e16) (cwV 1 hts (lw_gV k_757 k_758 k_759 k_63 k_760) rfl rfl rfl (by decide +kernel) ⟨Nat.le_of_ble_eq_true rfl, Nat.le_of_ble_eq_true rfl⟩) (preVP hG hS hZ hP hD [3] rfl rfl (ci := 4) (q0 := k13) rfl e14) rfl rfl hl.1 rfl (lv_room (Nat.le_of_ble_eq_true rfl)) dX0_ring_56 ⟨Nat.le_of_ble_eq_true rfl, Nat.le_of_ble_eq_true rfl⟩) hP hD hS hA [3] rfl rfl rfl (fun H locs hP hD hS => ?_)
      have hP : va_P D vwCl (([(h0, .inr (5, [.ref h1, .ref h3, .ref h4, .int sfrom, .int sto, .int quar])), (h1, .inr (3, [.int dmod, .ref h2, .int dsz])), (h3, .inl (cy 2, 24, .inr (.inr (.inr (.inr tunes))))), (h4, .inl (cy 0, 9, .inl v15))] : va_W) ++ va_pl L (plF cy K te le tb mb wr nu ro pn rw dr)) H := hP
      have hD : va_D A (([(h0, .inr (5, [.ref h1, .ref h3, .ref h4, .int sfrom, .int sto, .int quar])), (h1, .inr (3, [.int dmod, .ref h2, .int dsz])), (h3, .inl (cy 2, 24, .inr (.inr (.inr (.inr tunes))))), (h4, .inl (cy 0, 9, .inl v15))] : va_W) ++ va_pl L (plF cy K te le tb mb wr nu ro pn rw dr)) := hD
      exact J59 v15 _ _ hP hD hS _ (lv_sub hl [] rfl) hf
  · rw [if_neg c3] at hf
    refine lv_aload_n hx hb dX0_ring_9 rfl (lv_at hl 1 rfl) ?_
    refine va_get (D := D) (ci := 5) (v := .ref h4) (C := RX0) (T := TX0) (N := 6) hx hb hts in_X0 hown hK hP 0 rfl rfl 2 (by decide) (hts _ k_254) (fun _ h9 => h9) rfl dX0_ring_10 ?_
    refine lv_iconst (v := (1 : Int32)) hx hb dX0_ring_13 (by decide) ?_
    refine lv_dup2_11 hx hb dX0_ring_14 rfl rfl ?_
    refine va_iald hx hb hK hP 3 0 rfl rfl (by unfold vp_in; decide) dX0_ring_15 ?_
    refine lv_iload_n hx hb dX0_ring_16 rfl (lv_at hl 0 rfl) ?_
    refine lv_iadd hx hb dX0_ring_17 ?_
    refine va_iast hx hb hK hP hD hS 3 0 rfl rfl (by unfold vp_in; decide) dX0_ring_18 (fun H locs hP hD hS => ?_)
    have hP : va_P D vwCl (([(h0, .inr (5, [.ref h1, .ref h3, .ref h4, .int sfrom, .int sto, .int quar])), (h1, .inr (3, [.int dmod, .ref h2, .int dsz])), (h3, .inl (cy 2, 24, .inr (.inr (.inr (.inr tunes))))), (h4, .inl (cy 0, 9, .inl (upd strk (1 : Int32).toNatClampNeg ((strk (1 : Int32).toNatClampNeg) + v1.1))))] : va_W) ++ va_pl L (plF cy K te le tb mb wr nu ro pn rw dr)) H := hP
    have hD : va_D A (([(h0, .inr (5, [.ref h1, .ref h3, .ref h4, .int sfrom, .int sto, .int quar])), (h1, .inr (3, [.int dmod, .ref h2, .int dsz])), (h3, .inl (cy 2, 24, .inr (.inr (.inr (.inr tunes))))), (h4, .inl (cy 0, 9, .inl (upd strk (1 : Int32).toNatClampNeg ((strk (1 : Int32).toNatClampNeg) + v1.1))))] : va_W) ++ va_pl L (plF cy K te le tb mb wr nu ro pn rw dr)) := hD
    obtain rfl := Option.some.inj hf
    exact W.vret hx hb hr (fun t ht _ => ⟨⟨(upd strk (1 : Int32).toNatClampNeg ((strk (1 : Int32).toNatClampNeg) + v1.1)), rfl, rfl, by rw [ht]; exact hP, hD⟩, hS.F ht⟩) hS.2.2 dX0_ring_19
