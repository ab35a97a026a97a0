noncomputable def X2_ownNumber_f (w0 : Nat) (L : List Nat) (K : Nat → Nat) (nu : Nat → Int32) : Option (Int32 × Unit) := if (w0 ∈ L ∧ K w0 = 1) then some ((nu w0), ()) else none
set_option maxHeartbeats 4000000 in
set_option maxRecDepth 100000 in
theorem c_X2_ownNumber (l : Launch) (D : va_G) (cy : Nat → ClassId) (sa : Nat → Nat) (z0 sz : Nat) (w0 : Nat) (L : List Nat) (K : Nat → Nat) (te : Nat → Int32) (le : Nat → Int32) (tb : Nat → Int32) (mb : Nat → Int64) (wr : Nat → Int64) (nu : Nat → Int32) (ro : Nat → Nat) (pn : Nat → Int32) (rw : Nat → Nat → Int32) (dr : Nat → Nat → Option Nat) (o : (Int32 × Unit)) (ho : X2_ownNumber_f w0 L K nu = some o) : Met l yX2_ownNumber (ws_ yX2_ownNumber cX2_ownNumber 1 (some .int)) ({ frames := 0, cells := 0, slots := 0, locals := 0 } : Room) (va_Pc [.ref w0] (Pr D cy sa z0 (([] : va_W) ++ va_pl L (plF cy K te le tb mb wr nu ro pn rw dr)) sz)) (QI D o (fun u => (([] : va_W) ++ va_pl L (plF cy K te le tb mb wr nu ro pn rw dr))) (va_A (([] : va_W) ++ va_pl L (plF cy K te le tb mb wr nu ro pn rw dr)) sz)) 0 0 (va_A (([] : va_W) ++ va_pl L (plF cy K te le tb mb wr nu ro pn rw dr)) sz) := by
  refine MT (Qf := QI D o (fun u => (([] : va_W) ++ va_pl L (plF cy K te le tb mb wr nu ro pn rw dr)))) (plainFor_of_name (by decide +kernel)) (Nat.le_of_ble_eq_true rfl) ?_
  intro p e s m below meth c A ls H hx hb hml hr hlocks hown hnm hts hG hA hZ hP hD hS hl
  have hK := hG.K
  have hl : lv_has ls 1 [(0, .ref w0)] := hl
  have hf : X2_ownNumber_f w0 L K nu = some o := ho
  clear ho
  unfold X2_ownNumber_f at hf
  refine lv_aload_n hx hb dX2_ownNumber_0 rfl (lv_at hl 0 rfl) ?_
  obtain ⟨g1, hf⟩ := ite_some' hf
  obtain ⟨k2, e3⟩ := pl_1 (cy := cy) (te := te) (le := le) (tb := tb) (mb := mb) (wr := wr) (nu := nu) (ro := ro) (pn := pn) (rw := rw) (dr := dr) (X := []) g1.1 g1.2
  refine va_get (D := D) (ci := 6) (v := .int (nu w0)) (C := RX2) (T := TX2) (N := 3) hx hb hts in_X2 hown hK hP k2 e3 rfl 0 (by decide) (hts _ k_835) (fun _ h9 => h9) rfl dX2_ownNumber_1 ?_
  obtain rfl := Option.some.inj hf
  exact W.iret (v := (nu w0)) hx hb hr (fun t ht _ => ⟨⟨(nu w0), (), rfl, rfl, by rw [ht]; exact hP, hD⟩, hS.F ht⟩) hS.2.2 dX2_ownNumber_4
noncomputable def X2_pinCount_f (w0 : Nat) (L : List Nat) (K : Nat → Nat) (pn : Nat → Int32) : Option (Int32 × Unit) := if (w0 ∈ L ∧ K w0 = 1) then some ((pn w0), ()) else none
set_option maxHeartbeats 4000000 in
set_option maxRecDepth 100000 in
theorem c_X2_pinCount (l : Launch) (D : va_G) (cy : Nat → ClassId) (sa : Nat → Nat) (z0 sz : Nat) (w0 : Nat) (L : List Nat) (K : Nat → Nat) (te : Nat → Int32) (le : Nat → Int32) (tb : Nat → Int32) (mb : Nat → Int64) (wr : Nat → Int64) (nu : Nat → Int32) (ro : Nat → Nat) (pn : Nat → Int32) (rw : Nat → Nat → Int32) (dr : Nat → Nat → Option Nat) (o : (Int32 × Unit)) (ho : X2_pinCount_f w0 L K pn = some o) : Met l yX2_pinCount (ws_ yX2_pinCount cX2_pinCount 1 (some .int)) ({ frames := 0, cells := 0, slots := 0, locals := 0 } : Room) (va_Pc [.ref w0] (Pr D cy sa z0 (([] : va_W) ++ va_pl L (plF cy K te le tb mb wr nu ro pn rw dr)) sz)) (QI D o (fun u => (([] : va_W) ++ va_pl L (plF cy K te le tb mb wr nu ro pn rw dr))) (va_A (([] : va_W) ++ va_pl L (plF cy K te le tb mb wr nu ro pn rw dr)) sz)) 0 0 (va_A (([] : va_W) ++ va_pl L (plF cy K te le tb mb wr nu ro pn rw dr)) sz) := by
  refine MT (Qf := QI D o (fun u => (([] : va_W) ++ va_pl L (plF cy K te le tb mb wr nu ro pn rw dr)))) (plainFor_of_name (by decide +kernel)) (Nat.le_of_ble_eq_true rfl) ?_
  intro p e s m below meth c A ls H hx hb hml hr hlocks hown hnm hts hG hA hZ hP hD hS hl
  have hK := hG.K
  have hl : lv_has ls 1 [(0, .ref w0)] := hl
  have hf : X2_pinCount_f w0 L K pn = some o := ho
  clear ho
  unfold X2_pinCount_f at hf
  refine lv_aload_n hx hb dX2_pinCount_0 rfl (lv_at hl 0 rfl) ?_
  obtain ⟨g1, hf⟩ := ite_some' hf
  obtain ⟨k2, e3⟩ := pl_1 (cy := cy) (te := te) (le := le) (tb := tb) (mb := mb) (wr := wr) (nu := nu) (ro := ro) (pn := pn) (rw := rw) (dr := dr) (X := []) g1.1 g1.2
  refine va_get (D := D) (ci := 6) (v := .int (pn w0)) (C := RX2) (T := TX2) (N := 3) hx hb hts in_X2 hown hK hP k2 e3 rfl 2 (by decide) (hts _ k_837) (fun _ h9 => h9) rfl dX2_pinCount_1 ?_
  obtain rfl := Option.some.inj hf
  exact W.iret (v := (pn w0)) hx hb hr (fun t ht _ => ⟨⟨(pn w0), (), rfl, rfl, by rw [ht]; exact hP, hD⟩, hS.F ht⟩) hS.2.2 dX2_pinCount_4
noncomputable def X2_hasPin_b32 (b32_1 : Int32) : Option (Int32 × Unit) := if b32_1 &&& 1 = b32_1 then some (b32_1, ()) else none
noncomputable def X2_hasPin_b31 : Option (Int32 × Unit) := X2_hasPin_b32 (0 : Int32)
noncomputable def X2_hasPin_f (w0 : Nat) (L : List Nat) (K : Nat → Nat) (ro : Nat → Nat) (rw : Nat → Nat → Int32) (p0 : Int32) (p1 : Int32) : Option (Int32 × Unit) := (if p0 < (0 : Int32) then X2_hasPin_b31 else if (w0 ∈ L ∧ K w0 = 1) then if ((ro w0) ∈ L ∧ K (ro w0) = 2) then (if (32 : Int32) ≤ p0 then X2_hasPin_b31 else if ¬ (p0 < 0 ∨ 32 ≤ p0.toNatClampNeg) then (if (((rw (ro w0) p0.toNatClampNeg) >>> (p1 &&& 31)) &&& (1 : Int32)) = (1 : Int32) then X2_hasPin_b32 (1 : Int32) else X2_hasPin_b31) else none) else none else none)
set_option maxHeartbeats 4000000 in
set_option maxRecDepth 100000 in
theorem c_X2_hasPin (l : Launch) (D : va_G) (cy : Nat → ClassId) (sa : Nat → Nat) (z0 sz : Nat) (w0 : Nat) (L : List Nat) (K : Nat → Nat) (te : Nat → Int32) (le : Nat → Int32) (tb : Nat → Int32) (mb : Nat → Int64) (wr : Nat → Int64) (nu : Nat → Int32) (ro : Nat → Nat) (pn : Nat → Int32) (rw : Nat → Nat → Int32) (dr : Nat → Nat → Option Nat) (p0 : Int32) (p1 : Int32) (o : (Int32 × Unit)) (ho : X2_hasPin_f w0 L K ro rw p0 p1 = some o) : Met l yX2_hasPin (ws_ yX2_hasPin cX2_hasPin 3 (some .boolean)) ({ frames := 0, cells := 0, slots := 0, locals := 0 } : Room) (va_Pc [.ref w0, .int p0, .int p1] (Pr D cy sa z0 (([] : va_W) ++ va_pl L (plF cy K te le tb mb wr nu ro pn rw dr)) sz)) (QI D o (fun u => (([] : va_W) ++ va_pl L (plF cy K te le tb mb wr nu ro pn rw dr))) (va_A (([] : va_W) ++ va_pl L (plF cy K te le tb mb wr nu ro pn rw dr)) sz)) 0 0 (va_A (([] : va_W) ++ va_pl L (plF cy K te le tb mb wr nu ro pn rw dr)) sz) := by
  refine MT (Qf := QI D o (fun u => (([] : va_W) ++ va_pl L (plF cy K te le tb mb wr nu ro pn rw dr)))) (plainFor_of_name (by decide +kernel)) (Nat.le_of_ble_eq_true rfl) ?_
  intro p e s m below meth c A ls H hx hb hml hr hlocks hown hnm hts hG hA hZ hP hD hS hl
  have hK := hG.K
  have hl : lv_has ls 3 [(0, .ref w0), (1, .int p0), (2, .int p1)] := hl
  have hf : X2_hasPin_f w0 L K ro rw p0 p1 = some o := ho
  clear ho
  unfold X2_hasPin_f at hf
  have J32 : ∀ (b32_1 : Int32), ∀ (H : Heap) (locs : List Loc), va_P D vwCl (([] : va_W) ++ va_pl L (plF cy K te le tb mb wr nu ro pn rw dr)) H → va_D A (([] : va_W) ++ va_pl L (plF cy K te le tb mb wr nu ro pn rw dr)) → va_S A s.heap H locs → ∀ (ls : Array Slot), lv_has ls 3 [] → X2_hasPin_b32 b32_1 = some o → W p l e ({ frames := 0, cells := 0, slots := 0, locals := 0 } : Room) s m ([.ref w0, .int p0, .int p1] : List Value).toArray below meth c H locs 0 0 (MQ below (QI D o (fun u => (([] : va_W) ++ va_pl L (plF cy K te le tb mb wr nu ro pn rw dr))) A) ([.ref w0, .int p0, .int p1] : List Value).toArray s 0 0 A) (F0 m 32 ls [.int b32_1]) := by
    intro b32_1 H locs hP hD hS ls hl hf
    unfold X2_hasPin_b32 at hf
    obtain ⟨g15, hf⟩ := ite_some' hf
    obtain rfl := Option.some.inj hf
    exact W.zret (v := b32_1) hx hb hr (zn_b g15) (fun t ht _ => ⟨⟨b32_1, (), rfl, rfl, by rw [ht]; exact hP, hD⟩, hS.F ht⟩) hS.2.2 dX2_hasPin_32
  have J31 : ∀ (H : Heap) (locs : List Loc), va_P D vwCl (([] : va_W) ++ va_pl L (plF cy K te le tb mb wr nu ro pn rw dr)) H → va_D A (([] : va_W) ++ va_pl L (plF cy K te le tb mb wr nu ro pn rw dr)) → va_S A s.heap H locs → ∀ (ls : Array Slot), lv_has ls 3 [] → X2_hasPin_b31 = some o → W p l e ({ frames := 0, cells := 0, slots := 0, locals := 0 } : Room) s m ([.ref w0, .int p0, .int p1] : List Value).toArray below meth c H locs 0 0 (MQ below (QI D o (fun u => (([] : va_W) ++ va_pl L (plF cy K te le tb mb wr nu ro pn rw dr))) A) ([.ref w0, .int p0, .int p1] : List Value).toArray s 0 0 A) (F0 m 31 ls []) := by
    intro  H locs hP hD hS ls hl hf
    unfold X2_hasPin_b31 at hf
    refine lv_iconst (v := (0 : Int32)) hx hb dX2_hasPin_31 (by decide) ?_
    exact J32 (0 : Int32) _ _ hP hD hS _ (lv_sub hl [] rfl) hf
  refine lv_iload_n hx hb dX2_hasPin_0 rfl (lv_at hl 1 rfl) ?_
  refine lv_if_lt (tgt := 31) hx hb dX2_hasPin_1 (by decide) (fun c1 => ?_) (fun c1 => ?_)
  · rw [if_pos c1] at hf
    exact J31  _ _ hP hD hS _ (lv_sub hl [] rfl) hf
  · rw [if_neg c1] at hf
    refine lv_iload_n hx hb dX2_hasPin_4 rfl (lv_at hl 1 rfl) ?_
    refine lv_aload_n hx hb dX2_hasPin_5 rfl (lv_at hl 0 rfl) ?_
    obtain ⟨g2, hf⟩ := ite_some' hf
    obtain ⟨k3, e4⟩ := pl_1 (cy := cy) (te := te) (le := le) (tb := tb) (mb := mb) (wr := wr) (nu := nu) (ro := ro) (pn := pn) (rw := rw) (dr := dr) (X := []) g2.1 g2.2
    refine va_get (D := D) (ci := 6) (v := .ref (ro w0)) (C := RX2) (T := TX2) (N := 3) hx hb hts in_X2 hown hK hP k3 e4 rfl 1 (by decide) (hts _ k_836) (fun _ h9 => h9) rfl dX2_hasPin_6 ?_
    obtain ⟨g5, hf⟩ := ite_some' hf
    obtain ⟨k6, e7⟩ := pl_2 (cy := cy) (te := te) (le := le) (tb := tb) (mb := mb) (wr := wr) (nu := nu) (ro := ro) (pn := pn) (rw := rw) (dr := dr) (X := []) g5.1 g5.2
    refine va_alen hx hb hK hP k6 0 e7 rfl (v := (32 : Int32)) (show Int32.ofNat 32 = 32 by decide) dX2_hasPin_9 ?_
    refine lv_icmp_ge (tgt := 31) hx hb dX2_hasPin_10 (by decide) (fun c8 => ?_) (fun c8 => ?_)
    · rw [if_pos c8] at hf
      exact J31  _ _ hP hD hS _ (lv_sub hl [] rfl) hf
    · rw [if_neg c8] at hf
      refine lv_aload_n hx hb dX2_hasPin_13 rfl (lv_at hl 0 rfl) ?_
      obtain ⟨k9, e10⟩ := pl_1 (cy := cy) (te := te) (le := le) (tb := tb) (mb := mb) (wr := wr) (nu := nu) (ro := ro) (pn := pn) (rw := rw) (dr := dr) (X := []) g2.1 g2.2
      refine va_get (D := D) (ci := 6) (v := .ref (ro w0)) (C := RX2) (T := TX2) (N := 3) hx hb hts in_X2 hown hK hP k9 e10 rfl 1 (by decide) (hts _ k_836) (fun _ h9 => h9) rfl dX2_hasPin_14 ?_
      refine lv_iload_n hx hb dX2_hasPin_17 rfl (lv_at hl 1 rfl) ?_
      obtain ⟨k11, e12⟩ := pl_2 (cy := cy) (te := te) (le := le) (tb := tb) (mb := mb) (wr := wr) (nu := nu) (ro := ro) (pn := pn) (rw := rw) (dr := dr) (X := []) g5.1 g5.2
      obtain ⟨g13, hf⟩ := ite_some' hf
      refine va_iald hx hb hK hP k11 0 e12 rfl g13 dX2_hasPin_18 ?_
      refine lv_iload_n hx hb dX2_hasPin_19 rfl (lv_at hl 2 rfl) ?_
      refine lv_ishr hx hb dX2_hasPin_20 ?_
      refine lv_iconst (v := (1 : Int32)) hx hb dX2_hasPin_21 (by decide) ?_
      refine lv_iand hx hb dX2_hasPin_22 ?_
      refine lv_iconst (v := (1 : Int32)) hx hb dX2_hasPin_23 (by decide) ?_
      refine lv_icmp_ne (tgt := 31) hx hb dX2_hasPin_24 (by decide) (fun c14 => ?_) (fun c14 => ?_)
      · rw [if_neg c14] at hf
        exact J31  _ _ hP hD hS _ (lv_sub hl [] rfl) hf
      · rw [if_pos c14] at hf
        refine lv_iconst (v := (1 : Int32)) hx hb dX2_hasPin_27 (by decide) ?_
        refine lv_goto (tgt := 32) hx hb dX2_hasPin_28 (by decide) ?_
        exact J32 (1 : Int32) _ _ hP hD hS _ (lv_sub hl [] rfl) hf
noncomputable def X2_changePin_b57 (b57_1 : Int32) (b57_2 : (Nat → Int32)) (b57_3 : (Nat → Nat → Int32)) : Option (Int32 × ((Nat → Int32) × (Nat → Nat → Int32))) := if b57_1 &&& 1 = b57_1 then some (b57_1, (b57_2, b57_3)) else none
noncomputable def X2_changePin_b53 (w0 : Nat) (L : List Nat) (K : Nat → Nat) (ro : Nat → Nat) (pn : Nat → Int32) (rw : Nat → Nat → Int32) (p0 : Int32) (p1 : Int32) (b53_1 : Int32) (b53_2 : Int32) : Option (Int32 × ((Nat → Int32) × (Nat → Nat → Int32))) := if (w0 ∈ L ∧ K w0 = 1) then X2_changePin_b57 b53_1 (va_up pn w0 ((pn w0) + b53_2)) (va_up rw (ro w0) (upd (rw (ro w0)) p0.toNatClampNeg ((rw (ro w0) p0.toNatClampNeg) ^^^ ((1 : Int32) <<< (p1 &&& 31))))) else none
noncomputable def X2_changePin_f (w0 : Nat) (L : List Nat) (K : Nat → Nat) (ro : Nat → Nat) (pn : Nat → Int32) (rw : Nat → Nat → Int32) (p0 : Int32) (p1 : Int32) (p2 : Int32) : Option (Int32 × ((Nat → Int32) × (Nat → Nat → Int32))) := if (w0 ∈ L ∧ K w0 = 1) then (X2_hasPin_f w0 L K ro rw p0 p1).bind fun v4 => (if v4.1 = p2 then X2_changePin_b57 v4.1 pn rw else (if p0 < (0 : Int32) then X2_changePin_b57 v4.1 pn rw else if ((ro w0) ∈ L ∧ K (ro w0) = 2) then (if (32 : Int32) ≤ p0 then X2_changePin_b57 v4.1 pn rw else if ¬ (p0 < 0 ∨ 32 ≤ p0.toNatClampNeg) then if ¬ (p0 < 0 ∨ 32 ≤ p0.toNatClampNeg) then (if p2 = (0 : Int32) then X2_changePin_b53 w0 L K ro pn rw p0 p1 v4.1 (-1 : Int32) else X2_changePin_b53 w0 L K ro pn rw p0 p1 v4.1 (1 : Int32)) else none else none) else none)) else none
set_option maxHeartbeats 4000000 in
set_option maxRecDepth 100000 in
theorem c_X2_changePin (l : Launch) (D : va_G) (cy : Nat → ClassId) (sa : Nat → Nat) (z0 sz : Nat) (w0 : Nat) (L : List Nat) (K : Nat → Nat) (te : Nat → Int32) (le : Nat → Int32) (tb : Nat → Int32) (mb : Nat → Int64) (wr : Nat → Int64) (nu : Nat → Int32) (ro : Nat → Nat) (pn : Nat → Int32) (rw : Nat → Nat → Int32) (dr : Nat → Nat → Option Nat) (p0 : Int32) (p1 : Int32) (p2 : Int32) (o : (Int32 × ((Nat → Int32) × (Nat → Nat → Int32)))) (ho : X2_changePin_f w0 L K ro pn rw p0 p1 p2 = some o) : Met l yX2_changePin (ws_ yX2_changePin cX2_changePin 5 (some .boolean)) ({ frames := 1, cells := 0, slots := 0, locals := 22 } : Room) (va_Pc [.ref w0, .int p0, .int p1, .int p2] (Pr D cy sa z0 (([] : va_W) ++ va_pl L (plF cy K te le tb mb wr nu ro pn rw dr)) sz)) (QI D o (fun u => (([] : va_W) ++ va_pl L (plF cy K te le tb mb wr nu ro u.1 u.2 dr))) (va_A (([] : va_W) ++ va_pl L (plF cy K te le tb mb wr nu ro pn rw dr)) sz)) 0 0 (va_A (([] : va_W) ++ va_pl L (plF cy K te le tb mb wr nu ro pn rw dr)) sz) := by
  refine MT (Qf := QI D o (fun u => (([] : va_W) ++ va_pl L (plF cy K te le tb mb wr nu ro u.1 u.2 dr)))) (plainFor_of_name (by decide +kernel)) (Nat.le_of_ble_eq_true rfl) ?_
  intro p e s m below meth c A ls H hx hb hml hr hlocks hown hnm hts hG hA hZ hP hD hS hl
  have hK := hG.K
  have hl : lv_has ls 5 [(0, .ref w0), (1, .int p0), (2, .int p1), (3, .int p2)] := hl
  have hf : X2_changePin_f w0 L K ro pn rw p0 p1 p2 = some o := ho
  clear ho
  unfold X2_changePin_f at hf
  have J57 : ∀ (b57_1 : Int32) (b57_2 : (Nat → Int32)) (b57_3 : (Nat → Nat → Int32)), ∀ (H : Heap) (locs : List Loc), va_P D vwCl (([] : va_W) ++ va_pl L (plF cy K te le tb mb wr nu ro b57_2 b57_3 dr)) H → va_D A (([] : va_W) ++ va_pl L (plF cy K te le tb mb wr nu ro b57_2 b57_3 dr)) → va_S A s.heap H locs → ∀ (ls : Array Slot), lv_has ls 5 [(4, .int b57_1)] → X2_changePin_b57 b57_1 b57_2 b57_3 = some o → W p l e ({ frames := 1, cells := 0, slots := 0, locals := 22 } : Room) s m ([.ref w0, .int p0, .int p1, .int p2] : List Value).toArray below meth c H locs 0 0 (MQ below (QI D o (fun u => (([] : va_W) ++ va_pl L (plF cy K te le tb mb wr nu ro u.1 u.2 dr))) A) ([.ref w0, .int p0, .int p1, .int p2] : List Value).toArray s 0 0 A) (F0 m 57 ls []) := by
    intro b57_1 b57_2 b57_3 H locs hP hD hS ls hl hf
    unfold X2_changePin_b57 at hf
    refine lv_iload hx hb dX2_changePin_57 (lv_at hl 0 rfl) ?_
    obtain ⟨g25, hf⟩ := ite_some' hf
    obtain rfl := Option.some.inj hf
    exact W.zret (v := b57_1) hx hb hr (zn_b g25) (fun t ht _ => ⟨⟨b57_1, (b57_2, b57_3), rfl, rfl, by rw [ht]; exact hP, hD⟩, hS.F ht⟩) hS.2.2 dX2_changePin_59
  have J53 : ∀ (b53_1 : Int32) (b53_2 : Int32), ∀ (H : Heap) (locs : List Loc), va_P D vwCl (([] : va_W) ++ va_pl L (plF cy K te le tb mb wr nu ro pn (va_up rw (ro w0) (upd (rw (ro w0)) p0.toNatClampNeg ((rw (ro w0) p0.toNatClampNeg) ^^^ ((1 : Int32) <<< (p1 &&& 31))))) dr)) H → va_D A (([] : va_W) ++ va_pl L (plF cy K te le tb mb wr nu ro pn (va_up rw (ro w0) (upd (rw (ro w0)) p0.toNatClampNeg ((rw (ro w0) p0.toNatClampNeg) ^^^ ((1 : Int32) <<< (p1 &&& 31))))) dr)) → va_S A s.heap H locs → ∀ (ls : Array Slot), lv_has ls 5 [(4, .int b53_1)] → X2_changePin_b53 w0 L K ro pn rw p0 p1 b53_1 b53_2 = some o → W p l e ({ frames := 1, cells := 0, slots := 0, locals := 22 } : Room) s m ([.ref w0, .int p0, .int p1, .int p2] : List Value).toArray below meth c H locs 0 0 (MQ below (QI D o (fun u => (([] : va_W) ++ va_pl L (plF cy K te le tb mb wr nu ro u.1 u.2 dr))) A) ([.ref w0, .int p0, .int p1, .int p2] : List Value).toArray s 0 0 A) (F0 m 53 ls [.int b53_2, .int (pn w0), .ref w0]) := by
    intro b53_1 b53_2 H locs hP hD hS ls hl hf
    unfold X2_changePin_b53 at hf
    refine lv_iadd hx hb dX2_changePin_53 ?_
    obtain ⟨g26, hf⟩ := ite_some' hf
    obtain ⟨k27, e28⟩ := pl_1 (cy := cy) (te := te) (le := le) (tb := tb) (mb := mb) (wr := wr) (nu := nu) (ro := ro) (pn := pn) (rw := (va_up rw (ro w0) (upd (rw (ro w0)) p0.toNatClampNeg ((rw (ro w0) p0.toNatClampNeg) ^^^ ((1 : Int32) <<< (p1 &&& 31)))))) (dr := dr) (X := []) g26.1 g26.2
    have e9 := pl_put1 (v := ((pn w0) + b53_2)) hD g26.1 g26.2 e28
    refine va_put (D := D) (ci := 6) (v := .int ((pn w0) + b53_2)) (ty := .int) (C := RX2) (T := TX2) (N := 3) hx hb hts in_X2 tyX2 tyX2_ok nmX2 hown hK hP hD hS k27 e28 rfl 2 (by decide) (hts _ k_837) (fun _ h9 => h9) rfl (by decide +kernel) rfl rfl (Nat.le_of_ble_eq_true rfl) dX2_changePin_54 (fun H locs hP hD hS => ?_)
    have hP : va_P D vwCl (([] : va_W) ++ va_pl L (plF cy K te le tb mb wr nu ro (va_up pn w0 ((pn w0) + b53_2)) (va_up rw (ro w0) (upd (rw (ro w0)) p0.toNatClampNeg ((rw (ro w0) p0.toNatClampNeg) ^^^ ((1 : Int32) <<< (p1 &&& 31))))) dr)) H := e9 ▸ hP
    have hD : va_D A (([] : va_W) ++ va_pl L (plF cy K te le tb mb wr nu ro (va_up pn w0 ((pn w0) + b53_2)) (va_up rw (ro w0) (upd (rw (ro w0)) p0.toNatClampNeg ((rw (ro w0) p0.toNatClampNeg) ^^^ ((1 : Int32) <<< (p1 &&& 31))))) dr)) := e9 ▸ hD
    exact J57 b53_1 (va_up pn w0 ((pn w0) + b53_2)) (va_up rw (ro w0) (upd (rw (ro w0)) p0.toNatClampNeg ((rw (ro w0) p0.toNatClampNeg) ^^^ ((1 : Int32) <<< (p1 &&& 31))))) _ _ hP hD hS _ (lv_sub hl [0] rfl) hf
  refine lv_aload_n hx hb dX2_changePin_0 rfl (lv_at hl 0 rfl) ?_
  refine lv_iload_n hx hb dX2_changePin_1 rfl (lv_at hl 1 rfl) ?_
  refine lv_iload_n hx hb dX2_changePin_2 rfl (lv_at hl 2 rfl) ?_
  obtain ⟨g1, hf⟩ := ite_some' hf
  obtain ⟨k2, e3⟩ := pl_1 (cy := cy) (te := te) (le := le) (tb := tb) (mb := mb) (wr := wr) (nu := nu) (ro := ro) (pn := pn) (rw := rw) (dr := dr) (X := []) g1.1 g1.2
  obtain ⟨v4, e5, hf⟩ := bind_some' hf
  refine clP_i (va_runV (As := [.int p0, .int p1]) (rest := []) ⟨hx, hb, hml, hown, hts⟩ (c_X2_hasPin l D cy sa z0 H.size w0 L K te le tb mb wr nu ro pn rw dr p0 p1 _ e5) (cwV 2 hts (lw_gV k_761 k_763 k_14 k_63 k_765) rfl rfl rfl (by decide +kernel) ⟨Nat.le_of_ble_eq_true rfl, Nat.le_of_ble_eq_true rfl⟩) (preVP hG hS hZ hP hD [] rfl rfl (ci := 4) (q0 := k2) rfl e3) rfl rfl hl.1 rfl (lv_room (Nat.le_of_ble_eq_true rfl)) dX2_changePin_3 ⟨Nat.le_of_ble_eq_true rfl, Nat.le_of_ble_eq_true rfl⟩) hP hD hS hA [] rfl rfl rfl (fun H locs hP hD hS => ?_)
  have hP : va_P D vwCl (([] : va_W) ++ va_pl L (plF cy K te le tb mb wr nu ro pn rw dr)) H := hP
  have hD : va_D A (([] : va_W) ++ va_pl L (plF cy K te le tb mb wr nu ro pn rw dr)) := hD
  refine lv_istore (lv' := [(4, .int v4.1), (0, .ref w0), (1, .int p0), (2, .int p1), (3, .int p2)]) hx hb dX2_changePin_6 hl (by decide) rfl (fun ls hl => ?_)
  refine lv_iload hx hb dX2_changePin_8 (lv_at hl 0 rfl) ?_
  refine lv_iload_n hx hb dX2_changePin_10 rfl (lv_at hl 4 rfl) ?_
  refine lv_icmp_eq (tgt := 57) hx hb dX2_changePin_11 (by decide) (fun c6 => ?_) (fun c6 => ?_)
  · rw [if_pos c6] at hf
    exact J57 v4.1 pn rw _ _ hP hD hS _ (lv_sub hl [0] rfl) hf
  · rw [if_neg c6] at hf
    refine lv_iload_n hx hb dX2_changePin_14 rfl (lv_at hl 2 rfl) ?_
    refine lv_if_lt (tgt := 57) hx hb dX2_changePin_15 (by decide) (fun c7 => ?_) (fun c7 => ?_)
    · rw [if_pos c7] at hf
      exact J57 v4.1 pn rw _ _ hP hD hS _ (lv_sub hl [0] rfl) hf
    · rw [if_neg c7] at hf
      refine lv_iload_n hx hb dX2_changePin_18 rfl (lv_at hl 2 rfl) ?_
      refine lv_aload_n hx hb dX2_changePin_19 rfl (lv_at hl 1 rfl) ?_
      obtain ⟨k8, e9⟩ := pl_1 (cy := cy) (te := te) (le := le) (tb := tb) (mb := mb) (wr := wr) (nu := nu) (ro := ro) (pn := pn) (rw := rw) (dr := dr) (X := []) g1.1 g1.2
      refine va_get (D := D) (ci := 6) (v := .ref (ro w0)) (C := RX2) (T := TX2) (N := 3) hx hb hts in_X2 hown hK hP k8 e9 rfl 1 (by decide) (hts _ k_836) (fun _ h9 => h9) rfl dX2_changePin_20 ?_
      obtain ⟨g10, hf⟩ := ite_some' hf
      obtain ⟨k11, e12⟩ := pl_2 (cy := cy) (te := te) (le := le) (tb := tb) (mb := mb) (wr := wr) (nu := nu) (ro := ro) (pn := pn) (rw := rw) (dr := dr) (X := []) g10.1 g10.2
      refine va_alen hx hb hK hP k11 0 e12 rfl (v := (32 : Int32)) (show Int32.ofNat 32 = 32 by decide) dX2_changePin_23 ?_
      refine lv_icmp_ge (tgt := 57) hx hb dX2_changePin_24 (by decide) (fun c13 => ?_) (fun c13 => ?_)
      · rw [if_pos c13] at hf
        exact J57 v4.1 pn rw _ _ hP hD hS _ (lv_sub hl [0] rfl) hf
      · rw [if_neg c13] at hf
        refine lv_aload_n hx hb dX2_changePin_27 rfl (lv_at hl 1 rfl) ?_
        obtain ⟨k14, e15⟩ := pl_1 (cy := cy) (te := te) (le := le) (tb := tb) (mb := mb) (wr := wr) (nu := nu) (ro := ro) (pn := pn) (rw := rw) (dr := dr) (X := []) g1.1 g1.2
        refine va_get (D := D) (ci := 6) (v := .ref (ro w0)) (C := RX2) (T := TX2) (N := 3) hx hb hts in_X2 hown hK hP k14 e15 rfl 1 (by decide) (hts _ k_836) (fun _ h9 => h9) rfl dX2_changePin_28 ?_
        refine lv_iload_n hx hb dX2_changePin_31 rfl (lv_at hl 2 rfl) ?_
        refine lv_dup2_11 hx hb dX2_changePin_32 rfl rfl ?_
        obtain ⟨k16, e17⟩ := pl_2 (cy := cy) (te := te) (le := le) (tb := tb) (mb := mb) (wr := wr) (nu := nu) (ro := ro) (pn := pn) (rw := rw) (dr := dr) (X := []) g10.1 g10.2
        obtain ⟨g18, hf⟩ := ite_some' hf
        refine va_iald hx hb hK hP k16 0 e17 rfl g18 dX2_changePin_33 ?_
        refine lv_iconst (v := (1 : Int32)) hx hb dX2_changePin_34 (by decide) ?_
        refine lv_iload_n hx hb dX2_changePin_35 rfl (lv_at hl 3 rfl) ?_
        refine lv_ishl hx hb dX2_changePin_36 ?_
        refine lv_ixor hx hb dX2_changePin_37 ?_
        obtain ⟨k19, e20⟩ := pl_2 (cy := cy) (te := te) (le := le) (tb := tb) (mb := mb) (wr := wr) (nu := nu) (ro := ro) (pn := pn) (rw := rw) (dr := dr) (X := []) g10.1 g10.2
        obtain ⟨g21, hf⟩ := ite_some' hf
        have e9 := pl_put2 (f := (upd (rw (ro w0)) p0.toNatClampNeg ((rw (ro w0) p0.toNatClampNeg) ^^^ ((1 : Int32) <<< (p1 &&& 31))))) hD g10.1 g10.2 e20
        refine va_iast hx hb hK hP hD hS k19 0 e20 rfl g21 dX2_changePin_38 (fun H locs hP hD hS => ?_)
        have hP : va_P D vwCl (([] : va_W) ++ va_pl L (plF cy K te le tb mb wr nu ro pn (va_up rw (ro w0) (upd (rw (ro w0)) p0.toNatClampNeg ((rw (ro w0) p0.toNatClampNeg) ^^^ ((1 : Int32) <<< (p1 &&& 31))))) dr)) H := e9 ▸ hP
        have hD : va_D A (([] : va_W) ++ va_pl L (plF cy K te le tb mb wr nu ro pn (va_up rw (ro w0) (upd (rw (ro w0)) p0.toNatClampNeg ((rw (ro w0) p0.toNatClampNeg) ^^^ ((1 : Int32) <<< (p1 &&& 31))))) dr)) := e9 ▸ hD
        refine lv_aload_n hx hb dX2_changePin_39 rfl (lv_at hl 1 rfl) ?_
        refine lv_dup hx hb dX2_changePin_40 rfl ?_
        obtain ⟨k22, e23⟩ := pl_1 (cy := cy) (te := te) (le := le) (tb := tb) (mb := mb) (wr := wr) (nu := nu) (ro := ro) (pn := pn) (rw := (va_up rw (ro w0) (upd (rw (ro w0)) p0.toNatClampNeg ((rw (ro w0) p0.toNatClampNeg) ^^^ ((1 : Int32) <<< (p1 &&& 31)))))) (dr := dr) (X := []) g1.1 g1.2
        refine va_get (D := D) (ci := 6) (v := .int (pn w0)) (C := RX2) (T := TX2) (N := 3) hx hb hts in_X2 hown hK hP k22 e23 rfl 2 (by decide) (hts _ k_837) (fun _ h9 => h9) rfl dX2_changePin_41 ?_
        refine lv_iload_n hx hb dX2_changePin_44 rfl (lv_at hl 4 rfl) ?_
        refine lv_if_eq (tgt := 52) hx hb dX2_changePin_45 (by decide) (fun c24 => ?_) (fun c24 => ?_)
        · rw [if_pos c24] at hf
          refine lv_iconst (v := (-1 : Int32)) hx hb dX2_changePin_52 (by decide) ?_
          exact J53 v4.1 (-1 : Int32) _ _ hP hD hS _ (lv_sub hl [0] rfl) hf
        · rw [if_neg c24] at hf
          refine lv_iconst (v := (1 : Int32)) hx hb dX2_changePin_48 (by decide) ?_
          refine lv_goto (tgt := 53) hx hb dX2_changePin_49 (by decide) ?_
          exact J53 v4.1 (1 : Int32) _ _ hP hD hS _ (lv_sub hl [0] rfl) hf
noncomputable def X2_bellOfPin_b40 (k4 : Int32 → Int32 → Option (Int32 × Unit)) (k13 : Int32 → Int32 → Int32 → Option (Int32 × Unit)) (b40_1 : Int32) (b40_2 : Int32) (b40_3 : Int32) : Option (Int32 × Unit) := k13 b40_1 b40_2 (b40_3 + (1 : Int32))
noncomputable def X2_bellOfPin_L13_body (w0 : Nat) (L : List Nat) (K : Nat → Nat) (ro : Nat → Nat) (rw : Nat → Nat → Int32) (k4 : Int32 → Int32 → Option (Int32 × Unit)) (k13 : Int32 → Int32 → Int32 → Option (Int32 × Unit)) (b13_1 : Int32) (b13_2 : Int32) (b13_3 : Int32) : Option (Int32 × Unit) := (if (8 : Int32) < b13_3 then k4 b13_1 (b13_2 + (1 : Int32)) else if (w0 ∈ L ∧ K w0 = 1) then (X2_hasPin_f w0 L K ro rw b13_2 b13_3).bind fun v6 => (if v6.1 = (0 : Int32) then X2_bellOfPin_b40 k4 k13 b13_1 b13_2 b13_3 else (if b13_1 = (0 : Int32) then some (b13_3, ()) else X2_bellOfPin_b40 k4 k13 (b13_1 + (-1 : Int32)) b13_2 b13_3)) else none)
noncomputable def X2_bellOfPin_L13 (w0 : Nat) (L : List Nat) (K : Nat → Nat) (ro : Nat → Nat) (rw : Nat → Nat → Int32) (k4 : Int32 → Int32 → Option (Int32 × Unit)) (n : Nat) : Int32 → Int32 → Int32 → Option (Int32 × Unit) := Nat.rec (motive := fun _ => Int32 → Int32 → Int32 → Option (Int32 × Unit)) (fun _ _ _ => none) (fun _ k13 b13_1 b13_2 b13_3 => X2_bellOfPin_L13_body w0 L K ro rw k4 k13 b13_1 b13_2 b13_3) n
noncomputable def X2_bellOfPin_L4_body (N : Nat) (w0 : Nat) (L : List Nat) (K : Nat → Nat) (ro : Nat → Nat) (rw : Nat → Nat → Int32) (k4 : Int32 → Int32 → Option (Int32 × Unit)) (b4_1 : Int32) (b4_2 : Int32) : Option (Int32 × Unit) := (if (32 : Int32) ≤ b4_2 then some ((0 : Int32), ()) else X2_bellOfPin_L13 w0 L K ro rw k4 N b4_1 b4_2 (1 : Int32))
noncomputable def X2_bellOfPin_L4 (N : Nat) (w0 : Nat) (L : List Nat) (K : Nat → Nat) (ro : Nat → Nat) (rw : Nat → Nat → Int32) (n : Nat) : Int32 → Int32 → Option (Int32 × Unit) := Nat.rec (motive := fun _ => Int32 → Int32 → Option (Int32 × Unit)) (fun _ _ => none) (fun _ k4 b4_1 b4_2 => X2_bellOfPin_L4_body N w0 L K ro rw k4 b4_1 b4_2) n
noncomputable def X2_bellOfPin_f (N : Nat) (w0 : Nat) (L : List Nat) (K : Nat → Nat) (ro : Nat → Nat) (rw : Nat → Nat → Int32) (p0 : Int32) : Option (Int32 × Unit) := X2_bellOfPin_L4 N w0 L K ro rw N p0 (0 : Int32)
set_option maxHeartbeats 4000000 in
set_option maxRecDepth 100000 in
theorem c_X2_bellOfPin (l : Launch) (D : va_G) (cy : Nat → ClassId) (sa : Nat → Nat) (z0 sz : Nat) (w0 : Nat) (L : List Nat) (K : Nat → Nat) (te : Nat → Int32) (le : Nat → Int32) (tb : Nat → Int32) (mb : Nat → Int64) (wr : Nat → Int64) (nu : Nat → Int32) (ro : Nat → Nat) (pn : Nat → Int32) (rw : Nat → Nat → Int32) (dr : Nat → Nat → Option Nat) (p0 : Int32) (N : Nat) (o : (Int32 × Unit)) (ho : X2_bellOfPin_f N w0 L K ro rw p0 = some o) : Met l yX2_bellOfPin (ws_ yX2_bellOfPin cX2_bellOfPin 5 (some .int)) ({ frames := 1, cells := 0, slots := 0, locals := 22 } : Room) (va_Pc [.ref w0, .int p0] (Pr D cy sa z0 (([] : va_W) ++ va_pl L (plF cy K te le tb mb wr nu ro pn rw dr)) sz)) (QI D o (fun u => (([] : va_W) ++ va_pl L (plF cy K te le tb mb wr nu ro pn rw dr))) (va_A (([] : va_W) ++ va_pl L (plF cy K te le tb mb wr nu ro pn rw dr)) sz)) 0 0 (va_A (([] : va_W) ++ va_pl L (plF cy K te le tb mb wr nu ro pn rw dr)) sz) := by
  refine MT (Qf := QI D o (fun u => (([] : va_W) ++ va_pl L (plF cy K te le tb mb wr nu ro pn rw dr)))) (plainFor_of_name (by decide +kernel)) (Nat.le_of_ble_eq_true rfl) ?_
  intro p e s m below meth c A ls H hx hb hml hr hlocks hown hnm hts hG hA hZ hP hD hS hl
  have hK := hG.K
  have hl : lv_has ls 5 [(0, .ref w0), (1, .int p0)] := hl
  have hf : X2_bellOfPin_f N w0 L K ro rw p0 = some o := ho
  clear ho
  unfold X2_bellOfPin_f at hf
  have L4 : ∀ (n : Nat) (b4_1 : Int32) (b4_2 : Int32), ∀ (H : Heap) (locs : List Loc), va_P D vwCl (([] : va_W) ++ va_pl L (plF cy K te le tb mb wr nu ro pn rw dr)) H → va_D A (([] : va_W) ++ va_pl L (plF cy K te le tb mb wr nu ro pn rw dr)) → va_S A s.heap H locs → ∀ (ls : Array Slot), lv_has ls 5 [(0, .ref w0), (2, .int b4_1), (3, .int b4_2)] → X2_bellOfPin_L4 N w0 L K ro rw n b4_1 b4_2 = some o → W p l e ({ frames := 1, cells := 0, slots := 0, locals := 22 } : Room) s m ([.ref w0, .int p0] : List Value).toArray below meth c H locs 0 0 (MQ below (QI D o (fun u => (([] : va_W) ++ va_pl L (plF cy K te le tb mb wr nu ro pn rw dr))) A) ([.ref w0, .int p0] : List Value).toArray s 0 0 A) (F0 m 4 ls []) := by
    intro n
    induction n with
    | zero => intro b4_1 b4_2 H locs hP hD hS ls hl hf; cases (show (none : Option (Int32 × Unit)) = some o from hf)
    | succ n ih_4 =>
      intro b4_1 b4_2 H locs hP hD hS ls hl hf
      have hf : X2_bellOfPin_L4_body N w0 L K ro rw (X2_bellOfPin_L4 N w0 L K ro rw n) b4_1 b4_2 = some o := hf
      generalize X2_bellOfPin_L4 N w0 L K ro rw n = k4 at ih_4 hf
      unfold X2_bellOfPin_L4_body at hf
      have L13 : ∀ (n : Nat) (b13_1 : Int32) (b13_2 : Int32) (b13_3 : Int32), ∀ (H : Heap) (locs : List Loc), va_P D vwCl (([] : va_W) ++ va_pl L (plF cy K te le tb mb wr nu ro pn rw dr)) H → va_D A (([] : va_W) ++ va_pl L (plF cy K te le tb mb wr nu ro pn rw dr)) → va_S A s.heap H locs → ∀ (ls : Array Slot), lv_has ls 5 [(0, .ref w0), (2, .int b13_1), (3, .int b13_2), (4, .int b13_3)] → X2_bellOfPin_L13 w0 L K ro rw k4 n b13_1 b13_2 b13_3 = some o → W p l e ({ frames := 1, cells := 0, slots := 0, locals := 22 } : Room) s m ([.ref w0, .int p0] : List Value).toArray below meth c H locs 0 0 (MQ below (QI D o (fun u => (([] : va_W) ++ va_pl L (plF cy K te le tb mb wr nu ro pn rw dr))) A) ([.ref w0, .int p0] : List Value).toArray s 0 0 A) (F0 m 13 ls []) := by
        intro n
        induction n with
        | zero => intro b13_1 b13_2 b13_3 H locs hP hD hS ls hl hf; cases (show (none : Option (Int32 × Unit)) = some o from hf)
        | succ n ih_13 =>
          intro b13_1 b13_2 b13_3 H locs hP hD hS ls hl hf
          have hf : X2_bellOfPin_L13_body w0 L K ro rw k4 (X2_bellOfPin_L13 w0 L K ro rw k4 n) b13_1 b13_2 b13_3 = some o := hf
          generalize X2_bellOfPin_L13 w0 L K ro rw k4 n = k13 at ih_13 hf
          unfold X2_bellOfPin_L13_body at hf
          have J40 : ∀ (b40_1 : Int32) (b40_2 : Int32) (b40_3 : Int32), ∀ (H : Heap) (locs : List Loc), va_P D vwCl (([] : va_W) ++ va_pl L (plF cy K te le tb mb wr nu ro pn rw dr)) H → va_D A (([] : va_W) ++ va_pl L (plF cy K te le tb mb wr nu ro pn rw dr)) → va_S A s.heap H locs → ∀ (ls : Array Slot), lv_has ls 5 [(0, .ref w0), (2, .int b40_1), (3, .int b40_2), (4, .int b40_3)] → X2_bellOfPin_b40 k4 k13 b40_1 b40_2 b40_3 = some o → W p l e ({ frames := 1, cells := 0, slots := 0, locals := 22 } : Room) s m ([.ref w0, .int p0] : List Value).toArray below meth c H locs 0 0 (MQ below (QI D o (fun u => (([] : va_W) ++ va_pl L (plF cy K te le tb mb wr nu ro pn rw dr))) A) ([.ref w0, .int p0] : List Value).toArray s 0 0 A) (F0 m 40 ls []) := by
            intro b40_1 b40_2 b40_3 H locs hP hD hS ls hl hf
            unfold X2_bellOfPin_b40 at hf
            refine lv_iinc (v := (b40_3 + (1 : Int32))) (lv' := [(4, .int (b40_3 + (1 : Int32))), (0, .ref w0), (2, .int b40_1), (3, .int b40_2)]) hx hb dX2_bellOfPin_40 hl (k := 3) rfl (by rfl) (by decide) rfl (fun ls hl => ?_)
            refine lv_goto (tgt := 13) hx hb dX2_bellOfPin_43 (by decide) ?_
            exact ih_13 b40_1 b40_2 (b40_3 + (1 : Int32)) _ _ hP hD hS _ (lv_sub hl [1, 2, 3, 0] rfl) hf
          refine lv_iload hx hb dX2_bellOfPin_13 (lv_at hl 3 rfl) ?_
          refine lv_bipush (v := (8 : Int32)) hx hb dX2_bellOfPin_15 (by decide) ?_
          refine lv_icmp_gt (tgt := 46) hx hb dX2_bellOfPin_17 (by decide) (fun c2 => ?_) (fun c2 => ?_)
          · rw [if_pos c2] at hf
            refine lv_iinc (v := (b13_2 + (1 : Int32))) (lv' := [(3, .int (b13_2 + (1 : Int32))), (0, .ref w0), (2, .int b13_1), (4, .int b13_3)]) hx hb dX2_bellOfPin_46 hl (k := 2) rfl (by rfl) (by decide) rfl (fun ls hl => ?_)
            refine lv_goto (tgt := 4) hx hb dX2_bellOfPin_49 (by decide) ?_
            exact ih_4 b13_1 (b13_2 + (1 : Int32)) _ _ hP hD hS _ (lv_sub hl [1, 2, 0] rfl) hf
          · rw [if_neg c2] at hf
            refine lv_aload_n hx hb dX2_bellOfPin_20 rfl (lv_at hl 0 rfl) ?_
            refine lv_iload_n hx hb dX2_bellOfPin_21 rfl (lv_at hl 2 rfl) ?_
            refine lv_iload hx hb dX2_bellOfPin_22 (lv_at hl 3 rfl) ?_
            obtain ⟨g3, hf⟩ := ite_some' hf
            obtain ⟨k4, e5⟩ := pl_1 (cy := cy) (te := te) (le := le) (tb := tb) (mb := mb) (wr := wr) (nu := nu) (ro := ro) (pn := pn) (rw := rw) (dr := dr) (X := []) g3.1 g3.2
            obtain ⟨v6, e7, hf⟩ := bind_some' hf
            refine clP_i (va_runV (As := [.int b13_2, .int b13_3]) (rest := []) ⟨hx, hb, hml, hown, hts⟩ (c_X2_hasPin l D cy sa z0 H.size w0 L K te le tb mb wr nu ro pn rw dr b13_2 b13_3 _ e7) (cwV 2 hts (lw_gV k_761 k_763 k_14 k_63 k_765) rfl rfl rfl (by decide +kernel) ⟨Nat.le_of_ble_eq_true rfl, Nat.le_of_ble_eq_true rfl⟩) (preVP hG hS hZ hP hD [] rfl rfl (ci := 4) (q0 := k4) rfl e5) rfl rfl hl.1 rfl (lv_room (Nat.le_of_ble_eq_true rfl)) dX2_bellOfPin_24 ⟨Nat.le_of_ble_eq_true rfl, Nat.le_of_ble_eq_true rfl⟩) hP hD hS hA [] rfl rfl rfl (fun H locs hP hD hS => ?_)
            have hP : va_P D vwCl (([] : va_W) ++ va_pl L (plF cy K te le tb mb wr nu ro pn rw dr)) H := hP
            have hD : va_D A (([] : va_W) ++ va_pl L (plF cy K te le tb mb wr nu ro pn rw dr)) := hD
            refine lv_if_eq (tgt := 40) hx hb dX2_bellOfPin_27 (by decide) (fun c8 => ?_) (fun c8 => ?_)
            · rw [if_pos c8] at hf
              exact J40 b13_1 b13_2 b13_3 _ _ hP hD hS _ (lv_sub hl [0, 1, 2, 3] rfl) hf
            · rw [if_neg c8] at hf
              refine lv_iload_n hx hb dX2_bellOfPin_30 rfl (lv_at hl 1 rfl) ?_
              refine lv_if_ne (tgt := 37) hx hb dX2_bellOfPin_31 (by decide) (fun c9 => ?_) (fun c9 => ?_)
              · rw [if_neg c9] at hf
                refine lv_iinc (v := (b13_1 + (-1 : Int32))) (lv' := [(2, .int (b13_1 + (-1 : Int32))), (0, .ref w0), (3, .int b13_2), (4, .int b13_3)]) hx hb dX2_bellOfPin_37 hl (k := 1) rfl (by rfl) (by decide) rfl (fun ls hl => ?_)
                exact J40 (b13_1 + (-1 : Int32)) b13_2 b13_3 _ _ hP hD hS _ (lv_sub hl [1, 0, 2, 3] rfl) hf
              · rw [if_pos c9] at hf
                refine lv_iload hx hb dX2_bellOfPin_34 (lv_at hl 3 rfl) ?_
                obtain rfl := Option.some.inj hf
                exact W.iret (v := b13_3) hx hb hr (fun t ht _ => ⟨⟨b13_3, (), rfl, rfl, by rw [ht]; exact hP, hD⟩, hS.F ht⟩) hS.2.2 dX2_bellOfPin_36
      refine lv_iload_n hx hb dX2_bellOfPin_4 rfl (lv_at hl 2 rfl) ?_
      refine lv_bipush (v := (32 : Int32)) hx hb dX2_bellOfPin_5 (by decide) ?_
      refine lv_icmp_ge (tgt := 52) hx hb dX2_bellOfPin_7 (by decide) (fun c1 => ?_) (fun c1 => ?_)
      · rw [if_pos c1] at hf
        refine lv_iconst (v := (0 : Int32)) hx hb dX2_bellOfPin_52 (by decide) ?_
        obtain rfl := Option.some.inj hf
        exact W.iret (v := (0 : Int32)) hx hb hr (fun t ht _ => ⟨⟨(0 : Int32), (), rfl, rfl, by rw [ht]; exact hP, hD⟩, hS.F ht⟩) hS.2.2 dX2_bellOfPin_53
      · rw [if_neg c1] at hf
        refine lv_iconst (v := (1 : Int32)) hx hb dX2_bellOfPin_10 (by decide) ?_
        refine lv_istore (lv' := [(4, .int (1 : Int32)), (0, .ref w0), (2, .int b4_1), (3, .int b4_2)]) hx hb dX2_bellOfPin_11 hl (by decide) rfl (fun ls hl => ?_)
        exact L13 N b4_1 b4_2 (1 : Int32) _ _ hP hD hS _ (lv_sub hl [1, 2, 3, 0] rfl) hf
  refine lv_iload_n hx hb dX2_bellOfPin_0 rfl (lv_at hl 1 rfl) ?_
  refine lv_istore_n (lv' := [(2, .int p0), (0, .ref w0), (1, .int p0)]) hx hb dX2_bellOfPin_1 rfl hl (by decide) rfl (fun ls hl => ?_)
  refine lv_iconst (v := (0 : Int32)) hx hb dX2_bellOfPin_2 (by decide) ?_
  refine lv_istore_n (lv' := [(3, .int (0 : Int32)), (2, .int p0), (0, .ref w0), (1, .int p0)]) hx hb dX2_bellOfPin_3 rfl hl (by decide) rfl (fun ls hl => ?_)
  exact L4 N p0 (0 : Int32) _ _ hP hD hS _ (lv_sub hl [2, 1, 0] rfl) hf
noncomputable def X2_play_b38 (k2 : Int32 → (Nat → Int32) → Option ((Nat → Int32))) (k10 : Int32 → Int32 → (Nat → Int32) → Option ((Nat → Int32))) (b38_1 : Int32) (b38_2 : Int32) (b38_3 : (Nat → Int32)) : Option ((Nat → Int32)) := k10 b38_1 (b38_2 + (1 : Int32)) b38_3
noncomputable def X2_play_b44 (k2 : Int32 → (Nat → Int32) → Option ((Nat → Int32))) (b44_1 : Int32) (b44_2 : (Nat → Int32)) : Option ((Nat → Int32)) := k2 (b44_1 + (1 : Int32)) b44_2
noncomputable def X2_play_L10_body (w0 : Nat) (L : List Nat) (K : Nat → Nat) (ro : Nat → Nat) (rw : Nat → Nat → Int32) (k2 : Int32 → (Nat → Int32) → Option ((Nat → Int32))) (k10 : Int32 → Int32 → (Nat → Int32) → Option ((Nat → Int32))) (b10_1 : Int32) (b10_2 : Int32) (b10_3 : (Nat → Int32)) : Option ((Nat → Int32)) := (if (8 : Int32) < b10_2 then X2_play_b44 k2 b10_1 b10_3 else (if (9 : Int32) ≤ b10_2 then X2_play_b44 k2 b10_1 b10_3 else if (w0 ∈ L ∧ K w0 = 1) then (X2_hasPin_f w0 L K ro rw b10_1 b10_2).bind fun v7 => (if v7.1 = (0 : Int32) then X2_play_b38 k2 k10 b10_1 b10_2 b10_3 else if ¬ (b10_2 < 0 ∨ 9 ≤ b10_2.toNatClampNeg) then if ¬ (b10_2 < 0 ∨ 9 ≤ b10_2.toNatClampNeg) then X2_play_b38 k2 k10 b10_1 b10_2 (upd b10_3 b10_2.toNatClampNeg ((b10_3 b10_2.toNatClampNeg) + (1 : Int32))) else none else none) else none))
noncomputable def X2_play_L10 (w0 : Nat) (L : List Nat) (K : Nat → Nat) (ro : Nat → Nat) (rw : Nat → Nat → Int32) (k2 : Int32 → (Nat → Int32) → Option ((Nat → Int32))) (n : Nat) : Int32 → Int32 → (Nat → Int32) → Option ((Nat → Int32)) := Nat.rec (motive := fun _ => Int32 → Int32 → (Nat → Int32) → Option ((Nat → Int32))) (fun _ _ _ => none) (fun _ k10 b10_1 b10_2 b10_3 => X2_play_L10_body w0 L K ro rw k2 k10 b10_1 b10_2 b10_3) n
noncomputable def X2_play_L2_body (N : Nat) (w0 : Nat) (L : List Nat) (K : Nat → Nat) (ro : Nat → Nat) (rw : Nat → Nat → Int32) (k2 : Int32 → (Nat → Int32) → Option ((Nat → Int32))) (b2_1 : Int32) (b2_2 : (Nat → Int32)) : Option ((Nat → Int32)) := (if (32 : Int32) ≤ b2_1 then some b2_2 else X2_play_L10 w0 L K ro rw k2 N b2_1 (1 : Int32) b2_2)
noncomputable def X2_play_L2 (N : Nat) (w0 : Nat) (L : List Nat) (K : Nat → Nat) (ro : Nat → Nat) (rw : Nat → Nat → Int32) (n : Nat) : Int32 → (Nat → Int32) → Option ((Nat → Int32)) := Nat.rec (motive := fun _ => Int32 → (Nat → Int32) → Option ((Nat → Int32))) (fun _ _ => none) (fun _ k2 b2_1 b2_2 => X2_play_L2_body N w0 L K ro rw k2 b2_1 b2_2) n
noncomputable def X2_play_f (N : Nat) (w0 : Nat) (strk : Nat → Int32) (L : List Nat) (K : Nat → Nat) (ro : Nat → Nat) (rw : Nat → Nat → Int32) : Option ((Nat → Int32)) := X2_play_L2 N w0 L K ro rw N (0 : Int32) strk
set_option maxHeartbeats 4000000 in
set_option maxRecDepth 100000 in
theorem c_X2_play (l : Launch) (D : va_G) (cy : Nat → ClassId) (sa : Nat → Nat) (z0 sz : Nat) (w0 : Nat) (h1 : Nat) (strk : Nat → Int32) (L : List Nat) (K : Nat → Nat) (te : Nat → Int32) (le : Nat → Int32) (tb : Nat → Int32) (mb : Nat → Int64) (wr : Nat → Int64) (nu : Nat → Int32) (ro : Nat → Nat) (pn : Nat → Int32) (rw : Nat → Nat → Int32) (dr : Nat → Nat → Option Nat) (N : Nat) (o : ((Nat → Int32))) (ho : X2_play_f N w0 strk L K ro rw = some o) : Met l yX2_play (ws_ yX2_play cX2_play 4 none) ({ frames := 1, cells := 0, slots := 0, locals := 22 } : Room) (va_Pc [.ref w0, .ref h1] (Pr D cy sa z0 (([(h1, .inl (cy 0, 9, .inl strk))] : va_W) ++ va_pl L (plF cy K te le tb mb wr nu ro pn rw dr)) sz)) (QV D o (fun u => (([(h1, .inl (cy 0, 9, .inl u))] : va_W) ++ va_pl L (plF cy K te le tb mb wr nu ro pn rw dr))) (va_A (([(h1, .inl (cy 0, 9, .inl strk))] : va_W) ++ va_pl L (plF cy K te le tb mb wr nu ro pn rw dr)) sz)) 0 0 (va_A (([(h1, .inl (cy 0, 9, .inl strk))] : va_W) ++ va_pl L (plF cy K te le tb mb wr nu ro pn rw dr)) sz) := by
  refine MT (Qf := QV D o (fun u => (([(h1, .inl (cy 0, 9, .inl u))] : va_W) ++ va_pl L (plF cy K te le tb mb wr nu ro pn rw dr)))) (plainFor_of_name (by decide +kernel)) (Nat.le_of_ble_eq_true rfl) ?_
  intro p e s m below meth c A ls H hx hb hml hr hlocks hown hnm hts hG hA hZ hP hD hS hl
  have hK := hG.K
  have hl : lv_has ls 4 [(0, .ref w0), (1, .ref h1)] := hl
  have hf : X2_play_f N w0 strk L K ro rw = some o := ho
  clear ho
  unfold X2_play_f at hf
  have L2 : ∀ (n : Nat) (b2_1 : Int32) (b2_2 : (Nat → Int32)), ∀ (H : Heap) (locs : List Loc), va_P D vwCl (([(h1, .inl (cy 0, 9, .inl b2_2))] : va_W) ++ va_pl L (plF cy K te le tb mb wr nu ro pn rw dr)) H → va_D A (([(h1, .inl (cy 0, 9, .inl b2_2))] : va_W) ++ va_pl L (plF cy K te le tb mb wr nu ro pn rw dr)) → va_S A s.heap H locs → ∀ (ls : Array Slot), lv_has ls 4 [(0, .ref w0), (1, .ref h1), (2, .int b2_1)] → X2_play_L2 N w0 L K ro rw n b2_1 b2_2 = some o → W p l e ({ frames := 1, cells := 0, slots := 0, locals := 22 } : Room) s m ([.ref w0, .ref h1] : List Value).toArray below meth c H locs 0 0 (MQ below (QV D o (fun u => (([(h1, .inl (cy 0, 9, .inl u))] : va_W) ++ va_pl L (plF cy K te le tb mb wr nu ro pn rw dr))) A) ([.ref w0, .ref h1] : List Value).toArray s 0 0 A) (F0 m 2 ls []) := by
    intro n
    induction n with
    | zero => intro b2_1 b2_2 H locs hP hD hS ls hl hf; cases (show (none : Option ((Nat → Int32))) = some o from hf)
    | succ n ih_2 =>
      intro b2_1 b2_2 H locs hP hD hS ls hl hf
      have hf : X2_play_L2_body N w0 L K ro rw (X2_play_L2 N w0 L K ro rw n) b2_1 b2_2 = some o := hf
      generalize X2_play_L2 N w0 L K ro rw n = k2 at ih_2 hf
      unfold X2_play_L2_body at hf
      have J44 : ∀ (b44_1 : Int32) (b44_2 : (Nat → Int32)), ∀ (H : Heap) (locs : List Loc), va_P D vwCl (([(h1, .inl (cy 0, 9, .inl b44_2))] : va_W) ++ va_pl L (plF cy K te le tb mb wr nu ro pn rw dr)) H → va_D A (([(h1, .inl (cy 0, 9, .inl b44_2))] : va_W) ++ va_pl L (plF cy K te le tb mb wr nu ro pn rw dr)) → va_S A s.heap H locs → ∀ (ls : Array Slot), lv_has ls 4 [(0, .ref w0), (1, .ref h1), (2, .int b44_1)] → X2_play_b44 k2 b44_1 b44_2 = some o → W p l e ({ frames := 1, cells := 0, slots := 0, locals := 22 } : Room) s m ([.ref w0, .ref h1] : List Value).toArray below meth c H locs 0 0 (MQ below (QV D o (fun u => (([(h1, .inl (cy 0, 9, .inl u))] : va_W) ++ va_pl L (plF cy K te le tb mb wr nu ro pn rw dr))) A) ([.ref w0, .ref h1] : List Value).toArray s 0 0 A) (F0 m 44 ls []) := by
        intro b44_1 b44_2 H locs hP hD hS ls hl hf
        unfold X2_play_b44 at hf
        refine lv_iinc (v := (b44_1 + (1 : Int32))) (lv' := [(2, .int (b44_1 + (1 : Int32))), (0, .ref w0), (1, .ref h1)]) hx hb dX2_play_44 hl (k := 2) rfl (by rfl) (by decide) rfl (fun ls hl => ?_)
        refine lv_goto (tgt := 2) hx hb dX2_play_47 (by decide) ?_
        exact ih_2 (b44_1 + (1 : Int32)) b44_2 _ _ hP hD hS _ (lv_sub hl [1, 2, 0] rfl) hf
      have L10 : ∀ (n : Nat) (b10_1 : Int32) (b10_2 : Int32) (b10_3 : (Nat → Int32)), ∀ (H : Heap) (locs : List Loc), va_P D vwCl (([(h1, .inl (cy 0, 9, .inl b10_3))] : va_W) ++ va_pl L (plF cy K te le tb mb wr nu ro pn rw dr)) H → va_D A (([(h1, .inl (cy 0, 9, .inl b10_3))] : va_W) ++ va_pl L (plF cy K te le tb mb wr nu ro pn rw dr)) → va_S A s.heap H locs → ∀ (ls : Array Slot), lv_has ls 4 [(0, .ref w0), (1, .ref h1), (2, .int b10_1), (3, .int b10_2)] → X2_play_L10 w0 L K ro rw k2 n b10_1 b10_2 b10_3 = some o → W p l e ({ frames := 1, cells := 0, slots := 0, locals := 22 } : Room) s m ([.ref w0, .ref h1] : List Value).toArray below meth c H locs 0 0 (MQ below (QV D o (fun u => (([(h1, .inl (cy 0, 9, .inl u))] : va_W) ++ va_pl L (plF cy K te le tb mb wr nu ro pn rw dr))) A) ([.ref w0, .ref h1] : List Value).toArray s 0 0 A) (F0 m 10 ls []) := by
        intro n
        induction n with
        | zero => intro b10_1 b10_2 b10_3 H locs hP hD hS ls hl hf; cases (show (none : Option ((Nat → Int32))) = some o from hf)
        | succ n ih_10 =>
          intro b10_1 b10_2 b10_3 H locs hP hD hS ls hl hf
          have hf : X2_play_L10_body w0 L K ro rw k2 (X2_play_L10 w0 L K ro rw k2 n) b10_1 b10_2 b10_3 = some o := hf
          generalize X2_play_L10 w0 L K ro rw k2 n = k10 at ih_10 hf
          unfold X2_play_L10_body at hf
          have J38 : ∀ (b38_1 : Int32) (b38_2 : Int32) (b38_3 : (Nat → Int32)), ∀ (H : Heap) (locs : List Loc), va_P D vwCl (([(h1, .inl (cy 0, 9, .inl b38_3))] : va_W) ++ va_pl L (plF cy K te le tb mb wr nu ro pn rw dr)) H → va_D A (([(h1, .inl (cy 0, 9, .inl b38_3))] : va_W) ++ va_pl L (plF cy K te le tb mb wr nu ro pn rw dr)) → va_S A s.heap H locs → ∀ (ls : Array Slot), lv_has ls 4 [(0, .ref w0), (1, .ref h1), (2, .int b38_1), (3, .int b38_2)] → X2_play_b38 k2 k10 b38_1 b38_2 b38_3 = some o → W p l e ({ frames := 1, cells := 0, slots := 0, locals := 22 } : Room) s m ([.ref w0, .ref h1] : List Value).toArray below meth c H locs 0 0 (MQ below (QV D o (fun u => (([(h1, .inl (cy 0, 9, .inl u))] : va_W) ++ va_pl L (plF cy K te le tb mb wr nu ro pn rw dr))) A) ([.ref w0, .ref h1] : List Value).toArray s 0 0 A) (F0 m 38 ls []) := by
            intro b38_1 b38_2 b38_3 H locs hP hD hS ls hl hf
            unfold X2_play_b38 at hf
            refine lv_iinc (v := (b38_2 + (1 : Int32))) (lv' := [(3, .int (b38_2 + (1 : Int32))), (0, .ref w0), (1, .ref h1), (2, .int b38_1)]) hx hb dX2_play_38 hl (k := 3) rfl (by rfl) (by decide) rfl (fun ls hl => ?_)
            refine lv_goto (tgt := 10) hx hb dX2_play_41 (by decide) ?_
            exact ih_10 b38_1 (b38_2 + (1 : Int32)) b38_3 _ _ hP hD hS _ (lv_sub hl [1, 2, 3, 0] rfl) hf
          refine lv_iload_n hx hb dX2_play_10 rfl (lv_at hl 3 rfl) ?_
          refine lv_bipush (v := (8 : Int32)) hx hb dX2_play_11 (by decide) ?_
          refine lv_icmp_gt (tgt := 44) hx hb dX2_play_13 (by decide) (fun c2 => ?_) (fun c2 => ?_)
          · rw [if_pos c2] at hf
            exact J44 b10_1 b10_3 _ _ hP hD hS _ (lv_sub hl [0, 1, 2] rfl) hf
          · rw [if_neg c2] at hf
            refine lv_iload_n hx hb dX2_play_16 rfl (lv_at hl 3 rfl) ?_
            refine lv_aload_n hx hb dX2_play_17 rfl (lv_at hl 1 rfl) ?_
            refine va_alen hx hb hK hP 0 0 rfl rfl (v := (9 : Int32)) (show Int32.ofNat 9 = 9 by decide) dX2_play_18 ?_
            refine lv_icmp_ge (tgt := 44) hx hb dX2_play_19 (by decide) (fun c3 => ?_) (fun c3 => ?_)
            · rw [if_pos c3] at hf
              exact J44 b10_1 b10_3 _ _ hP hD hS _ (lv_sub hl [0, 1, 2] rfl) hf
            · rw [if_neg c3] at hf
              refine lv_aload_n hx hb dX2_play_22 rfl (lv_at hl 0 rfl) ?_
              refine lv_iload_n hx hb dX2_play_23 rfl (lv_at hl 2 rfl) ?_
              refine lv_iload_n hx hb dX2_play_24 rfl (lv_at hl 3 rfl) ?_
              obtain ⟨g4, hf⟩ := ite_some' hf
              obtain ⟨k5, e6⟩ := pl_1 (cy := cy) (te := te) (le := le) (tb := tb) (mb := mb) (wr := wr) (nu := nu) (ro := ro) (pn := pn) (rw := rw) (dr := dr) (X := [(h1, .inl (cy 0, 9, .inl b10_3))]) g4.1 g4.2
              obtain ⟨v7, e8, hf⟩ := bind_some' hf
              refine clP_i (va_runV (As := [.int b10_1, .int b10_2]) (rest := []) ⟨hx, hb, hml, hown, hts⟩ (c_X2_hasPin l D cy sa z0 H.size w0 L K te le tb mb wr nu ro pn rw dr b10_1 b10_2 _ e8) (cwV 2 hts (lw_gV k_761 k_763 k_14 k_63 k_765) rfl rfl rfl (by decide +kernel) ⟨Nat.le_of_ble_eq_true rfl, Nat.le_of_ble_eq_true rfl⟩) (preVP hG hS hZ hP hD [] rfl rfl (ci := 4) (q0 := k5) rfl e6) rfl rfl hl.1 rfl (lv_room (Nat.le_of_ble_eq_true rfl)) dX2_play_25 ⟨Nat.le_of_ble_eq_true rfl, Nat.le_of_ble_eq_true rfl⟩) hP hD hS hA [] rfl rfl rfl (fun H locs hP hD hS => ?_)
              have hP : va_P D vwCl (([(h1, .inl (cy 0, 9, .inl b10_3))] : va_W) ++ va_pl L (plF cy K te le tb mb wr nu ro pn rw dr)) H := hP
              have hD : va_D A (([(h1, .inl (cy 0, 9, .inl b10_3))] : va_W) ++ va_pl L (plF cy K te le tb mb wr nu ro pn rw dr)) := hD
              refine lv_if_eq (tgt := 38) hx hb dX2_play_28 (by decide) (fun c9 => ?_) (fun c9 => ?_)
              · rw [if_pos c9] at hf
                exact J38 b10_1 b10_2 b10_3 _ _ hP hD hS _ (lv_sub hl [0, 1, 2, 3] rfl) hf
              · rw [if_neg c9] at hf
                refine lv_aload_n hx hb dX2_play_31 rfl (lv_at hl 1 rfl) ?_
                refine lv_iload_n hx hb dX2_play_32 rfl (lv_at hl 3 rfl) ?_
                refine lv_dup2_11 hx hb dX2_play_33 rfl rfl ?_
                obtain ⟨g10, hf⟩ := ite_some' hf
                refine va_iald hx hb hK hP 0 0 rfl rfl g10 dX2_play_34 ?_
                refine lv_iconst (v := (1 : Int32)) hx hb dX2_play_35 (by decide) ?_
                refine lv_iadd hx hb dX2_play_36 ?_
                obtain ⟨g11, hf⟩ := ite_some' hf
                refine va_iast hx hb hK hP hD hS 0 0 rfl rfl g11 dX2_play_37 (fun H locs hP hD hS => ?_)
                have hP : va_P D vwCl (([(h1, .inl (cy 0, 9, .inl (upd b10_3 b10_2.toNatClampNeg ((b10_3 b10_2.toNatClampNeg) + (1 : Int32)))))] : va_W) ++ va_pl L (plF cy K te le tb mb wr nu ro pn rw dr)) H := hP
                have hD : va_D A (([(h1, .inl (cy 0, 9, .inl (upd b10_3 b10_2.toNatClampNeg ((b10_3 b10_2.toNatClampNeg) + (1 : Int32)))))] : va_W) ++ va_pl L (plF cy K te le tb mb wr nu ro pn rw dr)) := hD
                exact J38 b10_1 b10_2 (upd b10_3 b10_2.toNatClampNeg ((b10_3 b10_2.toNatClampNeg) + (1 : Int32))) _ _ hP hD hS _ (lv_sub hl [0, 1, 2, 3] rfl) hf
      refine lv_iload_n hx hb dX2_play_2 rfl (lv_at hl 2 rfl) ?_
      refine lv_bipush (v := (32 : Int32)) hx hb dX2_play_3 (by decide) ?_
      refine lv_icmp_ge (tgt := 50) hx hb dX2_play_5 (by decide) (fun c1 => ?_) (fun c1 => ?_)
      · rw [if_pos c1] at hf
        obtain rfl := Option.some.inj hf
        exact W.vret hx hb hr (fun t ht _ => ⟨⟨b2_2, rfl, rfl, by rw [ht]; exact hP, hD⟩, hS.F ht⟩) hS.2.2 dX2_play_50
      · rw [if_neg c1] at hf
        refine lv_iconst (v := (1 : Int32)) hx hb dX2_play_8 (by decide) ?_
        refine lv_istore_n (lv' := [(3, .int (1 : Int32)), (0, .ref w0), (1, .ref h1), (2, .int b2_1)]) hx hb dX2_play_9 rfl hl (by decide) rfl (fun ls hl => ?_)
        exact L10 N b2_1 (1 : Int32) b2_2 _ _ hP hD hS _ (lv_sub hl [1, 2, 3, 0] rfl) hf
  refine lv_iconst (v := (0 : Int32)) hx hb dX2_play_0 (by decide) ?_
  refine lv_istore_n (lv' := [(2, .int (0 : Int32)), (0, .ref w0), (1, .ref h1)]) hx hb dX2_play_1 rfl hl (by decide) rfl (fun ls hl => ?_)
  exact L2 N (0 : Int32) strk _ _ hP hD hS _ (lv_sub hl [1, 2, 0] rfl) hf
