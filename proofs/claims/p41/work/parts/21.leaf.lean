noncomputable def J9_floorDiv_7cf53_b21 (p0 : Int32) (p1 : Int32) : Option (Int32 × Unit) := some ((p0 / p1), ())
noncomputable def J9_floorDiv_7cf53_f (p0 : Int32) (p1 : Int32) : Option (Int32 × Unit) := if ¬ (p1 = 0) then (if (0 : Int32) ≤ (p0 ^^^ p1) then J9_floorDiv_7cf53_b21 p0 p1 else (if ((p0 / p1) * p1) = p0 then J9_floorDiv_7cf53_b21 p0 p1 else some (((p0 / p1) - (1 : Int32)), ()))) else none
set_option maxHeartbeats 4000000 in
set_option maxRecDepth 100000 in
theorem c_J9_floorDiv_7cf53 (l : Launch) (D : va_G) (cy : Nat → ClassId) (sa : Nat → Nat) (z0 sz : Nat) (p0 : Int32) (p1 : Int32) (o : (Int32 × Unit)) (ho : J9_floorDiv_7cf53_f p0 p1 = some o) : Met l yJ9_floorDiv_7cf53 (ws_ yJ9_floorDiv_7cf53 cJ9_floorDiv_7cf53 3 (some .int)) ({ frames := 0, cells := 0, slots := 0, locals := 0 } : Room) (va_Pc [.int p0, .int p1] (Pr D cy sa z0 [] sz)) (QI D o (fun u => []) (va_A [] sz)) 0 0 (va_A [] sz) := by
  refine MT (Qf := QI D o (fun u => [])) (by decide +kernel) (Nat.le_of_ble_eq_true rfl) ?_
  intro p e s m below meth c A ls H hx hb hml hr hlocks hown hnm hts hG hA hZ hP hD hS hl
  have hK := hG.K
  have hl : lv_has ls 3 [(0, .int p0), (1, .int p1)] := hl
  have hf : J9_floorDiv_7cf53_f p0 p1 = some o := ho
  clear ho
  unfold J9_floorDiv_7cf53_f at hf
  have J21 : ∀ (H : Heap) (locs : List Loc), va_P D vwCl [] H → va_D A [] → va_S A s.heap H locs → ∀ (ls : Array Slot), lv_has ls 3 [(2, .int (p0 / p1))] → J9_floorDiv_7cf53_b21 p0 p1 = some o → W p l e ({ frames := 0, cells := 0, slots := 0, locals := 0 } : Room) s m ([.int p0, .int p1] : List Value).toArray below meth c H locs 0 0 (MQ below (QI D o (fun u => []) A) ([.int p0, .int p1] : List Value).toArray s 0 0 A) (F0 m 21 ls []) := by
    intro  H locs hP hD hS ls hl hf
    unfold J9_floorDiv_7cf53_b21 at hf
    refine lv_iload_n hx hb dJ9_floorDiv_7cf53_21 rfl (lv_at hl 0 rfl) ?_
    obtain rfl := Option.some.inj hf
    exact W.iret (v := (p0 / p1)) hx hb hr (fun t ht _ => ⟨⟨(p0 / p1), (), rfl, rfl, by rw [ht]; exact hP, hD⟩, hS.F ht⟩) hS.2.2 dJ9_floorDiv_7cf53_22
  refine lv_iload_n hx hb dJ9_floorDiv_7cf53_0 rfl (lv_at hl 0 rfl) ?_
  refine lv_iload_n hx hb dJ9_floorDiv_7cf53_1 rfl (lv_at hl 1 rfl) ?_
  obtain ⟨g1, hf⟩ := ite_some' hf
  refine lv_idiv hx hb dJ9_floorDiv_7cf53_2 g1 ?_
  refine lv_istore_n (lv' := [(2, .int (p0 / p1)), (0, .int p0), (1, .int p1)]) hx hb dJ9_floorDiv_7cf53_3 rfl hl (by decide) rfl (fun ls hl => ?_)
  refine lv_iload_n hx hb dJ9_floorDiv_7cf53_4 rfl (lv_at hl 1 rfl) ?_
  refine lv_iload_n hx hb dJ9_floorDiv_7cf53_5 rfl (lv_at hl 2 rfl) ?_
  refine lv_ixor hx hb dJ9_floorDiv_7cf53_6 ?_
  refine lv_if_ge (tgt := 21) hx hb dJ9_floorDiv_7cf53_7 (by decide) (fun c2 => ?_) (fun c2 => ?_)
  · rw [if_pos c2] at hf
    exact J21  _ _ hP hD hS _ (lv_sub hl [0] rfl) hf
  · rw [if_neg c2] at hf
    refine lv_iload_n hx hb dJ9_floorDiv_7cf53_10 rfl (lv_at hl 0 rfl) ?_
    refine lv_iload_n hx hb dJ9_floorDiv_7cf53_11 rfl (lv_at hl 2 rfl) ?_
    refine lv_imul hx hb dJ9_floorDiv_7cf53_12 ?_
    refine lv_iload_n hx hb dJ9_floorDiv_7cf53_13 rfl (lv_at hl 1 rfl) ?_
    refine lv_icmp_eq (tgt := 21) hx hb dJ9_floorDiv_7cf53_14 (by decide) (fun c3 => ?_) (fun c3 => ?_)
    · rw [if_pos c3] at hf
      exact J21  _ _ hP hD hS _ (lv_sub hl [0] rfl) hf
    · rw [if_neg c3] at hf
      refine lv_iload_n hx hb dJ9_floorDiv_7cf53_17 rfl (lv_at hl 0 rfl) ?_
      refine lv_iconst (v := (1 : Int32)) hx hb dJ9_floorDiv_7cf53_18 (by decide) ?_
      refine lv_isub hx hb dJ9_floorDiv_7cf53_19 ?_
      obtain rfl := Option.some.inj hf
      exact W.iret (v := ((p0 / p1) - (1 : Int32))) hx hb hr (fun t ht _ => ⟨⟨((p0 / p1) - (1 : Int32)), (), rfl, rfl, by rw [ht]; exact hP, hD⟩, hS.F ht⟩) hS.2.2 dJ9_floorDiv_7cf53_20
noncomputable def J9_floorDiv_f86c9_b27 (p0 : Int64) (p1 : Int64) : Option (Int64 × Unit) := some ((p0 / p1), ())
noncomputable def J9_floorDiv_f86c9_f (p0 : Int64) (p1 : Int64) : Option (Int64 × Unit) := if ¬ (p1 = 0) then (if (0 : Int32) ≤ (lg_cmp (p0 ^^^ p1) (0 : Int64)) then J9_floorDiv_f86c9_b27 p0 p1 else (if (lg_cmp ((p0 / p1) * p1) p0) = (0 : Int32) then J9_floorDiv_f86c9_b27 p0 p1 else some (((p0 / p1) - (1 : Int64)), ()))) else none
set_option maxHeartbeats 4000000 in
set_option maxRecDepth 100000 in
theorem c_J9_floorDiv_f86c9 (l : Launch) (D : va_G) (cy : Nat → ClassId) (sa : Nat → Nat) (z0 sz : Nat) (p0 : Int64) (p1 : Int64) (o : (Int64 × Unit)) (ho : J9_floorDiv_f86c9_f p0 p1 = some o) : Met l yJ9_floorDiv_f86c9 (ws_ yJ9_floorDiv_f86c9 cJ9_floorDiv_f86c9 6 (some .long)) ({ frames := 0, cells := 0, slots := 0, locals := 0 } : Room) (va_Pc [.long p0, .long p1] (Pr D cy sa z0 [] sz)) (QL D o (fun u => []) (va_A [] sz)) 0 0 (va_A [] sz) := by
  refine MT (Qf := QL D o (fun u => [])) (by decide +kernel) (Nat.le_of_ble_eq_true rfl) ?_
  intro p e s m below meth c A ls H hx hb hml hr hlocks hown hnm hts hG hA hZ hP hD hS hl
  have hK := hG.K
  have hl : lv_has ls 6 [(0, .long p0), (2, .long p1)] := hl
  have hf : J9_floorDiv_f86c9_f p0 p1 = some o := ho
  clear ho
  unfold J9_floorDiv_f86c9_f at hf
  have J27 : ∀ (H : Heap) (locs : List Loc), va_P D vwCl [] H → va_D A [] → va_S A s.heap H locs → ∀ (ls : Array Slot), lv_has ls 6 [(4, .long (p0 / p1))] → J9_floorDiv_f86c9_b27 p0 p1 = some o → W p l e ({ frames := 0, cells := 0, slots := 0, locals := 0 } : Room) s m ([.long p0, .long p1] : List Value).toArray below meth c H locs 0 0 (MQ below (QL D o (fun u => []) A) ([.long p0, .long p1] : List Value).toArray s 0 0 A) (F0 m 27 ls []) := by
    intro  H locs hP hD hS ls hl hf
    unfold J9_floorDiv_f86c9_b27 at hf
    refine lv_lload hx hb dJ9_floorDiv_f86c9_27 (lv_at hl 0 rfl) ?_
    obtain rfl := Option.some.inj hf
    exact W.lret (v := (p0 / p1)) hx hb hr (fun t ht _ => ⟨⟨(p0 / p1), (), rfl, rfl, by rw [ht]; exact hP, hD⟩, hS.F ht⟩) hS.2.2 dJ9_floorDiv_f86c9_29
  refine lv_lload_n hx hb dJ9_floorDiv_f86c9_0 rfl (lv_at hl 0 rfl) ?_
  refine lv_lload_n hx hb dJ9_floorDiv_f86c9_1 rfl (lv_at hl 1 rfl) ?_
  obtain ⟨g1, hf⟩ := ite_some' hf
  refine lv_ldiv hx hb dJ9_floorDiv_f86c9_2 g1 ?_
  refine lv_lstore (lv' := [(4, .long (p0 / p1)), (0, .long p0), (2, .long p1)]) hx hb dJ9_floorDiv_f86c9_3 hl (by decide) rfl (fun ls hl => ?_)
  refine lv_lload_n hx hb dJ9_floorDiv_f86c9_5 rfl (lv_at hl 1 rfl) ?_
  refine lv_lload_n hx hb dJ9_floorDiv_f86c9_6 rfl (lv_at hl 2 rfl) ?_
  refine lv_lxor hx hb dJ9_floorDiv_f86c9_7 ?_
  refine lv_lconst (v := (0 : Int64)) hx hb dJ9_floorDiv_f86c9_8 (by decide) ?_
  refine W.lcmp hx hb dJ9_floorDiv_f86c9_9 ?_
  refine lv_if_ge (tgt := 27) hx hb dJ9_floorDiv_f86c9_10 (by decide) (fun c2 => ?_) (fun c2 => ?_)
  · rw [if_pos c2] at hf
    exact J27  _ _ hP hD hS _ (lv_sub hl [0] rfl) hf
  · rw [if_neg c2] at hf
    refine lv_lload hx hb dJ9_floorDiv_f86c9_13 (lv_at hl 0 rfl) ?_
    refine lv_lload_n hx hb dJ9_floorDiv_f86c9_15 rfl (lv_at hl 2 rfl) ?_
    refine lv_lmul hx hb dJ9_floorDiv_f86c9_16 ?_
    refine lv_lload_n hx hb dJ9_floorDiv_f86c9_17 rfl (lv_at hl 1 rfl) ?_
    refine W.lcmp hx hb dJ9_floorDiv_f86c9_18 ?_
    refine lv_if_eq (tgt := 27) hx hb dJ9_floorDiv_f86c9_19 (by decide) (fun c3 => ?_) (fun c3 => ?_)
    · rw [if_pos c3] at hf
      exact J27  _ _ hP hD hS _ (lv_sub hl [0] rfl) hf
    · rw [if_neg c3] at hf
      refine lv_lload hx hb dJ9_floorDiv_f86c9_22 (lv_at hl 0 rfl) ?_
      refine lv_lconst (v := (1 : Int64)) hx hb dJ9_floorDiv_f86c9_24 (by decide) ?_
      refine lv_lsub hx hb dJ9_floorDiv_f86c9_25 ?_
      obtain rfl := Option.some.inj hf
      exact W.lret (v := ((p0 / p1) - (1 : Int64))) hx hb hr (fun t ht _ => ⟨⟨((p0 / p1) - (1 : Int64)), (), rfl, rfl, by rw [ht]; exact hP, hD⟩, hS.F ht⟩) hS.2.2 dJ9_floorDiv_f86c9_26
noncomputable def J9_floorMod_f86c9_b25 (p0 : Int64) (p1 : Int64) : Option (Int64 × Unit) := some ((p0 - p0 / p1 * p1), ())
noncomputable def J9_floorMod_f86c9_f (p0 : Int64) (p1 : Int64) : Option (Int64 × Unit) := if ¬ (p1 = 0) then (if (0 : Int32) ≤ (lg_cmp (p0 ^^^ p1) (0 : Int64)) then J9_floorMod_f86c9_b25 p0 p1 else (if (lg_cmp (p0 - p0 / p1 * p1) (0 : Int64)) = (0 : Int32) then J9_floorMod_f86c9_b25 p0 p1 else some (((p0 - p0 / p1 * p1) + p1), ()))) else none
set_option maxHeartbeats 4000000 in
set_option maxRecDepth 100000 in
theorem c_J9_floorMod_f86c9 (l : Launch) (D : va_G) (cy : Nat → ClassId) (sa : Nat → Nat) (z0 sz : Nat) (p0 : Int64) (p1 : Int64) (o : (Int64 × Unit)) (ho : J9_floorMod_f86c9_f p0 p1 = some o) : Met l yJ9_floorMod_f86c9 (ws_ yJ9_floorMod_f86c9 cJ9_floorMod_f86c9 6 (some .long)) ({ frames := 0, cells := 0, slots := 0, locals := 0 } : Room) (va_Pc [.long p0, .long p1] (Pr D cy sa z0 [] sz)) (QL D o (fun u => []) (va_A [] sz)) 0 0 (va_A [] sz) := by
  refine MT (Qf := QL D o (fun u => [])) (by decide +kernel) (Nat.le_of_ble_eq_true rfl) ?_
  intro p e s m below meth c A ls H hx hb hml hr hlocks hown hnm hts hG hA hZ hP hD hS hl
  have hK := hG.K
  have hl : lv_has ls 6 [(0, .long p0), (2, .long p1)] := hl
  have hf : J9_floorMod_f86c9_f p0 p1 = some o := ho
  clear ho
  unfold J9_floorMod_f86c9_f at hf
  have J25 : ∀ (H : Heap) (locs : List Loc), va_P D vwCl [] H → va_D A [] → va_S A s.heap H locs → ∀ (ls : Array Slot), lv_has ls 6 [(4, .long (p0 - p0 / p1 * p1))] → J9_floorMod_f86c9_b25 p0 p1 = some o → W p l e ({ frames := 0, cells := 0, slots := 0, locals := 0 } : Room) s m ([.long p0, .long p1] : List Value).toArray below meth c H locs 0 0 (MQ below (QL D o (fun u => []) A) ([.long p0, .long p1] : List Value).toArray s 0 0 A) (F0 m 25 ls []) := by
    intro  H locs hP hD hS ls hl hf
    unfold J9_floorMod_f86c9_b25 at hf
    refine lv_lload hx hb dJ9_floorMod_f86c9_25 (lv_at hl 0 rfl) ?_
    obtain rfl := Option.some.inj hf
    exact W.lret (v := (p0 - p0 / p1 * p1)) hx hb hr (fun t ht _ => ⟨⟨(p0 - p0 / p1 * p1), (), rfl, rfl, by rw [ht]; exact hP, hD⟩, hS.F ht⟩) hS.2.2 dJ9_floorMod_f86c9_27
  refine lv_lload_n hx hb dJ9_floorMod_f86c9_0 rfl (lv_at hl 0 rfl) ?_
  refine lv_lload_n hx hb dJ9_floorMod_f86c9_1 rfl (lv_at hl 1 rfl) ?_
  obtain ⟨g1, hf⟩ := ite_some' hf
  refine lv_lrem hx hb dJ9_floorMod_f86c9_2 g1 ?_
  refine lv_lstore (lv' := [(4, .long (p0 - p0 / p1 * p1)), (0, .long p0), (2, .long p1)]) hx hb dJ9_floorMod_f86c9_3 hl (by decide) rfl (fun ls hl => ?_)
  refine lv_lload_n hx hb dJ9_floorMod_f86c9_5 rfl (lv_at hl 1 rfl) ?_
  refine lv_lload_n hx hb dJ9_floorMod_f86c9_6 rfl (lv_at hl 2 rfl) ?_
  refine lv_lxor hx hb dJ9_floorMod_f86c9_7 ?_
  refine lv_lconst (v := (0 : Int64)) hx hb dJ9_floorMod_f86c9_8 (by decide) ?_
  refine W.lcmp hx hb dJ9_floorMod_f86c9_9 ?_
  refine lv_if_ge (tgt := 25) hx hb dJ9_floorMod_f86c9_10 (by decide) (fun c2 => ?_) (fun c2 => ?_)
  · rw [if_pos c2] at hf
    exact J25  _ _ hP hD hS _ (lv_sub hl [0] rfl) hf
  · rw [if_neg c2] at hf
    refine lv_lload hx hb dJ9_floorMod_f86c9_13 (lv_at hl 0 rfl) ?_
    refine lv_lconst (v := (0 : Int64)) hx hb dJ9_floorMod_f86c9_15 (by decide) ?_
    refine W.lcmp hx hb dJ9_floorMod_f86c9_16 ?_
    refine lv_if_eq (tgt := 25) hx hb dJ9_floorMod_f86c9_17 (by decide) (fun c3 => ?_) (fun c3 => ?_)
    · rw [if_pos c3] at hf
      exact J25  _ _ hP hD hS _ (lv_sub hl [0] rfl) hf
    · rw [if_neg c3] at hf
      refine lv_lload hx hb dJ9_floorMod_f86c9_20 (lv_at hl 0 rfl) ?_
      refine lv_lload_n hx hb dJ9_floorMod_f86c9_22 rfl (lv_at hl 2 rfl) ?_
      refine lv_ladd hx hb dJ9_floorMod_f86c9_23 ?_
      obtain rfl := Option.some.inj hf
      exact W.lret (v := ((p0 - p0 / p1 * p1) + p1)) hx hb hr (fun t ht _ => ⟨⟨((p0 - p0 / p1 * p1) + p1), (), rfl, rfl, by rw [ht]; exact hP, hD⟩, hS.F ht⟩) hS.2.2 dJ9_floorMod_f86c9_24
noncomputable def X8_isWithin_b15 (b15_1 : Int32) : Option (Int32 × Unit) := if b15_1 &&& 1 = b15_1 then some (b15_1, ()) else none
noncomputable def X8_isWithin_b14 : Option (Int32 × Unit) := X8_isWithin_b15 (0 : Int32)
noncomputable def X8_isWithin_f (p0 : Int32) (p1 : Int32) (p2 : Int32) : Option (Int32 × Unit) := (if p0 < p1 then X8_isWithin_b14 else (if p2 < p0 then X8_isWithin_b14 else X8_isWithin_b15 (1 : Int32)))
set_option maxHeartbeats 4000000 in
set_option maxRecDepth 100000 in
theorem c_X8_isWithin (l : Launch) (D : va_G) (cy : Nat → ClassId) (sa : Nat → Nat) (z0 sz : Nat) (p0 : Int32) (p1 : Int32) (p2 : Int32) (o : (Int32 × Unit)) (ho : X8_isWithin_f p0 p1 p2 = some o) : Met l yX8_isWithin (ws_ yX8_isWithin cX8_isWithin 3 (some .boolean)) ({ frames := 0, cells := 0, slots := 0, locals := 0 } : Room) (va_Pc [.int p0, .int p1, .int p2] (Pr D cy sa z0 [] sz)) (QI D o (fun u => []) (va_A [] sz)) 0 0 (va_A [] sz) := by
  refine MT (Qf := QI D o (fun u => [])) (plainFor_of_name (by decide +kernel)) (Nat.le_of_ble_eq_true rfl) ?_
  intro p e s m below meth c A ls H hx hb hml hr hlocks hown hnm hts hG hA hZ hP hD hS hl
  have hK := hG.K
  have hl : lv_has ls 3 [(0, .int p0), (1, .int p1), (2, .int p2)] := hl
  have hf : X8_isWithin_f p0 p1 p2 = some o := ho
  clear ho
  unfold X8_isWithin_f at hf
  have J15 : ∀ (b15_1 : Int32), ∀ (H : Heap) (locs : List Loc), va_P D vwCl [] H → va_D A [] → va_S A s.heap H locs → ∀ (ls : Array Slot), lv_has ls 3 [] → X8_isWithin_b15 b15_1 = some o → W p l e ({ frames := 0, cells := 0, slots := 0, locals := 0 } : Room) s m ([.int p0, .int p1, .int p2] : List Value).toArray below meth c H locs 0 0 (MQ below (QI D o (fun u => []) A) ([.int p0, .int p1, .int p2] : List Value).toArray s 0 0 A) (F0 m 15 ls [.int b15_1]) := by
    intro b15_1 H locs hP hD hS ls hl hf
    unfold X8_isWithin_b15 at hf
    obtain ⟨g3, hf⟩ := ite_some' hf
    obtain rfl := Option.some.inj hf
    exact W.zret (v := b15_1) hx hb hr (zn_b g3) (fun t ht _ => ⟨⟨b15_1, (), rfl, rfl, by rw [ht]; exact hP, hD⟩, hS.F ht⟩) hS.2.2 dX8_isWithin_15
  have J14 : ∀ (H : Heap) (locs : List Loc), va_P D vwCl [] H → va_D A [] → va_S A s.heap H locs → ∀ (ls : Array Slot), lv_has ls 3 [] → X8_isWithin_b14 = some o → W p l e ({ frames := 0, cells := 0, slots := 0, locals := 0 } : Room) s m ([.int p0, .int p1, .int p2] : List Value).toArray below meth c H locs 0 0 (MQ below (QI D o (fun u => []) A) ([.int p0, .int p1, .int p2] : List Value).toArray s 0 0 A) (F0 m 14 ls []) := by
    intro  H locs hP hD hS ls hl hf
    unfold X8_isWithin_b14 at hf
    refine lv_iconst (v := (0 : Int32)) hx hb dX8_isWithin_14 (by decide) ?_
    exact J15 (0 : Int32) _ _ hP hD hS _ (lv_sub hl [] rfl) hf
  refine lv_iload_n hx hb dX8_isWithin_0 rfl (lv_at hl 0 rfl) ?_
  refine lv_iload_n hx hb dX8_isWithin_1 rfl (lv_at hl 1 rfl) ?_
  refine lv_icmp_lt (tgt := 14) hx hb dX8_isWithin_2 (by decide) (fun c1 => ?_) (fun c1 => ?_)
  · rw [if_pos c1] at hf
    exact J14  _ _ hP hD hS _ (lv_sub hl [] rfl) hf
  · rw [if_neg c1] at hf
    refine lv_iload_n hx hb dX8_isWithin_5 rfl (lv_at hl 0 rfl) ?_
    refine lv_iload_n hx hb dX8_isWithin_6 rfl (lv_at hl 2 rfl) ?_
    refine lv_icmp_gt (tgt := 14) hx hb dX8_isWithin_7 (by decide) (fun c2 => ?_) (fun c2 => ?_)
    · rw [if_pos c2] at hf
      exact J14  _ _ hP hD hS _ (lv_sub hl [] rfl) hf
    · rw [if_neg c2] at hf
      refine lv_iconst (v := (1 : Int32)) hx hb dX8_isWithin_10 (by decide) ?_
      refine lv_goto (tgt := 15) hx hb dX8_isWithin_11 (by decide) ?_
      exact J15 (1 : Int32) _ _ hP hD hS _ (lv_sub hl [] rfl) hf
noncomputable def X8_isHour_f (p0 : Int32) : Option (Int32 × Unit) := (X8_isWithin_f p0 (0 : Int32) (23 : Int32)).bind fun v1 => if v1.1 &&& 1 = v1.1 then some (v1.1, ()) else none
set_option maxHeartbeats 4000000 in
set_option maxRecDepth 100000 in
theorem c_X8_isHour (l : Launch) (D : va_G) (cy : Nat → ClassId) (sa : Nat → Nat) (z0 sz : Nat) (p0 : Int32) (o : (Int32 × Unit)) (ho : X8_isHour_f p0 = some o) : Met l yX8_isHour (ws_ yX8_isHour cX8_isHour 1 (some .boolean)) ({ frames := 1, cells := 0, slots := 0, locals := 22 } : Room) (va_Pc [.int p0] (Pr D cy sa z0 [] sz)) (QI D o (fun u => []) (va_A [] sz)) 0 0 (va_A [] sz) := by
  refine MT (Qf := QI D o (fun u => [])) (plainFor_of_name (by decide +kernel)) (Nat.le_of_ble_eq_true rfl) ?_
  intro p e s m below meth c A ls H hx hb hml hr hlocks hown hnm hts hG hA hZ hP hD hS hl
  have hK := hG.K
  have hl : lv_has ls 1 [(0, .int p0)] := hl
  have hf : X8_isHour_f p0 = some o := ho
  clear ho
  unfold X8_isHour_f at hf
  refine lv_iload_n hx hb dX8_isHour_0 rfl (lv_at hl 0 rfl) ?_
  refine lv_iconst (v := (0 : Int32)) hx hb dX8_isHour_1 (by decide) ?_
  refine lv_bipush (v := (23 : Int32)) hx hb dX8_isHour_2 (by decide) ?_
  obtain ⟨v1, e2, hf⟩ := bind_some' hf
  refine cl_i (va_runS (As := [.int p0, .int (0 : Int32), .int (23 : Int32)]) (rest := []) ⟨hx, hb, hml, hown, hts⟩ (c_X8_isWithin l D cy sa z0 H.size p0 (0 : Int32) (23 : Int32) _ e2) (va_cwS 3 hts (lw_gS k_458 k_307 k_36 k_308) rfl rfl rfl (by decide +kernel) ⟨Nat.le_of_ble_eq_true rfl, Nat.le_of_ble_eq_true rfl⟩) (preS hG hS hZ hP hD [] rfl rfl) rfl rfl hl.1 rfl (lv_room (Nat.le_of_ble_eq_true rfl)) dX8_isHour_4 ⟨Nat.le_of_ble_eq_true rfl, Nat.le_of_ble_eq_true rfl⟩) hP hD hS hA [] rfl rfl rfl (fun H locs hP hD hS => ?_)
  have hP : va_P D vwCl [] H := hP
  have hD : va_D A [] := hD
  obtain ⟨g3, hf⟩ := ite_some' hf
  obtain rfl := Option.some.inj hf
  exact W.zret (v := v1.1) hx hb hr (zn_b g3) (fun t ht _ => ⟨⟨v1.1, (), rfl, rfl, by rw [ht]; exact hP, hD⟩, hS.F ht⟩) hS.2.2 dX8_isHour_7
noncomputable def X8_hourOf_f (p0 : Int32) : Option (Int32 × Unit) := (J9_floorDiv_7cf53_f p0 (3600 : Int32)).bind fun v1 => (J9_floorMod_7cf53_f v1.1 (24 : Int32)).bind fun v3 => some (v3.1, ())
set_option maxHeartbeats 4000000 in
set_option maxRecDepth 100000 in
theorem c_X8_hourOf (l : Launch) (D : va_G) (cy : Nat → ClassId) (sa : Nat → Nat) (z0 sz : Nat) (p0 : Int32) (o : (Int32 × Unit)) (ho : X8_hourOf_f p0 = some o) : Met l yX8_hourOf (ws_ yX8_hourOf cX8_hourOf 1 (some .int)) ({ frames := 1, cells := 0, slots := 0, locals := 22 } : Room) (va_Pc [.int p0] (Pr D cy sa z0 [] sz)) (QI D o (fun u => []) (va_A [] sz)) 0 0 (va_A [] sz) := by
  refine MT (Qf := QI D o (fun u => [])) (plainFor_of_name (by decide +kernel)) (Nat.le_of_ble_eq_true rfl) ?_
  intro p e s m below meth c A ls H hx hb hml hr hlocks hown hnm hts hG hA hZ hP hD hS hl
  have hK := hG.K
  have hl : lv_has ls 1 [(0, .int p0)] := hl
  have hf : X8_hourOf_f p0 = some o := ho
  clear ho
  unfold X8_hourOf_f at hf
  refine lv_iload_n hx hb dX8_hourOf_0 rfl (lv_at hl 0 rfl) ?_
  refine lv_sipush (v := (3600 : Int32)) hx hb dX8_hourOf_1 (by decide) ?_
  obtain ⟨v1, e2, hf⟩ := bind_some' hf
  refine cl_i (va_runS (As := [.int p0, .int (3600 : Int32)]) (rest := []) ⟨hx, hb, hml, hown, hts⟩ (c_J9_floorDiv_7cf53 l D cy sa z0 H.size p0 (3600 : Int32) _ e2) (va_cwS 2 hts (lw_gS k_364 k_365 k_43 k_366) rfl rfl rfl (by decide +kernel) ⟨Nat.le_of_ble_eq_true rfl, Nat.le_of_ble_eq_true rfl⟩) (preS hG hS hZ hP hD [] rfl rfl) rfl rfl hl.1 rfl (lv_room (Nat.le_of_ble_eq_true rfl)) dX8_hourOf_4 ⟨Nat.le_of_ble_eq_true rfl, Nat.le_of_ble_eq_true rfl⟩) hP hD hS hA [] rfl rfl rfl (fun H locs hP hD hS => ?_)
  have hP : va_P D vwCl [] H := hP
  have hD : va_D A [] := hD
  refine lv_bipush (v := (24 : Int32)) hx hb dX8_hourOf_7 (by decide) ?_
  obtain ⟨v3, e4, hf⟩ := bind_some' hf
  refine cl_i (va_runS (As := [.int v1.1, .int (24 : Int32)]) (rest := []) ⟨hx, hb, hml, hown, hts⟩ (c_J9_floorMod_7cf53 l D cy sa z0 H.size v1.1 (24 : Int32) _ e4) (va_cwS 2 hts (lw_gS k_367 k_368 k_43 k_369) rfl rfl rfl (by decide +kernel) ⟨Nat.le_of_ble_eq_true rfl, Nat.le_of_ble_eq_true rfl⟩) (preS hG hS hZ hP hD [] rfl rfl) rfl rfl hl.1 rfl (lv_room (Nat.le_of_ble_eq_true rfl)) dX8_hourOf_9 ⟨Nat.le_of_ble_eq_true rfl, Nat.le_of_ble_eq_true rfl⟩) hP hD hS hA [] rfl rfl rfl (fun H locs hP hD hS => ?_)
  have hP : va_P D vwCl [] H := hP
  have hD : va_D A [] := hD
  obtain rfl := Option.some.inj hf
  exact W.iret (v := v3.1) hx hb hr (fun t ht _ => ⟨⟨v3.1, (), rfl, rfl, by rw [ht]; exact hP, hD⟩, hS.F ht⟩) hS.2.2 dX8_hourOf_12
noncomputable def X8_wholePart_b15 (b15_1 : Int64) : Option (Int64 × Unit) := some (b15_1, ())
noncomputable def X8_wholePart_f (p0 : Int64) (p1 : Int64) : Option (Int64 × Unit) := (if (0 : Int32) ≤ (lg_cmp p1 (1 : Int64)) then (J9_floorDiv_f86c9_f p0 p1).bind fun v2 => X8_wholePart_b15 v2.1 else X8_wholePart_b15 (0 : Int64))
set_option maxHeartbeats 4000000 in
set_option maxRecDepth 100000 in
theorem c_X8_wholePart (l : Launch) (D : va_G) (cy : Nat → ClassId) (sa : Nat → Nat) (z0 sz : Nat) (p0 : Int64) (p1 : Int64) (o : (Int64 × Unit)) (ho : X8_wholePart_f p0 p1 = some o) : Met l yX8_wholePart (ws_ yX8_wholePart cX8_wholePart 4 (some .long)) ({ frames := 1, cells := 0, slots := 0, locals := 25 } : Room) (va_Pc [.long p0, .long p1] (Pr D cy sa z0 [] sz)) (QL D o (fun u => []) (va_A [] sz)) 0 0 (va_A [] sz) := by
  refine MT (Qf := QL D o (fun u => [])) (plainFor_of_name (by decide +kernel)) (Nat.le_of_ble_eq_true rfl) ?_
  intro p e s m below meth c A ls H hx hb hml hr hlocks hown hnm hts hG hA hZ hP hD hS hl
  have hK := hG.K
  have hl : lv_has ls 4 [(0, .long p0), (2, .long p1)] := hl
  have hf : X8_wholePart_f p0 p1 = some o := ho
  clear ho
  unfold X8_wholePart_f at hf
  have J15 : ∀ (b15_1 : Int64), ∀ (H : Heap) (locs : List Loc), va_P D vwCl [] H → va_D A [] → va_S A s.heap H locs → ∀ (ls : Array Slot), lv_has ls 4 [] → X8_wholePart_b15 b15_1 = some o → W p l e ({ frames := 1, cells := 0, slots := 0, locals := 25 } : Room) s m ([.long p0, .long p1] : List Value).toArray below meth c H locs 0 0 (MQ below (QL D o (fun u => []) A) ([.long p0, .long p1] : List Value).toArray s 0 0 A) (F0 m 15 ls [.long b15_1]) := by
    intro b15_1 H locs hP hD hS ls hl hf
    unfold X8_wholePart_b15 at hf
    obtain rfl := Option.some.inj hf
    exact W.lret (v := b15_1) hx hb hr (fun t ht _ => ⟨⟨b15_1, (), rfl, rfl, by rw [ht]; exact hP, hD⟩, hS.F ht⟩) hS.2.2 dX8_wholePart_15
  refine lv_lload_n hx hb dX8_wholePart_0 rfl (lv_at hl 1 rfl) ?_
  refine lv_lconst (v := (1 : Int64)) hx hb dX8_wholePart_1 (by decide) ?_
  refine W.lcmp hx hb dX8_wholePart_2 ?_
  refine lv_if_ge (tgt := 10) hx hb dX8_wholePart_3 (by decide) (fun c1 => ?_) (fun c1 => ?_)
  · rw [if_pos c1] at hf
    refine lv_lload_n hx hb dX8_wholePart_10 rfl (lv_at hl 0 rfl) ?_
    refine lv_lload_n hx hb dX8_wholePart_11 rfl (lv_at hl 1 rfl) ?_
    obtain ⟨v2, e3, hf⟩ := bind_some' hf
    refine cl_l (va_runS (As := [.long p0, .long p1]) (rest := []) ⟨hx, hb, hml, hown, hts⟩ (c_J9_floorDiv_f86c9 l D cy sa z0 H.size p0 p1 _ e3) (va_cwS 2 hts (lw_gS k_583 k_584 k_43 k_585) rfl rfl rfl (by decide +kernel) ⟨Nat.le_of_ble_eq_true rfl, Nat.le_of_ble_eq_true rfl⟩) (preS hG hS hZ hP hD [] rfl rfl) rfl rfl hl.1 rfl (lv_room (Nat.le_of_ble_eq_true rfl)) dX8_wholePart_12 ⟨Nat.le_of_ble_eq_true rfl, Nat.le_of_ble_eq_true rfl⟩) hP hD hS hA [] rfl rfl rfl (fun H locs hP hD hS => ?_)
    have hP : va_P D vwCl [] H := hP
    have hD : va_D A [] := hD
    exact J15 v2.1 _ _ hP hD hS _ (lv_sub hl [] rfl) hf
  · rw [if_neg c1] at hf
    refine lv_lconst (v := (0 : Int64)) hx hb dX8_wholePart_6 (by decide) ?_
    refine lv_goto (tgt := 15) hx hb dX8_wholePart_7 (by decide) ?_
    exact J15 (0 : Int64) _ _ hP hD hS _ (lv_sub hl [] rfl) hf
noncomputable def X4_copyFrom_f (num1 : Int32) (den1 : Int32) (rst1 : Int32) : Option ((Int32 × Int32 × Int32)) := some (num1, den1, rst1)
set_option maxHeartbeats 4000000 in
set_option maxRecDepth 100000 in
theorem c_X4_copyFrom (l : Launch) (D : va_G) (cy : Nat → ClassId) (sa : Nat → Nat) (z0 sz : Nat) (h0 : Nat) (h1 : Nat) (num : Int32) (den : Int32) (rst : Int32) (num1 : Int32) (den1 : Int32) (rst1 : Int32) (o : ((Int32 × Int32 × Int32))) (ho : X4_copyFrom_f num1 den1 rst1 = some o) : Met l yX4_copyFrom (ws_ yX4_copyFrom cX4_copyFrom 2 none) ({ frames := 0, cells := 0, slots := 0, locals := 0 } : Room) (va_Pc [.ref h0, .ref h1] (Pr D cy sa z0 [(h0, .inr (8, [.int num, .int den, .int rst])), (h1, .inr (8, [.int num1, .int den1, .int rst1]))] sz)) (QV D o (fun u => [(h0, .inr (8, [.int u.1, .int u.2.1, .int u.2.2])), (h1, .inr (8, [.int num1, .int den1, .int rst1]))]) (va_A [(h0, .inr (8, [.int num, .int den, .int rst])), (h1, .inr (8, [.int num1, .int den1, .int rst1]))] sz)) 0 0 (va_A [(h0, .inr (8, [.int num, .int den, .int rst])), (h1, .inr (8, [.int num1, .int den1, .int rst1]))] sz) := by
  refine MT (Qf := QV D o (fun u => [(h0, .inr (8, [.int u.1, .int u.2.1, .int u.2.2])), (h1, .inr (8, [.int num1, .int den1, .int rst1]))])) (plainFor_of_name (by decide +kernel)) (Nat.le_of_ble_eq_true rfl) ?_
  intro p e s m below meth c A ls H hx hb hml hr hlocks hown hnm hts hG hA hZ hP hD hS hl
  have hK := hG.K
  have hl : lv_has ls 2 [(0, .ref h0), (1, .ref h1)] := hl
  have hf : X4_copyFrom_f num1 den1 rst1 = some o := ho
  clear ho
  unfold X4_copyFrom_f at hf
  refine lv_aload_n hx hb dX4_copyFrom_0 rfl (lv_at hl 0 rfl) ?_
  refine lv_aload_n hx hb dX4_copyFrom_1 rfl (lv_at hl 1 rfl) ?_
  refine va_get (D := D) (ci := 8) (v := .int num1) (C := RX4) (T := TX4) (N := 3) hx hb hts in_X4 hown hK hP 1 rfl rfl 0 (by decide) (hts _ k_213) (fun _ h9 => h9) rfl dX4_copyFrom_2 ?_
  refine va_put (D := D) (ci := 8) (v := .int num1) (ty := .int) (C := RX4) (T := TX4) (N := 3) hx hb hts in_X4 tyX4 tyX4_ok nmX4 hown hK hP hD hS 0 rfl rfl 0 (by decide) (hts _ k_213) (fun _ h9 => h9) rfl (by decide +kernel) rfl rfl (Nat.le_of_ble_eq_true rfl) dX4_copyFrom_5 (fun H locs hP hD hS => ?_)
  have hP : va_P D vwCl [(h0, .inr (8, [.int num1, .int den, .int rst])), (h1, .inr (8, [.int num1, .int den1, .int rst1]))] H := hP
  have hD : va_D A [(h0, .inr (8, [.int num1, .int den, .int rst])), (h1, .inr (8, [.int num1, .int den1, .int rst1]))] := hD
  refine lv_aload_n hx hb dX4_copyFrom_8 rfl (lv_at hl 0 rfl) ?_
  refine lv_aload_n hx hb dX4_copyFrom_9 rfl (lv_at hl 1 rfl) ?_
  refine va_get (D := D) (ci := 8) (v := .int den1) (C := RX4) (T := TX4) (N := 3) hx hb hts in_X4 hown hK hP 1 rfl rfl 1 (by decide) (hts _ k_214) (fun _ h9 => h9) rfl dX4_copyFrom_10 ?_
  refine va_put (D := D) (ci := 8) (v := .int den1) (ty := .int) (C := RX4) (T := TX4) (N := 3) hx hb hts in_X4 tyX4 tyX4_ok nmX4 hown hK hP hD hS 0 rfl rfl 1 (by decide) (hts _ k_214) (fun _ h9 => h9) rfl (by decide +kernel) rfl rfl (Nat.le_of_ble_eq_true rfl) dX4_copyFrom_13 (fun H locs hP hD hS => ?_)
  have hP : va_P D vwCl [(h0, .inr (8, [.int num1, .int den1, .int rst])), (h1, .inr (8, [.int num1, .int den1, .int rst1]))] H := hP
  have hD : va_D A [(h0, .inr (8, [.int num1, .int den1, .int rst])), (h1, .inr (8, [.int num1, .int den1, .int rst1]))] := hD
  refine lv_aload_n hx hb dX4_copyFrom_16 rfl (lv_at hl 0 rfl) ?_
  refine lv_aload_n hx hb dX4_copyFrom_17 rfl (lv_at hl 1 rfl) ?_
  refine va_get (D := D) (ci := 8) (v := .int rst1) (C := RX4) (T := TX4) (N := 3) hx hb hts in_X4 hown hK hP 1 rfl rfl 2 (by decide) (hts _ k_215) (fun _ h9 => h9) rfl dX4_copyFrom_18 ?_
  refine va_put (D := D) (ci := 8) (v := .int rst1) (ty := .int) (C := RX4) (T := TX4) (N := 3) hx hb hts in_X4 tyX4 tyX4_ok nmX4 hown hK hP hD hS 0 rfl rfl 2 (by decide) (hts _ k_215) (fun _ h9 => h9) rfl (by decide +kernel) rfl rfl (Nat.le_of_ble_eq_true rfl) dX4_copyFrom_21 (fun H locs hP hD hS => ?_)
  have hP : va_P D vwCl [(h0, .inr (8, [.int num1, .int den1, .int rst1])), (h1, .inr (8, [.int num1, .int den1, .int rst1]))] H := hP
  have hD : va_D A [(h0, .inr (8, [.int num1, .int den1, .int rst1])), (h1, .inr (8, [.int num1, .int den1, .int rst1]))] := hD
  obtain rfl := Option.some.inj hf
  exact W.vret hx hb hr (fun t ht _ => ⟨⟨(num1, den1, rst1), rfl, rfl, by rw [ht]; exact hP, hD⟩, hS.F ht⟩) hS.2.2 dX4_copyFrom_24
noncomputable def X4_change_f (num : Int32) (p0 : Int32) (p1 : Int32) : Option (Int32 × (Int32 × Int32 × Int32)) := some (num, (p0, p1, (0 : Int32)))
set_option maxHeartbeats 4000000 in
set_option maxRecDepth 100000 in
theorem c_X4_change (l : Launch) (D : va_G) (cy : Nat → ClassId) (sa : Nat → Nat) (z0 sz : Nat) (h0 : Nat) (num : Int32) (den : Int32) (rst : Int32) (p0 : Int32) (p1 : Int32) (o : (Int32 × (Int32 × Int32 × Int32))) (ho : X4_change_f num p0 p1 = some o) : Met l yX4_change (ws_ yX4_change cX4_change 4 (some .int)) ({ frames := 0, cells := 0, slots := 0, locals := 0 } : Room) (va_Pc [.ref h0, .int p0, .int p1] (Pr D cy sa z0 [(h0, .inr (8, [.int num, .int den, .int rst]))] sz)) (QI D o (fun u => [(h0, .inr (8, [.int u.1, .int u.2.1, .int u.2.2]))]) (va_A [(h0, .inr (8, [.int num, .int den, .int rst]))] sz)) 0 0 (va_A [(h0, .inr (8, [.int num, .int den, .int rst]))] sz) := by
  refine MT (Qf := QI D o (fun u => [(h0, .inr (8, [.int u.1, .int u.2.1, .int u.2.2]))])) (plainFor_of_name (by decide +kernel)) (Nat.le_of_ble_eq_true rfl) ?_
  intro p e s m below meth c A ls H hx hb hml hr hlocks hown hnm hts hG hA hZ hP hD hS hl
  have hK := hG.K
  have hl : lv_has ls 4 [(0, .ref h0), (1, .int p0), (2, .int p1)] := hl
  have hf : X4_change_f num p0 p1 = some o := ho
  clear ho
  unfold X4_change_f at hf
  refine lv_aload_n hx hb dX4_change_0 rfl (lv_at hl 0 rfl) ?_
  refine va_get (D := D) (ci := 8) (v := .int num) (C := RX4) (T := TX4) (N := 3) hx hb hts in_X4 hown hK hP 0 rfl rfl 0 (by decide) (hts _ k_213) (fun _ h9 => h9) rfl dX4_change_1 ?_
  refine lv_istore_n (lv' := [(3, .int num), (0, .ref h0), (1, .int p0), (2, .int p1)]) hx hb dX4_change_4 rfl hl (by decide) rfl (fun ls hl => ?_)
  refine lv_aload_n hx hb dX4_change_5 rfl (lv_at hl 1 rfl) ?_
  refine lv_iload_n hx hb dX4_change_6 rfl (lv_at hl 2 rfl) ?_
  refine va_put (D := D) (ci := 8) (v := .int p0) (ty := .int) (C := RX4) (T := TX4) (N := 3) hx hb hts in_X4 tyX4 tyX4_ok nmX4 hown hK hP hD hS 0 rfl rfl 0 (by decide) (hts _ k_213) (fun _ h9 => h9) rfl (by decide +kernel) rfl rfl (Nat.le_of_ble_eq_true rfl) dX4_change_7 (fun H locs hP hD hS => ?_)
  have hP : va_P D vwCl [(h0, .inr (8, [.int p0, .int den, .int rst]))] H := hP
  have hD : va_D A [(h0, .inr (8, [.int p0, .int den, .int rst]))] := hD
  refine lv_aload_n hx hb dX4_change_10 rfl (lv_at hl 1 rfl) ?_
  refine lv_iload_n hx hb dX4_change_11 rfl (lv_at hl 3 rfl) ?_
  refine va_put (D := D) (ci := 8) (v := .int p1) (ty := .int) (C := RX4) (T := TX4) (N := 3) hx hb hts in_X4 tyX4 tyX4_ok nmX4 hown hK hP hD hS 0 rfl rfl 1 (by decide) (hts _ k_214) (fun _ h9 => h9) rfl (by decide +kernel) rfl rfl (Nat.le_of_ble_eq_true rfl) dX4_change_12 (fun H locs hP hD hS => ?_)
  have hP : va_P D vwCl [(h0, .inr (8, [.int p0, .int p1, .int rst]))] H := hP
  have hD : va_D A [(h0, .inr (8, [.int p0, .int p1, .int rst]))] := hD
  refine lv_aload_n hx hb dX4_change_15 rfl (lv_at hl 1 rfl) ?_
  refine lv_iconst (v := (0 : Int32)) hx hb dX4_change_16 (by decide) ?_
  refine va_put (D := D) (ci := 8) (v := .int (0 : Int32)) (ty := .int) (C := RX4) (T := TX4) (N := 3) hx hb hts in_X4 tyX4 tyX4_ok nmX4 hown hK hP hD hS 0 rfl rfl 2 (by decide) (hts _ k_215) (fun _ h9 => h9) rfl (by decide +kernel) rfl rfl (Nat.le_of_ble_eq_true rfl) dX4_change_17 (fun H locs hP hD hS => ?_)
  have hP : va_P D vwCl [(h0, .inr (8, [.int p0, .int p1, .int (0 : Int32)]))] H := hP
  have hD : va_D A [(h0, .inr (8, [.int p0, .int p1, .int (0 : Int32)]))] := hD
  refine lv_iload_n hx hb dX4_change_20 rfl (lv_at hl 0 rfl) ?_
  obtain rfl := Option.some.inj hf
  exact W.iret (v := num) hx hb hr (fun t ht _ => ⟨⟨num, (p0, p1, (0 : Int32)), rfl, rfl, by rw [ht]; exact hP, hD⟩, hS.F ht⟩) hS.2.2 dX4_change_21
noncomputable def X4_secondsOf_f (num : Int32) (den : Int32) (rst : Int32) (p0 : Int32) : Option (Int32 × Unit) := (X8_wholePart_f ((rst + (num * p0)).toInt64) den.toInt64).bind fun v1 => some (v1.1.toInt32, ())
set_option maxHeartbeats 4000000 in
set_option maxRecDepth 100000 in
theorem c_X4_secondsOf (l : Launch) (D : va_G) (cy : Nat → ClassId) (sa : Nat → Nat) (z0 sz : Nat) (h0 : Nat) (num : Int32) (den : Int32) (rst : Int32) (p0 : Int32) (o : (Int32 × Unit)) (ho : X4_secondsOf_f num den rst p0 = some o) : Met l yX4_secondsOf (ws_ yX4_secondsOf cX4_secondsOf 2 (some .int)) ({ frames := 2, cells := 0, slots := 0, locals := 48 } : Room) (va_Pc [.ref h0, .int p0] (Pr D cy sa z0 [(h0, .inr (8, [.int num, .int den, .int rst]))] sz)) (QI D o (fun u => [(h0, .inr (8, [.int num, .int den, .int rst]))]) (va_A [(h0, .inr (8, [.int num, .int den, .int rst]))] sz)) 0 0 (va_A [(h0, .inr (8, [.int num, .int den, .int rst]))] sz) := by
  refine MT (Qf := QI D o (fun u => [(h0, .inr (8, [.int num, .int den, .int rst]))])) (plainFor_of_name (by decide +kernel)) (Nat.le_of_ble_eq_true rfl) ?_
  intro p e s m below meth c A ls H hx hb hml hr hlocks hown hnm hts hG hA hZ hP hD hS hl
  have hK := hG.K
  have hl : lv_has ls 2 [(0, .ref h0), (1, .int p0)] := hl
  have hf : X4_secondsOf_f num den rst p0 = some o := ho
  clear ho
  unfold X4_secondsOf_f at hf
  refine lv_aload_n hx hb dX4_secondsOf_0 rfl (lv_at hl 0 rfl) ?_
  refine va_get (D := D) (ci := 8) (v := .int rst) (C := RX4) (T := TX4) (N := 3) hx hb hts in_X4 hown hK hP 0 rfl rfl 2 (by decide) (hts _ k_215) (fun _ h9 => h9) rfl dX4_secondsOf_1 ?_
  refine lv_aload_n hx hb dX4_secondsOf_4 rfl (lv_at hl 0 rfl) ?_
  refine va_get (D := D) (ci := 8) (v := .int num) (C := RX4) (T := TX4) (N := 3) hx hb hts in_X4 hown hK hP 0 rfl rfl 0 (by decide) (hts _ k_213) (fun _ h9 => h9) rfl dX4_secondsOf_5 ?_
  refine lv_iload_n hx hb dX4_secondsOf_8 rfl (lv_at hl 1 rfl) ?_
  refine lv_imul hx hb dX4_secondsOf_9 ?_
  refine lv_iadd hx hb dX4_secondsOf_10 ?_
  refine lv_i2l hx hb dX4_secondsOf_11 rfl ?_
  refine lv_aload_n hx hb dX4_secondsOf_12 rfl (lv_at hl 0 rfl) ?_
  refine va_get (D := D) (ci := 8) (v := .int den) (C := RX4) (T := TX4) (N := 3) hx hb hts in_X4 hown hK hP 0 rfl rfl 1 (by decide) (hts _ k_214) (fun _ h9 => h9) rfl dX4_secondsOf_13 ?_
  refine lv_i2l hx hb dX4_secondsOf_16 rfl ?_
  obtain ⟨v1, e2, hf⟩ := bind_some' hf
  refine cl_l (va_runSN (As := [.long (rst + (num * p0)).toInt64, .long den.toInt64]) (rest := []) ⟨hx, hb, hml, hown, hts⟩ (c_X8_wholePart l D cy sa z0 H.size ((rst + (num * p0)).toInt64) den.toInt64 _ e2) ⟨va_cnB 2 hts (lw_gd k_582) rfl rfl rfl (amb_N (w := Cond.methodLinkNest RX4 19 yX8_wholePart RX8) hG (List.mem_of_getElem? (i := 695) (by decide +kernel)) rfl rfl) (hts _ k_36) (by decide +kernel) ⟨Nat.le_of_ble_eq_true rfl, Nat.le_of_ble_eq_true rfl⟩, hts _ k_581, trivial⟩ (preS hG hS hZ hP hD [] rfl rfl) rfl rfl hl.1 rfl (lv_room (Nat.le_of_ble_eq_true rfl)) dX4_secondsOf_17 ⟨Nat.le_of_ble_eq_true rfl, Nat.le_of_ble_eq_true rfl⟩) hP hD hS hA [] rfl rfl rfl (fun H locs hP hD hS => ?_)
  have hP : va_P D vwCl [(h0, .inr (8, [.int num, .int den, .int rst]))] H := hP
  have hD : va_D A [(h0, .inr (8, [.int num, .int den, .int rst]))] := hD
  refine lv_l2i hx hb dX4_secondsOf_20 rfl ?_
  obtain rfl := Option.some.inj hf
  exact W.iret (v := v1.1.toInt32) hx hb hr (fun t ht _ => ⟨⟨v1.1.toInt32, (), rfl, rfl, by rw [ht]; exact hP, hD⟩, hS.F ht⟩) hS.2.2 dX4_secondsOf_21
noncomputable def X4_letPass_f (num : Int32) (den : Int32) (rst : Int32) (p0 : Int32) : Option (Int32 × Int32) := (X4_secondsOf_f num den rst p0).bind fun v1 => some (v1.1, (rst + ((num * p0) - (v1.1 * den))))
set_option maxHeartbeats 4000000 in
set_option maxRecDepth 100000 in
theorem c_X4_letPass (l : Launch) (D : va_G) (cy : Nat → ClassId) (sa : Nat → Nat) (z0 sz : Nat) (h0 : Nat) (num : Int32) (den : Int32) (rst : Int32) (p0 : Int32) (o : (Int32 × Int32)) (ho : X4_letPass_f num den rst p0 = some o) : Met l yX4_letPass (ws_ yX4_letPass cX4_letPass 3 (some .int)) ({ frames := 3, cells := 0, slots := 0, locals := 69 } : Room) (va_Pc [.ref h0, .int p0] (Pr D cy sa z0 [(h0, .inr (8, [.int num, .int den, .int rst]))] sz)) (QI D o (fun u => [(h0, .inr (8, [.int num, .int den, .int u]))]) (va_A [(h0, .inr (8, [.int num, .int den, .int rst]))] sz)) 0 0 (va_A [(h0, .inr (8, [.int num, .int den, .int rst]))] sz) := by
  refine MT (Qf := QI D o (fun u => [(h0, .inr (8, [.int num, .int den, .int u]))])) (plainFor_of_name (by decide +kernel)) (Nat.le_of_ble_eq_true rfl) ?_
  intro p e s m below meth c A ls H hx hb hml hr hlocks hown hnm hts hG hA hZ hP hD hS hl
  have hK := hG.K
  have hl : lv_has ls 3 [(0, .ref h0), (1, .int p0)] := hl
  have hf : X4_letPass_f num den rst p0 = some o := ho
  clear ho
  unfold X4_letPass_f at hf
  refine lv_aload_n hx hb dX4_letPass_0 rfl (lv_at hl 0 rfl) ?_
  refine lv_iload_n hx hb dX4_letPass_1 rfl (lv_at hl 1 rfl) ?_
  obtain ⟨v1, e2, hf⟩ := bind_some' hf
  refine cl_i (va_runV (As := [.int p0]) (rest := []) ⟨hx, hb, hml, hown, hts⟩ (c_X4_secondsOf l D cy sa z0 H.size h0 num den rst p0 _ e2) (cwV 1 hts (lw_gV k_691 k_692 k_693 k_46 k_694) rfl rfl rfl (by decide +kernel) ⟨Nat.le_of_ble_eq_true rfl, Nat.le_of_ble_eq_true rfl⟩) (preV hG hS hZ hP hD [0] rfl rfl (ci := 8) (q0 := 0) rfl rfl) rfl rfl hl.1 rfl (lv_room (Nat.le_of_ble_eq_true rfl)) dX4_letPass_2 ⟨Nat.le_of_ble_eq_true rfl, Nat.le_of_ble_eq_true rfl⟩) hP hD hS hA [0] rfl rfl rfl (fun H locs hP hD hS => ?_)
  have hP : va_P D vwCl [(h0, .inr (8, [.int num, .int den, .int rst]))] H := hP
  have hD : va_D A [(h0, .inr (8, [.int num, .int den, .int rst]))] := hD
  refine lv_istore_n (lv' := [(2, .int v1.1), (0, .ref h0), (1, .int p0)]) hx hb dX4_letPass_5 rfl hl (by decide) rfl (fun ls hl => ?_)
  refine lv_aload_n hx hb dX4_letPass_6 rfl (lv_at hl 1 rfl) ?_
  refine lv_dup hx hb dX4_letPass_7 rfl ?_
  refine va_get (D := D) (ci := 8) (v := .int rst) (C := RX4) (T := TX4) (N := 3) hx hb hts in_X4 hown hK hP 0 rfl rfl 2 (by decide) (hts _ k_215) (fun _ h9 => h9) rfl dX4_letPass_8 ?_
  refine lv_aload_n hx hb dX4_letPass_11 rfl (lv_at hl 1 rfl) ?_
  refine va_get (D := D) (ci := 8) (v := .int num) (C := RX4) (T := TX4) (N := 3) hx hb hts in_X4 hown hK hP 0 rfl rfl 0 (by decide) (hts _ k_213) (fun _ h9 => h9) rfl dX4_letPass_12 ?_
  refine lv_iload_n hx hb dX4_letPass_15 rfl (lv_at hl 2 rfl) ?_
  refine lv_imul hx hb dX4_letPass_16 ?_
  refine lv_iload_n hx hb dX4_letPass_17 rfl (lv_at hl 0 rfl) ?_
  refine lv_aload_n hx hb dX4_letPass_18 rfl (lv_at hl 1 rfl) ?_
  refine va_get (D := D) (ci := 8) (v := .int den) (C := RX4) (T := TX4) (N := 3) hx hb hts in_X4 hown hK hP 0 rfl rfl 1 (by decide) (hts _ k_214) (fun _ h9 => h9) rfl dX4_letPass_19 ?_
  refine lv_imul hx hb dX4_letPass_22 ?_
  refine lv_isub hx hb dX4_letPass_23 ?_
  refine lv_iadd hx hb dX4_letPass_24 ?_
  refine va_put (D := D) (ci := 8) (v := .int (rst + ((num * p0) - (v1.1 * den)))) (ty := .int) (C := RX4) (T := TX4) (N := 3) hx hb hts in_X4 tyX4 tyX4_ok nmX4 hown hK hP hD hS 0 rfl rfl 2 (by decide) (hts _ k_215) (fun _ h9 => h9) rfl (by decide +kernel) rfl rfl (Nat.le_of_ble_eq_true rfl) dX4_letPass_25 (fun H locs hP hD hS => ?_)
  have hP : va_P D vwCl [(h0, .inr (8, [.int num, .int den, .int (rst + ((num * p0) - (v1.1 * den)))]))] H := hP
  have hD : va_D A [(h0, .inr (8, [.int num, .int den, .int (rst + ((num * p0) - (v1.1 * den)))]))] := hD
  refine lv_iload_n hx hb dX4_letPass_28 rfl (lv_at hl 0 rfl) ?_
  obtain rfl := Option.some.inj hf
  exact W.iret (v := v1.1) hx hb hr (fun t ht _ => ⟨⟨v1.1, (rst + ((num * p0) - (v1.1 * den))), rfl, rfl, by rw [ht]; exact hP, hD⟩, hS.F ht⟩) hS.2.2 dX4_letPass_29
noncomputable def X5_slotOf_f (struck : Int32) (p0 : Int32) : Option (Int32 × Unit) := (J9_floorMod_7cf53_f ((struck - (1 : Int32)) - p0) (40 : Int32)).bind fun v1 => some (v1.1, ())
set_option maxHeartbeats 4000000 in
set_option maxRecDepth 100000 in
theorem c_X5_slotOf (l : Launch) (D : va_G) (cy : Nat → ClassId) (sa : Nat → Nat) (z0 sz : Nat) (h0 : Nat) (h1 : Nat) (h2 : Nat) (struck : Int32) (alls : Int64) (marks : Nat → Int32) (smarks : Nat → Int32) (p0 : Int32) (o : (Int32 × Unit)) (ho : X5_slotOf_f struck p0 = some o) : Met l yX5_slotOf (ws_ yX5_slotOf cX5_slotOf 2 (some .int)) ({ frames := 1, cells := 0, slots := 0, locals := 22 } : Room) (va_Pc [.ref h0, .int p0] (Pr D cy sa z0 [(h0, .inr (9, [.ref h1, .ref h2, .int struck, .long alls])), (h1, .inl (cy 0, 40, .inl marks)), (h2, .inl (cy 0, 40, .inl smarks))] sz)) (QI D o (fun u => [(h0, .inr (9, [.ref h1, .ref h2, .int struck, .long alls])), (h1, .inl (cy 0, 40, .inl marks)), (h2, .inl (cy 0, 40, .inl smarks))]) (va_A [(h0, .inr (9, [.ref h1, .ref h2, .int struck, .long alls])), (h1, .inl (cy 0, 40, .inl marks)), (h2, .inl (cy 0, 40, .inl smarks))] sz)) 0 0 (va_A [(h0, .inr (9, [.ref h1, .ref h2, .int struck, .long alls])), (h1, .inl (cy 0, 40, .inl marks)), (h2, .inl (cy 0, 40, .inl smarks))] sz) := by
  refine MT (Qf := QI D o (fun u => [(h0, .inr (9, [.ref h1, .ref h2, .int struck, .long alls])), (h1, .inl (cy 0, 40, .inl marks)), (h2, .inl (cy 0, 40, .inl smarks))])) (plainFor_of_name (by decide +kernel)) (Nat.le_of_ble_eq_true rfl) ?_
  intro p e s m below meth c A ls H hx hb hml hr hlocks hown hnm hts hG hA hZ hP hD hS hl
  have hK := hG.K
  have hl : lv_has ls 2 [(0, .ref h0), (1, .int p0)] := hl
  have hf : X5_slotOf_f struck p0 = some o := ho
  clear ho
  unfold X5_slotOf_f at hf
  refine lv_aload_n hx hb dX5_slotOf_0 rfl (lv_at hl 0 rfl) ?_
  refine va_get (D := D) (ci := 9) (v := .int struck) (C := RX5) (T := TX5) (N := 4) hx hb hts in_X5 hown hK hP 0 rfl rfl 2 (by decide) (hts _ k_280) (fun _ h9 => h9) rfl dX5_slotOf_1 ?_
  refine lv_iconst (v := (1 : Int32)) hx hb dX5_slotOf_4 (by decide) ?_
  refine lv_isub hx hb dX5_slotOf_5 ?_
  refine lv_iload_n hx hb dX5_slotOf_6 rfl (lv_at hl 1 rfl) ?_
  refine lv_isub hx hb dX5_slotOf_7 ?_
  refine lv_bipush (v := (40 : Int32)) hx hb dX5_slotOf_8 (by decide) ?_
  obtain ⟨v1, e2, hf⟩ := bind_some' hf
  refine cl_i (va_runS (As := [.int ((struck - (1 : Int32)) - p0), .int (40 : Int32)]) (rest := []) ⟨hx, hb, hml, hown, hts⟩ (c_J9_floorMod_7cf53 l D cy sa z0 H.size ((struck - (1 : Int32)) - p0) (40 : Int32) _ e2) (va_cwS 2 hts (lw_gS k_778 k_368 k_43 k_369) rfl rfl rfl (by decide +kernel) ⟨Nat.le_of_ble_eq_true rfl, Nat.le_of_ble_eq_true rfl⟩) (preS hG hS hZ hP hD [] rfl rfl) rfl rfl hl.1 rfl (lv_room (Nat.le_of_ble_eq_true rfl)) dX5_slotOf_10 ⟨Nat.le_of_ble_eq_true rfl, Nat.le_of_ble_eq_true rfl⟩) hP hD hS hA [] rfl rfl rfl (fun H locs hP hD hS => ?_)
  have hP : va_P D vwCl [(h0, .inr (9, [.ref h1, .ref h2, .int struck, .long alls])), (h1, .inl (cy 0, 40, .inl marks)), (h2, .inl (cy 0, 40, .inl smarks))] H := hP
  have hD : va_D A [(h0, .inr (9, [.ref h1, .ref h2, .int struck, .long alls])), (h1, .inl (cy 0, 40, .inl marks)), (h2, .inl (cy 0, 40, .inl smarks))] := hD
  obtain rfl := Option.some.inj hf
  exact W.iret (v := v1.1) hx hb hr (fun t ht _ => ⟨⟨v1.1, (), rfl, rfl, by rw [ht]; exact hP, hD⟩, hS.F ht⟩) hS.2.2 dX5_slotOf_13
noncomputable def X5_struckMarks_f (struck : Int32) : Option (Int32 × Unit) := some (struck, ())
set_option maxHeartbeats 4000000 in
set_option maxRecDepth 100000 in
theorem c_X5_struckMarks (l : Launch) (D : va_G) (cy : Nat → ClassId) (sa : Nat → Nat) (z0 sz : Nat) (h0 : Nat) (h1 : Nat) (h2 : Nat) (struck : Int32) (alls : Int64) (marks : Nat → Int32) (smarks : Nat → Int32) (o : (Int32 × Unit)) (ho : X5_struckMarks_f struck = some o) : Met l yX5_struckMarks (ws_ yX5_struckMarks cX5_struckMarks 1 (some .int)) ({ frames := 0, cells := 0, slots := 0, locals := 0 } : Room) (va_Pc [.ref h0] (Pr D cy sa z0 [(h0, .inr (9, [.ref h1, .ref h2, .int struck, .long alls])), (h1, .inl (cy 0, 40, .inl marks)), (h2, .inl (cy 0, 40, .inl smarks))] sz)) (QI D o (fun u => [(h0, .inr (9, [.ref h1, .ref h2, .int struck, .long alls])), (h1, .inl (cy 0, 40, .inl marks)), (h2, .inl (cy 0, 40, .inl smarks))]) (va_A [(h0, .inr (9, [.ref h1, .ref h2, .int struck, .long alls])), (h1, .inl (cy 0, 40, .inl marks)), (h2, .inl (cy 0, 40, .inl smarks))] sz)) 0 0 (va_A [(h0, .inr (9, [.ref h1, .ref h2, .int struck, .long alls])), (h1, .inl (cy 0, 40, .inl marks)), (h2, .inl (cy 0, 40, .inl smarks))] sz) := by
  refine MT (Qf := QI D o (fun u => [(h0, .inr (9, [.ref h1, .ref h2, .int struck, .long alls])), (h1, .inl (cy 0, 40, .inl marks)), (h2, .inl (cy 0, 40, .inl smarks))])) (plainFor_of_name (by decide +kernel)) (Nat.le_of_ble_eq_true rfl) ?_
  intro p e s m below meth c A ls H hx hb hml hr hlocks hown hnm hts hG hA hZ hP hD hS hl
  have hK := hG.K
  have hl : lv_has ls 1 [(0, .ref h0)] := hl
  have hf : X5_struckMarks_f struck = some o := ho
  clear ho
  unfold X5_struckMarks_f at hf
  refine lv_aload_n hx hb dX5_struckMarks_0 rfl (lv_at hl 0 rfl) ?_
  refine va_get (D := D) (ci := 9) (v := .int struck) (C := RX5) (T := TX5) (N := 4) hx hb hts in_X5 hown hK hP 0 rfl rfl 2 (by decide) (hts _ k_280) (fun _ h9 => h9) rfl dX5_struckMarks_1 ?_
  obtain rfl := Option.some.inj hf
  exact W.iret (v := struck) hx hb hr (fun t ht _ => ⟨⟨struck, (), rfl, rfl, by rw [ht]; exact hP, hD⟩, hS.F ht⟩) hS.2.2 dX5_struckMarks_4
noncomputable def X5_keptMarks_f (struck : Int32) : Option (Int32 × Unit) := some ((if (40 : Int32) < struck then (40 : Int32) else struck), ())
set_option maxHeartbeats 4000000 in
set_option maxRecDepth 100000 in
theorem c_X5_keptMarks (l : Launch) (D : va_G) (cy : Nat → ClassId) (sa : Nat → Nat) (z0 sz : Nat) (h0 : Nat) (h1 : Nat) (h2 : Nat) (struck : Int32) (alls : Int64) (marks : Nat → Int32) (smarks : Nat → Int32) (o : (Int32 × Unit)) (ho : X5_keptMarks_f struck = some o) : Met l yX5_keptMarks (ws_ yX5_keptMarks cX5_keptMarks 1 (some .int)) ({ frames := 1, cells := 0, slots := 0, locals := 30 } : Room) (va_Pc [.ref h0] (Pr D cy sa z0 [(h0, .inr (9, [.ref h1, .ref h2, .int struck, .long alls])), (h1, .inl (cy 0, 40, .inl marks)), (h2, .inl (cy 0, 40, .inl smarks))] sz)) (QI D o (fun u => [(h0, .inr (9, [.ref h1, .ref h2, .int struck, .long alls])), (h1, .inl (cy 0, 40, .inl marks)), (h2, .inl (cy 0, 40, .inl smarks))]) (va_A [(h0, .inr (9, [.ref h1, .ref h2, .int struck, .long alls])), (h1, .inl (cy 0, 40, .inl marks)), (h2, .inl (cy 0, 40, .inl smarks))] sz)) 0 0 (va_A [(h0, .inr (9, [.ref h1, .ref h2, .int struck, .long alls])), (h1, .inl (cy 0, 40, .inl marks)), (h2, .inl (cy 0, 40, .inl smarks))] sz) := by
  refine MT (Qf := QI D o (fun u => [(h0, .inr (9, [.ref h1, .ref h2, .int struck, .long alls])), (h1, .inl (cy 0, 40, .inl marks)), (h2, .inl (cy 0, 40, .inl smarks))])) (plainFor_of_name (by decide +kernel)) (Nat.le_of_ble_eq_true rfl) ?_
  intro p e s m below meth c A ls H hx hb hml hr hlocks hown hnm hts hG hA hZ hP hD hS hl
  have hK := hG.K
  have hl : lv_has ls 1 [(0, .ref h0)] := hl
  have hf : X5_keptMarks_f struck = some o := ho
  clear ho
  unfold X5_keptMarks_f at hf
  refine lv_aload_n hx hb dX5_keptMarks_0 rfl (lv_at hl 0 rfl) ?_
  refine va_get (D := D) (ci := 9) (v := .int struck) (C := RX5) (T := TX5) (N := 4) hx hb hts in_X5 hown hK hP 0 rfl rfl 2 (by decide) (hts _ k_280) (fun _ h9 => h9) rfl dX5_keptMarks_1 ?_
  refine lv_bipush (v := (40 : Int32)) hx hb dX5_keptMarks_4 (by decide) ?_
  refine va_mmin hx hb (by rw [hml]; exact hl.1.symm) hown (hts _ k_1544) (hts _ k_196) (hts _ k_43) (hts _ k_197) (Nat.le_of_ble_eq_true rfl) (Nat.le_of_ble_eq_true rfl) (Nat.le_of_ble_eq_true rfl) (Nat.le_of_ble_eq_true rfl) dX5_keptMarks_6 ?_
  obtain rfl := Option.some.inj hf
  exact W.iret (v := (if (40 : Int32) < struck then (40 : Int32) else struck)) hx hb hr (fun t ht _ => ⟨⟨(if (40 : Int32) < struck then (40 : Int32) else struck), (), rfl, rfl, by rw [ht]; exact hP, hD⟩, hS.F ht⟩) hS.2.2 dX5_keptMarks_9
noncomputable def X5_strokesOfAllStrikes_f (alls : Int64) : Option (Int64 × Unit) := some (alls, ())
set_option maxHeartbeats 4000000 in
set_option maxRecDepth 100000 in
theorem c_X5_strokesOfAllStrikes (l : Launch) (D : va_G) (cy : Nat → ClassId) (sa : Nat → Nat) (z0 sz : Nat) (h0 : Nat) (h1 : Nat) (h2 : Nat) (struck : Int32) (alls : Int64) (marks : Nat → Int32) (smarks : Nat → Int32) (o : (Int64 × Unit)) (ho : X5_strokesOfAllStrikes_f alls = some o) : Met l yX5_strokesOfAllStrikes (ws_ yX5_strokesOfAllStrikes cX5_strokesOfAllStrikes 1 (some .long)) ({ frames := 0, cells := 0, slots := 0, locals := 0 } : Room) (va_Pc [.ref h0] (Pr D cy sa z0 [(h0, .inr (9, [.ref h1, .ref h2, .int struck, .long alls])), (h1, .inl (cy 0, 40, .inl marks)), (h2, .inl (cy 0, 40, .inl smarks))] sz)) (QL D o (fun u => [(h0, .inr (9, [.ref h1, .ref h2, .int struck, .long alls])), (h1, .inl (cy 0, 40, .inl marks)), (h2, .inl (cy 0, 40, .inl smarks))]) (va_A [(h0, .inr (9, [.ref h1, .ref h2, .int struck, .long alls])), (h1, .inl (cy 0, 40, .inl marks)), (h2, .inl (cy 0, 40, .inl smarks))] sz)) 0 0 (va_A [(h0, .inr (9, [.ref h1, .ref h2, .int struck, .long alls])), (h1, .inl (cy 0, 40, .inl marks)), (h2, .inl (cy 0, 40, .inl smarks))] sz) := by
  refine MT (Qf := QL D o (fun u => [(h0, .inr (9, [.ref h1, .ref h2, .int struck, .long alls])), (h1, .inl (cy 0, 40, .inl marks)), (h2, .inl (cy 0, 40, .inl smarks))])) (plainFor_of_name (by decide +kernel)) (Nat.le_of_ble_eq_true rfl) ?_
  intro p e s m below meth c A ls H hx hb hml hr hlocks hown hnm hts hG hA hZ hP hD hS hl
  have hK := hG.K
  have hl : lv_has ls 1 [(0, .ref h0)] := hl
  have hf : X5_strokesOfAllStrikes_f alls = some o := ho
  clear ho
  unfold X5_strokesOfAllStrikes_f at hf
  refine lv_aload_n hx hb dX5_strokesOfAllStrikes_0 rfl (lv_at hl 0 rfl) ?_
  refine va_get (D := D) (ci := 9) (v := .long alls) (C := RX5) (T := TX5) (N := 4) hx hb hts in_X5 hown hK hP 0 rfl rfl 3 (by decide) (hts _ k_281) (fun _ h9 => h9) rfl dX5_strokesOfAllStrikes_1 ?_
  obtain rfl := Option.some.inj hf
  exact W.lret (v := alls) hx hb hr (fun t ht _ => ⟨⟨alls, (), rfl, rfl, by rw [ht]; exact hP, hD⟩, hS.F ht⟩) hS.2.2 dX5_strokesOfAllStrikes_4
noncomputable def X5_markOfRank_f (struck : Int32) (marks : Nat → Int32) (p0 : Int32) : Option (Int32 × Unit) := (X5_slotOf_f struck p0).bind fun v1 => if ¬ (v1.1 < 0 ∨ 40 ≤ v1.1.toNatClampNeg) then some ((marks v1.1.toNatClampNeg), ()) else none
set_option maxHeartbeats 4000000 in
set_option maxRecDepth 100000 in
theorem c_X5_markOfRank (l : Launch) (D : va_G) (cy : Nat → ClassId) (sa : Nat → Nat) (z0 sz : Nat) (h0 : Nat) (h1 : Nat) (h2 : Nat) (struck : Int32) (alls : Int64) (marks : Nat → Int32) (smarks : Nat → Int32) (p0 : Int32) (o : (Int32 × Unit)) (ho : X5_markOfRank_f struck marks p0 = some o) : Met l yX5_markOfRank (ws_ yX5_markOfRank cX5_markOfRank 2 (some .int)) ({ frames := 2, cells := 0, slots := 0, locals := 43 } : Room) (va_Pc [.ref h0, .int p0] (Pr D cy sa z0 [(h0, .inr (9, [.ref h1, .ref h2, .int struck, .long alls])), (h1, .inl (cy 0, 40, .inl marks)), (h2, .inl (cy 0, 40, .inl smarks))] sz)) (QI D o (fun u => [(h0, .inr (9, [.ref h1, .ref h2, .int struck, .long alls])), (h1, .inl (cy 0, 40, .inl marks)), (h2, .inl (cy 0, 40, .inl smarks))]) (va_A [(h0, .inr (9, [.ref h1, .ref h2, .int struck, .long alls])), (h1, .inl (cy 0, 40, .inl marks)), (h2, .inl (cy 0, 40, .inl smarks))] sz)) 0 0 (va_A [(h0, .inr (9, [.ref h1, .ref h2, .int struck, .long alls])), (h1, .inl (cy 0, 40, .inl marks)), (h2, .inl (cy 0, 40, .inl smarks))] sz) := by
  refine MT (Qf := QI D o (fun u => [(h0, .inr (9, [.ref h1, .ref h2, .int struck, .long alls])), (h1, .inl (cy 0, 40, .inl marks)), (h2, .inl (cy 0, 40, .inl smarks))])) (plainFor_of_name (by decide +kernel)) (Nat.le_of_ble_eq_true rfl) ?_
  intro p e s m below meth c A ls H hx hb hml hr hlocks hown hnm hts hG hA hZ hP hD hS hl
  have hK := hG.K
  have hl : lv_has ls 2 [(0, .ref h0), (1, .int p0)] := hl
  have hf : X5_markOfRank_f struck marks p0 = some o := ho
  clear ho
  unfold X5_markOfRank_f at hf
  refine lv_aload_n hx hb dX5_markOfRank_0 rfl (lv_at hl 0 rfl) ?_
  refine va_get (D := D) (ci := 9) (v := .ref h1) (C := RX5) (T := TX5) (N := 4) hx hb hts in_X5 hown hK hP 0 rfl rfl 0 (by decide) (hts _ k_278) (fun _ h9 => h9) rfl dX5_markOfRank_1 ?_
  refine lv_aload_n hx hb dX5_markOfRank_4 rfl (lv_at hl 0 rfl) ?_
  refine lv_iload_n hx hb dX5_markOfRank_5 rfl (lv_at hl 1 rfl) ?_
  obtain ⟨v1, e2, hf⟩ := bind_some' hf
  refine cl_i (va_runV (As := [.int p0]) (rest := [.ref h1]) ⟨hx, hb, hml, hown, hts⟩ (c_X5_slotOf l D cy sa z0 H.size h0 h1 h2 struck alls marks smarks p0 _ e2) (cwV 1 hts (lw_gV k_774 k_776 k_15 k_49 k_777) rfl rfl rfl (by decide +kernel) ⟨Nat.le_of_ble_eq_true rfl, Nat.le_of_ble_eq_true rfl⟩) (preV hG hS hZ hP hD [0, 1, 2] rfl rfl (ci := 9) (q0 := 0) rfl rfl) rfl rfl hl.1 rfl (lv_room (Nat.le_of_ble_eq_true rfl)) dX5_markOfRank_6 ⟨Nat.le_of_ble_eq_true rfl, Nat.le_of_ble_eq_true rfl⟩) hP hD hS hA [0, 1, 2] rfl rfl rfl (fun H locs hP hD hS => ?_)
  have hP : va_P D vwCl [(h0, .inr (9, [.ref h1, .ref h2, .int struck, .long alls])), (h1, .inl (cy 0, 40, .inl marks)), (h2, .inl (cy 0, 40, .inl smarks))] H := hP
  have hD : va_D A [(h0, .inr (9, [.ref h1, .ref h2, .int struck, .long alls])), (h1, .inl (cy 0, 40, .inl marks)), (h2, .inl (cy 0, 40, .inl smarks))] := hD
  obtain ⟨g3, hf⟩ := ite_some' hf
  refine va_iald hx hb hK hP 1 0 rfl rfl g3 dX5_markOfRank_9 ?_
  obtain rfl := Option.some.inj hf
  exact W.iret (v := (marks v1.1.toNatClampNeg)) hx hb hr (fun t ht _ => ⟨⟨(marks v1.1.toNatClampNeg), (), rfl, rfl, by rw [ht]; exact hP, hD⟩, hS.F ht⟩) hS.2.2 dX5_markOfRank_10
noncomputable def X5_strokesOfRank_f (struck : Int32) (smarks : Nat → Int32) (p0 : Int32) : Option (Int32 × Unit) := (X5_slotOf_f struck p0).bind fun v1 => if ¬ (v1.1 < 0 ∨ 40 ≤ v1.1.toNatClampNeg) then some ((smarks v1.1.toNatClampNeg), ()) else none
set_option maxHeartbeats 4000000 in
set_option maxRecDepth 100000 in
theorem c_X5_strokesOfRank (l : Launch) (D : va_G) (cy : Nat → ClassId) (sa : Nat → Nat) (z0 sz : Nat) (h0 : Nat) (h1 : Nat) (h2 : Nat) (struck : Int32) (alls : Int64) (marks : Nat → Int32) (smarks : Nat → Int32) (p0 : Int32) (o : (Int32 × Unit)) (ho : X5_strokesOfRank_f struck smarks p0 = some o) : Met l yX5_strokesOfRank (ws_ yX5_strokesOfRank cX5_strokesOfRank 2 (some .int)) ({ frames := 2, cells := 0, slots := 0, locals := 43 } : Room) (va_Pc [.ref h0, .int p0] (Pr D cy sa z0 [(h0, .inr (9, [.ref h1, .ref h2, .int struck, .long alls])), (h1, .inl (cy 0, 40, .inl marks)), (h2, .inl (cy 0, 40, .inl smarks))] sz)) (QI D o (fun u => [(h0, .inr (9, [.ref h1, .ref h2, .int struck, .long alls])), (h1, .inl (cy 0, 40, .inl marks)), (h2, .inl (cy 0, 40, .inl smarks))]) (va_A [(h0, .inr (9, [.ref h1, .ref h2, .int struck, .long alls])), (h1, .inl (cy 0, 40, .inl marks)), (h2, .inl (cy 0, 40, .inl smarks))] sz)) 0 0 (va_A [(h0, .inr (9, [.ref h1, .ref h2, .int struck, .long alls])), (h1, .inl (cy 0, 40, .inl marks)), (h2, .inl (cy 0, 40, .inl smarks))] sz) := by
  refine MT (Qf := QI D o (fun u => [(h0, .inr (9, [.ref h1, .ref h2, .int struck, .long alls])), (h1, .inl (cy 0, 40, .inl marks)), (h2, .inl (cy 0, 40, .inl smarks))])) (plainFor_of_name (by decide +kernel)) (Nat.le_of_ble_eq_true rfl) ?_
  intro p e s m below meth c A ls H hx hb hml hr hlocks hown hnm hts hG hA hZ hP hD hS hl
  have hK := hG.K
  have hl : lv_has ls 2 [(0, .ref h0), (1, .int p0)] := hl
  have hf : X5_strokesOfRank_f struck smarks p0 = some o := ho
  clear ho
  unfold X5_strokesOfRank_f at hf
  refine lv_aload_n hx hb dX5_strokesOfRank_0 rfl (lv_at hl 0 rfl) ?_
  refine va_get (D := D) (ci := 9) (v := .ref h2) (C := RX5) (T := TX5) (N := 4) hx hb hts in_X5 hown hK hP 0 rfl rfl 1 (by decide) (hts _ k_279) (fun _ h9 => h9) rfl dX5_strokesOfRank_1 ?_
  refine lv_aload_n hx hb dX5_strokesOfRank_4 rfl (lv_at hl 0 rfl) ?_
  refine lv_iload_n hx hb dX5_strokesOfRank_5 rfl (lv_at hl 1 rfl) ?_
  obtain ⟨v1, e2, hf⟩ := bind_some' hf
  refine cl_i (va_runV (As := [.int p0]) (rest := [.ref h2]) ⟨hx, hb, hml, hown, hts⟩ (c_X5_slotOf l D cy sa z0 H.size h0 h1 h2 struck alls marks smarks p0 _ e2) (cwV 1 hts (lw_gV k_774 k_776 k_15 k_49 k_777) rfl rfl rfl (by decide +kernel) ⟨Nat.le_of_ble_eq_true rfl, Nat.le_of_ble_eq_true rfl⟩) (preV hG hS hZ hP hD [0, 1, 2] rfl rfl (ci := 9) (q0 := 0) rfl rfl) rfl rfl hl.1 rfl (lv_room (Nat.le_of_ble_eq_true rfl)) dX5_strokesOfRank_6 ⟨Nat.le_of_ble_eq_true rfl, Nat.le_of_ble_eq_true rfl⟩) hP hD hS hA [0, 1, 2] rfl rfl rfl (fun H locs hP hD hS => ?_)
  have hP : va_P D vwCl [(h0, .inr (9, [.ref h1, .ref h2, .int struck, .long alls])), (h1, .inl (cy 0, 40, .inl marks)), (h2, .inl (cy 0, 40, .inl smarks))] H := hP
  have hD : va_D A [(h0, .inr (9, [.ref h1, .ref h2, .int struck, .long alls])), (h1, .inl (cy 0, 40, .inl marks)), (h2, .inl (cy 0, 40, .inl smarks))] := hD
  obtain ⟨g3, hf⟩ := ite_some' hf
  refine va_iald hx hb hK hP 2 0 rfl rfl g3 dX5_strokesOfRank_9 ?_
  obtain rfl := Option.some.inj hf
  exact W.iret (v := (smarks v1.1.toNatClampNeg)) hx hb hr (fun t ht _ => ⟨⟨(smarks v1.1.toNatClampNeg), (), rfl, rfl, by rw [ht]; exact hP, hD⟩, hS.F ht⟩) hS.2.2 dX5_strokesOfRank_10
noncomputable def X5_keep_f (struck : Int32) (alls : Int64) (marks : Nat → Int32) (smarks : Nat → Int32) (p0 : Int32) (p1 : Int32) : Option ((Int32 × Int64 × (Nat → Int32) × (Nat → Int32))) := (X5_slotOf_f (struck + (1 : Int32)) (0 : Int32)).bind fun v1 => if ¬ (v1.1 < 0 ∨ 40 ≤ v1.1.toNatClampNeg) then (X5_slotOf_f (struck + (1 : Int32)) (0 : Int32)).bind fun v4 => if ¬ (v4.1 < 0 ∨ 40 ≤ v4.1.toNatClampNeg) then some ((struck + (1 : Int32)), (alls + p1.toInt64), (upd marks v1.1.toNatClampNeg p0), (upd smarks v4.1.toNatClampNeg p1)) else none else none
set_option maxHeartbeats 4000000 in
set_option maxRecDepth 100000 in
theorem c_X5_keep (l : Launch) (D : va_G) (cy : Nat → ClassId) (sa : Nat → Nat) (z0 sz : Nat) (h0 : Nat) (h1 : Nat) (h2 : Nat) (struck : Int32) (alls : Int64) (marks : Nat → Int32) (smarks : Nat → Int32) (p0 : Int32) (p1 : Int32) (o : ((Int32 × Int64 × (Nat → Int32) × (Nat → Int32)))) (ho : X5_keep_f struck alls marks smarks p0 p1 = some o) : Met l yX5_keep (ws_ yX5_keep cX5_keep 3 none) ({ frames := 2, cells := 0, slots := 0, locals := 43 } : Room) (va_Pc [.ref h0, .int p0, .int p1] (Pr D cy sa z0 [(h0, .inr (9, [.ref h1, .ref h2, .int struck, .long alls])), (h1, .inl (cy 0, 40, .inl marks)), (h2, .inl (cy 0, 40, .inl smarks))] sz)) (QV D o (fun u => [(h0, .inr (9, [.ref h1, .ref h2, .int u.1, .long u.2.1])), (h1, .inl (cy 0, 40, .inl u.2.2.1)), (h2, .inl (cy 0, 40, .inl u.2.2.2))]) (va_A [(h0, .inr (9, [.ref h1, .ref h2, .int struck, .long alls])), (h1, .inl (cy 0, 40, .inl marks)), (h2, .inl (cy 0, 40, .inl smarks))] sz)) 0 0 (va_A [(h0, .inr (9, [.ref h1, .ref h2, .int struck, .long alls])), (h1, .inl (cy 0, 40, .inl marks)), (h2, .inl (cy 0, 40, .inl smarks))] sz) := by
  refine MT (Qf := QV D o (fun u => [(h0, .inr (9, [.ref h1, .ref h2, .int u.1, .long u.2.1])), (h1, .inl (cy 0, 40, .inl u.2.2.1)), (h2, .inl (cy 0, 40, .inl u.2.2.2))])) (plainFor_of_name (by decide +kernel)) (Nat.le_of_ble_eq_true rfl) ?_
  intro p e s m below meth c A ls H hx hb hml hr hlocks hown hnm hts hG hA hZ hP hD hS hl
  have hK := hG.K
  have hl : lv_has ls 3 [(0, .ref h0), (1, .int p0), (2, .int p1)] := hl
  have hf : X5_keep_f struck alls marks smarks p0 p1 = some o := ho
  clear ho
  unfold X5_keep_f at hf
  refine lv_aload_n hx hb dX5_keep_0 rfl (lv_at hl 0 rfl) ?_
  refine lv_dup hx hb dX5_keep_1 rfl ?_
  refine va_get (D := D) (ci := 9) (v := .int struck) (C := RX5) (T := TX5) (N := 4) hx hb hts in_X5 hown hK hP 0 rfl rfl 2 (by decide) (hts _ k_280) (fun _ h9 => h9) rfl dX5_keep_2 ?_
  refine lv_iconst (v := (1 : Int32)) hx hb dX5_keep_5 (by decide) ?_
  refine lv_iadd hx hb dX5_keep_6 ?_
  refine va_put (D := D) (ci := 9) (v := .int (struck + (1 : Int32))) (ty := .int) (C := RX5) (T := TX5) (N := 4) hx hb hts in_X5 tyX5 tyX5_ok nmX5 hown hK hP hD hS 0 rfl rfl 2 (by decide) (hts _ k_280) (fun _ h9 => h9) rfl (by decide +kernel) rfl rfl (Nat.le_of_ble_eq_true rfl) dX5_keep_7 (fun H locs hP hD hS => ?_)
  have hP : va_P D vwCl [(h0, .inr (9, [.ref h1, .ref h2, .int (struck + (1 : Int32)), .long alls])), (h1, .inl (cy 0, 40, .inl marks)), (h2, .inl (cy 0, 40, .inl smarks))] H := hP
  have hD : va_D A [(h0, .inr (9, [.ref h1, .ref h2, .int (struck + (1 : Int32)), .long alls])), (h1, .inl (cy 0, 40, .inl marks)), (h2, .inl (cy 0, 40, .inl smarks))] := hD
  refine lv_aload_n hx hb dX5_keep_10 rfl (lv_at hl 0 rfl) ?_
  refine lv_dup hx hb dX5_keep_11 rfl ?_
  refine va_get (D := D) (ci := 9) (v := .long alls) (C := RX5) (T := TX5) (N := 4) hx hb hts in_X5 hown hK hP 0 rfl rfl 3 (by decide) (hts _ k_281) (fun _ h9 => h9) rfl dX5_keep_12 ?_
  refine lv_iload_n hx hb dX5_keep_15 rfl (lv_at hl 2 rfl) ?_
  refine lv_i2l hx hb dX5_keep_16 rfl ?_
  refine lv_ladd hx hb dX5_keep_17 ?_
  refine va_put (D := D) (ci := 9) (v := .long (alls + p1.toInt64)) (ty := .long) (C := RX5) (T := TX5) (N := 4) hx hb hts in_X5 tyX5 tyX5_ok nmX5 hown hK hP hD hS 0 rfl rfl 3 (by decide) (hts _ k_281) (fun _ h9 => h9) rfl (by decide +kernel) rfl rfl (Nat.le_of_ble_eq_true rfl) dX5_keep_18 (fun H locs hP hD hS => ?_)
  have hP : va_P D vwCl [(h0, .inr (9, [.ref h1, .ref h2, .int (struck + (1 : Int32)), .long (alls + p1.toInt64)])), (h1, .inl (cy 0, 40, .inl marks)), (h2, .inl (cy 0, 40, .inl smarks))] H := hP
  have hD : va_D A [(h0, .inr (9, [.ref h1, .ref h2, .int (struck + (1 : Int32)), .long (alls + p1.toInt64)])), (h1, .inl (cy 0, 40, .inl marks)), (h2, .inl (cy 0, 40, .inl smarks))] := hD
  refine lv_aload_n hx hb dX5_keep_21 rfl (lv_at hl 0 rfl) ?_
  refine va_get (D := D) (ci := 9) (v := .ref h1) (C := RX5) (T := TX5) (N := 4) hx hb hts in_X5 hown hK hP 0 rfl rfl 0 (by decide) (hts _ k_278) (fun _ h9 => h9) rfl dX5_keep_22 ?_
  refine lv_aload_n hx hb dX5_keep_25 rfl (lv_at hl 0 rfl) ?_
  refine lv_iconst (v := (0 : Int32)) hx hb dX5_keep_26 (by decide) ?_
  obtain ⟨v1, e2, hf⟩ := bind_some' hf
  refine cl_i (va_runV (As := [.int (0 : Int32)]) (rest := [.ref h1]) ⟨hx, hb, hml, hown, hts⟩ (c_X5_slotOf l D cy sa z0 H.size h0 h1 h2 (struck + (1 : Int32)) (alls + p1.toInt64) marks smarks (0 : Int32) _ e2) (cwV 1 hts (lw_gV k_774 k_776 k_15 k_49 k_777) rfl rfl rfl (by decide +kernel) ⟨Nat.le_of_ble_eq_true rfl, Nat.le_of_ble_eq_true rfl⟩) (preV hG hS hZ hP hD [0, 1, 2] rfl rfl (ci := 9) (q0 := 0) rfl rfl) rfl rfl hl.1 rfl (lv_room (Nat.le_of_ble_eq_true rfl)) dX5_keep_27 ⟨Nat.le_of_ble_eq_true rfl, Nat.le_of_ble_eq_true rfl⟩) hP hD hS hA [0, 1, 2] rfl rfl rfl (fun H locs hP hD hS => ?_)
  have hP : va_P D vwCl [(h0, .inr (9, [.ref h1, .ref h2, .int (struck + (1 : Int32)), .long (alls + p1.toInt64)])), (h1, .inl (cy 0, 40, .inl marks)), (h2, .inl (cy 0, 40, .inl smarks))] H := hP
  have hD : va_D A [(h0, .inr (9, [.ref h1, .ref h2, .int (struck + (1 : Int32)), .long (alls + p1.toInt64)])), (h1, .inl (cy 0, 40, .inl marks)), (h2, .inl (cy 0, 40, .inl smarks))] := hD
  refine lv_iload_n hx hb dX5_keep_30 rfl (lv_at hl 1 rfl) ?_
  obtain ⟨g3, hf⟩ := ite_some' hf
  refine va_iast hx hb hK hP hD hS 1 0 rfl rfl g3 dX5_keep_31 (fun H locs hP hD hS => ?_)
  have hP : va_P D vwCl [(h0, .inr (9, [.ref h1, .ref h2, .int (struck + (1 : Int32)), .long (alls + p1.toInt64)])), (h1, .inl (cy 0, 40, .inl (upd marks v1.1.toNatClampNeg p0))), (h2, .inl (cy 0, 40, .inl smarks))] H := hP
  have hD : va_D A [(h0, .inr (9, [.ref h1, .ref h2, .int (struck + (1 : Int32)), .long (alls + p1.toInt64)])), (h1, .inl (cy 0, 40, .inl (upd marks v1.1.toNatClampNeg p0))), (h2, .inl (cy 0, 40, .inl smarks))] := hD
  refine lv_aload_n hx hb dX5_keep_32 rfl (lv_at hl 0 rfl) ?_
  refine va_get (D := D) (ci := 9) (v := .ref h2) (C := RX5) (T := TX5) (N := 4) hx hb hts in_X5 hown hK hP 0 rfl rfl 1 (by decide) (hts _ k_279) (fun _ h9 => h9) rfl dX5_keep_33 ?_
  refine lv_aload_n hx hb dX5_keep_36 rfl (lv_at hl 0 rfl) ?_
  refine lv_iconst (v := (0 : Int32)) hx hb dX5_keep_37 (by decide) ?_
  obtain ⟨v4, e5, hf⟩ := bind_some' hf
  refine cl_i (va_runV (As := [.int (0 : Int32)]) (rest := [.ref h2]) ⟨hx, hb, hml, hown, hts⟩ (c_X5_slotOf l D cy sa z0 H.size h0 h1 h2 (struck + (1 : Int32)) (alls + p1.toInt64) (upd marks v1.1.toNatClampNeg p0) smarks (0 : Int32) _ e5) (cwV 1 hts (lw_gV k_774 k_776 k_15 k_49 k_777) rfl rfl rfl (by decide +kernel) ⟨Nat.le_of_ble_eq_true rfl, Nat.le_of_ble_eq_true rfl⟩) (preV hG hS hZ hP hD [0, 1, 2] rfl rfl (ci := 9) (q0 := 0) rfl rfl) rfl rfl hl.1 rfl (lv_room (Nat.le_of_ble_eq_true rfl)) dX5_keep_38 ⟨Nat.le_of_ble_eq_true rfl, Nat.le_of_ble_eq_true rfl⟩) hP hD hS hA [0, 1, 2] rfl rfl rfl (fun H locs hP hD hS => ?_)
  have hP : va_P D vwCl [(h0, .inr (9, [.ref h1, .ref h2, .int (struck + (1 : Int32)), .long (alls + p1.toInt64)])), (h1, .inl (cy 0, 40, .inl (upd marks v1.1.toNatClampNeg p0))), (h2, .inl (cy 0, 40, .inl smarks))] H := hP
  have hD : va_D A [(h0, .inr (9, [.ref h1, .ref h2, .int (struck + (1 : Int32)), .long (alls + p1.toInt64)])), (h1, .inl (cy 0, 40, .inl (upd marks v1.1.toNatClampNeg p0))), (h2, .inl (cy 0, 40, .inl smarks))] := hD
  refine lv_iload_n hx hb dX5_keep_41 rfl (lv_at hl 2 rfl) ?_
  obtain ⟨g6, hf⟩ := ite_some' hf
  refine va_iast hx hb hK hP hD hS 2 0 rfl rfl g6 dX5_keep_42 (fun H locs hP hD hS => ?_)
  have hP : va_P D vwCl [(h0, .inr (9, [.ref h1, .ref h2, .int (struck + (1 : Int32)), .long (alls + p1.toInt64)])), (h1, .inl (cy 0, 40, .inl (upd marks v1.1.toNatClampNeg p0))), (h2, .inl (cy 0, 40, .inl (upd smarks v4.1.toNatClampNeg p1)))] H := hP
  have hD : va_D A [(h0, .inr (9, [.ref h1, .ref h2, .int (struck + (1 : Int32)), .long (alls + p1.toInt64)])), (h1, .inl (cy 0, 40, .inl (upd marks v1.1.toNatClampNeg p0))), (h2, .inl (cy 0, 40, .inl (upd smarks v4.1.toNatClampNeg p1)))] := hD
  obtain rfl := Option.some.inj hf
  exact W.vret hx hb hr (fun t ht _ => ⟨⟨((struck + (1 : Int32)), (alls + p1.toInt64), (upd marks v1.1.toNatClampNeg p0), (upd smarks v4.1.toNatClampNeg p1)), rfl, rfl, by rw [ht]; exact hP, hD⟩, hS.F ht⟩) hS.2.2 dX5_keep_43
noncomputable def X5_rankOfMark_L2_body (struck : Int32) (marks : Nat → Int32) (p0 : Int32) (k2 : Int32 → Option (Int32 × Unit)) (b2_1 : Int32) : Option (Int32 × Unit) := (X5_keptMarks_f struck).bind fun v1 => (if v1.1 ≤ b2_1 then some ((-1 : Int32), ()) else (X5_markOfRank_f struck marks b2_1).bind fun v4 => (if v4.1 = p0 then some (b2_1, ()) else k2 (b2_1 + (1 : Int32))))
noncomputable def X5_rankOfMark_L2 (struck : Int32) (marks : Nat → Int32) (p0 : Int32) (n : Nat) : Int32 → Option (Int32 × Unit) := Nat.rec (motive := fun _ => Int32 → Option (Int32 × Unit)) (fun _ => none) (fun _ k2 b2_1 => X5_rankOfMark_L2_body struck marks p0 k2 b2_1) n
noncomputable def X5_rankOfMark_f (N : Nat) (struck : Int32) (marks : Nat → Int32) (p0 : Int32) : Option (Int32 × Unit) := X5_rankOfMark_L2 struck marks p0 N (0 : Int32)
set_option maxHeartbeats 4000000 in
set_option maxRecDepth 100000 in
theorem c_X5_rankOfMark (l : Launch) (D : va_G) (cy : Nat → ClassId) (sa : Nat → Nat) (z0 sz : Nat) (h0 : Nat) (h1 : Nat) (h2 : Nat) (struck : Int32) (alls : Int64) (marks : Nat → Int32) (smarks : Nat → Int32) (p0 : Int32) (N : Nat) (o : (Int32 × Unit)) (ho : X5_rankOfMark_f N struck marks p0 = some o) : Met l yX5_rankOfMark (ws_ yX5_rankOfMark cX5_rankOfMark 3 (some .int)) ({ frames := 3, cells := 0, slots := 0, locals := 64 } : Room) (va_Pc [.ref h0, .int p0] (Pr D cy sa z0 [(h0, .inr (9, [.ref h1, .ref h2, .int struck, .long alls])), (h1, .inl (cy 0, 40, .inl marks)), (h2, .inl (cy 0, 40, .inl smarks))] sz)) (QI D o (fun u => [(h0, .inr (9, [.ref h1, .ref h2, .int struck, .long alls])), (h1, .inl (cy 0, 40, .inl marks)), (h2, .inl (cy 0, 40, .inl smarks))]) (va_A [(h0, .inr (9, [.ref h1, .ref h2, .int struck, .long alls])), (h1, .inl (cy 0, 40, .inl marks)), (h2, .inl (cy 0, 40, .inl smarks))] sz)) 0 0 (va_A [(h0, .inr (9, [.ref h1, .ref h2, .int struck, .long alls])), (h1, .inl (cy 0, 40, .inl marks)), (h2, .inl (cy 0, 40, .inl smarks))] sz) := by
  refine MT (Qf := QI D o (fun u => [(h0, .inr (9, [.ref h1, .ref h2, .int struck, .long alls])), (h1, .inl (cy 0, 40, .inl marks)), (h2, .inl (cy 0, 40, .inl smarks))])) (plainFor_of_name (by decide +kernel)) (Nat.le_of_ble_eq_true rfl) ?_
  intro p e s m below meth c A ls H hx hb hml hr hlocks hown hnm hts hG hA hZ hP hD hS hl
  have hK := hG.K
  have hl : lv_has ls 3 [(0, .ref h0), (1, .int p0)] := hl
  have hf : X5_rankOfMark_f N struck marks p0 = some o := ho
  clear ho
  unfold X5_rankOfMark_f at hf
  have L2 : ∀ (n : Nat) (b2_1 : Int32), ∀ (H : Heap) (locs : List Loc), va_P D vwCl [(h0, .inr (9, [.ref h1, .ref h2, .int struck, .long alls])), (h1, .inl (cy 0, 40, .inl marks)), (h2, .inl (cy 0, 40, .inl smarks))] H → va_D A [(h0, .inr (9, [.ref h1, .ref h2, .int struck, .long alls])), (h1, .inl (cy 0, 40, .inl marks)), (h2, .inl (cy 0, 40, .inl smarks))] → va_S A s.heap H locs → ∀ (ls : Array Slot), lv_has ls 3 [(0, .ref h0), (1, .int p0), (2, .int b2_1)] → X5_rankOfMark_L2 struck marks p0 n b2_1 = some o → W p l e ({ frames := 3, cells := 0, slots := 0, locals := 64 } : Room) s m ([.ref h0, .int p0] : List Value).toArray below meth c H locs 0 0 (MQ below (QI D o (fun u => [(h0, .inr (9, [.ref h1, .ref h2, .int struck, .long alls])), (h1, .inl (cy 0, 40, .inl marks)), (h2, .inl (cy 0, 40, .inl smarks))]) A) ([.ref h0, .int p0] : List Value).toArray s 0 0 A) (F0 m 2 ls []) := by
    intro n
    induction n with
    | zero => intro b2_1 H locs hP hD hS ls hl hf; cases (show (none : Option (Int32 × Unit)) = some o from hf)
    | succ n ih_2 =>
      intro b2_1 H locs hP hD hS ls hl hf
      have hf : X5_rankOfMark_L2_body struck marks p0 (X5_rankOfMark_L2 struck marks p0 n) b2_1 = some o := hf
      generalize X5_rankOfMark_L2 struck marks p0 n = k2 at ih_2 hf
      unfold X5_rankOfMark_L2_body at hf
      refine lv_iload_n hx hb dX5_rankOfMark_2 rfl (lv_at hl 2 rfl) ?_
      refine lv_aload_n hx hb dX5_rankOfMark_3 rfl (lv_at hl 0 rfl) ?_
      obtain ⟨v1, e2, hf⟩ := bind_some' hf
      refine cl_i (va_runV (As := []) (rest := [.int b2_1]) ⟨hx, hb, hml, hown, hts⟩ (c_X5_keptMarks l D cy sa z0 H.size h0 h1 h2 struck alls marks smarks _ e2) (cwV 0 hts (lw_gV k_1676 k_1541 k_1542 k_49 k_1543) rfl rfl rfl (by decide +kernel) ⟨Nat.le_of_ble_eq_true rfl, Nat.le_of_ble_eq_true rfl⟩) (preV hG hS hZ hP hD [0, 1, 2] rfl rfl (ci := 9) (q0 := 0) rfl rfl) rfl rfl hl.1 rfl (lv_room (Nat.le_of_ble_eq_true rfl)) dX5_rankOfMark_4 ⟨Nat.le_of_ble_eq_true rfl, Nat.le_of_ble_eq_true rfl⟩) hP hD hS hA [0, 1, 2] rfl rfl rfl (fun H locs hP hD hS => ?_)
      have hP : va_P D vwCl [(h0, .inr (9, [.ref h1, .ref h2, .int struck, .long alls])), (h1, .inl (cy 0, 40, .inl marks)), (h2, .inl (cy 0, 40, .inl smarks))] H := hP
      have hD : va_D A [(h0, .inr (9, [.ref h1, .ref h2, .int struck, .long alls])), (h1, .inl (cy 0, 40, .inl marks)), (h2, .inl (cy 0, 40, .inl smarks))] := hD
      refine lv_icmp_ge (tgt := 27) hx hb dX5_rankOfMark_7 (by decide) (fun c3 => ?_) (fun c3 => ?_)
      · rw [if_pos c3] at hf
        refine lv_iconst (v := (-1 : Int32)) hx hb dX5_rankOfMark_27 (by decide) ?_
        obtain rfl := Option.some.inj hf
        exact W.iret (v := (-1 : Int32)) hx hb hr (fun t ht _ => ⟨⟨(-1 : Int32), (), rfl, rfl, by rw [ht]; exact hP, hD⟩, hS.F ht⟩) hS.2.2 dX5_rankOfMark_28
      · rw [if_neg c3] at hf
        refine lv_aload_n hx hb dX5_rankOfMark_10 rfl (lv_at hl 0 rfl) ?_
        refine lv_iload_n hx hb dX5_rankOfMark_11 rfl (lv_at hl 2 rfl) ?_
        obtain ⟨v4, e5, hf⟩ := bind_some' hf
        refine cl_i (va_runV (As := [.int b2_1]) (rest := []) ⟨hx, hb, hml, hown, hts⟩ (c_X5_markOfRank l D cy sa z0 H.size h0 h1 h2 struck alls marks smarks b2_1 _ e5) (cwV 1 hts (lw_gV k_1677 k_1547 k_1548 k_49 k_1549) rfl rfl rfl (by decide +kernel) ⟨Nat.le_of_ble_eq_true rfl, Nat.le_of_ble_eq_true rfl⟩) (preV hG hS hZ hP hD [0, 1, 2] rfl rfl (ci := 9) (q0 := 0) rfl rfl) rfl rfl hl.1 rfl (lv_room (Nat.le_of_ble_eq_true rfl)) dX5_rankOfMark_12 ⟨Nat.le_of_ble_eq_true rfl, Nat.le_of_ble_eq_true rfl⟩) hP hD hS hA [0, 1, 2] rfl rfl rfl (fun H locs hP hD hS => ?_)
        have hP : va_P D vwCl [(h0, .inr (9, [.ref h1, .ref h2, .int struck, .long alls])), (h1, .inl (cy 0, 40, .inl marks)), (h2, .inl (cy 0, 40, .inl smarks))] H := hP
        have hD : va_D A [(h0, .inr (9, [.ref h1, .ref h2, .int struck, .long alls])), (h1, .inl (cy 0, 40, .inl marks)), (h2, .inl (cy 0, 40, .inl smarks))] := hD
        refine lv_iload_n hx hb dX5_rankOfMark_15 rfl (lv_at hl 1 rfl) ?_
        refine lv_icmp_ne (tgt := 21) hx hb dX5_rankOfMark_16 (by decide) (fun c6 => ?_) (fun c6 => ?_)
        · rw [if_neg c6] at hf
          refine lv_iinc (v := (b2_1 + (1 : Int32))) (lv' := [(2, .int (b2_1 + (1 : Int32))), (0, .ref h0), (1, .int p0)]) hx hb dX5_rankOfMark_21 hl (k := 2) rfl (by rfl) (by decide) rfl (fun ls hl => ?_)
          refine lv_goto (tgt := 2) hx hb dX5_rankOfMark_24 (by decide) ?_
          exact ih_2 (b2_1 + (1 : Int32)) _ _ hP hD hS _ (lv_sub hl [1, 2, 0] rfl) hf
        · rw [if_pos c6] at hf
          refine lv_iload_n hx hb dX5_rankOfMark_19 rfl (lv_at hl 2 rfl) ?_
          obtain rfl := Option.some.inj hf
          exact W.iret (v := b2_1) hx hb hr (fun t ht _ => ⟨⟨b2_1, (), rfl, rfl, by rw [ht]; exact hP, hD⟩, hS.F ht⟩) hS.2.2 dX5_rankOfMark_20
  refine lv_iconst (v := (0 : Int32)) hx hb dX5_rankOfMark_0 (by decide) ?_
  refine lv_istore_n (lv' := [(2, .int (0 : Int32)), (0, .ref h0), (1, .int p0)]) hx hb dX5_rankOfMark_1 rfl hl (by decide) rfl (fun ls hl => ?_)
  exact L2 N (0 : Int32) _ _ hP hD hS _ (lv_sub hl [1, 2, 0] rfl) hf
noncomputable def X5_isFalling_L2_body (struck : Int32) (marks : Nat → Int32) (k2 : Int32 → Option (Int32 × Unit)) (b2_1 : Int32) : Option (Int32 × Unit) := (X5_keptMarks_f struck).bind fun v1 => (if v1.1 ≤ b2_1 then some ((1 : Int32), ()) else (X5_markOfRank_f struck marks b2_1).bind fun v4 => (X5_markOfRank_f struck marks (b2_1 - (1 : Int32))).bind fun v6 => (if v4.1 < v6.1 then k2 (b2_1 + (1 : Int32)) else some ((0 : Int32), ())))
noncomputable def X5_isFalling_L2 (struck : Int32) (marks : Nat → Int32) (n : Nat) : Int32 → Option (Int32 × Unit) := Nat.rec (motive := fun _ => Int32 → Option (Int32 × Unit)) (fun _ => none) (fun _ k2 b2_1 => X5_isFalling_L2_body struck marks k2 b2_1) n
noncomputable def X5_isFalling_f (N : Nat) (struck : Int32) (marks : Nat → Int32) : Option (Int32 × Unit) := X5_isFalling_L2 struck marks N (1 : Int32)
set_option maxHeartbeats 4000000 in
set_option maxRecDepth 100000 in
theorem c_X5_isFalling (l : Launch) (D : va_G) (cy : Nat → ClassId) (sa : Nat → Nat) (z0 sz : Nat) (h0 : Nat) (h1 : Nat) (h2 : Nat) (struck : Int32) (alls : Int64) (marks : Nat → Int32) (smarks : Nat → Int32) (N : Nat) (o : (Int32 × Unit)) (ho : X5_isFalling_f N struck marks = some o) : Met l yX5_isFalling (ws_ yX5_isFalling cX5_isFalling 2 (some .boolean)) ({ frames := 3, cells := 0, slots := 0, locals := 64 } : Room) (va_Pc [.ref h0] (Pr D cy sa z0 [(h0, .inr (9, [.ref h1, .ref h2, .int struck, .long alls])), (h1, .inl (cy 0, 40, .inl marks)), (h2, .inl (cy 0, 40, .inl smarks))] sz)) (QI D o (fun u => [(h0, .inr (9, [.ref h1, .ref h2, .int struck, .long alls])), (h1, .inl (cy 0, 40, .inl marks)), (h2, .inl (cy 0, 40, .inl smarks))]) (va_A [(h0, .inr (9, [.ref h1, .ref h2, .int struck, .long alls])), (h1, .inl (cy 0, 40, .inl marks)), (h2, .inl (cy 0, 40, .inl smarks))] sz)) 0 0 (va_A [(h0, .inr (9, [.ref h1, .ref h2, .int struck, .long alls])), (h1, .inl (cy 0, 40, .inl marks)), (h2, .inl (cy 0, 40, .inl smarks))] sz) := by
  refine MT (Qf := QI D o (fun u => [(h0, .inr (9, [.ref h1, .ref h2, .int struck, .long alls])), (h1, .inl (cy 0, 40, .inl marks)), (h2, .inl (cy 0, 40, .inl smarks))])) (plainFor_of_name (by decide +kernel)) (Nat.le_of_ble_eq_true rfl) ?_
  intro p e s m below meth c A ls H hx hb hml hr hlocks hown hnm hts hG hA hZ hP hD hS hl
  have hK := hG.K
  have hl : lv_has ls 2 [(0, .ref h0)] := hl
  have hf : X5_isFalling_f N struck marks = some o := ho
  clear ho
  unfold X5_isFalling_f at hf
  have L2 : ∀ (n : Nat) (b2_1 : Int32), ∀ (H : Heap) (locs : List Loc), va_P D vwCl [(h0, .inr (9, [.ref h1, .ref h2, .int struck, .long alls])), (h1, .inl (cy 0, 40, .inl marks)), (h2, .inl (cy 0, 40, .inl smarks))] H → va_D A [(h0, .inr (9, [.ref h1, .ref h2, .int struck, .long alls])), (h1, .inl (cy 0, 40, .inl marks)), (h2, .inl (cy 0, 40, .inl smarks))] → va_S A s.heap H locs → ∀ (ls : Array Slot), lv_has ls 2 [(0, .ref h0), (1, .int b2_1)] → X5_isFalling_L2 struck marks n b2_1 = some o → W p l e ({ frames := 3, cells := 0, slots := 0, locals := 64 } : Room) s m ([.ref h0] : List Value).toArray below meth c H locs 0 0 (MQ below (QI D o (fun u => [(h0, .inr (9, [.ref h1, .ref h2, .int struck, .long alls])), (h1, .inl (cy 0, 40, .inl marks)), (h2, .inl (cy 0, 40, .inl smarks))]) A) ([.ref h0] : List Value).toArray s 0 0 A) (F0 m 2 ls []) := by
    intro n
    induction n with
    | zero => intro b2_1 H locs hP hD hS ls hl hf; cases (show (none : Option (Int32 × Unit)) = some o from hf)
    | succ n ih_2 =>
      intro b2_1 H locs hP hD hS ls hl hf
      have hf : X5_isFalling_L2_body struck marks (X5_isFalling_L2 struck marks n) b2_1 = some o := hf
      generalize X5_isFalling_L2 struck marks n = k2 at ih_2 hf
      unfold X5_isFalling_L2_body at hf
      refine lv_iload_n hx hb dX5_isFalling_2 rfl (lv_at hl 1 rfl) ?_
      refine lv_aload_n hx hb dX5_isFalling_3 rfl (lv_at hl 0 rfl) ?_
      obtain ⟨v1, e2, hf⟩ := bind_some' hf
      refine cl_i (va_runV (As := []) (rest := [.int b2_1]) ⟨hx, hb, hml, hown, hts⟩ (c_X5_keptMarks l D cy sa z0 H.size h0 h1 h2 struck alls marks smarks _ e2) (cwV 0 hts (lw_gV k_1676 k_1541 k_1542 k_49 k_1543) rfl rfl rfl (by decide +kernel) ⟨Nat.le_of_ble_eq_true rfl, Nat.le_of_ble_eq_true rfl⟩) (preV hG hS hZ hP hD [0, 1, 2] rfl rfl (ci := 9) (q0 := 0) rfl rfl) rfl rfl hl.1 rfl (lv_room (Nat.le_of_ble_eq_true rfl)) dX5_isFalling_4 ⟨Nat.le_of_ble_eq_true rfl, Nat.le_of_ble_eq_true rfl⟩) hP hD hS hA [0, 1, 2] rfl rfl rfl (fun H locs hP hD hS => ?_)
      have hP : va_P D vwCl [(h0, .inr (9, [.ref h1, .ref h2, .int struck, .long alls])), (h1, .inl (cy 0, 40, .inl marks)), (h2, .inl (cy 0, 40, .inl smarks))] H := hP
      have hD : va_D A [(h0, .inr (9, [.ref h1, .ref h2, .int struck, .long alls])), (h1, .inl (cy 0, 40, .inl marks)), (h2, .inl (cy 0, 40, .inl smarks))] := hD
      refine lv_icmp_ge (tgt := 33) hx hb dX5_isFalling_7 (by decide) (fun c3 => ?_) (fun c3 => ?_)
      · rw [if_pos c3] at hf
        refine lv_iconst (v := (1 : Int32)) hx hb dX5_isFalling_33 (by decide) ?_
        obtain rfl := Option.some.inj hf
        exact W.zret (v := (1 : Int32)) hx hb hr (by decide) (fun t ht _ => ⟨⟨(1 : Int32), (), rfl, rfl, by rw [ht]; exact hP, hD⟩, hS.F ht⟩) hS.2.2 dX5_isFalling_34
      · rw [if_neg c3] at hf
        refine lv_aload_n hx hb dX5_isFalling_10 rfl (lv_at hl 0 rfl) ?_
        refine lv_iload_n hx hb dX5_isFalling_11 rfl (lv_at hl 1 rfl) ?_
        obtain ⟨v4, e5, hf⟩ := bind_some' hf
        refine cl_i (va_runV (As := [.int b2_1]) (rest := []) ⟨hx, hb, hml, hown, hts⟩ (c_X5_markOfRank l D cy sa z0 H.size h0 h1 h2 struck alls marks smarks b2_1 _ e5) (cwV 1 hts (lw_gV k_1677 k_1547 k_1548 k_49 k_1549) rfl rfl rfl (by decide +kernel) ⟨Nat.le_of_ble_eq_true rfl, Nat.le_of_ble_eq_true rfl⟩) (preV hG hS hZ hP hD [0, 1, 2] rfl rfl (ci := 9) (q0 := 0) rfl rfl) rfl rfl hl.1 rfl (lv_room (Nat.le_of_ble_eq_true rfl)) dX5_isFalling_12 ⟨Nat.le_of_ble_eq_true rfl, Nat.le_of_ble_eq_true rfl⟩) hP hD hS hA [0, 1, 2] rfl rfl rfl (fun H locs hP hD hS => ?_)
        have hP : va_P D vwCl [(h0, .inr (9, [.ref h1, .ref h2, .int struck, .long alls])), (h1, .inl (cy 0, 40, .inl marks)), (h2, .inl (cy 0, 40, .inl smarks))] H := hP
        have hD : va_D A [(h0, .inr (9, [.ref h1, .ref h2, .int struck, .long alls])), (h1, .inl (cy 0, 40, .inl marks)), (h2, .inl (cy 0, 40, .inl smarks))] := hD
        refine lv_aload_n hx hb dX5_isFalling_15 rfl (lv_at hl 0 rfl) ?_
        refine lv_iload_n hx hb dX5_isFalling_16 rfl (lv_at hl 1 rfl) ?_
        refine lv_iconst (v := (1 : Int32)) hx hb dX5_isFalling_17 (by decide) ?_
        refine lv_isub hx hb dX5_isFalling_18 ?_
        obtain ⟨v6, e7, hf⟩ := bind_some' hf
        refine cl_i (va_runV (As := [.int (b2_1 - (1 : Int32))]) (rest := [.int v4.1]) ⟨hx, hb, hml, hown, hts⟩ (c_X5_markOfRank l D cy sa z0 H.size h0 h1 h2 struck alls marks smarks (b2_1 - (1 : Int32)) _ e7) (cwV 1 hts (lw_gV k_1677 k_1547 k_1548 k_49 k_1549) rfl rfl rfl (by decide +kernel) ⟨Nat.le_of_ble_eq_true rfl, Nat.le_of_ble_eq_true rfl⟩) (preV hG hS hZ hP hD [0, 1, 2] rfl rfl (ci := 9) (q0 := 0) rfl rfl) rfl rfl hl.1 rfl (lv_room (Nat.le_of_ble_eq_true rfl)) dX5_isFalling_19 ⟨Nat.le_of_ble_eq_true rfl, Nat.le_of_ble_eq_true rfl⟩) hP hD hS hA [0, 1, 2] rfl rfl rfl (fun H locs hP hD hS => ?_)
        have hP : va_P D vwCl [(h0, .inr (9, [.ref h1, .ref h2, .int struck, .long alls])), (h1, .inl (cy 0, 40, .inl marks)), (h2, .inl (cy 0, 40, .inl smarks))] H := hP
        have hD : va_D A [(h0, .inr (9, [.ref h1, .ref h2, .int struck, .long alls])), (h1, .inl (cy 0, 40, .inl marks)), (h2, .inl (cy 0, 40, .inl smarks))] := hD
        refine lv_icmp_lt (tgt := 27) hx hb dX5_isFalling_22 (by decide) (fun c8 => ?_) (fun c8 => ?_)
        · rw [if_pos c8] at hf
          refine lv_iinc (v := (b2_1 + (1 : Int32))) (lv' := [(1, .int (b2_1 + (1 : Int32))), (0, .ref h0)]) hx hb dX5_isFalling_27 hl (k := 1) rfl (by rfl) (by decide) rfl (fun ls hl => ?_)
          refine lv_goto (tgt := 2) hx hb dX5_isFalling_30 (by decide) ?_
          exact ih_2 (b2_1 + (1 : Int32)) _ _ hP hD hS _ (lv_sub hl [1, 0] rfl) hf
        · rw [if_neg c8] at hf
          refine lv_iconst (v := (0 : Int32)) hx hb dX5_isFalling_25 (by decide) ?_
          obtain rfl := Option.some.inj hf
          exact W.zret (v := (0 : Int32)) hx hb hr (by decide) (fun t ht _ => ⟨⟨(0 : Int32), (), rfl, rfl, by rw [ht]; exact hP, hD⟩, hS.F ht⟩) hS.2.2 dX5_isFalling_26
  refine lv_iconst (v := (1 : Int32)) hx hb dX5_isFalling_0 (by decide) ?_
  refine lv_istore_n (lv' := [(1, .int (1 : Int32)), (0, .ref h0)]) hx hb dX5_isFalling_1 rfl hl (by decide) rfl (fun ls hl => ?_)
  exact L2 N (1 : Int32) _ _ hP hD hS _ (lv_sub hl [1, 0] rfl) hf
