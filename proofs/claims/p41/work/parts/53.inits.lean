noncomputable def Jxa1e45_init_da8c8_f : Option (Unit) := some ()
set_option maxHeartbeats 4000000 in
set_option maxRecDepth 100000 in
theorem c_Jxa1e45_init_da8c8 (l : Launch) (D : va_G) (cy : Nat → ClassId) (sa : Nat → Nat) (z0 sz : Nat) (h0 : Nat) (o : (Unit)) (ho : Jxa1e45_init_da8c8_f = some o) : Met l yJxa1e45_init_da8c8 (ws_ yJxa1e45_init_da8c8 cJxa1e45_init_da8c8 1 none) ({ frames := 1, cells := 0, slots := 0, locals := 20 } : Room) (va_Pc [.ref h0] (Pr D cy sa z0 [] sz)) (QV D o (fun u => []) (va_A [] sz)) 0 0 (va_A [] sz) := by
  refine MT (Qf := QV D o (fun u => [])) (plainFor_of_name (by decide +kernel)) (Nat.le_of_ble_eq_true rfl) ?_
  intro p e s m below meth c A ls H hx hb hml hr hlocks hown hnm hts hG hA hZ hP hD hS hl
  have hK := hG.K
  have hl : lv_has ls 1 [(0, .ref h0)] := hl
  have hf : Jxa1e45_init_da8c8_f = some o := ho
  clear ho
  unfold Jxa1e45_init_da8c8_f at hf
  refine lv_aload_n hx hb dJxa1e45_init_da8c8_0 rfl (lv_at hl 0 rfl) ?_
  refine W.objInit hx hb hown (hts _ k_100) (hts _ k_81) (hts _ k_82) rfl (by rw [hml]; exact hl.1) rfl dJxa1e45_init_da8c8_1 (Nat.le_of_ble_eq_true rfl) (Nat.le_of_ble_eq_true rfl) ?_
  refine W.eq (g2 := F0 m 4 ls []) rfl ?_
  obtain rfl := Option.some.inj hf
  exact W.vret hx hb hr (fun t ht _ => ⟨⟨(), rfl, rfl, by rw [ht]; exact hP, hD⟩, hS.F ht⟩) hS.2.2 dJxa1e45_init_da8c8_4
noncomputable def Jxc12de_init_da8c8_f : Option (Unit) := (Jxa1e45_init_da8c8_f).bind fun v1 => some ()
set_option maxHeartbeats 4000000 in
set_option maxRecDepth 100000 in
theorem c_Jxc12de_init_da8c8 (l : Launch) (D : va_G) (cy : Nat → ClassId) (sa : Nat → Nat) (z0 sz : Nat) (h0 : Nat) (o : (Unit)) (ho : Jxc12de_init_da8c8_f = some o) : Met l yJxc12de_init_da8c8 (ws_ yJxc12de_init_da8c8 cJxc12de_init_da8c8 1 none) ({ frames := 2, cells := 0, slots := 0, locals := 40 } : Room) (va_Pc [.ref h0] (Pr D cy sa z0 [(h0, .inr (3, [.int (0 : Int32), .null, .int (0 : Int32)]))] sz)) (QV D o (fun u => [(h0, .inr (3, [.int (0 : Int32), .null, .int (0 : Int32)]))]) (va_A [(h0, .inr (3, [.int (0 : Int32), .null, .int (0 : Int32)]))] sz)) 0 0 (va_A [(h0, .inr (3, [.int (0 : Int32), .null, .int (0 : Int32)]))] sz) := by
  refine MT (Qf := QV D o (fun u => [(h0, .inr (3, [.int (0 : Int32), .null, .int (0 : Int32)]))])) (plainFor_of_name (by decide +kernel)) (Nat.le_of_ble_eq_true rfl) ?_
  intro p e s m below meth c A ls H hx hb hml hr hlocks hown hnm hts hG hA hZ hP hD hS hl
  have hK := hG.K
  have hl : lv_has ls 1 [(0, .ref h0)] := hl
  have hf : Jxc12de_init_da8c8_f = some o := ho
  clear ho
  unfold Jxc12de_init_da8c8_f at hf
  refine lv_aload_n hx hb dJxc12de_init_da8c8_0 rfl (lv_at hl 0 rfl) ?_
  obtain ⟨v1, e2, hf⟩ := bind_some' hf
  refine cl_v (va_runI (As := []) (rest := []) ⟨hx, hb, hml, hown, hts⟩ (c_Jxa1e45_init_da8c8 l D cy sa z0 H.size h0 _ e2) (cwI 0 hts (lw_gd k_99) rfl rfl rfl (hts _ k_38) (hts _ k_97) (hts _ k_98) rfl (by decide +kernel) ⟨Nat.le_of_ble_eq_true rfl, Nat.le_of_ble_eq_true rfl⟩) (preS hG hS hZ hP hD [] rfl rfl) rfl rfl hl.1 rfl (lv_room (Nat.le_of_ble_eq_true rfl)) dJxc12de_init_da8c8_1 ⟨Nat.le_of_ble_eq_true rfl, Nat.le_of_ble_eq_true rfl⟩) hP hD hS hA [] rfl rfl rfl (fun H locs hP hD hS => ?_)
  have hP : va_P D vwCl [(h0, .inr (3, [.int (0 : Int32), .null, .int (0 : Int32)]))] H := hP
  have hD : va_D A [(h0, .inr (3, [.int (0 : Int32), .null, .int (0 : Int32)]))] := hD
  refine lv_aload_n hx hb dJxc12de_init_da8c8_4 rfl (lv_at hl 0 rfl) ?_
  refine lv_iconst (v := (0 : Int32)) hx hb dJxc12de_init_da8c8_5 (by decide) ?_
  refine va_put (D := D) (ci := 3) (v := .int (0 : Int32)) (ty := .int) (C := RJx4a65c) (T := TJx4a65c) (N := 3) hx hb hts in_Jx4a65c tyJx4a65c tyJx4a65c_ok nmJx4a65c hown hK hP hD hS 0 rfl rfl 0 (by decide) (hts _ k_105) (fun _ h9 => h9) rfl (by decide +kernel) rfl rfl (Nat.le_of_ble_eq_true rfl) dJxc12de_init_da8c8_6 (fun H locs hP hD hS => ?_)
  have hP : va_P D vwCl [(h0, .inr (3, [.int (0 : Int32), .null, .int (0 : Int32)]))] H := hP
  have hD : va_D A [(h0, .inr (3, [.int (0 : Int32), .null, .int (0 : Int32)]))] := hD
  obtain rfl := Option.some.inj hf
  exact W.vret hx hb hr (fun t ht _ => ⟨⟨(), rfl, rfl, by rw [ht]; exact hP, hD⟩, hS.F ht⟩) hS.2.2 dJxc12de_init_da8c8_9
noncomputable def Jx4a65c_init_da8c8_f (Post : (Unit) → Prop) : Prop := ∃ v1, Jxc12de_init_da8c8_f = some v1 ∧ (Post ())
set_option maxHeartbeats 4000000 in
set_option maxRecDepth 100000 in
theorem c_Jx4a65c_init_da8c8 (l : Launch) (D : va_G) (cy : Nat → ClassId) (sa : Nat → Nat) (z0 sz : Nat) (h0 : Nat) (Post : (Unit) → Prop) (ho : Jx4a65c_init_da8c8_f Post) : Met l yJx4a65c_init_da8c8 (ws_ yJx4a65c_init_da8c8 cJx4a65c_init_da8c8 1 none) ({ frames := 3, cells := 0, slots := 0, locals := 60 } : Room) (va_Pc [.ref h0] (Pr D cy sa z0 [(h0, .inr (3, [.int (0 : Int32), .null, .int (0 : Int32)]))] sz)) (GV D Post (fun u => (([(h0, .inr (3, [.int (0 : Int32), .ref (sa 0), .int (0 : Int32)]))] : va_W) ++ ([] : va_W))) (va_A [(h0, .inr (3, [.int (0 : Int32), .null, .int (0 : Int32)]))] sz)) 0 0 (va_A [(h0, .inr (3, [.int (0 : Int32), .null, .int (0 : Int32)]))] sz) := by
  refine MT (Qf := GV D Post (fun u => (([(h0, .inr (3, [.int (0 : Int32), .ref (sa 0), .int (0 : Int32)]))] : va_W) ++ ([] : va_W)))) (plainFor_of_name (by decide +kernel)) (Nat.le_of_ble_eq_true rfl) ?_
  intro p e s m below meth c A ls H hx hb hml hr hlocks hown hnm hts hG hA hZ hP hD hS hl
  have hK := hG.K
  have hl : lv_has ls 1 [(0, .ref h0)] := hl
  have hf : Jx4a65c_init_da8c8_f Post := ho
  clear ho
  unfold Jx4a65c_init_da8c8_f at hf
  refine lv_aload_n hx hb dJx4a65c_init_da8c8_0 rfl (lv_at hl 0 rfl) ?_
  obtain ⟨v1, e2, hf⟩ := hf
  refine cl_v (va_runI (As := []) (rest := []) ⟨hx, hb, hml, hown, hts⟩ (c_Jxc12de_init_da8c8 l D cy sa z0 H.size h0 _ e2) (cwI 0 hts (lw_gd k_96) rfl rfl rfl (hts _ k_39) (hts _ k_94) (hts _ k_95) rfl (by decide +kernel) ⟨Nat.le_of_ble_eq_true rfl, Nat.le_of_ble_eq_true rfl⟩) (preS hG hS hZ hP hD [0] rfl rfl) rfl rfl hl.1 rfl (lv_room (Nat.le_of_ble_eq_true rfl)) dJx4a65c_init_da8c8_1 ⟨Nat.le_of_ble_eq_true rfl, Nat.le_of_ble_eq_true rfl⟩) hP hD hS hA [0] rfl rfl rfl (fun H locs hP hD hS => ?_)
  have hP : va_P D vwCl [(h0, .inr (3, [.int (0 : Int32), .null, .int (0 : Int32)]))] H := hP
  have hD : va_D A [(h0, .inr (3, [.int (0 : Int32), .null, .int (0 : Int32)]))] := hD
  refine lv_aload_n hx hb dJx4a65c_init_da8c8_4 rfl (lv_at hl 0 rfl) ?_
  refine va_gets (v := .ref (sa 0)) hx hb ((amb_Z0 hG).narrow hZ) hS hown (hts _ k_101) (fun _ h9 => h9) dJx4a65c_init_da8c8_5 ?_
  refine va_put (D := D) (ci := 3) (v := .ref (sa 0)) (ty := (tyJx4a65c 1)) (C := RJx4a65c) (T := TJx4a65c) (N := 3) hx hb hts in_Jx4a65c tyJx4a65c tyJx4a65c_ok nmJx4a65c hown hK hP hD hS 0 rfl rfl 1 (by decide) (hts _ k_103) (fun _ h9 => h9) rfl (by decide +kernel) rfl rfl (Nat.le_of_ble_eq_true rfl) dJx4a65c_init_da8c8_8 (fun H locs hP hD hS => ?_)
  have hP : va_P D vwCl [(h0, .inr (3, [.int (0 : Int32), .ref (sa 0), .int (0 : Int32)]))] H := hP
  have hD : va_D A [(h0, .inr (3, [.int (0 : Int32), .ref (sa 0), .int (0 : Int32)]))] := hD
  exact W.vret hx hb hr (fun t ht _ => ⟨⟨(), rfl, hf, by rw [ht]; exact hP, hD⟩, hS.F ht⟩) hS.2.2 dJx4a65c_init_da8c8_11
noncomputable def X7_init_f (p0 : Int32) (p1 : Int32) (p2 : Int32) (p3 : Int64) : Option ((Int32 × Int32 × Int32 × Int64)) := some (p0, p1, p2, p3)
set_option maxHeartbeats 4000000 in
set_option maxRecDepth 100000 in
theorem c_X7_init (l : Launch) (D : va_G) (cy : Nat → ClassId) (sa : Nat → Nat) (z0 sz : Nat) (h0 : Nat) (p0 : Int32) (p1 : Int32) (p2 : Int32) (p3 : Int64) (o : ((Int32 × Int32 × Int32 × Int64))) (ho : X7_init_f p0 p1 p2 p3 = some o) : Met l yX7_init (ws_ yX7_init cX7_init 6 none) ({ frames := 1, cells := 0, slots := 0, locals := 20 } : Room) (va_Pc [.ref h0, .int p0, .int p1, .int p2, .long p3] (Pr D cy sa z0 [(h0, .inr (11, [.int (0 : Int32), .int (0 : Int32), .int (0 : Int32), .long (0 : Int64), .long (0 : Int64)]))] sz)) (QV D o (fun u => [(h0, .inr (11, [.int u.1, .int u.2.1, .int u.2.2.1, .long u.2.2.2, .long (0 : Int64)]))]) (va_A [(h0, .inr (11, [.int (0 : Int32), .int (0 : Int32), .int (0 : Int32), .long (0 : Int64), .long (0 : Int64)]))] sz)) 0 0 (va_A [(h0, .inr (11, [.int (0 : Int32), .int (0 : Int32), .int (0 : Int32), .long (0 : Int64), .long (0 : Int64)]))] sz) := by
  refine MT (Qf := QV D o (fun u => [(h0, .inr (11, [.int u.1, .int u.2.1, .int u.2.2.1, .long u.2.2.2, .long (0 : Int64)]))])) (plainFor_of_name (by decide +kernel)) (Nat.le_of_ble_eq_true rfl) ?_
  intro p e s m below meth c A ls H hx hb hml hr hlocks hown hnm hts hG hA hZ hP hD hS hl
  have hK := hG.K
  have hl : lv_has ls 6 [(0, .ref h0), (1, .int p0), (2, .int p1), (3, .int p2), (4, .long p3)] := hl
  have hf : X7_init_f p0 p1 p2 p3 = some o := ho
  clear ho
  unfold X7_init_f at hf
  refine lv_aload_n hx hb dX7_init_0 rfl (lv_at hl 0 rfl) ?_
  refine W.objInit hx hb hown (hts _ k_120) (hts _ k_81) (hts _ k_82) rfl (by rw [hml]; exact hl.1) rfl dX7_init_1 (Nat.le_of_ble_eq_true rfl) (Nat.le_of_ble_eq_true rfl) ?_
  refine W.eq (g2 := F0 m 4 ls []) rfl ?_
  refine lv_aload_n hx hb dX7_init_4 rfl (lv_at hl 0 rfl) ?_
  refine lv_iload_n hx hb dX7_init_5 rfl (lv_at hl 1 rfl) ?_
  refine va_putF (D := D) (ci := 11) (v := .int p0) (ty := .int) (C := RX7) (T := TX7) (N := 5) hx hb hts in_X7 tyX7 tyX7_ok nmX7 hown hK hP hD hS 0 rfl rfl 0 (by decide) (hts _ k_121) (fun _ h9 => h9) rfl hnm rfl (by decide +kernel) rfl rfl (Nat.le_of_ble_eq_true rfl) dX7_init_6 (fun H locs hP hD hS => ?_)
  have hP : va_P D vwCl [(h0, .inr (11, [.int p0, .int (0 : Int32), .int (0 : Int32), .long (0 : Int64), .long (0 : Int64)]))] H := hP
  have hD : va_D A [(h0, .inr (11, [.int p0, .int (0 : Int32), .int (0 : Int32), .long (0 : Int64), .long (0 : Int64)]))] := hD
  refine lv_aload_n hx hb dX7_init_9 rfl (lv_at hl 0 rfl) ?_
  refine lv_iload_n hx hb dX7_init_10 rfl (lv_at hl 2 rfl) ?_
  refine va_putF (D := D) (ci := 11) (v := .int p1) (ty := .int) (C := RX7) (T := TX7) (N := 5) hx hb hts in_X7 tyX7 tyX7_ok nmX7 hown hK hP hD hS 0 rfl rfl 1 (by decide) (hts _ k_122) (fun _ h9 => h9) rfl hnm rfl (by decide +kernel) rfl rfl (Nat.le_of_ble_eq_true rfl) dX7_init_11 (fun H locs hP hD hS => ?_)
  have hP : va_P D vwCl [(h0, .inr (11, [.int p0, .int p1, .int (0 : Int32), .long (0 : Int64), .long (0 : Int64)]))] H := hP
  have hD : va_D A [(h0, .inr (11, [.int p0, .int p1, .int (0 : Int32), .long (0 : Int64), .long (0 : Int64)]))] := hD
  refine lv_aload_n hx hb dX7_init_14 rfl (lv_at hl 0 rfl) ?_
  refine lv_iload_n hx hb dX7_init_15 rfl (lv_at hl 3 rfl) ?_
  refine va_putF (D := D) (ci := 11) (v := .int p2) (ty := .int) (C := RX7) (T := TX7) (N := 5) hx hb hts in_X7 tyX7 tyX7_ok nmX7 hown hK hP hD hS 0 rfl rfl 2 (by decide) (hts _ k_123) (fun _ h9 => h9) rfl hnm rfl (by decide +kernel) rfl rfl (Nat.le_of_ble_eq_true rfl) dX7_init_16 (fun H locs hP hD hS => ?_)
  have hP : va_P D vwCl [(h0, .inr (11, [.int p0, .int p1, .int p2, .long (0 : Int64), .long (0 : Int64)]))] H := hP
  have hD : va_D A [(h0, .inr (11, [.int p0, .int p1, .int p2, .long (0 : Int64), .long (0 : Int64)]))] := hD
  refine lv_aload_n hx hb dX7_init_19 rfl (lv_at hl 0 rfl) ?_
  refine lv_lload hx hb dX7_init_20 (lv_at hl 4 rfl) ?_
  refine va_putF (D := D) (ci := 11) (v := .long p3) (ty := .long) (C := RX7) (T := TX7) (N := 5) hx hb hts in_X7 tyX7 tyX7_ok nmX7 hown hK hP hD hS 0 rfl rfl 3 (by decide) (hts _ k_124) (fun _ h9 => h9) rfl hnm rfl (by decide +kernel) rfl rfl (Nat.le_of_ble_eq_true rfl) dX7_init_22 (fun H locs hP hD hS => ?_)
  have hP : va_P D vwCl [(h0, .inr (11, [.int p0, .int p1, .int p2, .long p3, .long (0 : Int64)]))] H := hP
  have hD : va_D A [(h0, .inr (11, [.int p0, .int p1, .int p2, .long p3, .long (0 : Int64)]))] := hD
  obtain rfl := Option.some.inj hf
  exact W.vret hx hb hr (fun t ht _ => ⟨⟨(p0, p1, p2, p3), rfl, rfl, by rw [ht]; exact hP, hD⟩, hS.F ht⟩) hS.2.2 dX7_init_25
noncomputable def X3_init_f : Option (Int32) := some (5 : Int32)
set_option maxHeartbeats 4000000 in
set_option maxRecDepth 100000 in
theorem c_X3_init (l : Launch) (D : va_G) (cy : Nat → ClassId) (sa : Nat → Nat) (z0 sz : Nat) (h0 : Nat) (o : (Int32)) (ho : X3_init_f = some o) : Met l yX3_init (ws_ yX3_init cX3_init 1 none) ({ frames := 1, cells := 0, slots := 0, locals := 20 } : Room) (va_Pc [.ref h0] (Pr D cy sa z0 [(h0, .inr (7, [.int (0 : Int32), .int (0 : Int32), .int (0 : Int32), .int (0 : Int32)]))] sz)) (QV D o (fun u => [(h0, .inr (7, [.int (0 : Int32), .int (0 : Int32), .int u, .int (0 : Int32)]))]) (va_A [(h0, .inr (7, [.int (0 : Int32), .int (0 : Int32), .int (0 : Int32), .int (0 : Int32)]))] sz)) 0 0 (va_A [(h0, .inr (7, [.int (0 : Int32), .int (0 : Int32), .int (0 : Int32), .int (0 : Int32)]))] sz) := by
  refine MT (Qf := QV D o (fun u => [(h0, .inr (7, [.int (0 : Int32), .int (0 : Int32), .int u, .int (0 : Int32)]))])) (plainFor_of_name (by decide +kernel)) (Nat.le_of_ble_eq_true rfl) ?_
  intro p e s m below meth c A ls H hx hb hml hr hlocks hown hnm hts hG hA hZ hP hD hS hl
  have hK := hG.K
  have hl : lv_has ls 1 [(0, .ref h0)] := hl
  have hf : X3_init_f = some o := ho
  clear ho
  unfold X3_init_f at hf
  refine lv_aload_n hx hb dX3_init_0 rfl (lv_at hl 0 rfl) ?_
  refine W.objInit hx hb hown (hts _ k_228) (hts _ k_81) (hts _ k_82) rfl (by rw [hml]; exact hl.1) rfl dX3_init_1 (Nat.le_of_ble_eq_true rfl) (Nat.le_of_ble_eq_true rfl) ?_
  refine W.eq (g2 := F0 m 4 ls []) rfl ?_
  refine lv_aload_n hx hb dX3_init_4 rfl (lv_at hl 0 rfl) ?_
  refine lv_iconst (v := (0 : Int32)) hx hb dX3_init_5 (by decide) ?_
  refine va_put (D := D) (ci := 7) (v := .int (0 : Int32)) (ty := .int) (C := RX3) (T := TX3) (N := 4) hx hb hts in_X3 tyX3 tyX3_ok nmX3 hown hK hP hD hS 0 rfl rfl 0 (by decide) (hts _ k_229) (fun _ h9 => h9) rfl (by decide +kernel) rfl rfl (Nat.le_of_ble_eq_true rfl) dX3_init_6 (fun H locs hP hD hS => ?_)
  have hP : va_P D vwCl [(h0, .inr (7, [.int (0 : Int32), .int (0 : Int32), .int (0 : Int32), .int (0 : Int32)]))] H := hP
  have hD : va_D A [(h0, .inr (7, [.int (0 : Int32), .int (0 : Int32), .int (0 : Int32), .int (0 : Int32)]))] := hD
  refine lv_aload_n hx hb dX3_init_9 rfl (lv_at hl 0 rfl) ?_
  refine lv_iconst (v := (0 : Int32)) hx hb dX3_init_10 (by decide) ?_
  refine va_put (D := D) (ci := 7) (v := .int (0 : Int32)) (ty := .int) (C := RX3) (T := TX3) (N := 4) hx hb hts in_X3 tyX3 tyX3_ok nmX3 hown hK hP hD hS 0 rfl rfl 1 (by decide) (hts _ k_230) (fun _ h9 => h9) rfl (by decide +kernel) rfl rfl (Nat.le_of_ble_eq_true rfl) dX3_init_11 (fun H locs hP hD hS => ?_)
  have hP : va_P D vwCl [(h0, .inr (7, [.int (0 : Int32), .int (0 : Int32), .int (0 : Int32), .int (0 : Int32)]))] H := hP
  have hD : va_D A [(h0, .inr (7, [.int (0 : Int32), .int (0 : Int32), .int (0 : Int32), .int (0 : Int32)]))] := hD
  refine lv_aload_n hx hb dX3_init_14 rfl (lv_at hl 0 rfl) ?_
  refine lv_iconst (v := (5 : Int32)) hx hb dX3_init_15 (by decide) ?_
  refine va_put (D := D) (ci := 7) (v := .int (5 : Int32)) (ty := .int) (C := RX3) (T := TX3) (N := 4) hx hb hts in_X3 tyX3 tyX3_ok nmX3 hown hK hP hD hS 0 rfl rfl 2 (by decide) (hts _ k_231) (fun _ h9 => h9) rfl (by decide +kernel) rfl rfl (Nat.le_of_ble_eq_true rfl) dX3_init_16 (fun H locs hP hD hS => ?_)
  have hP : va_P D vwCl [(h0, .inr (7, [.int (0 : Int32), .int (0 : Int32), .int (5 : Int32), .int (0 : Int32)]))] H := hP
  have hD : va_D A [(h0, .inr (7, [.int (0 : Int32), .int (0 : Int32), .int (5 : Int32), .int (0 : Int32)]))] := hD
  refine lv_aload_n hx hb dX3_init_19 rfl (lv_at hl 0 rfl) ?_
  refine lv_iconst (v := (0 : Int32)) hx hb dX3_init_20 (by decide) ?_
  refine va_put (D := D) (ci := 7) (v := .int (0 : Int32)) (ty := .int) (C := RX3) (T := TX3) (N := 4) hx hb hts in_X3 tyX3 tyX3_ok nmX3 hown hK hP hD hS 0 rfl rfl 3 (by decide) (hts _ k_232) (fun _ h9 => h9) rfl (by decide +kernel) rfl rfl (Nat.le_of_ble_eq_true rfl) dX3_init_21 (fun H locs hP hD hS => ?_)
  have hP : va_P D vwCl [(h0, .inr (7, [.int (0 : Int32), .int (0 : Int32), .int (5 : Int32), .int (0 : Int32)]))] H := hP
  have hD : va_D A [(h0, .inr (7, [.int (0 : Int32), .int (0 : Int32), .int (5 : Int32), .int (0 : Int32)]))] := hD
  obtain rfl := Option.some.inj hf
  exact W.vret hx hb hr (fun t ht _ => ⟨⟨(5 : Int32), rfl, rfl, by rw [ht]; exact hP, hD⟩, hS.F ht⟩) hS.2.2 dX3_init_24
noncomputable def X4_init_f : Option ((Int32 × Int32)) := some ((1 : Int32), (1 : Int32))
set_option maxHeartbeats 4000000 in
set_option maxRecDepth 100000 in
theorem c_X4_init (l : Launch) (D : va_G) (cy : Nat → ClassId) (sa : Nat → Nat) (z0 sz : Nat) (h0 : Nat) (o : ((Int32 × Int32))) (ho : X4_init_f = some o) : Met l yX4_init (ws_ yX4_init cX4_init 1 none) ({ frames := 1, cells := 0, slots := 0, locals := 20 } : Room) (va_Pc [.ref h0] (Pr D cy sa z0 [(h0, .inr (8, [.int (0 : Int32), .int (0 : Int32), .int (0 : Int32)]))] sz)) (QV D o (fun u => [(h0, .inr (8, [.int u.1, .int u.2, .int (0 : Int32)]))]) (va_A [(h0, .inr (8, [.int (0 : Int32), .int (0 : Int32), .int (0 : Int32)]))] sz)) 0 0 (va_A [(h0, .inr (8, [.int (0 : Int32), .int (0 : Int32), .int (0 : Int32)]))] sz) := by
  refine MT (Qf := QV D o (fun u => [(h0, .inr (8, [.int u.1, .int u.2, .int (0 : Int32)]))])) (plainFor_of_name (by decide +kernel)) (Nat.le_of_ble_eq_true rfl) ?_
  intro p e s m below meth c A ls H hx hb hml hr hlocks hown hnm hts hG hA hZ hP hD hS hl
  have hK := hG.K
  have hl : lv_has ls 1 [(0, .ref h0)] := hl
  have hf : X4_init_f = some o := ho
  clear ho
  unfold X4_init_f at hf
  refine lv_aload_n hx hb dX4_init_0 rfl (lv_at hl 0 rfl) ?_
  refine W.objInit hx hb hown (hts _ k_212) (hts _ k_81) (hts _ k_82) rfl (by rw [hml]; exact hl.1) rfl dX4_init_1 (Nat.le_of_ble_eq_true rfl) (Nat.le_of_ble_eq_true rfl) ?_
  refine W.eq (g2 := F0 m 4 ls []) rfl ?_
  refine lv_aload_n hx hb dX4_init_4 rfl (lv_at hl 0 rfl) ?_
  refine lv_iconst (v := (1 : Int32)) hx hb dX4_init_5 (by decide) ?_
  refine va_put (D := D) (ci := 8) (v := .int (1 : Int32)) (ty := .int) (C := RX4) (T := TX4) (N := 3) hx hb hts in_X4 tyX4 tyX4_ok nmX4 hown hK hP hD hS 0 rfl rfl 0 (by decide) (hts _ k_213) (fun _ h9 => h9) rfl (by decide +kernel) rfl rfl (Nat.le_of_ble_eq_true rfl) dX4_init_6 (fun H locs hP hD hS => ?_)
  have hP : va_P D vwCl [(h0, .inr (8, [.int (1 : Int32), .int (0 : Int32), .int (0 : Int32)]))] H := hP
  have hD : va_D A [(h0, .inr (8, [.int (1 : Int32), .int (0 : Int32), .int (0 : Int32)]))] := hD
  refine lv_aload_n hx hb dX4_init_9 rfl (lv_at hl 0 rfl) ?_
  refine lv_iconst (v := (1 : Int32)) hx hb dX4_init_10 (by decide) ?_
  refine va_put (D := D) (ci := 8) (v := .int (1 : Int32)) (ty := .int) (C := RX4) (T := TX4) (N := 3) hx hb hts in_X4 tyX4 tyX4_ok nmX4 hown hK hP hD hS 0 rfl rfl 1 (by decide) (hts _ k_214) (fun _ h9 => h9) rfl (by decide +kernel) rfl rfl (Nat.le_of_ble_eq_true rfl) dX4_init_11 (fun H locs hP hD hS => ?_)
  have hP : va_P D vwCl [(h0, .inr (8, [.int (1 : Int32), .int (1 : Int32), .int (0 : Int32)]))] H := hP
  have hD : va_D A [(h0, .inr (8, [.int (1 : Int32), .int (1 : Int32), .int (0 : Int32)]))] := hD
  refine lv_aload_n hx hb dX4_init_14 rfl (lv_at hl 0 rfl) ?_
  refine lv_iconst (v := (0 : Int32)) hx hb dX4_init_15 (by decide) ?_
  refine va_put (D := D) (ci := 8) (v := .int (0 : Int32)) (ty := .int) (C := RX4) (T := TX4) (N := 3) hx hb hts in_X4 tyX4 tyX4_ok nmX4 hown hK hP hD hS 0 rfl rfl 2 (by decide) (hts _ k_215) (fun _ h9 => h9) rfl (by decide +kernel) rfl rfl (Nat.le_of_ble_eq_true rfl) dX4_init_16 (fun H locs hP hD hS => ?_)
  have hP : va_P D vwCl [(h0, .inr (8, [.int (1 : Int32), .int (1 : Int32), .int (0 : Int32)]))] H := hP
  have hD : va_D A [(h0, .inr (8, [.int (1 : Int32), .int (1 : Int32), .int (0 : Int32)]))] := hD
  obtain rfl := Option.some.inj hf
  exact W.vret hx hb hr (fun t ht _ => ⟨⟨((1 : Int32), (1 : Int32)), rfl, rfl, by rw [ht]; exact hP, hD⟩, hS.F ht⟩) hS.2.2 dX4_init_19
noncomputable def X2_init_f (p0 : Int32) (Post : ((Int32 × Nat × Nat)) → Prop) : Prop := ∀ q1 : Nat, Post (p0, q1, q1)
set_option maxHeartbeats 4000000 in
set_option maxRecDepth 100000 in
theorem c_X2_init (l : Launch) (D : va_G) (cy : Nat → ClassId) (sa : Nat → Nat) (z0 sz : Nat) (h0 : Nat) (p0 : Int32) (Post : ((Int32 × Nat × Nat)) → Prop) (ho : X2_init_f p0 Post) : Met l yX2_init (ws_ yX2_init cX2_init 2 none) ({ frames := 1, cells := 1, slots := 32, locals := 20 } : Room) (va_Pc [.ref h0, .int p0] (Pr D cy sa z0 [(h0, .inr (6, [.int (0 : Int32), .null, .int (0 : Int32)]))] sz)) (GV D Post (fun u => (([(h0, .inr (6, [.int u.1, .ref u.2.1, .int (0 : Int32)]))] : va_W) ++ ([(u.2.2, .inl (cy 0, 32, .inl (fun _ => (0 : Int32))))] : va_W))) (va_A [(h0, .inr (6, [.int (0 : Int32), .null, .int (0 : Int32)]))] sz)) 1 32 (va_A [(h0, .inr (6, [.int (0 : Int32), .null, .int (0 : Int32)]))] sz) := by
  refine MT (Qf := GV D Post (fun u => (([(h0, .inr (6, [.int u.1, .ref u.2.1, .int (0 : Int32)]))] : va_W) ++ ([(u.2.2, .inl (cy 0, 32, .inl (fun _ => (0 : Int32))))] : va_W)))) (plainFor_of_name (by decide +kernel)) (Nat.le_of_ble_eq_true rfl) ?_
  intro p e s m below meth c A ls H hx hb hml hr hlocks hown hnm hts hG hA hZ hP hD hS hl
  have hK := hG.K
  have hl : lv_has ls 2 [(0, .ref h0), (1, .int p0)] := hl
  have hf : X2_init_f p0 Post := ho
  clear ho
  unfold X2_init_f at hf
  refine lv_aload_n hx hb dX2_init_0 rfl (lv_at hl 0 rfl) ?_
  refine W.objInit hx hb hown (hts _ k_834) (hts _ k_81) (hts _ k_82) rfl (by rw [hml]; exact hl.1) rfl dX2_init_1 (Nat.le_of_ble_eq_true rfl) (Nat.le_of_ble_eq_true rfl) ?_
  refine W.eq (g2 := F0 m 4 ls []) rfl ?_
  refine lv_aload_n hx hb dX2_init_4 rfl (lv_at hl 0 rfl) ?_
  refine lv_iload_n hx hb dX2_init_5 rfl (lv_at hl 1 rfl) ?_
  refine va_putF (D := D) (ci := 6) (v := .int p0) (ty := .int) (C := RX2) (T := TX2) (N := 3) hx hb hts in_X2 tyX2 tyX2_ok nmX2 hown hK hP hD hS 0 rfl rfl 0 (by decide) (hts _ k_835) (fun _ h9 => h9) rfl hnm rfl (by decide +kernel) rfl rfl (Nat.le_of_ble_eq_true rfl) dX2_init_6 (fun H locs hP hD hS => ?_)
  have hP : va_P D vwCl [(h0, .inr (6, [.int p0, .null, .int (0 : Int32)]))] H := hP
  have hD : va_D A [(h0, .inr (6, [.int p0, .null, .int (0 : Int32)]))] := hD
  refine lv_aload_n hx hb dX2_init_9 rfl (lv_at hl 0 rfl) ?_
  refine lv_bipush (v := (32 : Int32)) hx hb dX2_init_10 (by decide) ?_
  refine nw_a (N' := 32) (ty := .int) (a0 := (32, .inl (fun _ => (0 : Int32)))) 0 rfl hx hb (hts _ k_271) rfl hK hP hD hS hA (fun cA => rfl) (by decide) (by decide) (by decide) (Nat.le_of_ble_eq_true rfl) (Nat.le_of_ble_eq_true rfl) dX2_init_12 (fun q1 H hP hD hS => ?_)
  have hP : va_P D vwCl [(h0, .inr (6, [.int p0, .null, .int (0 : Int32)])), (q1, .inl (cy 0, 32, .inl (fun _ => (0 : Int32))))] H := hP
  have hD : va_D A [(h0, .inr (6, [.int p0, .null, .int (0 : Int32)])), (q1, .inl (cy 0, 32, .inl (fun _ => (0 : Int32))))] := hD
  have hf := hf q1
  refine va_putF (D := D) (ci := 6) (v := .ref q1) (ty := (tyX2 1)) (C := RX2) (T := TX2) (N := 3) hx hb hts in_X2 tyX2 tyX2_ok nmX2 hown hK hP hD hS 0 rfl rfl 1 (by decide) (hts _ k_836) (fun _ h9 => h9) rfl hnm rfl (by decide +kernel) rfl rfl (Nat.le_of_ble_eq_true rfl) dX2_init_14 (fun H locs hP hD hS => ?_)
  have hP : va_P D vwCl [(h0, .inr (6, [.int p0, .ref q1, .int (0 : Int32)])), (q1, .inl (cy 0, 32, .inl (fun _ => (0 : Int32))))] H := hP
  have hD : va_D A [(h0, .inr (6, [.int p0, .ref q1, .int (0 : Int32)])), (q1, .inl (cy 0, 32, .inl (fun _ => (0 : Int32))))] := hD
  refine lv_aload_n hx hb dX2_init_17 rfl (lv_at hl 0 rfl) ?_
  refine lv_iconst (v := (0 : Int32)) hx hb dX2_init_18 (by decide) ?_
  refine va_put (D := D) (ci := 6) (v := .int (0 : Int32)) (ty := .int) (C := RX2) (T := TX2) (N := 3) hx hb hts in_X2 tyX2 tyX2_ok nmX2 hown hK hP hD hS 0 rfl rfl 2 (by decide) (hts _ k_837) (fun _ h9 => h9) rfl (by decide +kernel) rfl rfl (Nat.le_of_ble_eq_true rfl) dX2_init_19 (fun H locs hP hD hS => ?_)
  have hP : va_P D vwCl [(h0, .inr (6, [.int p0, .ref q1, .int (0 : Int32)])), (q1, .inl (cy 0, 32, .inl (fun _ => (0 : Int32))))] H := hP
  have hD : va_D A [(h0, .inr (6, [.int p0, .ref q1, .int (0 : Int32)])), (q1, .inl (cy 0, 32, .inl (fun _ => (0 : Int32))))] := hD
  refine W.widen (k := 1) (n := 32) (Nat.le_of_ble_eq_true rfl) (Nat.le_of_ble_eq_true rfl) ?_
  exact W.vret hx hb hr (fun t ht _ => ⟨⟨(p0, q1, q1), rfl, hf, by rw [ht]; exact hP, hD⟩, hS.F ht⟩) hS.2.2 dX2_init_22
noncomputable def X5_init_f (Post : ((Nat × Nat × Nat × Nat)) → Prop) : Prop := ∀ q1 : Nat, ∀ q2 : Nat, Post (q1, q2, q1, q2)
set_option maxHeartbeats 4000000 in
set_option maxRecDepth 100000 in
theorem c_X5_init (l : Launch) (D : va_G) (cy : Nat → ClassId) (sa : Nat → Nat) (z0 sz : Nat) (h0 : Nat) (Post : ((Nat × Nat × Nat × Nat)) → Prop) (ho : X5_init_f Post) : Met l yX5_init (ws_ yX5_init cX5_init 1 none) ({ frames := 1, cells := 2, slots := 80, locals := 20 } : Room) (va_Pc [.ref h0] (Pr D cy sa z0 [(h0, .inr (9, [.null, .null, .int (0 : Int32), .long (0 : Int64)]))] sz)) (GV D Post (fun u => (([(h0, .inr (9, [.ref u.1, .ref u.2.1, .int (0 : Int32), .long (0 : Int64)]))] : va_W) ++ ([(u.2.2.1, .inl (cy 0, 40, .inl (fun _ => (0 : Int32)))), (u.2.2.2, .inl (cy 0, 40, .inl (fun _ => (0 : Int32))))] : va_W))) (va_A [(h0, .inr (9, [.null, .null, .int (0 : Int32), .long (0 : Int64)]))] sz)) 2 80 (va_A [(h0, .inr (9, [.null, .null, .int (0 : Int32), .long (0 : Int64)]))] sz) := by
  refine MT (Qf := GV D Post (fun u => (([(h0, .inr (9, [.ref u.1, .ref u.2.1, .int (0 : Int32), .long (0 : Int64)]))] : va_W) ++ ([(u.2.2.1, .inl (cy 0, 40, .inl (fun _ => (0 : Int32)))), (u.2.2.2, .inl (cy 0, 40, .inl (fun _ => (0 : Int32))))] : va_W)))) (plainFor_of_name (by decide +kernel)) (Nat.le_of_ble_eq_true rfl) ?_
  intro p e s m below meth c A ls H hx hb hml hr hlocks hown hnm hts hG hA hZ hP hD hS hl
  have hK := hG.K
  have hl : lv_has ls 1 [(0, .ref h0)] := hl
  have hf : X5_init_f Post := ho
  clear ho
  unfold X5_init_f at hf
  refine lv_aload_n hx hb dX5_init_0 rfl (lv_at hl 0 rfl) ?_
  refine W.objInit hx hb hown (hts _ k_277) (hts _ k_81) (hts _ k_82) rfl (by rw [hml]; exact hl.1) rfl dX5_init_1 (Nat.le_of_ble_eq_true rfl) (Nat.le_of_ble_eq_true rfl) ?_
  refine W.eq (g2 := F0 m 4 ls []) rfl ?_
  refine lv_aload_n hx hb dX5_init_4 rfl (lv_at hl 0 rfl) ?_
  refine lv_bipush (v := (40 : Int32)) hx hb dX5_init_5 (by decide) ?_
  refine nw_a (N' := 40) (ty := .int) (a0 := (40, .inl (fun _ => (0 : Int32)))) 0 rfl hx hb (hts _ k_271) rfl hK hP hD hS hA (fun cA => rfl) (by decide) (by decide) (by decide) (Nat.le_of_ble_eq_true rfl) (Nat.le_of_ble_eq_true rfl) dX5_init_7 (fun q1 H hP hD hS => ?_)
  have hP : va_P D vwCl [(h0, .inr (9, [.null, .null, .int (0 : Int32), .long (0 : Int64)])), (q1, .inl (cy 0, 40, .inl (fun _ => (0 : Int32))))] H := hP
  have hD : va_D A [(h0, .inr (9, [.null, .null, .int (0 : Int32), .long (0 : Int64)])), (q1, .inl (cy 0, 40, .inl (fun _ => (0 : Int32))))] := hD
  have hf := hf q1
  refine va_putF (D := D) (ci := 9) (v := .ref q1) (ty := (tyX5 0)) (C := RX5) (T := TX5) (N := 4) hx hb hts in_X5 tyX5 tyX5_ok nmX5 hown hK hP hD hS 0 rfl rfl 0 (by decide) (hts _ k_278) (fun _ h9 => h9) rfl hnm rfl (by decide +kernel) rfl rfl (Nat.le_of_ble_eq_true rfl) dX5_init_9 (fun H locs hP hD hS => ?_)
  have hP : va_P D vwCl [(h0, .inr (9, [.ref q1, .null, .int (0 : Int32), .long (0 : Int64)])), (q1, .inl (cy 0, 40, .inl (fun _ => (0 : Int32))))] H := hP
  have hD : va_D A [(h0, .inr (9, [.ref q1, .null, .int (0 : Int32), .long (0 : Int64)])), (q1, .inl (cy 0, 40, .inl (fun _ => (0 : Int32))))] := hD
  refine lv_aload_n hx hb dX5_init_12 rfl (lv_at hl 0 rfl) ?_
  refine lv_bipush (v := (40 : Int32)) hx hb dX5_init_13 (by decide) ?_
  refine nw_a (N' := 40) (ty := .int) (a0 := (40, .inl (fun _ => (0 : Int32)))) 0 rfl hx hb (hts _ k_271) rfl hK hP hD hS hA (fun cA => rfl) (by decide) (by decide) (by decide) (Nat.le_of_ble_eq_true rfl) (Nat.le_of_ble_eq_true rfl) dX5_init_15 (fun q2 H hP hD hS => ?_)
  have hP : va_P D vwCl [(h0, .inr (9, [.ref q1, .null, .int (0 : Int32), .long (0 : Int64)])), (q1, .inl (cy 0, 40, .inl (fun _ => (0 : Int32)))), (q2, .inl (cy 0, 40, .inl (fun _ => (0 : Int32))))] H := hP
  have hD : va_D A [(h0, .inr (9, [.ref q1, .null, .int (0 : Int32), .long (0 : Int64)])), (q1, .inl (cy 0, 40, .inl (fun _ => (0 : Int32)))), (q2, .inl (cy 0, 40, .inl (fun _ => (0 : Int32))))] := hD
  have hf := hf q2
  refine va_putF (D := D) (ci := 9) (v := .ref q2) (ty := (tyX5 1)) (C := RX5) (T := TX5) (N := 4) hx hb hts in_X5 tyX5 tyX5_ok nmX5 hown hK hP hD hS 0 rfl rfl 1 (by decide) (hts _ k_279) (fun _ h9 => h9) rfl hnm rfl (by decide +kernel) rfl rfl (Nat.le_of_ble_eq_true rfl) dX5_init_17 (fun H locs hP hD hS => ?_)
  have hP : va_P D vwCl [(h0, .inr (9, [.ref q1, .ref q2, .int (0 : Int32), .long (0 : Int64)])), (q1, .inl (cy 0, 40, .inl (fun _ => (0 : Int32)))), (q2, .inl (cy 0, 40, .inl (fun _ => (0 : Int32))))] H := hP
  have hD : va_D A [(h0, .inr (9, [.ref q1, .ref q2, .int (0 : Int32), .long (0 : Int64)])), (q1, .inl (cy 0, 40, .inl (fun _ => (0 : Int32)))), (q2, .inl (cy 0, 40, .inl (fun _ => (0 : Int32))))] := hD
  refine lv_aload_n hx hb dX5_init_20 rfl (lv_at hl 0 rfl) ?_
  refine lv_iconst (v := (0 : Int32)) hx hb dX5_init_21 (by decide) ?_
  refine va_put (D := D) (ci := 9) (v := .int (0 : Int32)) (ty := .int) (C := RX5) (T := TX5) (N := 4) hx hb hts in_X5 tyX5 tyX5_ok nmX5 hown hK hP hD hS 0 rfl rfl 2 (by decide) (hts _ k_280) (fun _ h9 => h9) rfl (by decide +kernel) rfl rfl (Nat.le_of_ble_eq_true rfl) dX5_init_22 (fun H locs hP hD hS => ?_)
  have hP : va_P D vwCl [(h0, .inr (9, [.ref q1, .ref q2, .int (0 : Int32), .long (0 : Int64)])), (q1, .inl (cy 0, 40, .inl (fun _ => (0 : Int32)))), (q2, .inl (cy 0, 40, .inl (fun _ => (0 : Int32))))] H := hP
  have hD : va_D A [(h0, .inr (9, [.ref q1, .ref q2, .int (0 : Int32), .long (0 : Int64)])), (q1, .inl (cy 0, 40, .inl (fun _ => (0 : Int32)))), (q2, .inl (cy 0, 40, .inl (fun _ => (0 : Int32))))] := hD
  refine lv_aload_n hx hb dX5_init_25 rfl (lv_at hl 0 rfl) ?_
  refine lv_lconst (v := (0 : Int64)) hx hb dX5_init_26 (by decide) ?_
  refine va_put (D := D) (ci := 9) (v := .long (0 : Int64)) (ty := .long) (C := RX5) (T := TX5) (N := 4) hx hb hts in_X5 tyX5 tyX5_ok nmX5 hown hK hP hD hS 0 rfl rfl 3 (by decide) (hts _ k_281) (fun _ h9 => h9) rfl (by decide +kernel) rfl rfl (Nat.le_of_ble_eq_true rfl) dX5_init_27 (fun H locs hP hD hS => ?_)
  have hP : va_P D vwCl [(h0, .inr (9, [.ref q1, .ref q2, .int (0 : Int32), .long (0 : Int64)])), (q1, .inl (cy 0, 40, .inl (fun _ => (0 : Int32)))), (q2, .inl (cy 0, 40, .inl (fun _ => (0 : Int32))))] H := hP
  have hD : va_D A [(h0, .inr (9, [.ref q1, .ref q2, .int (0 : Int32), .long (0 : Int64)])), (q1, .inl (cy 0, 40, .inl (fun _ => (0 : Int32)))), (q2, .inl (cy 0, 40, .inl (fun _ => (0 : Int32))))] := hD
  refine W.widen (k := 2) (n := 80) (Nat.le_of_ble_eq_true rfl) (Nat.le_of_ble_eq_true rfl) ?_
  exact W.vret hx hb hr (fun t ht _ => ⟨⟨(q1, q2, q1, q2), rfl, hf, by rw [ht]; exact hP, hD⟩, hS.F ht⟩) hS.2.2 dX5_init_30
