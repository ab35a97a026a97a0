noncomputable def Jx4a65c_grow_92f84_f (Post : ((Nat × Nat)) → Prop) : Prop := ∀ q1 : Nat, Post (q1, q1)
set_option maxHeartbeats 4000000 in
set_option maxRecDepth 100000 in
theorem c_Jx4a65c_grow_92f84 (l : Launch) (D : va_G) (cy : Nat → ClassId) (sa : Nat → Nat) (z0 sz : Nat) (h0 : Nat) (modc : Int32) (Post : ((Nat × Nat)) → Prop) (ho : Jx4a65c_grow_92f84_f Post) : Met l yJx4a65c_grow_92f84 (ws_ yJx4a65c_grow_92f84 cJx4a65c_grow_92f84 4 (some (.array (.object "java/lang/Object")))) ({ frames := 1, cells := 1, slots := 10, locals := 30 } : Room) (va_Pc [.ref h0, .int (1 : Int32)] (Pr D cy sa z0 [(h0, .inr (3, [.int modc, .ref (sa 0), .int (0 : Int32)]))] sz)) (GE D (fun u => u.2) Post (fun u => (([(h0, .inr (3, [.int modc, .ref u.1, .int (0 : Int32)]))] : va_W) ++ ([(u.2, .inl (cy 3, 10, .inr (.inr (.inr (.inr (fun _ => none))))))] : va_W))) (va_A [(h0, .inr (3, [.int modc, .ref (sa 0), .int (0 : Int32)]))] sz)) 1 10 (va_A [(h0, .inr (3, [.int modc, .ref (sa 0), .int (0 : Int32)]))] sz) := by
  refine MT (Qf := GE D (fun u => u.2) Post (fun u => (([(h0, .inr (3, [.int modc, .ref u.1, .int (0 : Int32)]))] : va_W) ++ ([(u.2, .inl (cy 3, 10, .inr (.inr (.inr (.inr (fun _ => none))))))] : va_W)))) (plainFor_of_name (by decide +kernel)) (Nat.le_of_ble_eq_true rfl) ?_
  intro p e s m below meth c A ls H hx hb hml hr hlocks hown hnm hts hG hA hZ hP hD hS hl
  have hK := hG.K
  have hl : lv_has ls 4 [(0, .ref h0), (1, .int (1 : Int32))] := hl
  have hf : Jx4a65c_grow_92f84_f Post := ho
  clear ho
  unfold Jx4a65c_grow_92f84_f at hf
  refine lv_aload_n hx hb dJx4a65c_grow_92f84_0 rfl (lv_at hl 0 rfl) ?_
  refine va_get (D := D) (ci := 3) (v := .ref (sa 0)) (C := RJx4a65c) (T := TJx4a65c) (N := 3) hx hb hts in_Jx4a65c hown hK hP 0 rfl rfl 1 (by decide) (hts _ k_103) (fun _ h9 => h9) rfl dJx4a65c_grow_92f84_1 ?_
  refine va_tlen hx hb ((amb_T0 hG).narrow hZ) hS (v := (0 : Int32)) (by decide) dJx4a65c_grow_92f84_4 ?_
  refine lv_istore_n (lv' := [(2, .int (0 : Int32)), (0, .ref h0), (1, .int (1 : Int32))]) hx hb dJx4a65c_grow_92f84_5 rfl hl (by decide) rfl (fun ls hl => ?_)
  refine lv_iload_n hx hb dJx4a65c_grow_92f84_6 rfl (lv_at hl 0 rfl) ?_
  refine lv_if_gt (tgt := 20) hx hb dJx4a65c_grow_92f84_7 (by decide) (fun c9 => absurd c9 (by decide)) (fun _ => ?_)
  refine lv_aload_n hx hb dJx4a65c_grow_92f84_10 rfl (lv_at hl 1 rfl) ?_
  refine va_get (D := D) (ci := 3) (v := .ref (sa 0)) (C := RJx4a65c) (T := TJx4a65c) (N := 3) hx hb hts in_Jx4a65c hown hK hP 0 rfl rfl 1 (by decide) (hts _ k_103) (fun _ h9 => h9) rfl dJx4a65c_grow_92f84_11 ?_
  refine va_gets (v := .ref (sa 0)) hx hb ((amb_Z0 hG).narrow hZ) hS hown (hts _ k_101) (fun _ h9 => h9) dJx4a65c_grow_92f84_14 ?_
  refine lv_acmp_eq (rx := some ((sa 0))) (ry := some ((sa 0))) (tgt := 45) hx hb dJx4a65c_grow_92f84_17 (by decide) (fun _ => ?_) (fun c9 => absurd rfl c9)
  refine lv_aload_n hx hb dJx4a65c_grow_92f84_45 rfl (lv_at hl 1 rfl) ?_
  refine lv_bipush (v := (10 : Int32)) hx hb dJx4a65c_grow_92f84_46 (by decide) ?_
  refine lv_iload_n hx hb dJx4a65c_grow_92f84_48 rfl (lv_at hl 2 rfl) ?_
  refine va_mmax hx hb (by rw [hml]; exact hl.1.symm) hown (hts _ k_201) (hts _ k_157) (hts _ k_43) (hts _ k_158) (Nat.le_of_ble_eq_true rfl) (Nat.le_of_ble_eq_true rfl) (Nat.le_of_ble_eq_true rfl) (Nat.le_of_ble_eq_true rfl) dJx4a65c_grow_92f84_49 ?_
  refine lv_topi (fun y9 e9 => ?_)
  obtain rfl : (10 : Int32) = y9 := by rw [e9]; decide
  refine nw_q (N' := 10) (C := "java/lang/Object") 3 rfl hx hb hown (hts _ k_202) (amb_AO hG) hK hP hD hS hA (by decide) (by decide) (by decide) (Nat.le_of_ble_eq_true rfl) (Nat.le_of_ble_eq_true rfl) dJx4a65c_grow_92f84_52 (fun q1 H hP hD hS => ?_)
  have hP : va_P D vwCl [(h0, .inr (3, [.int modc, .ref (sa 0), .int (0 : Int32)])), (q1, .inl (cy 3, 10, .inr (.inr (.inr (.inr (fun _ => none))))))] H := hP
  have hD : va_D A [(h0, .inr (3, [.int modc, .ref (sa 0), .int (0 : Int32)])), (q1, .inl (cy 3, 10, .inr (.inr (.inr (.inr (fun _ => none))))))] := hD
  have hf := hf q1
  refine lv_dup_x1 hx hb dJx4a65c_grow_92f84_55 rfl rfl ?_
  refine va_put (D := D) (ci := 3) (v := .ref q1) (ty := (tyJx4a65c 1)) (C := RJx4a65c) (T := TJx4a65c) (N := 3) hx hb hts in_Jx4a65c tyJx4a65c tyJx4a65c_ok nmJx4a65c hown hK hP hD hS 0 rfl rfl 1 (by decide) (hts _ k_103) (fun _ h9 => h9) rfl (by decide +kernel) rfl rfl (Nat.le_of_ble_eq_true rfl) dJx4a65c_grow_92f84_56 (fun H locs hP hD hS => ?_)
  have hP : va_P D vwCl [(h0, .inr (3, [.int modc, .ref q1, .int (0 : Int32)])), (q1, .inl (cy 3, 10, .inr (.inr (.inr (.inr (fun _ => none))))))] H := hP
  have hD : va_D A [(h0, .inr (3, [.int modc, .ref q1, .int (0 : Int32)])), (q1, .inl (cy 3, 10, .inr (.inr (.inr (.inr (fun _ => none))))))] := hD
  refine W.widen (k := 1) (n := 10) (Nat.le_of_ble_eq_true rfl) (Nat.le_of_ble_eq_true rfl) ?_
  exact W.aret (v := va_rf (some q1)) hx hb hr (Or.inr ⟨_, rfl⟩) (va_rf_or _) (fun t ht _ => ⟨⟨(some q1), (q1, q1), rfl, ⟨rfl, hf⟩, by rw [ht]; exact hP, hD⟩, hS.F ht⟩) hS.2.2 dJx4a65c_grow_92f84_59
noncomputable def Jx4a65c_grow_d5877_f (Post : ((Nat × Nat)) → Prop) : Prop := Jx4a65c_grow_92f84_f (fun v3 => Post (v3.1, v3.2))
set_option maxHeartbeats 4000000 in
set_option maxRecDepth 100000 in
theorem c_Jx4a65c_grow_d5877 (l : Launch) (D : va_G) (cy : Nat → ClassId) (sa : Nat → Nat) (z0 sz : Nat) (h0 : Nat) (modc : Int32) (Post : ((Nat × Nat)) → Prop) (ho : Jx4a65c_grow_d5877_f Post) : Met l yJx4a65c_grow_d5877 (ws_ yJx4a65c_grow_d5877 cJx4a65c_grow_d5877 1 (some (.array (.object "java/lang/Object")))) ({ frames := 2, cells := 1, slots := 10, locals := 53 } : Room) (va_Pc [.ref h0] (Pr D cy sa z0 [(h0, .inr (3, [.int modc, .ref (sa 0), .int (0 : Int32)]))] sz)) (GE D (fun u => u.2) Post (fun u => (([(h0, .inr (3, [.int modc, .ref u.1, .int (0 : Int32)]))] : va_W) ++ ([(u.2, .inl (cy 3, 10, .inr (.inr (.inr (.inr (fun _ => none))))))] : va_W))) (va_A [(h0, .inr (3, [.int modc, .ref (sa 0), .int (0 : Int32)]))] sz)) 1 10 (va_A [(h0, .inr (3, [.int modc, .ref (sa 0), .int (0 : Int32)]))] sz) := by
  refine MT (Qf := GE D (fun u => u.2) Post (fun u => (([(h0, .inr (3, [.int modc, .ref u.1, .int (0 : Int32)]))] : va_W) ++ ([(u.2, .inl (cy 3, 10, .inr (.inr (.inr (.inr (fun _ => none))))))] : va_W)))) (plainFor_of_name (by decide +kernel)) (Nat.le_of_ble_eq_true rfl) ?_
  intro p e s m below meth c A ls H hx hb hml hr hlocks hown hnm hts hG hA hZ hP hD hS hl
  have hK := hG.K
  have hl : lv_has ls 1 [(0, .ref h0)] := hl
  have hf : Jx4a65c_grow_d5877_f Post := ho
  clear ho
  unfold Jx4a65c_grow_d5877_f at hf
  refine lv_aload_n hx hb dJx4a65c_grow_d5877_0 rfl (lv_at hl 0 rfl) ?_
  refine lv_aload_n hx hb dJx4a65c_grow_d5877_1 rfl (lv_at hl 0 rfl) ?_
  refine va_get (D := D) (ci := 3) (v := .int (0 : Int32)) (C := RJx4a65c) (T := TJx4a65c) (N := 3) hx hb hts in_Jx4a65c hown hK hP 0 rfl rfl 2 (by decide) (hts _ k_104) (fun _ h9 => h9) rfl dJx4a65c_grow_d5877_2 ?_
  refine lv_iconst (v := (1 : Int32)) hx hb dJx4a65c_grow_d5877_5 (by decide) ?_
  refine lv_iadd hx hb dJx4a65c_grow_d5877_6 ?_
  refine lv_topi (fun y9 e9 => ?_)
  obtain rfl : (1 : Int32) = y9 := by rw [e9]; decide
  refine clw_e (X := ([(h0, .inr (3, [.int modc, .ref (sa 0), .int (0 : Int32)]))] : va_W)) (xc := ([(h0, .inr (3, [.int modc, .ref (sa 0), .int (0 : Int32)]))] : va_W)) (pl := []) (va_runV (As := [.int (1 : Int32)]) (rest := []) ⟨hx, hb, hml, hown, hts⟩ (c_Jx4a65c_grow_92f84 l D cy sa z0 H.size h0 modc _ hf) (cwV 1 hts (lw_gV k_149 k_151 k_2 k_40 k_152) rfl rfl rfl (by decide +kernel) ⟨Nat.le_of_ble_eq_true rfl, Nat.le_of_ble_eq_true rfl⟩) (preV hG hS hZ hP hD [0] rfl rfl (ci := 3) (q0 := 0) rfl rfl) rfl rfl hl.1 rfl (lv_room (Nat.le_of_ble_eq_true rfl)) dJx4a65c_grow_d5877_7 ⟨Nat.le_of_ble_eq_true rfl, Nat.le_of_ble_eq_true rfl⟩) hP hD hS hA [0] rfl rfl (fun _ => rfl) (fun v3 hf H locs hP hD hS => ?_)
  have hP : va_P D vwCl [(h0, .inr (3, [.int modc, .ref v3.1, .int (0 : Int32)])), (v3.2, .inl (cy 3, 10, .inr (.inr (.inr (.inr (fun _ => none))))))] H := hP
  have hD : va_D A [(h0, .inr (3, [.int modc, .ref v3.1, .int (0 : Int32)])), (v3.2, .inl (cy 3, 10, .inr (.inr (.inr (.inr (fun _ => none))))))] := hD
  refine W.widen (k := 1) (n := 10) (Nat.le_of_ble_eq_true rfl) (Nat.le_of_ble_eq_true rfl) ?_
  exact W.aret (v := va_rf (some v3.2)) hx hb hr (Or.inr ⟨_, rfl⟩) (va_rf_or _) (fun t ht _ => ⟨⟨(some v3.2), (v3.1, v3.2), rfl, ⟨rfl, hf⟩, by rw [ht]; exact hP, hD⟩, hS.F ht⟩) hS.2.2 dJx4a65c_grow_d5877_10
noncomputable def Jx4a65c_addp_GW_f (w1 : Nat) (Post : ((Nat × Int32 × Nat × (Nat → Option Nat))) → Prop) : Prop := Jx4a65c_grow_d5877_f (fun v3 => Post (v3.1, (1 : Int32), v3.2, (va_up (fun _ => none) (0 : Int32).toNatClampNeg (some w1))))
set_option maxHeartbeats 4000000 in
set_option maxRecDepth 100000 in
theorem c_Jx4a65c_addp_GW (l : Launch) (D : va_G) (cy : Nat → ClassId) (sa : Nat → Nat) (z0 sz : Nat) (h0 : Nat) (w1 : Nat) (modc : Int32) (te1 : Int32) (le1 : Int32) (tb1 : Int32) (mb1 : Int64) (wr1 : Int64) (Post : ((Nat × Int32 × Nat × (Nat → Option Nat))) → Prop) (ho : Jx4a65c_addp_GW_f w1 Post) : Met l yJx4a65c_add_72be8 (ws_ yJx4a65c_add_72be8 cJx4a65c_add_72be8 4 none) ({ frames := 3, cells := 1, slots := 10, locals := 73 } : Room) (va_Pc [.ref h0, .ref w1, .ref (sa 0), .int (0 : Int32)] (Pr D cy sa z0 [(h0, .inr (3, [.int modc, .ref (sa 0), .int (0 : Int32)])), (w1, .inr (11, [.int te1, .int le1, .int tb1, .long mb1, .long wr1]))] sz)) (GV D Post (fun u => (([(h0, .inr (3, [.int modc, .ref u.1, .int u.2.1])), (w1, .inr (11, [.int te1, .int le1, .int tb1, .long mb1, .long wr1]))] : va_W) ++ ([(u.2.2.1, .inl (cy 3, 10, .inr (.inr (.inr (.inr u.2.2.2)))))] : va_W))) (va_A [(h0, .inr (3, [.int modc, .ref (sa 0), .int (0 : Int32)])), (w1, .inr (11, [.int te1, .int le1, .int tb1, .long mb1, .long wr1]))] sz)) 1 10 (va_A [(h0, .inr (3, [.int modc, .ref (sa 0), .int (0 : Int32)])), (w1, .inr (11, [.int te1, .int le1, .int tb1, .long mb1, .long wr1]))] sz) := by
  refine MT (Qf := GV D Post (fun u => (([(h0, .inr (3, [.int modc, .ref u.1, .int u.2.1])), (w1, .inr (11, [.int te1, .int le1, .int tb1, .long mb1, .long wr1]))] : va_W) ++ ([(u.2.2.1, .inl (cy 3, 10, .inr (.inr (.inr (.inr u.2.2.2)))))] : va_W)))) (plainFor_of_name (by decide +kernel)) (Nat.le_of_ble_eq_true rfl) ?_
  intro p e s m below meth c A ls H hx hb hml hr hlocks hown hnm hts hG hA hZ hP hD hS hl
  have hK := hG.K
  have hl : lv_has ls 4 [(0, .ref h0), (1, .ref w1), (2, .ref (sa 0)), (3, .int (0 : Int32))] := hl
  have hf : Jx4a65c_addp_GW_f w1 Post := ho
  clear ho
  unfold Jx4a65c_addp_GW_f at hf
  refine lv_iload_n hx hb dJx4a65c_add_72be8_0 rfl (lv_at hl 3 rfl) ?_
  refine lv_aload_n hx hb dJx4a65c_add_72be8_1 rfl (lv_at hl 2 rfl) ?_
  refine va_tlen hx hb ((amb_T0 hG).narrow hZ) hS (v := (0 : Int32)) (by decide) dJx4a65c_add_72be8_2 ?_
  refine lv_icmp_ne (tgt := 11) hx hb dJx4a65c_add_72be8_3 (by decide) (fun c9 => absurd c9 (by decide)) (fun _ => ?_)
  refine lv_aload_n hx hb dJx4a65c_add_72be8_6 rfl (lv_at hl 0 rfl) ?_
  refine clw_e (X := ([(h0, .inr (3, [.int modc, .ref (sa 0), .int (0 : Int32)])), (w1, .inr (11, [.int te1, .int le1, .int tb1, .long mb1, .long wr1]))] : va_W)) (xc := ([(h0, .inr (3, [.int modc, .ref (sa 0), .int (0 : Int32)]))] : va_W)) (pl := []) (va_runV (As := []) (rest := []) ⟨hx, hb, hml, hown, hts⟩ (c_Jx4a65c_grow_d5877 l D cy sa z0 H.size h0 modc _ hf) (cwV 0 hts (lw_gV k_145 k_147 k_1 k_40 k_148) rfl rfl rfl (by decide +kernel) ⟨Nat.le_of_ble_eq_true rfl, Nat.le_of_ble_eq_true rfl⟩) (preV hG hS hZ hP hD [0] rfl rfl (ci := 3) (q0 := 0) rfl rfl) rfl rfl hl.1 rfl (lv_room (Nat.le_of_ble_eq_true rfl)) dJx4a65c_add_72be8_7 ⟨Nat.le_of_ble_eq_true rfl, Nat.le_of_ble_eq_true rfl⟩) hP hD hS hA [0] rfl rfl (fun _ => rfl) (fun v3 hf H locs hP hD hS => ?_)
  have hP : va_P D vwCl [(h0, .inr (3, [.int modc, .ref v3.1, .int (0 : Int32)])), (w1, .inr (11, [.int te1, .int le1, .int tb1, .long mb1, .long wr1])), (v3.2, .inl (cy 3, 10, .inr (.inr (.inr (.inr (fun _ => none))))))] H := hP
  have hD : va_D A [(h0, .inr (3, [.int modc, .ref v3.1, .int (0 : Int32)])), (w1, .inr (11, [.int te1, .int le1, .int tb1, .long mb1, .long wr1])), (v3.2, .inl (cy 3, 10, .inr (.inr (.inr (.inr (fun _ => none))))))] := hD
  refine lv_astore_n (lv' := [(2, .ref v3.2), (0, .ref h0), (1, .ref w1), (3, .int (0 : Int32))]) hx hb dJx4a65c_add_72be8_10 rfl hl (by decide) rfl (fun ls hl => ?_)
  refine lv_aload_n hx hb dJx4a65c_add_72be8_11 rfl (lv_at hl 0 rfl) ?_
  refine lv_iload_n hx hb dJx4a65c_add_72be8_12 rfl (lv_at hl 3 rfl) ?_
  refine lv_aload_n hx hb dJx4a65c_add_72be8_13 rfl (lv_at hl 2 rfl) ?_
  refine va_astqO hx hb hK hP hD hS 2 3 1 11 (E := "java/lang/Object") rfl rfl (amb_N hG (w := .castable RX7 "java/lang/Object") (List.mem_of_getElem? (i := 1776) (by decide +kernel)) rfl rfl) rfl rfl (by unfold vp_in; decide) dJx4a65c_add_72be8_14 (fun H locs hP hD hS => ?_)
  have hP : va_P D vwCl [(h0, .inr (3, [.int modc, .ref v3.1, .int (0 : Int32)])), (w1, .inr (11, [.int te1, .int le1, .int tb1, .long mb1, .long wr1])), (v3.2, .inl (cy 3, 10, .inr (.inr (.inr (.inr (va_up (fun _ => none) (0 : Int32).toNatClampNeg (some w1)))))))] H := hP
  have hD : va_D A [(h0, .inr (3, [.int modc, .ref v3.1, .int (0 : Int32)])), (w1, .inr (11, [.int te1, .int le1, .int tb1, .long mb1, .long wr1])), (v3.2, .inl (cy 3, 10, .inr (.inr (.inr (.inr (va_up (fun _ => none) (0 : Int32).toNatClampNeg (some w1)))))))] := hD
  refine lv_aload_n hx hb dJx4a65c_add_72be8_15 rfl (lv_at hl 1 rfl) ?_
  refine lv_iload_n hx hb dJx4a65c_add_72be8_16 rfl (lv_at hl 3 rfl) ?_
  refine lv_iconst (v := (1 : Int32)) hx hb dJx4a65c_add_72be8_17 (by decide) ?_
  refine lv_iadd hx hb dJx4a65c_add_72be8_18 ?_
  refine lv_topi (fun y9 e9 => ?_)
  obtain rfl : (1 : Int32) = y9 := by rw [e9]; decide
  refine va_put (D := D) (ci := 3) (v := .int (1 : Int32)) (ty := .int) (C := RJx4a65c) (T := TJx4a65c) (N := 3) hx hb hts in_Jx4a65c tyJx4a65c tyJx4a65c_ok nmJx4a65c hown hK hP hD hS 0 rfl rfl 2 (by decide) (hts _ k_104) (fun _ h9 => h9) rfl (by decide +kernel) rfl rfl (Nat.le_of_ble_eq_true rfl) dJx4a65c_add_72be8_19 (fun H locs hP hD hS => ?_)
  have hP : va_P D vwCl [(h0, .inr (3, [.int modc, .ref v3.1, .int (1 : Int32)])), (w1, .inr (11, [.int te1, .int le1, .int tb1, .long mb1, .long wr1])), (v3.2, .inl (cy 3, 10, .inr (.inr (.inr (.inr (va_up (fun _ => none) (0 : Int32).toNatClampNeg (some w1)))))))] H := hP
  have hD : va_D A [(h0, .inr (3, [.int modc, .ref v3.1, .int (1 : Int32)])), (w1, .inr (11, [.int te1, .int le1, .int tb1, .long mb1, .long wr1])), (v3.2, .inl (cy 3, 10, .inr (.inr (.inr (.inr (va_up (fun _ => none) (0 : Int32).toNatClampNeg (some w1)))))))] := hD
  refine W.widen (k := 1) (n := 10) (Nat.le_of_ble_eq_true rfl) (Nat.le_of_ble_eq_true rfl) ?_
  exact W.vret hx hb hr (fun t ht _ => ⟨⟨(v3.1, (1 : Int32), v3.2, (va_up (fun _ => none) (0 : Int32).toNatClampNeg (some w1))), rfl, hf, by rw [ht]; exact hP, hD⟩, hS.F ht⟩) hS.2.2 dJx4a65c_add_72be8_22
noncomputable def Jx4a65c_addp_GD_f (w1 : Nat) (Post : ((Nat × Int32 × Nat × (Nat → Option Nat))) → Prop) : Prop := Jx4a65c_grow_d5877_f (fun v3 => Post (v3.1, (1 : Int32), v3.2, (va_up (fun _ => none) (0 : Int32).toNatClampNeg (some w1))))
set_option maxHeartbeats 4000000 in
set_option maxRecDepth 100000 in
theorem c_Jx4a65c_addp_GD (l : Launch) (D : va_G) (cy : Nat → ClassId) (sa : Nat → Nat) (z0 sz : Nat) (h0 : Nat) (w1 : Nat) (modc : Int32) (nu1 : Int32) (ro1 : Nat) (pn1 : Int32) (Post : ((Nat × Int32 × Nat × (Nat → Option Nat))) → Prop) (ho : Jx4a65c_addp_GD_f w1 Post) : Met l yJx4a65c_add_72be8 (ws_ yJx4a65c_add_72be8 cJx4a65c_add_72be8 4 none) ({ frames := 3, cells := 1, slots := 10, locals := 73 } : Room) (va_Pc [.ref h0, .ref w1, .ref (sa 0), .int (0 : Int32)] (Pr D cy sa z0 [(h0, .inr (3, [.int modc, .ref (sa 0), .int (0 : Int32)])), (w1, .inr (6, [.int nu1, .ref ro1, .int pn1]))] sz)) (GV D Post (fun u => (([(h0, .inr (3, [.int modc, .ref u.1, .int u.2.1])), (w1, .inr (6, [.int nu1, .ref ro1, .int pn1]))] : va_W) ++ ([(u.2.2.1, .inl (cy 3, 10, .inr (.inr (.inr (.inr u.2.2.2)))))] : va_W))) (va_A [(h0, .inr (3, [.int modc, .ref (sa 0), .int (0 : Int32)])), (w1, .inr (6, [.int nu1, .ref ro1, .int pn1]))] sz)) 1 10 (va_A [(h0, .inr (3, [.int modc, .ref (sa 0), .int (0 : Int32)])), (w1, .inr (6, [.int nu1, .ref ro1, .int pn1]))] sz) := by
  refine MT (Qf := GV D Post (fun u => (([(h0, .inr (3, [.int modc, .ref u.1, .int u.2.1])), (w1, .inr (6, [.int nu1, .ref ro1, .int pn1]))] : va_W) ++ ([(u.2.2.1, .inl (cy 3, 10, .inr (.inr (.inr (.inr u.2.2.2)))))] : va_W)))) (plainFor_of_name (by decide +kernel)) (Nat.le_of_ble_eq_true rfl) ?_
  intro p e s m below meth c A ls H hx hb hml hr hlocks hown hnm hts hG hA hZ hP hD hS hl
  have hK := hG.K
  have hl : lv_has ls 4 [(0, .ref h0), (1, .ref w1), (2, .ref (sa 0)), (3, .int (0 : Int32))] := hl
  have hf : Jx4a65c_addp_GD_f w1 Post := ho
  clear ho
  unfold Jx4a65c_addp_GD_f at hf
  refine lv_iload_n hx hb dJx4a65c_add_72be8_0 rfl (lv_at hl 3 rfl) ?_
  refine lv_aload_n hx hb dJx4a65c_add_72be8_1 rfl (lv_at hl 2 rfl) ?_
  refine va_tlen hx hb ((amb_T0 hG).narrow hZ) hS (v := (0 : Int32)) (by decide) dJx4a65c_add_72be8_2 ?_
  refine lv_icmp_ne (tgt := 11) hx hb dJx4a65c_add_72be8_3 (by decide) (fun c9 => absurd c9 (by decide)) (fun _ => ?_)
  refine lv_aload_n hx hb dJx4a65c_add_72be8_6 rfl (lv_at hl 0 rfl) ?_
  refine clw_e (X := ([(h0, .inr (3, [.int modc, .ref (sa 0), .int (0 : Int32)])), (w1, .inr (6, [.int nu1, .ref ro1, .int pn1]))] : va_W)) (xc := ([(h0, .inr (3, [.int modc, .ref (sa 0), .int (0 : Int32)]))] : va_W)) (pl := []) (va_runV (As := []) (rest := []) ⟨hx, hb, hml, hown, hts⟩ (c_Jx4a65c_grow_d5877 l D cy sa z0 H.size h0 modc _ hf) (cwV 0 hts (lw_gV k_145 k_147 k_1 k_40 k_148) rfl rfl rfl (by decide +kernel) ⟨Nat.le_of_ble_eq_true rfl, Nat.le_of_ble_eq_true rfl⟩) (preV hG hS hZ hP hD [0] rfl rfl (ci := 3) (q0 := 0) rfl rfl) rfl rfl hl.1 rfl (lv_room (Nat.le_of_ble_eq_true rfl)) dJx4a65c_add_72be8_7 ⟨Nat.le_of_ble_eq_true rfl, Nat.le_of_ble_eq_true rfl⟩) hP hD hS hA [0] rfl rfl (fun _ => rfl) (fun v3 hf H locs hP hD hS => ?_)
  have hP : va_P D vwCl [(h0, .inr (3, [.int modc, .ref v3.1, .int (0 : Int32)])), (w1, .inr (6, [.int nu1, .ref ro1, .int pn1])), (v3.2, .inl (cy 3, 10, .inr (.inr (.inr (.inr (fun _ => none))))))] H := hP
  have hD : va_D A [(h0, .inr (3, [.int modc, .ref v3.1, .int (0 : Int32)])), (w1, .inr (6, [.int nu1, .ref ro1, .int pn1])), (v3.2, .inl (cy 3, 10, .inr (.inr (.inr (.inr (fun _ => none))))))] := hD
  refine lv_astore_n (lv' := [(2, .ref v3.2), (0, .ref h0), (1, .ref w1), (3, .int (0 : Int32))]) hx hb dJx4a65c_add_72be8_10 rfl hl (by decide) rfl (fun ls hl => ?_)
  refine lv_aload_n hx hb dJx4a65c_add_72be8_11 rfl (lv_at hl 0 rfl) ?_
  refine lv_iload_n hx hb dJx4a65c_add_72be8_12 rfl (lv_at hl 3 rfl) ?_
  refine lv_aload_n hx hb dJx4a65c_add_72be8_13 rfl (lv_at hl 2 rfl) ?_
  refine va_astqO hx hb hK hP hD hS 2 3 1 6 (E := "java/lang/Object") rfl rfl (amb_N hG (w := .castable RX2 "java/lang/Object") (List.mem_of_getElem? (i := 1772) (by decide +kernel)) rfl rfl) rfl rfl (by unfold vp_in; decide) dJx4a65c_add_72be8_14 (fun H locs hP hD hS => ?_)
  have hP : va_P D vwCl [(h0, .inr (3, [.int modc, .ref v3.1, .int (0 : Int32)])), (w1, .inr (6, [.int nu1, .ref ro1, .int pn1])), (v3.2, .inl (cy 3, 10, .inr (.inr (.inr (.inr (va_up (fun _ => none) (0 : Int32).toNatClampNeg (some w1)))))))] H := hP
  have hD : va_D A [(h0, .inr (3, [.int modc, .ref v3.1, .int (0 : Int32)])), (w1, .inr (6, [.int nu1, .ref ro1, .int pn1])), (v3.2, .inl (cy 3, 10, .inr (.inr (.inr (.inr (va_up (fun _ => none) (0 : Int32).toNatClampNeg (some w1)))))))] := hD
  refine lv_aload_n hx hb dJx4a65c_add_72be8_15 rfl (lv_at hl 1 rfl) ?_
  refine lv_iload_n hx hb dJx4a65c_add_72be8_16 rfl (lv_at hl 3 rfl) ?_
  refine lv_iconst (v := (1 : Int32)) hx hb dJx4a65c_add_72be8_17 (by decide) ?_
  refine lv_iadd hx hb dJx4a65c_add_72be8_18 ?_
  refine lv_topi (fun y9 e9 => ?_)
  obtain rfl : (1 : Int32) = y9 := by rw [e9]; decide
  refine va_put (D := D) (ci := 3) (v := .int (1 : Int32)) (ty := .int) (C := RJx4a65c) (T := TJx4a65c) (N := 3) hx hb hts in_Jx4a65c tyJx4a65c tyJx4a65c_ok nmJx4a65c hown hK hP hD hS 0 rfl rfl 2 (by decide) (hts _ k_104) (fun _ h9 => h9) rfl (by decide +kernel) rfl rfl (Nat.le_of_ble_eq_true rfl) dJx4a65c_add_72be8_19 (fun H locs hP hD hS => ?_)
  have hP : va_P D vwCl [(h0, .inr (3, [.int modc, .ref v3.1, .int (1 : Int32)])), (w1, .inr (6, [.int nu1, .ref ro1, .int pn1])), (v3.2, .inl (cy 3, 10, .inr (.inr (.inr (.inr (va_up (fun _ => none) (0 : Int32).toNatClampNeg (some w1)))))))] H := hP
  have hD : va_D A [(h0, .inr (3, [.int modc, .ref v3.1, .int (1 : Int32)])), (w1, .inr (6, [.int nu1, .ref ro1, .int pn1])), (v3.2, .inl (cy 3, 10, .inr (.inr (.inr (.inr (va_up (fun _ => none) (0 : Int32).toNatClampNeg (some w1)))))))] := hD
  refine W.widen (k := 1) (n := 10) (Nat.le_of_ble_eq_true rfl) (Nat.le_of_ble_eq_true rfl) ?_
  exact W.vret hx hb hr (fun t ht _ => ⟨⟨(v3.1, (1 : Int32), v3.2, (va_up (fun _ => none) (0 : Int32).toNatClampNeg (some w1))), rfl, hf, by rw [ht]; exact hP, hD⟩, hS.F ht⟩) hS.2.2 dJx4a65c_add_72be8_22
noncomputable def Jx4a65c_addp_RW_f (w1 : Nat) (lsz : Int32) (row : Nat → Option Nat) : Option ((Int32 × (Nat → Option Nat))) := (if lsz = (10 : Int32) then none else if ¬ (lsz < 0 ∨ 10 ≤ lsz.toNatClampNeg) then some ((lsz + (1 : Int32)), (va_up row lsz.toNatClampNeg (some w1))) else none)
set_option maxHeartbeats 4000000 in
set_option maxRecDepth 100000 in
theorem c_Jx4a65c_addp_RW (l : Launch) (D : va_G) (cy : Nat → ClassId) (sa : Nat → Nat) (z0 sz : Nat) (h0 : Nat) (w1 : Nat) (h1 : Nat) (modc : Int32) (lsz : Int32) (row : Nat → Option Nat) (te1 : Int32) (le1 : Int32) (tb1 : Int32) (mb1 : Int64) (wr1 : Int64) (o : ((Int32 × (Nat → Option Nat)))) (ho : Jx4a65c_addp_RW_f w1 lsz row = some o) : Met l yJx4a65c_add_72be8 (ws_ yJx4a65c_add_72be8 cJx4a65c_add_72be8 4 none) ({ frames := 0, cells := 0, slots := 0, locals := 0 } : Room) (va_Pc [.ref h0, .ref w1, .ref h1, .int lsz] (Pr D cy sa z0 [(h0, .inr (3, [.int modc, .ref h1, .int lsz])), (h1, .inl (cy 3, 10, .inr (.inr (.inr (.inr row))))), (w1, .inr (11, [.int te1, .int le1, .int tb1, .long mb1, .long wr1]))] sz)) (QV D o (fun u => [(h0, .inr (3, [.int modc, .ref h1, .int u.1])), (h1, .inl (cy 3, 10, .inr (.inr (.inr (.inr u.2))))), (w1, .inr (11, [.int te1, .int le1, .int tb1, .long mb1, .long wr1]))]) (va_A [(h0, .inr (3, [.int modc, .ref h1, .int lsz])), (h1, .inl (cy 3, 10, .inr (.inr (.inr (.inr row))))), (w1, .inr (11, [.int te1, .int le1, .int tb1, .long mb1, .long wr1]))] sz)) 0 0 (va_A [(h0, .inr (3, [.int modc, .ref h1, .int lsz])), (h1, .inl (cy 3, 10, .inr (.inr (.inr (.inr row))))), (w1, .inr (11, [.int te1, .int le1, .int tb1, .long mb1, .long wr1]))] sz) := by
  refine MT (Qf := QV D o (fun u => [(h0, .inr (3, [.int modc, .ref h1, .int u.1])), (h1, .inl (cy 3, 10, .inr (.inr (.inr (.inr u.2))))), (w1, .inr (11, [.int te1, .int le1, .int tb1, .long mb1, .long wr1]))])) (plainFor_of_name (by decide +kernel)) (Nat.le_of_ble_eq_true rfl) ?_
  intro p e s m below meth c A ls H hx hb hml hr hlocks hown hnm hts hG hA hZ hP hD hS hl
  have hK := hG.K
  have hl : lv_has ls 4 [(0, .ref h0), (1, .ref w1), (2, .ref h1), (3, .int lsz)] := hl
  have hf : Jx4a65c_addp_RW_f w1 lsz row = some o := ho
  clear ho
  unfold Jx4a65c_addp_RW_f at hf
  refine lv_iload_n hx hb dJx4a65c_add_72be8_0 rfl (lv_at hl 3 rfl) ?_
  refine lv_aload_n hx hb dJx4a65c_add_72be8_1 rfl (lv_at hl 2 rfl) ?_
  refine va_alen hx hb hK hP 1 3 rfl rfl (v := (10 : Int32)) (show Int32.ofNat 10 = 10 by decide) dJx4a65c_add_72be8_2 ?_
  refine lv_icmp_ne (tgt := 11) hx hb dJx4a65c_add_72be8_3 (by decide) (fun c1 => ?_) (fun c1 => ?_)
  · rw [if_neg c1] at hf
    refine lv_aload_n hx hb dJx4a65c_add_72be8_11 rfl (lv_at hl 2 rfl) ?_
    refine lv_iload_n hx hb dJx4a65c_add_72be8_12 rfl (lv_at hl 3 rfl) ?_
    refine lv_aload_n hx hb dJx4a65c_add_72be8_13 rfl (lv_at hl 1 rfl) ?_
    obtain ⟨g2, hf⟩ := ite_some' hf
    refine va_astqO hx hb hK hP hD hS 1 3 2 11 (E := "java/lang/Object") rfl rfl (amb_N hG (w := .castable RX7 "java/lang/Object") (List.mem_of_getElem? (i := 1776) (by decide +kernel)) rfl rfl) rfl rfl g2 dJx4a65c_add_72be8_14 (fun H locs hP hD hS => ?_)
    have hP : va_P D vwCl [(h0, .inr (3, [.int modc, .ref h1, .int lsz])), (h1, .inl (cy 3, 10, .inr (.inr (.inr (.inr (va_up row lsz.toNatClampNeg (some w1))))))), (w1, .inr (11, [.int te1, .int le1, .int tb1, .long mb1, .long wr1]))] H := hP
    have hD : va_D A [(h0, .inr (3, [.int modc, .ref h1, .int lsz])), (h1, .inl (cy 3, 10, .inr (.inr (.inr (.inr (va_up row lsz.toNatClampNeg (some w1))))))), (w1, .inr (11, [.int te1, .int le1, .int tb1, .long mb1, .long wr1]))] := hD
    refine lv_aload_n hx hb dJx4a65c_add_72be8_15 rfl (lv_at hl 0 rfl) ?_
    refine lv_iload_n hx hb dJx4a65c_add_72be8_16 rfl (lv_at hl 3 rfl) ?_
    refine lv_iconst (v := (1 : Int32)) hx hb dJx4a65c_add_72be8_17 (by decide) ?_
    refine lv_iadd hx hb dJx4a65c_add_72be8_18 ?_
    refine va_put (D := D) (ci := 3) (v := .int (lsz + (1 : Int32))) (ty := .int) (C := RJx4a65c) (T := TJx4a65c) (N := 3) hx hb hts in_Jx4a65c tyJx4a65c tyJx4a65c_ok nmJx4a65c hown hK hP hD hS 0 rfl rfl 2 (by decide) (hts _ k_104) (fun _ h9 => h9) rfl (by decide +kernel) rfl rfl (Nat.le_of_ble_eq_true rfl) dJx4a65c_add_72be8_19 (fun H locs hP hD hS => ?_)
    have hP : va_P D vwCl [(h0, .inr (3, [.int modc, .ref h1, .int (lsz + (1 : Int32))])), (h1, .inl (cy 3, 10, .inr (.inr (.inr (.inr (va_up row lsz.toNatClampNeg (some w1))))))), (w1, .inr (11, [.int te1, .int le1, .int tb1, .long mb1, .long wr1]))] H := hP
    have hD : va_D A [(h0, .inr (3, [.int modc, .ref h1, .int (lsz + (1 : Int32))])), (h1, .inl (cy 3, 10, .inr (.inr (.inr (.inr (va_up row lsz.toNatClampNeg (some w1))))))), (w1, .inr (11, [.int te1, .int le1, .int tb1, .long mb1, .long wr1]))] := hD
    obtain rfl := Option.some.inj hf
    exact W.vret hx hb hr (fun t ht _ => ⟨⟨((lsz + (1 : Int32)), (va_up row lsz.toNatClampNeg (some w1))), rfl, rfl, by rw [ht]; exact hP, hD⟩, hS.F ht⟩) hS.2.2 dJx4a65c_add_72be8_22
  · rw [if_pos c1] at hf
    refine lv_aload_n hx hb dJx4a65c_add_72be8_6 rfl (lv_at hl 0 rfl) ?_
    cases hf
noncomputable def Jx4a65c_addp_RD_f (w1 : Nat) (h1 : Nat) (lsz : Int32) (L : List Nat) (K : Nat → Nat) (dr : Nat → Nat → Option Nat) : Option ((Int32 × (Nat → Nat → Option Nat))) := if (h1 ∈ L ∧ K h1 = 3) then (if lsz = (10 : Int32) then none else if ¬ (lsz < 0 ∨ 10 ≤ lsz.toNatClampNeg) then some ((lsz + (1 : Int32)), (va_up dr h1 (va_up (dr h1) lsz.toNatClampNeg (some w1)))) else none) else none
set_option maxHeartbeats 4000000 in
set_option maxRecDepth 100000 in
theorem c_Jx4a65c_addp_RD (l : Launch) (D : va_G) (cy : Nat → ClassId) (sa : Nat → Nat) (z0 sz : Nat) (h0 : Nat) (w1 : Nat) (h1 : Nat) (modc : Int32) (lsz : Int32) (nu1 : Int32) (ro1 : Nat) (pn1 : Int32) (L : List Nat) (K : Nat → Nat) (te : Nat → Int32) (le : Nat → Int32) (tb : Nat → Int32) (mb : Nat → Int64) (wr : Nat → Int64) (nu : Nat → Int32) (ro : Nat → Nat) (pn : Nat → Int32) (rw : Nat → Nat → Int32) (dr : Nat → Nat → Option Nat) (o : ((Int32 × (Nat → Nat → Option Nat)))) (ho : Jx4a65c_addp_RD_f w1 h1 lsz L K dr = some o) : Met l yJx4a65c_add_72be8 (ws_ yJx4a65c_add_72be8 cJx4a65c_add_72be8 4 none) ({ frames := 0, cells := 0, slots := 0, locals := 0 } : Room) (va_Pc [.ref h0, .ref w1, .ref h1, .int lsz] (Pr D cy sa z0 (([(h0, .inr (3, [.int modc, .ref h1, .int lsz])), (w1, .inr (6, [.int nu1, .ref ro1, .int pn1]))] : va_W) ++ va_pl L (plF cy K te le tb mb wr nu ro pn rw dr)) sz)) (QV D o (fun u => (([(h0, .inr (3, [.int modc, .ref h1, .int u.1])), (w1, .inr (6, [.int nu1, .ref ro1, .int pn1]))] : va_W) ++ va_pl L (plF cy K te le tb mb wr nu ro pn rw u.2))) (va_A (([(h0, .inr (3, [.int modc, .ref h1, .int lsz])), (w1, .inr (6, [.int nu1, .ref ro1, .int pn1]))] : va_W) ++ va_pl L (plF cy K te le tb mb wr nu ro pn rw dr)) sz)) 0 0 (va_A (([(h0, .inr (3, [.int modc, .ref h1, .int lsz])), (w1, .inr (6, [.int nu1, .ref ro1, .int pn1]))] : va_W) ++ va_pl L (plF cy K te le tb mb wr nu ro pn rw dr)) sz) := by
  refine MT (Qf := QV D o (fun u => (([(h0, .inr (3, [.int modc, .ref h1, .int u.1])), (w1, .inr (6, [.int nu1, .ref ro1, .int pn1]))] : va_W) ++ va_pl L (plF cy K te le tb mb wr nu ro pn rw u.2)))) (plainFor_of_name (by decide +kernel)) (Nat.le_of_ble_eq_true rfl) ?_
  intro p e s m below meth c A ls H hx hb hml hr hlocks hown hnm hts hG hA hZ hP hD hS hl
  have hK := hG.K
  have hl : lv_has ls 4 [(0, .ref h0), (1, .ref w1), (2, .ref h1), (3, .int lsz)] := hl
  have hf : Jx4a65c_addp_RD_f w1 h1 lsz L K dr = some o := ho
  clear ho
  unfold Jx4a65c_addp_RD_f at hf
  refine lv_iload_n hx hb dJx4a65c_add_72be8_0 rfl (lv_at hl 3 rfl) ?_
  refine lv_aload_n hx hb dJx4a65c_add_72be8_1 rfl (lv_at hl 2 rfl) ?_
  obtain ⟨g1, hf⟩ := ite_some' hf
  obtain ⟨k2, e3⟩ := pl_3 (cy := cy) (te := te) (le := le) (tb := tb) (mb := mb) (wr := wr) (nu := nu) (ro := ro) (pn := pn) (rw := rw) (dr := dr) (X := [(h0, .inr (3, [.int modc, .ref h1, .int lsz])), (w1, .inr (6, [.int nu1, .ref ro1, .int pn1]))]) g1.1 g1.2
  refine va_alen hx hb hK hP k2 3 e3 rfl (v := (10 : Int32)) (show Int32.ofNat 10 = (10 : Int32) by decide) dJx4a65c_add_72be8_2 ?_
  refine lv_icmp_ne (tgt := 11) hx hb dJx4a65c_add_72be8_3 (by decide) (fun c4 => ?_) (fun c4 => ?_)
  · rw [if_neg c4] at hf
    refine lv_aload_n hx hb dJx4a65c_add_72be8_11 rfl (lv_at hl 2 rfl) ?_
    refine lv_iload_n hx hb dJx4a65c_add_72be8_12 rfl (lv_at hl 3 rfl) ?_
    refine lv_aload_n hx hb dJx4a65c_add_72be8_13 rfl (lv_at hl 1 rfl) ?_
    obtain ⟨k5, e6⟩ := pl_3 (cy := cy) (te := te) (le := le) (tb := tb) (mb := mb) (wr := wr) (nu := nu) (ro := ro) (pn := pn) (rw := rw) (dr := dr) (X := [(h0, .inr (3, [.int modc, .ref h1, .int lsz])), (w1, .inr (6, [.int nu1, .ref ro1, .int pn1]))]) g1.1 g1.2
    obtain ⟨g7, hf⟩ := ite_some' hf
    have e9 := pl_put3 (f := (va_up (dr h1) lsz.toNatClampNeg (some w1))) hD g1.1 g1.2 e6
    refine va_astqO hx hb hK hP hD hS k5 3 1 6 (E := "java/lang/Object") e6 rfl (amb_N hG (w := .castable RX2 "java/lang/Object") (List.mem_of_getElem? (i := 1772) (by decide +kernel)) rfl rfl) rfl rfl g7 dJx4a65c_add_72be8_14 (fun H locs hP hD hS => ?_)
    have hP : va_P D vwCl (([(h0, .inr (3, [.int modc, .ref h1, .int lsz])), (w1, .inr (6, [.int nu1, .ref ro1, .int pn1]))] : va_W) ++ va_pl L (plF cy K te le tb mb wr nu ro pn rw (va_up dr h1 (va_up (dr h1) lsz.toNatClampNeg (some w1))))) H := e9 ▸ hP
    have hD : va_D A (([(h0, .inr (3, [.int modc, .ref h1, .int lsz])), (w1, .inr (6, [.int nu1, .ref ro1, .int pn1]))] : va_W) ++ va_pl L (plF cy K te le tb mb wr nu ro pn rw (va_up dr h1 (va_up (dr h1) lsz.toNatClampNeg (some w1))))) := e9 ▸ hD
    refine lv_aload_n hx hb dJx4a65c_add_72be8_15 rfl (lv_at hl 0 rfl) ?_
    refine lv_iload_n hx hb dJx4a65c_add_72be8_16 rfl (lv_at hl 3 rfl) ?_
    refine lv_iconst (v := (1 : Int32)) hx hb dJx4a65c_add_72be8_17 (by decide) ?_
    refine lv_iadd hx hb dJx4a65c_add_72be8_18 ?_
    refine va_put (D := D) (ci := 3) (v := .int (lsz + (1 : Int32))) (ty := .int) (C := RJx4a65c) (T := TJx4a65c) (N := 3) hx hb hts in_Jx4a65c tyJx4a65c tyJx4a65c_ok nmJx4a65c hown hK hP hD hS 0 rfl rfl 2 (by decide) (hts _ k_104) (fun _ h9 => h9) rfl (by decide +kernel) rfl rfl (Nat.le_of_ble_eq_true rfl) dJx4a65c_add_72be8_19 (fun H locs hP hD hS => ?_)
    have hP : va_P D vwCl (([(h0, .inr (3, [.int modc, .ref h1, .int (lsz + (1 : Int32))])), (w1, .inr (6, [.int nu1, .ref ro1, .int pn1]))] : va_W) ++ va_pl L (plF cy K te le tb mb wr nu ro pn rw (va_up dr h1 (va_up (dr h1) lsz.toNatClampNeg (some w1))))) H := hP
    have hD : va_D A (([(h0, .inr (3, [.int modc, .ref h1, .int (lsz + (1 : Int32))])), (w1, .inr (6, [.int nu1, .ref ro1, .int pn1]))] : va_W) ++ va_pl L (plF cy K te le tb mb wr nu ro pn rw (va_up dr h1 (va_up (dr h1) lsz.toNatClampNeg (some w1))))) := hD
    obtain rfl := Option.some.inj hf
    exact W.vret hx hb hr (fun t ht _ => ⟨⟨((lsz + (1 : Int32)), (va_up dr h1 (va_up (dr h1) lsz.toNatClampNeg (some w1)))), rfl, rfl, by rw [ht]; exact hP, hD⟩, hS.F ht⟩) hS.2.2 dJx4a65c_add_72be8_22
  · rw [if_pos c4] at hf
    refine lv_aload_n hx hb dJx4a65c_add_72be8_6 rfl (lv_at hl 0 rfl) ?_
    cases hf
noncomputable def Jx4a65c_add_GW_f (w1 : Nat) (modc : Int32) (Post : (Int32 × (Int32 × Nat × Int32 × Nat × (Nat → Option Nat))) → Prop) : Prop := Jx4a65c_addp_GW_f w1 (fun v3 => Post ((1 : Int32), ((modc + (1 : Int32)), v3.1, v3.2.1, v3.2.2.1, v3.2.2.2)))
set_option maxHeartbeats 4000000 in
set_option maxRecDepth 100000 in
theorem c_Jx4a65c_add_GW (l : Launch) (D : va_G) (cy : Nat → ClassId) (sa : Nat → Nat) (z0 sz : Nat) (h0 : Nat) (w1 : Nat) (modc : Int32) (te1 : Int32) (le1 : Int32) (tb1 : Int32) (mb1 : Int64) (wr1 : Int64) (Post : (Int32 × (Int32 × Nat × Int32 × Nat × (Nat → Option Nat))) → Prop) (ho : Jx4a65c_add_GW_f w1 modc Post) : Met l yJx4a65c_add_9ea2d (ws_ yJx4a65c_add_9ea2d cJx4a65c_add_9ea2d 2 (some .boolean)) ({ frames := 4, cells := 1, slots := 10, locals := 96 } : Room) (va_Pc [.ref h0, .ref w1] (Pr D cy sa z0 [(h0, .inr (3, [.int modc, .ref (sa 0), .int (0 : Int32)])), (w1, .inr (11, [.int te1, .int le1, .int tb1, .long mb1, .long wr1]))] sz)) (GI D Post (fun u => (([(h0, .inr (3, [.int u.1, .ref u.2.1, .int u.2.2.1])), (w1, .inr (11, [.int te1, .int le1, .int tb1, .long mb1, .long wr1]))] : va_W) ++ ([(u.2.2.2.1, .inl (cy 3, 10, .inr (.inr (.inr (.inr u.2.2.2.2)))))] : va_W))) (va_A [(h0, .inr (3, [.int modc, .ref (sa 0), .int (0 : Int32)])), (w1, .inr (11, [.int te1, .int le1, .int tb1, .long mb1, .long wr1]))] sz)) 1 10 (va_A [(h0, .inr (3, [.int modc, .ref (sa 0), .int (0 : Int32)])), (w1, .inr (11, [.int te1, .int le1, .int tb1, .long mb1, .long wr1]))] sz) := by
  refine MT (Qf := GI D Post (fun u => (([(h0, .inr (3, [.int u.1, .ref u.2.1, .int u.2.2.1])), (w1, .inr (11, [.int te1, .int le1, .int tb1, .long mb1, .long wr1]))] : va_W) ++ ([(u.2.2.2.1, .inl (cy 3, 10, .inr (.inr (.inr (.inr u.2.2.2.2)))))] : va_W)))) (plainFor_of_name (by decide +kernel)) (Nat.le_of_ble_eq_true rfl) ?_
  intro p e s m below meth c A ls H hx hb hml hr hlocks hown hnm hts hG hA hZ hP hD hS hl
  have hK := hG.K
  have hl : lv_has ls 2 [(0, .ref h0), (1, .ref w1)] := hl
  have hf : Jx4a65c_add_GW_f w1 modc Post := ho
  clear ho
  unfold Jx4a65c_add_GW_f at hf
  refine lv_aload_n hx hb dJx4a65c_add_9ea2d_0 rfl (lv_at hl 0 rfl) ?_
  refine lv_dup hx hb dJx4a65c_add_9ea2d_1 rfl ?_
  refine va_get (D := D) (ci := 3) (v := .int modc) (C := RJx4a65c) (T := TJx4a65c) (N := 3) hx hb hts in_Jx4a65c hown hK hP 0 rfl rfl 0 (by decide) (hts _ k_106) (fun x h9 => sameF_mod hts x h9) rfl dJx4a65c_add_9ea2d_2 ?_
  refine lv_iconst (v := (1 : Int32)) hx hb dJx4a65c_add_9ea2d_5 (by decide) ?_
  refine lv_iadd hx hb dJx4a65c_add_9ea2d_6 ?_
  refine va_put (D := D) (ci := 3) (v := .int (modc + (1 : Int32))) (ty := .int) (C := RJx4a65c) (T := TJx4a65c) (N := 3) hx hb hts in_Jx4a65c tyJx4a65c tyJx4a65c_ok nmJx4a65c hown hK hP hD hS 0 rfl rfl 0 (by decide) (hts _ k_106) (fun x h9 => sameF_mod hts x h9) rfl (by decide +kernel) rfl rfl (Nat.le_of_ble_eq_true rfl) dJx4a65c_add_9ea2d_7 (fun H locs hP hD hS => ?_)
  have hP : va_P D vwCl [(h0, .inr (3, [.int (modc + (1 : Int32)), .ref (sa 0), .int (0 : Int32)])), (w1, .inr (11, [.int te1, .int le1, .int tb1, .long mb1, .long wr1]))] H := hP
  have hD : va_D A [(h0, .inr (3, [.int (modc + (1 : Int32)), .ref (sa 0), .int (0 : Int32)])), (w1, .inr (11, [.int te1, .int le1, .int tb1, .long mb1, .long wr1]))] := hD
  refine lv_aload_n hx hb dJx4a65c_add_9ea2d_10 rfl (lv_at hl 0 rfl) ?_
  refine lv_aload_n hx hb dJx4a65c_add_9ea2d_11 rfl (lv_at hl 1 rfl) ?_
  refine lv_aload_n hx hb dJx4a65c_add_9ea2d_12 rfl (lv_at hl 0 rfl) ?_
  refine va_get (D := D) (ci := 3) (v := .ref (sa 0)) (C := RJx4a65c) (T := TJx4a65c) (N := 3) hx hb hts in_Jx4a65c hown hK hP 0 rfl rfl 1 (by decide) (hts _ k_103) (fun _ h9 => h9) rfl dJx4a65c_add_9ea2d_13 ?_
  refine lv_aload_n hx hb dJx4a65c_add_9ea2d_16 rfl (lv_at hl 0 rfl) ?_
  refine va_get (D := D) (ci := 3) (v := .int (0 : Int32)) (C := RJx4a65c) (T := TJx4a65c) (N := 3) hx hb hts in_Jx4a65c hown hK hP 0 rfl rfl 2 (by decide) (hts _ k_104) (fun _ h9 => h9) rfl dJx4a65c_add_9ea2d_17 ?_
  refine clw_v (X := ([(h0, .inr (3, [.int (modc + (1 : Int32)), .ref (sa 0), .int (0 : Int32)])), (w1, .inr (11, [.int te1, .int le1, .int tb1, .long mb1, .long wr1]))] : va_W)) (xc := ([(h0, .inr (3, [.int (modc + (1 : Int32)), .ref (sa 0), .int (0 : Int32)])), (w1, .inr (11, [.int te1, .int le1, .int tb1, .long mb1, .long wr1]))] : va_W)) (pl := []) (va_runV (As := [.ref w1, .ref (sa 0), .int (0 : Int32)]) (rest := []) ⟨hx, hb, hml, hown, hts⟩ (c_Jx4a65c_addp_GW l D cy sa z0 H.size h0 w1 (modc + (1 : Int32)) te1 le1 tb1 mb1 wr1 _ hf) (cwV 3 hts (lw_gV k_141 k_143 k_0 k_40 k_144) rfl rfl rfl (by decide +kernel) ⟨Nat.le_of_ble_eq_true rfl, Nat.le_of_ble_eq_true rfl⟩) (preV hG hS hZ hP hD [0, 1] rfl rfl (ci := 3) (q0 := 0) rfl rfl) rfl rfl hl.1 rfl (lv_room (Nat.le_of_ble_eq_true rfl)) dJx4a65c_add_9ea2d_20 ⟨Nat.le_of_ble_eq_true rfl, Nat.le_of_ble_eq_true rfl⟩) hP hD hS hA [0, 1] rfl rfl (fun _ => rfl) (fun v3 hf H locs hP hD hS => ?_)
  have hP : va_P D vwCl [(h0, .inr (3, [.int (modc + (1 : Int32)), .ref v3.1, .int v3.2.1])), (w1, .inr (11, [.int te1, .int le1, .int tb1, .long mb1, .long wr1])), (v3.2.2.1, .inl (cy 3, 10, .inr (.inr (.inr (.inr v3.2.2.2)))))] H := hP
  have hD : va_D A [(h0, .inr (3, [.int (modc + (1 : Int32)), .ref v3.1, .int v3.2.1])), (w1, .inr (11, [.int te1, .int le1, .int tb1, .long mb1, .long wr1])), (v3.2.2.1, .inl (cy 3, 10, .inr (.inr (.inr (.inr v3.2.2.2)))))] := hD
  refine lv_iconst (v := (1 : Int32)) hx hb dJx4a65c_add_9ea2d_23 (by decide) ?_
  refine W.widen (k := 1) (n := 10) (Nat.le_of_ble_eq_true rfl) (Nat.le_of_ble_eq_true rfl) ?_
  exact W.zret (v := (1 : Int32)) hx hb hr (by decide) (fun t ht _ => ⟨⟨(1 : Int32), ((modc + (1 : Int32)), v3.1, v3.2.1, v3.2.2.1, v3.2.2.2), rfl, hf, by rw [ht]; exact hP, hD⟩, hS.F ht⟩) hS.2.2 dJx4a65c_add_9ea2d_24
noncomputable def Jx4a65c_add_GD_f (w1 : Nat) (modc : Int32) (Post : (Int32 × (Int32 × Nat × Int32 × Nat × (Nat → Option Nat))) → Prop) : Prop := Jx4a65c_addp_GD_f w1 (fun v3 => Post ((1 : Int32), ((modc + (1 : Int32)), v3.1, v3.2.1, v3.2.2.1, v3.2.2.2)))
set_option maxHeartbeats 4000000 in
set_option maxRecDepth 100000 in
theorem c_Jx4a65c_add_GD (l : Launch) (D : va_G) (cy : Nat → ClassId) (sa : Nat → Nat) (z0 sz : Nat) (h0 : Nat) (w1 : Nat) (modc : Int32) (nu1 : Int32) (ro1 : Nat) (pn1 : Int32) (Post : (Int32 × (Int32 × Nat × Int32 × Nat × (Nat → Option Nat))) → Prop) (ho : Jx4a65c_add_GD_f w1 modc Post) : Met l yJx4a65c_add_9ea2d (ws_ yJx4a65c_add_9ea2d cJx4a65c_add_9ea2d 2 (some .boolean)) ({ frames := 4, cells := 1, slots := 10, locals := 96 } : Room) (va_Pc [.ref h0, .ref w1] (Pr D cy sa z0 [(h0, .inr (3, [.int modc, .ref (sa 0), .int (0 : Int32)])), (w1, .inr (6, [.int nu1, .ref ro1, .int pn1]))] sz)) (GI D Post (fun u => (([(h0, .inr (3, [.int u.1, .ref u.2.1, .int u.2.2.1])), (w1, .inr (6, [.int nu1, .ref ro1, .int pn1]))] : va_W) ++ ([(u.2.2.2.1, .inl (cy 3, 10, .inr (.inr (.inr (.inr u.2.2.2.2)))))] : va_W))) (va_A [(h0, .inr (3, [.int modc, .ref (sa 0), .int (0 : Int32)])), (w1, .inr (6, [.int nu1, .ref ro1, .int pn1]))] sz)) 1 10 (va_A [(h0, .inr (3, [.int modc, .ref (sa 0), .int (0 : Int32)])), (w1, .inr (6, [.int nu1, .ref ro1, .int pn1]))] sz) := by
  refine MT (Qf := GI D Post (fun u => (([(h0, .inr (3, [.int u.1, .ref u.2.1, .int u.2.2.1])), (w1, .inr (6, [.int nu1, .ref ro1, .int pn1]))] : va_W) ++ ([(u.2.2.2.1, .inl (cy 3, 10, .inr (.inr (.inr (.inr u.2.2.2.2)))))] : va_W)))) (plainFor_of_name (by decide +kernel)) (Nat.le_of_ble_eq_true rfl) ?_
  intro p e s m below meth c A ls H hx hb hml hr hlocks hown hnm hts hG hA hZ hP hD hS hl
  have hK := hG.K
  have hl : lv_has ls 2 [(0, .ref h0), (1, .ref w1)] := hl
  have hf : Jx4a65c_add_GD_f w1 modc Post := ho
  clear ho
  unfold Jx4a65c_add_GD_f at hf
  refine lv_aload_n hx hb dJx4a65c_add_9ea2d_0 rfl (lv_at hl 0 rfl) ?_
  refine lv_dup hx hb dJx4a65c_add_9ea2d_1 rfl ?_
  refine va_get (D := D) (ci := 3) (v := .int modc) (C := RJx4a65c) (T := TJx4a65c) (N := 3) hx hb hts in_Jx4a65c hown hK hP 0 rfl rfl 0 (by decide) (hts _ k_106) (fun x h9 => sameF_mod hts x h9) rfl dJx4a65c_add_9ea2d_2 ?_
  refine lv_iconst (v := (1 : Int32)) hx hb dJx4a65c_add_9ea2d_5 (by decide) ?_
  refine lv_iadd hx hb dJx4a65c_add_9ea2d_6 ?_
  refine va_put (D := D) (ci := 3) (v := .int (modc + (1 : Int32))) (ty := .int) (C := RJx4a65c) (T := TJx4a65c) (N := 3) hx hb hts in_Jx4a65c tyJx4a65c tyJx4a65c_ok nmJx4a65c hown hK hP hD hS 0 rfl rfl 0 (by decide) (hts _ k_106) (fun x h9 => sameF_mod hts x h9) rfl (by decide +kernel) rfl rfl (Nat.le_of_ble_eq_true rfl) dJx4a65c_add_9ea2d_7 (fun H locs hP hD hS => ?_)
  have hP : va_P D vwCl [(h0, .inr (3, [.int (modc + (1 : Int32)), .ref (sa 0), .int (0 : Int32)])), (w1, .inr (6, [.int nu1, .ref ro1, .int pn1]))] H := hP
  have hD : va_D A [(h0, .inr (3, [.int (modc + (1 : Int32)), .ref (sa 0), .int (0 : Int32)])), (w1, .inr (6, [.int nu1, .ref ro1, .int pn1]))] := hD
  refine lv_aload_n hx hb dJx4a65c_add_9ea2d_10 rfl (lv_at hl 0 rfl) ?_
  refine lv_aload_n hx hb dJx4a65c_add_9ea2d_11 rfl (lv_at hl 1 rfl) ?_
  refine lv_aload_n hx hb dJx4a65c_add_9ea2d_12 rfl (lv_at hl 0 rfl) ?_
  refine va_get (D := D) (ci := 3) (v := .ref (sa 0)) (C := RJx4a65c) (T := TJx4a65c) (N := 3) hx hb hts in_Jx4a65c hown hK hP 0 rfl rfl 1 (by decide) (hts _ k_103) (fun _ h9 => h9) rfl dJx4a65c_add_9ea2d_13 ?_
  refine lv_aload_n hx hb dJx4a65c_add_9ea2d_16 rfl (lv_at hl 0 rfl) ?_
  refine va_get (D := D) (ci := 3) (v := .int (0 : Int32)) (C := RJx4a65c) (T := TJx4a65c) (N := 3) hx hb hts in_Jx4a65c hown hK hP 0 rfl rfl 2 (by decide) (hts _ k_104) (fun _ h9 => h9) rfl dJx4a65c_add_9ea2d_17 ?_
  refine clw_v (X := ([(h0, .inr (3, [.int (modc + (1 : Int32)), .ref (sa 0), .int (0 : Int32)])), (w1, .inr (6, [.int nu1, .ref ro1, .int pn1]))] : va_W)) (xc := ([(h0, .inr (3, [.int (modc + (1 : Int32)), .ref (sa 0), .int (0 : Int32)])), (w1, .inr (6, [.int nu1, .ref ro1, .int pn1]))] : va_W)) (pl := []) (va_runV (As := [.ref w1, .ref (sa 0), .int (0 : Int32)]) (rest := []) ⟨hx, hb, hml, hown, hts⟩ (c_Jx4a65c_addp_GD l D cy sa z0 H.size h0 w1 (modc + (1 : Int32)) nu1 ro1 pn1 _ hf) (cwV 3 hts (lw_gV k_141 k_143 k_0 k_40 k_144) rfl rfl rfl (by decide +kernel) ⟨Nat.le_of_ble_eq_true rfl, Nat.le_of_ble_eq_true rfl⟩) (preV hG hS hZ hP hD [0, 1] rfl rfl (ci := 3) (q0 := 0) rfl rfl) rfl rfl hl.1 rfl (lv_room (Nat.le_of_ble_eq_true rfl)) dJx4a65c_add_9ea2d_20 ⟨Nat.le_of_ble_eq_true rfl, Nat.le_of_ble_eq_true rfl⟩) hP hD hS hA [0, 1] rfl rfl (fun _ => rfl) (fun v3 hf H locs hP hD hS => ?_)
  have hP : va_P D vwCl [(h0, .inr (3, [.int (modc + (1 : Int32)), .ref v3.1, .int v3.2.1])), (w1, .inr (6, [.int nu1, .ref ro1, .int pn1])), (v3.2.2.1, .inl (cy 3, 10, .inr (.inr (.inr (.inr v3.2.2.2)))))] H := hP
  have hD : va_D A [(h0, .inr (3, [.int (modc + (1 : Int32)), .ref v3.1, .int v3.2.1])), (w1, .inr (6, [.int nu1, .ref ro1, .int pn1])), (v3.2.2.1, .inl (cy 3, 10, .inr (.inr (.inr (.inr v3.2.2.2)))))] := hD
  refine lv_iconst (v := (1 : Int32)) hx hb dJx4a65c_add_9ea2d_23 (by decide) ?_
  refine W.widen (k := 1) (n := 10) (Nat.le_of_ble_eq_true rfl) (Nat.le_of_ble_eq_true rfl) ?_
  exact W.zret (v := (1 : Int32)) hx hb hr (by decide) (fun t ht _ => ⟨⟨(1 : Int32), ((modc + (1 : Int32)), v3.1, v3.2.1, v3.2.2.1, v3.2.2.2), rfl, hf, by rw [ht]; exact hP, hD⟩, hS.F ht⟩) hS.2.2 dJx4a65c_add_9ea2d_24
noncomputable def Jx4a65c_add_RW_f (w1 : Nat) (modc : Int32) (lsz : Int32) (row : Nat → Option Nat) : Option (Int32 × (Int32 × Int32 × (Nat → Option Nat))) := (Jx4a65c_addp_RW_f w1 lsz row).bind fun v1 => some ((1 : Int32), ((modc + (1 : Int32)), v1.1, v1.2))
set_option maxHeartbeats 4000000 in
set_option maxRecDepth 100000 in
theorem c_Jx4a65c_add_RW (l : Launch) (D : va_G) (cy : Nat → ClassId) (sa : Nat → Nat) (z0 sz : Nat) (h0 : Nat) (w1 : Nat) (modc : Int32) (h1 : Nat) (lsz : Int32) (row : Nat → Option Nat) (te1 : Int32) (le1 : Int32) (tb1 : Int32) (mb1 : Int64) (wr1 : Int64) (o : (Int32 × (Int32 × Int32 × (Nat → Option Nat)))) (ho : Jx4a65c_add_RW_f w1 modc lsz row = some o) : Met l yJx4a65c_add_9ea2d (ws_ yJx4a65c_add_9ea2d cJx4a65c_add_9ea2d 2 (some .boolean)) ({ frames := 1, cells := 0, slots := 0, locals := 23 } : Room) (va_Pc [.ref h0, .ref w1] (Pr D cy sa z0 [(h0, .inr (3, [.int modc, .ref h1, .int lsz])), (h1, .inl (cy 3, 10, .inr (.inr (.inr (.inr row))))), (w1, .inr (11, [.int te1, .int le1, .int tb1, .long mb1, .long wr1]))] sz)) (QI D o (fun u => [(h0, .inr (3, [.int u.1, .ref h1, .int u.2.1])), (h1, .inl (cy 3, 10, .inr (.inr (.inr (.inr u.2.2))))), (w1, .inr (11, [.int te1, .int le1, .int tb1, .long mb1, .long wr1]))]) (va_A [(h0, .inr (3, [.int modc, .ref h1, .int lsz])), (h1, .inl (cy 3, 10, .inr (.inr (.inr (.inr row))))), (w1, .inr (11, [.int te1, .int le1, .int tb1, .long mb1, .long wr1]))] sz)) 0 0 (va_A [(h0, .inr (3, [.int modc, .ref h1, .int lsz])), (h1, .inl (cy 3, 10, .inr (.inr (.inr (.inr row))))), (w1, .inr (11, [.int te1, .int le1, .int tb1, .long mb1, .long wr1]))] sz) := by
  refine MT (Qf := QI D o (fun u => [(h0, .inr (3, [.int u.1, .ref h1, .int u.2.1])), (h1, .inl (cy 3, 10, .inr (.inr (.inr (.inr u.2.2))))), (w1, .inr (11, [.int te1, .int le1, .int tb1, .long mb1, .long wr1]))])) (plainFor_of_name (by decide +kernel)) (Nat.le_of_ble_eq_true rfl) ?_
  intro p e s m below meth c A ls H hx hb hml hr hlocks hown hnm hts hG hA hZ hP hD hS hl
  have hK := hG.K
  have hl : lv_has ls 2 [(0, .ref h0), (1, .ref w1)] := hl
  have hf : Jx4a65c_add_RW_f w1 modc lsz row = some o := ho
  clear ho
  unfold Jx4a65c_add_RW_f at hf
  refine lv_aload_n hx hb dJx4a65c_add_9ea2d_0 rfl (lv_at hl 0 rfl) ?_
  refine lv_dup hx hb dJx4a65c_add_9ea2d_1 rfl ?_
  refine va_get (D := D) (ci := 3) (v := .int modc) (C := RJx4a65c) (T := TJx4a65c) (N := 3) hx hb hts in_Jx4a65c hown hK hP 0 rfl rfl 0 (by decide) (hts _ k_106) (fun x h9 => sameF_mod hts x h9) rfl dJx4a65c_add_9ea2d_2 ?_
  refine lv_iconst (v := (1 : Int32)) hx hb dJx4a65c_add_9ea2d_5 (by decide) ?_
  refine lv_iadd hx hb dJx4a65c_add_9ea2d_6 ?_
  refine va_put (D := D) (ci := 3) (v := .int (modc + (1 : Int32))) (ty := .int) (C := RJx4a65c) (T := TJx4a65c) (N := 3) hx hb hts in_Jx4a65c tyJx4a65c tyJx4a65c_ok nmJx4a65c hown hK hP hD hS 0 rfl rfl 0 (by decide) (hts _ k_106) (fun x h9 => sameF_mod hts x h9) rfl (by decide +kernel) rfl rfl (Nat.le_of_ble_eq_true rfl) dJx4a65c_add_9ea2d_7 (fun H locs hP hD hS => ?_)
  have hP : va_P D vwCl [(h0, .inr (3, [.int (modc + (1 : Int32)), .ref h1, .int lsz])), (h1, .inl (cy 3, 10, .inr (.inr (.inr (.inr row))))), (w1, .inr (11, [.int te1, .int le1, .int tb1, .long mb1, .long wr1]))] H := hP
  have hD : va_D A [(h0, .inr (3, [.int (modc + (1 : Int32)), .ref h1, .int lsz])), (h1, .inl (cy 3, 10, .inr (.inr (.inr (.inr row))))), (w1, .inr (11, [.int te1, .int le1, .int tb1, .long mb1, .long wr1]))] := hD
  refine lv_aload_n hx hb dJx4a65c_add_9ea2d_10 rfl (lv_at hl 0 rfl) ?_
  refine lv_aload_n hx hb dJx4a65c_add_9ea2d_11 rfl (lv_at hl 1 rfl) ?_
  refine lv_aload_n hx hb dJx4a65c_add_9ea2d_12 rfl (lv_at hl 0 rfl) ?_
  refine va_get (D := D) (ci := 3) (v := .ref h1) (C := RJx4a65c) (T := TJx4a65c) (N := 3) hx hb hts in_Jx4a65c hown hK hP 0 rfl rfl 1 (by decide) (hts _ k_103) (fun _ h9 => h9) rfl dJx4a65c_add_9ea2d_13 ?_
  refine lv_aload_n hx hb dJx4a65c_add_9ea2d_16 rfl (lv_at hl 0 rfl) ?_
  refine va_get (D := D) (ci := 3) (v := .int lsz) (C := RJx4a65c) (T := TJx4a65c) (N := 3) hx hb hts in_Jx4a65c hown hK hP 0 rfl rfl 2 (by decide) (hts _ k_104) (fun _ h9 => h9) rfl dJx4a65c_add_9ea2d_17 ?_
  obtain ⟨v1, e2, hf⟩ := bind_some' hf
  refine cl_v (va_runV (As := [.ref w1, .ref h1, .int lsz]) (rest := []) ⟨hx, hb, hml, hown, hts⟩ (c_Jx4a65c_addp_RW l D cy sa z0 H.size h0 w1 h1 (modc + (1 : Int32)) lsz row te1 le1 tb1 mb1 wr1 _ e2) (cwV 3 hts (lw_gV k_141 k_143 k_0 k_40 k_144) rfl rfl rfl (by decide +kernel) ⟨Nat.le_of_ble_eq_true rfl, Nat.le_of_ble_eq_true rfl⟩) (preV hG hS hZ hP hD [0, 1, 2] rfl rfl (ci := 3) (q0 := 0) rfl rfl) rfl rfl hl.1 rfl (lv_room (Nat.le_of_ble_eq_true rfl)) dJx4a65c_add_9ea2d_20 ⟨Nat.le_of_ble_eq_true rfl, Nat.le_of_ble_eq_true rfl⟩) hP hD hS hA [0, 1, 2] rfl rfl rfl (fun H locs hP hD hS => ?_)
  have hP : va_P D vwCl [(h0, .inr (3, [.int (modc + (1 : Int32)), .ref h1, .int v1.1])), (h1, .inl (cy 3, 10, .inr (.inr (.inr (.inr v1.2))))), (w1, .inr (11, [.int te1, .int le1, .int tb1, .long mb1, .long wr1]))] H := hP
  have hD : va_D A [(h0, .inr (3, [.int (modc + (1 : Int32)), .ref h1, .int v1.1])), (h1, .inl (cy 3, 10, .inr (.inr (.inr (.inr v1.2))))), (w1, .inr (11, [.int te1, .int le1, .int tb1, .long mb1, .long wr1]))] := hD
  refine lv_iconst (v := (1 : Int32)) hx hb dJx4a65c_add_9ea2d_23 (by decide) ?_
  obtain rfl := Option.some.inj hf
  exact W.zret (v := (1 : Int32)) hx hb hr (by decide) (fun t ht _ => ⟨⟨(1 : Int32), ((modc + (1 : Int32)), v1.1, v1.2), rfl, rfl, by rw [ht]; exact hP, hD⟩, hS.F ht⟩) hS.2.2 dJx4a65c_add_9ea2d_24
noncomputable def Jx4a65c_add_RD_f (w1 : Nat) (modc : Int32) (h1 : Nat) (lsz : Int32) (L : List Nat) (K : Nat → Nat) (dr : Nat → Nat → Option Nat) : Option (Int32 × (Int32 × Int32 × (Nat → Nat → Option Nat))) := (Jx4a65c_addp_RD_f w1 h1 lsz L K dr).bind fun v1 => some ((1 : Int32), ((modc + (1 : Int32)), v1.1, v1.2))
set_option maxHeartbeats 4000000 in
set_option maxRecDepth 100000 in
theorem c_Jx4a65c_add_RD (l : Launch) (D : va_G) (cy : Nat → ClassId) (sa : Nat → Nat) (z0 sz : Nat) (h0 : Nat) (w1 : Nat) (modc : Int32) (h1 : Nat) (lsz : Int32) (nu1 : Int32) (ro1 : Nat) (pn1 : Int32) (L : List Nat) (K : Nat → Nat) (te : Nat → Int32) (le : Nat → Int32) (tb : Nat → Int32) (mb : Nat → Int64) (wr : Nat → Int64) (nu : Nat → Int32) (ro : Nat → Nat) (pn : Nat → Int32) (rw : Nat → Nat → Int32) (dr : Nat → Nat → Option Nat) (o : (Int32 × (Int32 × Int32 × (Nat → Nat → Option Nat)))) (ho : Jx4a65c_add_RD_f w1 modc h1 lsz L K dr = some o) : Met l yJx4a65c_add_9ea2d (ws_ yJx4a65c_add_9ea2d cJx4a65c_add_9ea2d 2 (some .boolean)) ({ frames := 1, cells := 0, slots := 0, locals := 23 } : Room) (va_Pc [.ref h0, .ref w1] (Pr D cy sa z0 (([(h0, .inr (3, [.int modc, .ref h1, .int lsz])), (w1, .inr (6, [.int nu1, .ref ro1, .int pn1]))] : va_W) ++ va_pl L (plF cy K te le tb mb wr nu ro pn rw dr)) sz)) (QI D o (fun u => (([(h0, .inr (3, [.int u.1, .ref h1, .int u.2.1])), (w1, .inr (6, [.int nu1, .ref ro1, .int pn1]))] : va_W) ++ va_pl L (plF cy K te le tb mb wr nu ro pn rw u.2.2))) (va_A (([(h0, .inr (3, [.int modc, .ref h1, .int lsz])), (w1, .inr (6, [.int nu1, .ref ro1, .int pn1]))] : va_W) ++ va_pl L (plF cy K te le tb mb wr nu ro pn rw dr)) sz)) 0 0 (va_A (([(h0, .inr (3, [.int modc, .ref h1, .int lsz])), (w1, .inr (6, [.int nu1, .ref ro1, .int pn1]))] : va_W) ++ va_pl L (plF cy K te le tb mb wr nu ro pn rw dr)) sz) := by
  refine MT (Qf := QI D o (fun u => (([(h0, .inr (3, [.int u.1, .ref h1, .int u.2.1])), (w1, .inr (6, [.int nu1, .ref ro1, .int pn1]))] : va_W) ++ va_pl L (plF cy K te le tb mb wr nu ro pn rw u.2.2)))) (plainFor_of_name (by decide +kernel)) (Nat.le_of_ble_eq_true rfl) ?_
  intro p e s m below meth c A ls H hx hb hml hr hlocks hown hnm hts hG hA hZ hP hD hS hl
  have hK := hG.K
  have hl : lv_has ls 2 [(0, .ref h0), (1, .ref w1)] := hl
  have hf : Jx4a65c_add_RD_f w1 modc h1 lsz L K dr = some o := ho
  clear ho
  unfold Jx4a65c_add_RD_f at hf
  refine lv_aload_n hx hb dJx4a65c_add_9ea2d_0 rfl (lv_at hl 0 rfl) ?_
  refine lv_dup hx hb dJx4a65c_add_9ea2d_1 rfl ?_
  refine va_get (D := D) (ci := 3) (v := .int modc) (C := RJx4a65c) (T := TJx4a65c) (N := 3) hx hb hts in_Jx4a65c hown hK hP 0 rfl rfl 0 (by decide) (hts _ k_106) (fun x h9 => sameF_mod hts x h9) rfl dJx4a65c_add_9ea2d_2 ?_
  refine lv_iconst (v := (1 : Int32)) hx hb dJx4a65c_add_9ea2d_5 (by decide) ?_
  refine lv_iadd hx hb dJx4a65c_add_9ea2d_6 ?_
  refine va_put (D := D) (ci := 3) (v := .int (modc + (1 : Int32))) (ty := .int) (C := RJx4a65c) (T := TJx4a65c) (N := 3) hx hb hts in_Jx4a65c tyJx4a65c tyJx4a65c_ok nmJx4a65c hown hK hP hD hS 0 rfl rfl 0 (by decide) (hts _ k_106) (fun x h9 => sameF_mod hts x h9) rfl (by decide +kernel) rfl rfl (Nat.le_of_ble_eq_true rfl) dJx4a65c_add_9ea2d_7 (fun H locs hP hD hS => ?_)
  have hP : va_P D vwCl (([(h0, .inr (3, [.int (modc + (1 : Int32)), .ref h1, .int lsz])), (w1, .inr (6, [.int nu1, .ref ro1, .int pn1]))] : va_W) ++ va_pl L (plF cy K te le tb mb wr nu ro pn rw dr)) H := hP
  have hD : va_D A (([(h0, .inr (3, [.int (modc + (1 : Int32)), .ref h1, .int lsz])), (w1, .inr (6, [.int nu1, .ref ro1, .int pn1]))] : va_W) ++ va_pl L (plF cy K te le tb mb wr nu ro pn rw dr)) := hD
  refine lv_aload_n hx hb dJx4a65c_add_9ea2d_10 rfl (lv_at hl 0 rfl) ?_
  refine lv_aload_n hx hb dJx4a65c_add_9ea2d_11 rfl (lv_at hl 1 rfl) ?_
  refine lv_aload_n hx hb dJx4a65c_add_9ea2d_12 rfl (lv_at hl 0 rfl) ?_
  refine va_get (D := D) (ci := 3) (v := .ref h1) (C := RJx4a65c) (T := TJx4a65c) (N := 3) hx hb hts in_Jx4a65c hown hK hP 0 rfl rfl 1 (by decide) (hts _ k_103) (fun _ h9 => h9) rfl dJx4a65c_add_9ea2d_13 ?_
  refine lv_aload_n hx hb dJx4a65c_add_9ea2d_16 rfl (lv_at hl 0 rfl) ?_
  refine va_get (D := D) (ci := 3) (v := .int lsz) (C := RJx4a65c) (T := TJx4a65c) (N := 3) hx hb hts in_Jx4a65c hown hK hP 0 rfl rfl 2 (by decide) (hts _ k_104) (fun _ h9 => h9) rfl dJx4a65c_add_9ea2d_17 ?_
  obtain ⟨v1, e2, hf⟩ := bind_some' hf
  refine clP_v (va_runV (As := [.ref w1, .ref h1, .int lsz]) (rest := []) ⟨hx, hb, hml, hown, hts⟩ (c_Jx4a65c_addp_RD l D cy sa z0 H.size h0 w1 h1 (modc + (1 : Int32)) lsz nu1 ro1 pn1 L K te le tb mb wr nu ro pn rw dr _ e2) (cwV 3 hts (lw_gV k_141 k_143 k_0 k_40 k_144) rfl rfl rfl (by decide +kernel) ⟨Nat.le_of_ble_eq_true rfl, Nat.le_of_ble_eq_true rfl⟩) (preVP hG hS hZ hP hD [0, 1] rfl rfl (ci := 3) (q0 := 0) rfl rfl) rfl rfl hl.1 rfl (lv_room (Nat.le_of_ble_eq_true rfl)) dJx4a65c_add_9ea2d_20 ⟨Nat.le_of_ble_eq_true rfl, Nat.le_of_ble_eq_true rfl⟩) hP hD hS hA [0, 1] rfl rfl rfl (fun H locs hP hD hS => ?_)
  have hP : va_P D vwCl (([(h0, .inr (3, [.int (modc + (1 : Int32)), .ref h1, .int v1.1])), (w1, .inr (6, [.int nu1, .ref ro1, .int pn1]))] : va_W) ++ va_pl L (plF cy K te le tb mb wr nu ro pn rw v1.2)) H := hP
  have hD : va_D A (([(h0, .inr (3, [.int (modc + (1 : Int32)), .ref h1, .int v1.1])), (w1, .inr (6, [.int nu1, .ref ro1, .int pn1]))] : va_W) ++ va_pl L (plF cy K te le tb mb wr nu ro pn rw v1.2)) := hD
  refine lv_iconst (v := (1 : Int32)) hx hb dJx4a65c_add_9ea2d_23 (by decide) ?_
  obtain rfl := Option.some.inj hf
  exact W.zret (v := (1 : Int32)) hx hb hr (by decide) (fun t ht _ => ⟨⟨(1 : Int32), ((modc + (1 : Int32)), v1.1, v1.2), rfl, rfl, by rw [ht]; exact hP, hD⟩, hS.F ht⟩) hS.2.2 dJx4a65c_add_9ea2d_24
