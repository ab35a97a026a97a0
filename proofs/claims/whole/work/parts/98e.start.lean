theorem nb_8 : X1_numberByYears_f (2000 : Int32) (1 : Int32) (1 : Int32) = some (lz 730120, ()) := by
  have h := pd_num (y := 2000) (m := 1) (d := 1) (by omega) (by omega) (by omega) (by omega) (by omega) (by omega)
  have e : lz (dBef 2000 + dBm 2000 1 + 1) = lz 730120 := by decide +kernel
  rw [e] at h
  exact h
theorem nb_9 : X9_number_f 200000 (2000 : Int32) (1 : Int32) (1 : Int32) = some (lz 730120, ()) := by
  have h := pd_num9 (N := 200000) (by omega) (y := 2000) (m := 1) (d := 1) (by omega) (by omega) (by omega) (by omega) (by omega) (by omega)
  have e : lz (dBef 2000 + dBm 2000 1 + 1) = lz 730120 := by decide +kernel
  rw [e] at h
  exact h
theorem sb_0 : ZI 0 ((0, 0, fun _ => iz 0, fun _ => iz 0, fun _ => iz 0) : (Int × Int × (Nat → Int32) × (Nat → Int32) × (Nat → Int32))) := by
  refine ⟨Int.le_refl _, Int.le_refl _, Int.le_refl _, by decide, ⟨fun b _ => (by decide : (0 : Int) ≤ (iz 0).toInt), by decide⟩, fun t t' h1 h2 h3 h4 => ?_, fun t h1 h2 h3 => ?_⟩
  · have h4 : t' < 0 := h4
    omega
  · have h3 : t < 0 := h3
    omega
theorem GTr_start (q : Nat) {K : Nat → Nat} {te le tb : Nat → Int32} {mb : Nat → Int64} {mteeth mleaves : Nat → Int32} {moffs : Nat → Int64} (hm : mteeth 0 = iz 30) : GTr 0 (0 : Int64) (1 : Int32) (va_up (fun _ => none) (0 : Int32).toNatClampNeg (some q)) (1 : Int32) (0 : Int64) mteeth mleaves moffs [q] (va_up K q 0) (va_up te q (30 : Int32)) (va_up le q (1 : Int32)) (va_up tb q (1 : Int32)) (va_up mb q (0 : Int64)) := by
  refine ⟨1, fun _ => q, fun _ => 1, fun _ => 1, fun _ => 0, fun _ => 30, 0, by omega, by omega, rfl, rfl, rfl, rfl, by omega, by omega, fun i hi => ?_, ⟨fun i hi => ?_, fun i j hi hj _ => by omega⟩, ⟨rfl, rfl, rfl, fun i hi => ?_⟩, rfl, fun i hi => ?_⟩
  · obtain rfl : i = 0 := by omega
    exact ⟨by decide, by decide, by decide, by decide, by decide, Int.le_refl _⟩
  · obtain rfl : i = 0 := by omega
    exact ⟨va_up_self _ _ _, ⟨List.mem_singleton.mpr rfl, va_up_self _ _ _⟩, va_up_self _ _ _, va_up_self _ _ _, va_up_self _ _ _⟩
  · exact absurd hi (by omega)
  · obtain rfl : i = 0 := by omega
    exact ⟨va_up_self _ _ _, hm, by decide, by decide⟩
set_option maxHeartbeats 4000000 in
theorem head_ok (sa : Nat → Nat) (K : Nat → Nat) (te le tb : Nat → Int32) (mb wr : Nat → Int64) (nu : Nat → Int32) (ro : Nat → Nat) (pn : Nat → Int32) (rw : Nat → Nat → Int32) (dr : Nat → Nat → Option Nat) : law_head0_f 200000 sa [] K te le tb mb wr nu ro pn rw dr (fun bp dz wsz wrow num den rst shown owed bound reached sfrom sto quar j11 dsz tunes strk struck alls lmark lstr mwhe mnum mden mrst mshown mowed mbound mreached mdrs mstruck msfrom msto mbeats mfday mquar mteeth mleaves mpins mtune mstrks mlmark mlstr moffs L K te le tb mb nu ro pn rw dr => Good sa 0 bp dz wsz wrow num den rst shown owed bound reached sfrom sto quar j11 dsz tunes strk struck alls lmark lstr mwhe mnum mden mrst mshown mowed mbound mreached mdrs mstruck msfrom msto mbeats mfday mquar mteeth mleaves mpins mtune mstrks mlmark mlstr moffs L K te le tb mb nu ro pn rw dr) := by
  unfold law_head0_f
  simp only [X8_init_f, X6_init_f, Jx4a65c_init_da8c8_f, Jxc12de_init_da8c8_f, Jxa1e45_init_da8c8_f, Option.bind_some, X7_init_f, Jx4a65c_add_GW_f, Jx4a65c_addp_GW_f, Jx4a65c_grow_d5877_f, Jx4a65c_grow_92f84_f, X4_init_f, X3_init_f, X0_init_f, X5_init_f, X9_init_f, nb_8, nb_9, Option.some.injEq, exists_eq_left', true_and, eq_self, exists_const, List.nil_append]
  intros
  refine Good_mk ?_ ?_ ?_ ?_ ?_ ?_
  · exact GTr_start _ rfl
  · exact ⟨1, 1, 0, by decide, by decide, by decide, by decide, by decide, by decide, rfl, rfl, rfl, rfl, rfl, rfl⟩
  · exact ⟨0, 0, 5, 0, (0, 0, fun _ => iz 0, fun _ => iz 0, fun _ => iz 0), by decide, by decide, by decide, by decide, by decide, by decide, by decide, by decide, rfl, rfl, rfl, rfl, rfl, rfl, rfl, rfl, rfl, rfl, rfl, rfl, rfl, rfl, rfl, rfl, rfl, sb_0⟩
  · exact ⟨730120, by decide, by decide, rfl, rfl⟩
  · exact ⟨0, 0, 1, by decide, by decide, by decide, by decide, by decide, by decide, rfl, rfl, rfl, rfl, rfl, rfl⟩
  · refine ⟨0, fun _ => 0, by omega, rfl, rfl, fun _ => rfl, fun h => absurd h (by omega), fun d h => absurd h (by omega), fun d _ h => absurd h (by omega), fun d _ h => absurd h (by omega), fun i _ => ⟨0, by omega, rfl⟩, fun i _ _ => rfl, fun h hh => Or.inl ⟨rfl, ?_⟩⟩
    revert h
    decide +kernel
