theorem up_ni {α : Type} (f : Nat → α) {k x : Nat} (v : α) {L : List Nat} (hk : k ∉ L) (hx : x ∈ L) : va_up f k v x = f x := up_ne f v (fun h => hk (h ▸ hx))
theorem gd_add9 {Dn : Nat} (h : Dn < 4) : X9_addDrum_f (iz Dn) = some (iz Dn, (iz 0, iz ((Dn : Int) + 1))) := by
  unfold X9_addDrum_f X9_fail_f
  simp (disch := omega) only [n3_0, n3_1, n3_2, n3_3, n3_4, n3_5, n3_6, n3_7, n3_8, n3_9, n3_10, n3_11, n3_12, n3_20, n3_23, n3_24, n3_28, n3_29, n3_30, n3_31, n3_32, n3_40, n3_60, n3_120, n3_128, n3_365, n3_366, n3_400, n3_100, n3_600, n3_700, n3_900, n3_1600, n3_2000, n3_3000, n3_3600, n3_5000, n3_86400, n3_m1, n3_m600, n3_m3600, n6_0, n6_1, n6_2, n6_3, n6_4, n6_7, n6_60, n6_100, n6_365, n6_366, n6_400, n6_900, n6_1461, n6_36524, n6_146097, iz_add, iz_sub, iz_mul, iz_neg, iz_div, iz_lt, iz_le, iz_eq, iz_l, lz_i, iz_nat, lz_add, lz_sub, lz_mul, lz_div, lz_lt, lz_le, lz_eq, lc_ge, lc_le, lc_eq, Option.bind_some, b01_z, b01_a, b01_1, iz_01, iz_11, pv_def, eq_self, Bool.false_eq_true, not_true_eq_false, not_false_eq_true, if_true, if_false, if_pos, if_neg]
theorem g_25_0 {sa : Nat → Nat} {tunes : Nat → Option Nat} {mdrs : Int32} {mpins mtune : Nat → Int32} {L : List Nat} {K : Nat → Nat} {nu : Nat → Int32} {ro : Nat → Nat} {pn : Nat → Int32} {rw : Nat → Nat → Int32} {dr : Nat → Nat → Option Nat} (hG : GDr (sa 0) (sa 0) (iz 0) tunes mdrs mpins mtune L K nu ro pn rw dr) (dmod : Int32) (ol : Nat → Int64) {Next : (Int32 × Nat × Int32 × Int32 × Int32 × (Nat → Int64) × (List Nat) × (Nat → Nat) × (Nat → Int32) × (Nat → Nat) × (Nat → Int32) × (Nat → Nat → Int32) × (Nat → Nat → Option Nat)) → Prop} (hx : ∀ x1 x2 x3 x4 x5 x6 x7 x8 x9 x10 x11 x12 x13, GDr (sa 0) x2 x3 tunes x5 mpins mtune x7 x8 x9 x10 x11 x12 x13 → (∀ x, x ∈ L → x ∈ x7 ∧ x8 x = K x) → Next (x1, x2, x3, x4, x5, x6, x7, x8, x9, x10, x11, x12, x13)) : law_25_0_f sa dmod mdrs ol L K nu ro pn rw dr Next := by
  have hG0 := hG
  have em : mdrs = iz ((0 : Nat) : Int) := by
    obtain ⟨Dn, bw, hD4, e1, e2, _⟩ := hG
    rw [e2]
    rw [iz_eq (by omega) (by omega) (by omega) (by omega)] at e1
    rw [← e1]
    rfl
  subst em
  unfold law_25_0_f L_addDrum0_f X8_addDrum0_f X0_makeDrum0_f X2_init_f Jx4a65c_add_GD_f Jx4a65c_addp_GD_f Jx4a65c_grow_d5877_f Jx4a65c_grow_92f84_f
  refine ⟨(iz 0, ()), rfl, ?_⟩
  have h9 : (iz 0, ()).1 < (4 : Int32) := by decide
  rw [if_pos h9]
  refine ⟨(iz 0, ()), rfl, fun q3 q1 q9 n3 n1 n9 => ?_⟩
  refine ⟨_, gd_add9 (Dn := 0) (by omega), _, rfl, ?_⟩
  have m3 : q3 ≠ q1 := fun h => n1 (h ▸ List.mem_append_right _ List.mem_cons_self)
  have m1 : q1 ∉ L := fun h => n1 (List.mem_append_left _ h)
  have m9 : q9 ∉ L := fun h => n9 (List.mem_append_left _ (List.mem_append_left _ h))
  have m93 : q3 ≠ q9 := fun h => n9 (h ▸ List.mem_append_left _ (List.mem_append_right _ List.mem_cons_self))
  have m91 : q1 ≠ q9 := fun h => n9 (h ▸ List.mem_append_right _ List.mem_cons_self)
  have key : GDr (sa 0) q9 (iz (((0 : Nat) : Int) + 1)) tunes (iz (((0 : Nat) : Int) + 1)) mpins mtune (((L ++ [q3]) ++ [q1]) ++ [q9]) (va_up (va_up (va_up K q3 1) q1 2) q9 3) (va_up nu q3 (iz ((0 : Nat) : Int))) (va_up ro q3 q1) (va_up pn q3 (iz 0)) (va_up rw q1 (fun _ => iz 0)) (va_up dr q9 (va_up (fun _ => none) 0 (some q3))) := by
    refine GDr_add (Dn := 0) (by omega) hG0 ?_ ?_ ?_ ?_ ?_ ?_ n3 m1
    · intro x hx'
      refine ⟨List.mem_append_left _ (List.mem_append_left _ (List.mem_append_left _ hx')), ?_⟩
      rw [up_ni _ _ m9 hx', up_ni _ _ m1 hx', up_ni _ _ n3 hx']
    · exact ⟨List.mem_append_right _ List.mem_cons_self, up_self _ _ _⟩
    · intro d h; omega
    · rw [up_self, up_self]
    · refine ⟨List.mem_append_left _ (List.mem_append_left _ (List.mem_append_right _ List.mem_cons_self)), ?_⟩
      rw [up_ne _ _ m93, up_ne _ _ m3, up_self]
    · refine ⟨List.mem_append_left _ (List.mem_append_right _ List.mem_cons_self), ?_⟩
      rw [up_ne _ _ m91, up_self]
  simp (disch := omega) only [n3_0, n3_1, n3_2, n3_3, n3_4, n3_5, n3_6, n3_7, n3_8, n3_9, n3_10, n3_11, n3_12, n3_20, n3_23, n3_24, n3_28, n3_29, n3_30, n3_31, n3_32, n3_40, n3_60, n3_120, n3_128, n3_365, n3_366, n3_400, n3_100, n3_600, n3_700, n3_900, n3_1600, n3_2000, n3_3000, n3_3600, n3_5000, n3_86400, n3_m1, n3_m600, n3_m3600, n6_0, n6_1, n6_2, n6_3, n6_4, n6_7, n6_60, n6_100, n6_365, n6_366, n6_400, n6_900, n6_1461, n6_36524, n6_146097, iz_add, iz_sub, iz_mul, iz_neg, iz_div, iz_lt, iz_le, iz_eq, iz_l, lz_i, iz_nat, lz_add, lz_sub, lz_mul, lz_div, lz_lt, lz_le, lz_eq, lc_ge, lc_le, lc_eq, Option.bind_some, b01_z, b01_a, b01_1, iz_01, iz_11, pv_def, eq_self, Bool.false_eq_true, not_true_eq_false, not_false_eq_true, if_true, if_false, if_pos, if_neg, upL_s]
  refine hx _ _ _ _ _ _ _ _ _ _ _ _ _ key ?_
  intro x hx'
  refine ⟨List.mem_append_left _ (List.mem_append_left _ (List.mem_append_left _ hx')), ?_⟩
  rw [up_ni _ _ m9 hx', up_ni _ _ m1 hx', up_ni _ _ n3 hx']
theorem g_25_R {j0 j11 : Nat} {dsz : Int32} {tunes : Nat → Option Nat} {mdrs : Int32} {mpins mtune : Nat → Int32} {L : List Nat} {K : Nat → Nat} {nu : Nat → Int32} {ro : Nat → Nat} {pn : Nat → Int32} {rw : Nat → Nat → Int32} {dr : Nat → Nat → Option Nat} (hG : GDr j0 j11 dsz tunes mdrs mpins mtune L K nu ro pn rw dr) (hne : dsz ≠ iz 0) (dmod : Int32) (ol : Nat → Int64) {Next : (Int32 × Int32 × Int32 × Int32 × (Nat → Int64) × (List Nat) × (Nat → Nat) × (Nat → Int32) × (Nat → Nat) × (Nat → Int32) × (Nat → Nat → Int32) × (Nat → Nat → Option Nat)) → Prop} (hx : ∀ x1 x2 x3 x4 x5 x6 x7 x8 x9 x10 x11 x12, GDr j0 j11 x2 tunes x4 mpins mtune x6 x7 x8 x9 x10 x11 x12 → (∀ x, x ∈ L → x ∈ x6 ∧ x7 x = K x) → Next (x1, x2, x3, x4, x5, x6, x7, x8, x9, x10, x11, x12)) : law_25_R_f dmod j11 dsz mdrs ol L K nu ro pn rw dr Next := by
  have hG0 := hG
  obtain ⟨Dn, bw, hD4, rfl, rfl, hj0, hj, hd, hbi, hri, hz, hz0, ht⟩ := hG
  have hD1 : 1 ≤ Dn := by
    apply Classical.byContradiction
    intro h
    exact hne (by rw [show Dn = 0 from by omega]; rfl)
  have hj1 := hj (by omega)
  unfold law_25_R_f L_addDrumR_f X8_addDrumR_f X0_makeDrumR_f X2_init_f
  refine ⟨(iz Dn, ()), rfl, ?_⟩
  by_cases h4 : Dn = 4
  · subst h4
    have h9 : ¬ ((iz ((4 : Nat) : Int), ()).1 < (4 : Int32)) := by decide
    rw [if_neg h9, sumE_r, if_pos rfl]
    have eM : X9_addDrum_f (iz ((4 : Nat) : Int)) = some (iz 0, (iz 1, iz ((4 : Nat) : Int))) := by
      unfold X9_addDrum_f X9_fail_f
      rfl
    refine ⟨_, eM, _, rfl, ?_⟩
    simp (disch := omega) only [n3_0, n3_1, n3_2, n3_3, n3_4, n3_5, n3_6, n3_7, n3_8, n3_9, n3_10, n3_11, n3_12, n3_20, n3_23, n3_24, n3_28, n3_29, n3_30, n3_31, n3_32, n3_40, n3_60, n3_120, n3_128, n3_365, n3_366, n3_400, n3_100, n3_600, n3_700, n3_900, n3_1600, n3_2000, n3_3000, n3_3600, n3_5000, n3_86400, n3_m1, n3_m600, n3_m3600, n6_0, n6_1, n6_2, n6_3, n6_4, n6_7, n6_60, n6_100, n6_365, n6_366, n6_400, n6_900, n6_1461, n6_36524, n6_146097, iz_add, iz_sub, iz_mul, iz_neg, iz_div, iz_lt, iz_le, iz_eq, iz_l, lz_i, iz_nat, lz_add, lz_sub, lz_mul, lz_div, lz_lt, lz_le, lz_eq, lc_ge, lc_le, lc_eq, Option.bind_some, b01_z, b01_a, b01_1, iz_01, iz_11, pv_def, eq_self, Bool.false_eq_true, not_true_eq_false, not_false_eq_true, if_true, if_false, if_pos, if_neg]
    exact hx _ _ _ _ _ _ _ _ _ _ _ _ hG0 (fun _ h => ⟨h, rfl⟩)
  · have h9 : (iz (Dn : Int), ()).1 < (4 : Int32) := by
      show iz (Dn : Int) < iz 4
      rw [iz_lt (by omega) (by omega) (by omega) (by omega)]
      omega
    rw [if_pos h9]
    refine ⟨(iz Dn, ()), rfl, fun q3 q1 => ?_⟩
    have eA : Jx4a65c_add_RD_f q3 dmod j11 (iz Dn) L K dr = some (iz 1, (dmod + iz 1, iz ((Dn : Int) + 1), va_up dr j11 (va_up (dr j11) Dn (some q3)))) := by
      unfold Jx4a65c_add_RD_f Jx4a65c_addp_RD_f
      simp (disch := omega) only [n3_0, n3_1, n3_2, n3_3, n3_4, n3_5, n3_6, n3_7, n3_8, n3_9, n3_10, n3_11, n3_12, n3_20, n3_23, n3_24, n3_28, n3_29, n3_30, n3_31, n3_32, n3_40, n3_60, n3_120, n3_128, n3_365, n3_366, n3_400, n3_100, n3_600, n3_700, n3_900, n3_1600, n3_2000, n3_3000, n3_3600, n3_5000, n3_86400, n3_m1, n3_m600, n3_m3600, n6_0, n6_1, n6_2, n6_3, n6_4, n6_7, n6_60, n6_100, n6_365, n6_366, n6_400, n6_900, n6_1461, n6_36524, n6_146097, iz_add, iz_sub, iz_mul, iz_neg, iz_div, iz_lt, iz_le, iz_eq, iz_l, lz_i, iz_nat, lz_add, lz_sub, lz_mul, lz_div, lz_lt, lz_le, lz_eq, lc_ge, lc_le, lc_eq, Option.bind_some, b01_z, b01_a, b01_1, iz_01, iz_11, pv_def, eq_self, Bool.false_eq_true, not_true_eq_false, not_false_eq_true, if_true, if_false, if_pos, if_neg, Int.toNat_natCast]
    refine ⟨_, eA, fun n3 n1 => ?_⟩
    refine ⟨_, gd_add9 (Dn := Dn) (by omega), _, rfl, ?_⟩
    have m3 : q3 ≠ q1 := fun h => n1 (h ▸ List.mem_append_right _ List.mem_cons_self)
    have m1 : q1 ∉ L := fun h => n1 (List.mem_append_left _ h)
    have j3 : j11 ≠ q3 := fun h => n3 (h ▸ hj1.1)
    have j1 : j11 ≠ q1 := fun h => m1 (h ▸ hj1.1)
    have key : GDr j0 j11 (iz ((Dn : Int) + 1)) tunes (iz ((Dn : Int) + 1)) mpins mtune ((L ++ [q3]) ++ [q1]) (va_up (va_up K q3 1) q1 2) (va_up nu q3 (iz Dn)) (va_up ro q3 q1) (va_up pn q3 (iz 0)) (va_up rw q1 (fun _ => iz 0)) (va_up dr j11 (va_up (dr j11) Dn (some q3))) := by
      refine GDr_add (by omega) hG0 ?_ ?_ ?_ ?_ ?_ ?_ n3 m1
      · intro x hx'
        refine ⟨List.mem_append_left _ (List.mem_append_left _ hx'), ?_⟩
        rw [up_ni _ _ m1 hx', up_ni _ _ n3 hx']
      · refine ⟨List.mem_append_left _ (List.mem_append_left _ hj1.1), ?_⟩
        rw [up_ne _ _ j1, up_ne _ _ j3]; exact hj1.2
      · intro d h
        rw [up_self, up_ne _ _ (by omega)]
      · rw [up_self, up_self]
      · refine ⟨List.mem_append_left _ (List.mem_append_right _ List.mem_cons_self), ?_⟩
        rw [up_ne _ _ m3, up_self]
      · exact ⟨List.mem_append_right _ List.mem_cons_self, up_self _ _ _⟩
    simp (disch := omega) only [n3_0, n3_1, n3_2, n3_3, n3_4, n3_5, n3_6, n3_7, n3_8, n3_9, n3_10, n3_11, n3_12, n3_20, n3_23, n3_24, n3_28, n3_29, n3_30, n3_31, n3_32, n3_40, n3_60, n3_120, n3_128, n3_365, n3_366, n3_400, n3_100, n3_600, n3_700, n3_900, n3_1600, n3_2000, n3_3000, n3_3600, n3_5000, n3_86400, n3_m1, n3_m600, n3_m3600, n6_0, n6_1, n6_2, n6_3, n6_4, n6_7, n6_60, n6_100, n6_365, n6_366, n6_400, n6_900, n6_1461, n6_36524, n6_146097, iz_add, iz_sub, iz_mul, iz_neg, iz_div, iz_lt, iz_le, iz_eq, iz_l, lz_i, iz_nat, lz_add, lz_sub, lz_mul, lz_div, lz_lt, lz_le, lz_eq, lc_ge, lc_le, lc_eq, Option.bind_some, b01_z, b01_a, b01_1, iz_01, iz_11, pv_def, eq_self, Bool.false_eq_true, not_true_eq_false, not_false_eq_true, if_true, if_false, if_pos, if_neg, upL_s]
    refine hx _ _ _ _ _ _ _ _ _ _ _ _ key ?_
    intro x hx'
    refine ⟨List.mem_append_left _ (List.mem_append_left _ hx'), ?_⟩
    rw [up_ni _ _ m1 hx', up_ni _ _ n3 hx']
theorem gd_tn {tunes : Nat → Option Nat} {h : Nat} (hh : h < 24) : X0_tuneOrNull_f tunes (iz h) = some (tunes h, ()) := by
  unfold X0_tuneOrNull_f X0_tuneOrNull_b22 X0_tuneOrNull_b23
  simp (disch := omega) only [n3_0, n3_1, n3_2, n3_3, n3_4, n3_5, n3_6, n3_7, n3_8, n3_9, n3_10, n3_11, n3_12, n3_20, n3_23, n3_24, n3_28, n3_29, n3_30, n3_31, n3_32, n3_40, n3_60, n3_120, n3_128, n3_365, n3_366, n3_400, n3_100, n3_600, n3_700, n3_900, n3_1600, n3_2000, n3_3000, n3_3600, n3_5000, n3_86400, n3_m1, n3_m600, n3_m3600, n6_0, n6_1, n6_2, n6_3, n6_4, n6_7, n6_60, n6_100, n6_365, n6_366, n6_400, n6_900, n6_1461, n6_36524, n6_146097, iz_add, iz_sub, iz_mul, iz_neg, iz_div, iz_lt, iz_le, iz_eq, iz_l, lz_i, iz_nat, lz_add, lz_sub, lz_mul, lz_div, lz_lt, lz_le, lz_eq, lc_ge, lc_le, lc_eq, Option.bind_some, b01_z, b01_a, b01_1, iz_01, iz_11, pv_def, eq_self, Bool.false_eq_true, not_true_eq_false, not_false_eq_true, if_true, if_false, if_pos, if_neg, Int.toNat_natCast]
theorem gd_cN {tunes : Nat → Option Nat} {h : Nat} (hh : h < 24) : X0_changeTuneN_f tunes (iz h) = some (tunes h, va_up tunes h none) := by
  have e := gd_tn (tunes := tunes) hh
  unfold X0_changeTuneN_f X0_changeTuneN_b26
  cases ht : tunes h with
  | none =>
    rw [ht] at e
    simp (disch := omega) only [n3_0, n3_1, n3_2, n3_3, n3_4, n3_5, n3_6, n3_7, n3_8, n3_9, n3_10, n3_11, n3_12, n3_20, n3_23, n3_24, n3_28, n3_29, n3_30, n3_31, n3_32, n3_40, n3_60, n3_120, n3_128, n3_365, n3_366, n3_400, n3_100, n3_600, n3_700, n3_900, n3_1600, n3_2000, n3_3000, n3_3600, n3_5000, n3_86400, n3_m1, n3_m600, n3_m3600, n6_0, n6_1, n6_2, n6_3, n6_4, n6_7, n6_60, n6_100, n6_365, n6_366, n6_400, n6_900, n6_1461, n6_36524, n6_146097, iz_add, iz_sub, iz_mul, iz_neg, iz_div, iz_lt, iz_le, iz_eq, iz_l, lz_i, iz_nat, lz_add, lz_sub, lz_mul, lz_div, lz_lt, lz_le, lz_eq, lc_ge, lc_le, lc_eq, Option.bind_some, b01_z, b01_a, b01_1, iz_01, iz_11, pv_def, eq_self, Bool.false_eq_true, not_true_eq_false, not_false_eq_true, if_true, if_false, if_pos, if_neg, e, optE_n, Int.toNat_natCast]
  | some a =>
    rw [ht] at e
    simp (disch := omega) only [n3_0, n3_1, n3_2, n3_3, n3_4, n3_5, n3_6, n3_7, n3_8, n3_9, n3_10, n3_11, n3_12, n3_20, n3_23, n3_24, n3_28, n3_29, n3_30, n3_31, n3_32, n3_40, n3_60, n3_120, n3_128, n3_365, n3_366, n3_400, n3_100, n3_600, n3_700, n3_900, n3_1600, n3_2000, n3_3000, n3_3600, n3_5000, n3_86400, n3_m1, n3_m600, n3_m3600, n6_0, n6_1, n6_2, n6_3, n6_4, n6_7, n6_60, n6_100, n6_365, n6_366, n6_400, n6_900, n6_1461, n6_36524, n6_146097, iz_add, iz_sub, iz_mul, iz_neg, iz_div, iz_lt, iz_le, iz_eq, iz_l, lz_i, iz_nat, lz_add, lz_sub, lz_mul, lz_div, lz_lt, lz_le, lz_eq, lc_ge, lc_le, lc_eq, Option.bind_some, b01_z, b01_a, b01_1, iz_01, iz_11, pv_def, eq_self, Bool.false_eq_true, not_true_eq_false, not_false_eq_true, if_true, if_false, if_pos, if_neg, e, optE_s, Int.toNat_natCast]
theorem gd_cR {tunes : Nat → Option Nat} {L : List Nat} {K : Nat → Nat} {h w : Nat} (hh : h < 24) (hw : w ∈ L ∧ K w = 1) : X0_changeTuneR_f w tunes L K (iz h) = some (tunes h, va_up tunes h (some w)) := by
  have e := gd_tn (tunes := tunes) hh
  unfold X0_changeTuneR_f X0_changeTuneR_b26
  cases ht : tunes h with
  | none =>
    rw [ht] at e
    simp (disch := omega) only [n3_0, n3_1, n3_2, n3_3, n3_4, n3_5, n3_6, n3_7, n3_8, n3_9, n3_10, n3_11, n3_12, n3_20, n3_23, n3_24, n3_28, n3_29, n3_30, n3_31, n3_32, n3_40, n3_60, n3_120, n3_128, n3_365, n3_366, n3_400, n3_100, n3_600, n3_700, n3_900, n3_1600, n3_2000, n3_3000, n3_3600, n3_5000, n3_86400, n3_m1, n3_m600, n3_m3600, n6_0, n6_1, n6_2, n6_3, n6_4, n6_7, n6_60, n6_100, n6_365, n6_366, n6_400, n6_900, n6_1461, n6_36524, n6_146097, iz_add, iz_sub, iz_mul, iz_neg, iz_div, iz_lt, iz_le, iz_eq, iz_l, lz_i, iz_nat, lz_add, lz_sub, lz_mul, lz_div, lz_lt, lz_le, lz_eq, lc_ge, lc_le, lc_eq, Option.bind_some, b01_z, b01_a, b01_1, iz_01, iz_11, pv_def, eq_self, Bool.false_eq_true, not_true_eq_false, not_false_eq_true, if_true, if_false, if_pos, if_neg, e, optE_n, optE_s, Int.toNat_natCast]
  | some a =>
    rw [ht] at e
    simp (disch := omega) only [n3_0, n3_1, n3_2, n3_3, n3_4, n3_5, n3_6, n3_7, n3_8, n3_9, n3_10, n3_11, n3_12, n3_20, n3_23, n3_24, n3_28, n3_29, n3_30, n3_31, n3_32, n3_40, n3_60, n3_120, n3_128, n3_365, n3_366, n3_400, n3_100, n3_600, n3_700, n3_900, n3_1600, n3_2000, n3_3000, n3_3600, n3_5000, n3_86400, n3_m1, n3_m600, n3_m3600, n6_0, n6_1, n6_2, n6_3, n6_4, n6_7, n6_60, n6_100, n6_365, n6_366, n6_400, n6_900, n6_1461, n6_36524, n6_146097, iz_add, iz_sub, iz_mul, iz_neg, iz_div, iz_lt, iz_le, iz_eq, iz_l, lz_i, iz_nat, lz_add, lz_sub, lz_mul, lz_div, lz_lt, lz_le, lz_eq, lc_ge, lc_le, lc_eq, Option.bind_some, b01_z, b01_a, b01_1, iz_01, iz_11, pv_def, eq_self, Bool.false_eq_true, not_true_eq_false, not_false_eq_true, if_true, if_false, if_pos, if_neg, e, optE_s, Int.toNat_natCast]
theorem g_29 {j0 j11 : Nat} {dsz : Int32} {tunes : Nat → Option Nat} {mdrs : Int32} {mpins mtune : Nat → Int32} {L : List Nat} {K : Nat → Nat} {nu : Nat → Int32} {ro : Nat → Nat} {pn : Nat → Int32} {rw : Nat → Nat → Int32} {dr : Nat → Nat → Option Nat} (hG : GDr j0 j11 dsz tunes mdrs mpins mtune L K nu ro pn rw dr) (ol : Nat → Int64) {i : Int} {an : Nat} (hi : 0 ≤ i ∧ i + 4 < an ∧ an ≤ 2560) (ain : Nat → Int32) {Next : ((Nat → Option Nat) × Int32 × (Nat → Int32) × (Nat → Int64)) → Prop} (hx : ∀ x1 x2 x3 x4, GDr j0 j11 dsz x1 mdrs mpins x3 L K nu ro pn rw dr → Next (x1, x2, x3, x4)) : law_29_f j11 dsz tunes mdrs mtune ol L K nu dr (iz i) an ain Next := by
  have hG0 := hG
  obtain ⟨Dn, bw, hD4, rfl, rfl, hj0, hj, hd, hbi, hri, hz, hz0, ht⟩ := hG
  obtain ⟨p, ep, p1, p2⟩ := iz_of (ain (iz i + (1 : Int32)).toNatClampNeg)
  obtain ⟨q, eq, q1, q2⟩ := iz_of (ain (iz i + (2 : Int32)).toNatClampNeg)
  unfold law_29_f
  rw [ep, eq]
  by_cases hp : 0 ≤ p ∧ p ≤ 23
  · obtain ⟨h, rfl⟩ : ∃ h : Nat, p = h := ⟨p.toNat, by omega⟩
    have hh : h < 24 := by omega
    -- what stood there before, as a number
    obtain ⟨v, ev1, ev2⟩ : ∃ v : Int, mtune h = iz v ∧ ∀ (tu : Nat → Option Nat), (optE (tunes h) (X8_setTune_b52 (-1 : Int32) tu) (fun a12 => if (a12 ∈ L ∧ K a12 = 1) then (X2_ownNumber_f a12 L K nu).bind fun v17 => X8_setTune_b52 v17.1 tu else none)) = some (Sum.inl (iz v, tu)) := by
      rcases ht h hh with ⟨c1, c2⟩ | ⟨d, c1, c2, c3⟩
      · refine ⟨-1, c2, fun tu => ?_⟩
        rw [c1]
        rfl
      · obtain ⟨k1, ⟨k2, k2'⟩, k3, k4, k5⟩ := hd d c1
        refine ⟨d, c3, fun tu => ?_⟩
        rw [c2]
        unfold X2_ownNumber_f X8_setTune_b52
        simp (disch := omega) only [n3_0, n3_1, n3_2, n3_3, n3_4, n3_5, n3_6, n3_7, n3_8, n3_9, n3_10, n3_11, n3_12, n3_20, n3_23, n3_24, n3_28, n3_29, n3_30, n3_31, n3_32, n3_40, n3_60, n3_120, n3_128, n3_365, n3_366, n3_400, n3_100, n3_600, n3_700, n3_900, n3_1600, n3_2000, n3_3000, n3_3600, n3_5000, n3_86400, n3_m1, n3_m600, n3_m3600, n6_0, n6_1, n6_2, n6_3, n6_4, n6_7, n6_60, n6_100, n6_365, n6_366, n6_400, n6_900, n6_1461, n6_36524, n6_146097, iz_add, iz_sub, iz_mul, iz_neg, iz_div, iz_lt, iz_le, iz_eq, iz_l, lz_i, iz_nat, lz_add, lz_sub, lz_mul, lz_div, lz_lt, lz_le, lz_eq, lc_ge, lc_le, lc_eq, Option.bind_some, b01_z, b01_a, b01_1, iz_01, iz_11, pv_def, eq_self, Bool.false_eq_true, not_true_eq_false, not_false_eq_true, if_true, if_false, if_pos, if_neg, optE_s, k3]
    by_cases hq : -1 ≤ q ∧ q < Dn
    · by_cases hm : q = -1
      · subst hm
        have eL : L_setTune_f j11 (iz Dn) tunes ol L K nu dr (iz h) (iz (-1)) = some (iz 0, va_up tunes h none, vp_updL ol (0 : Int32).toNatClampNeg (iz v).toInt64) := by
          have e1 := gd_cN (tunes := tunes) hh
          have e2 := ev2 (va_up tunes h none)
          have e3 : X8_setTune_f j11 (iz Dn) tunes L K nu dr (iz h) (iz (-1)) = some (Sum.inl (iz v, va_up tunes h none)) := by
            unfold X8_setTune_f
            rw [pw_hour (by omega) (by omega), Option.bind_some, if_neg (by rw [n3_0, b01_z]; exact fun h9 => h9 (by omega)), if_pos (show iz (-1) = (-1 : Int32) from rfl)]
            unfold X8_setTune_b36
            rw [optE_n, e1, Option.bind_some]
            exact e2
          unfold L_setTune_f
          rw [e3]
          rfl
        have eM : X9_setTune_f (iz Dn) mtune (iz h) (iz (-1)) = some (iz v, iz 0, upd mtune h (iz (-1))) := by
          unfold X9_setTune_f X9_fail_f
          simp (disch := omega) only [n3_0, n3_1, n3_2, n3_3, n3_4, n3_5, n3_6, n3_7, n3_8, n3_9, n3_10, n3_11, n3_12, n3_20, n3_23, n3_24, n3_28, n3_29, n3_30, n3_31, n3_32, n3_40, n3_60, n3_120, n3_128, n3_365, n3_366, n3_400, n3_100, n3_600, n3_700, n3_900, n3_1600, n3_2000, n3_3000, n3_3600, n3_5000, n3_86400, n3_m1, n3_m600, n3_m3600, n6_0, n6_1, n6_2, n6_3, n6_4, n6_7, n6_60, n6_100, n6_365, n6_366, n6_400, n6_900, n6_1461, n6_36524, n6_146097, iz_add, iz_sub, iz_mul, iz_neg, iz_div, iz_lt, iz_le, iz_eq, iz_l, lz_i, iz_nat, lz_add, lz_sub, lz_mul, lz_div, lz_lt, lz_le, lz_eq, lc_ge, lc_le, lc_eq, Option.bind_some, b01_z, b01_a, b01_1, iz_01, iz_11, pv_def, eq_self, Bool.false_eq_true, not_true_eq_false, not_false_eq_true, if_true, if_false, if_pos, if_neg, pw_isz, Int.toNat_natCast, ev1]
        refine ⟨ix1 hi, ix2 hi, _, eL, ix1 hi, ix2 hi, _, eM, _, rfl, ?_⟩
        simp (disch := omega) only [n3_0, n3_1, n3_2, n3_3, n3_4, n3_5, n3_6, n3_7, n3_8, n3_9, n3_10, n3_11, n3_12, n3_20, n3_23, n3_24, n3_28, n3_29, n3_30, n3_31, n3_32, n3_40, n3_60, n3_120, n3_128, n3_365, n3_366, n3_400, n3_100, n3_600, n3_700, n3_900, n3_1600, n3_2000, n3_3000, n3_3600, n3_5000, n3_86400, n3_m1, n3_m600, n3_m3600, n6_0, n6_1, n6_2, n6_3, n6_4, n6_7, n6_60, n6_100, n6_365, n6_366, n6_400, n6_900, n6_1461, n6_36524, n6_146097, iz_add, iz_sub, iz_mul, iz_neg, iz_div, iz_lt, iz_le, iz_eq, iz_l, lz_i, iz_nat, lz_add, lz_sub, lz_mul, lz_div, lz_lt, lz_le, lz_eq, lc_ge, lc_le, lc_eq, Option.bind_some, b01_z, b01_a, b01_1, iz_01, iz_11, pv_def, eq_self, Bool.false_eq_true, not_true_eq_false, not_false_eq_true, if_true, if_false, if_pos, if_neg, upL_s]
        refine hx _ _ _ _ ⟨Dn, bw, hD4, rfl, rfl, hj0, hj, hd, hbi, hri, hz, hz0, fun k hk => ?_⟩
        by_cases hkh : k = h
        · subst hkh
          exact Or.inl ⟨up_self _ _ _, up3_self _ _ _⟩
        · rw [up_ne _ _ hkh, up3_ne _ _ hkh]
          exact ht k hk
      · obtain ⟨d, rfl⟩ : ∃ d : Nat, q = d := ⟨q.toNat, by omega⟩
        have hdn : d < Dn := by omega
        obtain ⟨k1, ⟨k2, k2'⟩, k3, k4, k5⟩ := hd d hdn
        have eL : L_setTune_f j11 (iz Dn) tunes ol L K nu dr (iz h) (iz d) = some (iz 0, va_up tunes h (some (bw d)), vp_updL ol (0 : Int32).toNatClampNeg (iz v).toInt64) := by
          have e1 := gd_cR (tunes := tunes) hh k2
          have e2 := ev2 (va_up tunes h (some (bw d)))
          have e4 := gd_t hD4 hdn (hj (by omega)) k1 k2
          have hn : ¬ (iz (d : Int) = (-1 : Int32)) := by
            show ¬ (iz (d : Int) = iz (-1))
            rw [iz_eq (by omega) (by omega) (by omega) (by omega)]; omega
          have e3 : X8_setTune_f j11 (iz Dn) tunes L K nu dr (iz h) (iz d) = some (Sum.inl (iz v, va_up tunes h (some (bw d)))) := by
            unfold X8_setTune_f
            rw [pw_hour (by omega) (by omega), Option.bind_some, if_neg (by rw [n3_0, b01_z]; exact fun h9 => h9 (by omega)), if_neg hn, e4, bindX_l]
            unfold X8_setTune_b36
            rw [optE_s, e1, Option.bind_some]
            exact e2
          unfold L_setTune_f
          rw [e3]
          rfl
        have eM : X9_setTune_f (iz Dn) mtune (iz h) (iz d) = some (iz v, iz 0, upd mtune h (iz d)) := by
          unfold X9_setTune_f X9_fail_f
          simp (disch := omega) only [n3_0, n3_1, n3_2, n3_3, n3_4, n3_5, n3_6, n3_7, n3_8, n3_9, n3_10, n3_11, n3_12, n3_20, n3_23, n3_24, n3_28, n3_29, n3_30, n3_31, n3_32, n3_40, n3_60, n3_120, n3_128, n3_365, n3_366, n3_400, n3_100, n3_600, n3_700, n3_900, n3_1600, n3_2000, n3_3000, n3_3600, n3_5000, n3_86400, n3_m1, n3_m600, n3_m3600, n6_0, n6_1, n6_2, n6_3, n6_4, n6_7, n6_60, n6_100, n6_365, n6_366, n6_400, n6_900, n6_1461, n6_36524, n6_146097, iz_add, iz_sub, iz_mul, iz_neg, iz_div, iz_lt, iz_le, iz_eq, iz_l, lz_i, iz_nat, lz_add, lz_sub, lz_mul, lz_div, lz_lt, lz_le, lz_eq, lc_ge, lc_le, lc_eq, Option.bind_some, b01_z, b01_a, b01_1, iz_01, iz_11, pv_def, eq_self, Bool.false_eq_true, not_true_eq_false, not_false_eq_true, if_true, if_false, if_pos, if_neg, pw_isz, Int.toNat_natCast, ev1]
        refine ⟨ix1 hi, ix2 hi, _, eL, ix1 hi, ix2 hi, _, eM, _, rfl, ?_⟩
        simp (disch := omega) only [n3_0, n3_1, n3_2, n3_3, n3_4, n3_5, n3_6, n3_7, n3_8, n3_9, n3_10, n3_11, n3_12, n3_20, n3_23, n3_24, n3_28, n3_29, n3_30, n3_31, n3_32, n3_40, n3_60, n3_120, n3_128, n3_365, n3_366, n3_400, n3_100, n3_600, n3_700, n3_900, n3_1600, n3_2000, n3_3000, n3_3600, n3_5000, n3_86400, n3_m1, n3_m600, n3_m3600, n6_0, n6_1, n6_2, n6_3, n6_4, n6_7, n6_60, n6_100, n6_365, n6_366, n6_400, n6_900, n6_1461, n6_36524, n6_146097, iz_add, iz_sub, iz_mul, iz_neg, iz_div, iz_lt, iz_le, iz_eq, iz_l, lz_i, iz_nat, lz_add, lz_sub, lz_mul, lz_div, lz_lt, lz_le, lz_eq, lc_ge, lc_le, lc_eq, Option.bind_some, b01_z, b01_a, b01_1, iz_01, iz_11, pv_def, eq_self, Bool.false_eq_true, not_true_eq_false, not_false_eq_true, if_true, if_false, if_pos, if_neg, upL_s]
        refine hx _ _ _ _ ⟨Dn, bw, hD4, rfl, rfl, hj0, hj, hd, hbi, hri, hz, hz0, fun k hk => ?_⟩
        by_cases hkh : k = h
        · subst hkh
          exact Or.inr ⟨d, hdn, up_self _ _ _, up3_self _ _ _⟩
        · rw [up_ne _ _ hkh, up3_ne _ _ hkh]
          exact ht k hk
    · have hn : ¬ (iz q = (-1 : Int32)) := by
        show ¬ (iz q = iz (-1))
        rw [iz_eq q1 q2 (by omega) (by omega)]; omega
      have e4 := gd_f (j11 := j11) (L := L) (K := K) (dr := dr) hD4 q1 q2 (by omega)
      have eL : L_setTune_f j11 (iz Dn) tunes ol L K nu dr (iz h) (iz q) = some (iz 2, tunes, ol) := by
        unfold L_setTune_f X8_setTune_f
        rw [pw_hour (by omega) (by omega), Option.bind_some, if_neg (by rw [n3_0, b01_z]; exact fun h9 => h9 (by omega)), if_neg hn, e4, bindX_r, catX_r]
        simp (disch := omega) only [n3_0, n3_1, n3_2, n3_3, n3_4, n3_5, n3_6, n3_7, n3_8, n3_9, n3_10, n3_11, n3_12, n3_20, n3_23, n3_24, n3_28, n3_29, n3_30, n3_31, n3_32, n3_40, n3_60, n3_120, n3_128, n3_365, n3_366, n3_400, n3_100, n3_600, n3_700, n3_900, n3_1600, n3_2000, n3_3000, n3_3600, n3_5000, n3_86400, n3_m1, n3_m600, n3_m3600, n6_0, n6_1, n6_2, n6_3, n6_4, n6_7, n6_60, n6_100, n6_365, n6_366, n6_400, n6_900, n6_1461, n6_36524, n6_146097, iz_add, iz_sub, iz_mul, iz_neg, iz_div, iz_lt, iz_le, iz_eq, iz_l, lz_i, iz_nat, lz_add, lz_sub, lz_mul, lz_div, lz_lt, lz_le, lz_eq, lc_ge, lc_le, lc_eq, Option.bind_some, b01_z, b01_a, b01_1, iz_01, iz_11, pv_def, eq_self, Bool.false_eq_true, not_true_eq_false, not_false_eq_true, if_true, if_false, if_pos, if_neg, String.reduceEq]
      have eM : X9_setTune_f (iz Dn) mtune (iz h) (iz q) = some (iz 0, iz 2, mtune) := by
        unfold X9_setTune_f X9_fail_f
        simp (disch := omega) only [n3_0, n3_1, n3_2, n3_3, n3_4, n3_5, n3_6, n3_7, n3_8, n3_9, n3_10, n3_11, n3_12, n3_20, n3_23, n3_24, n3_28, n3_29, n3_30, n3_31, n3_32, n3_40, n3_60, n3_120, n3_128, n3_365, n3_366, n3_400, n3_100, n3_600, n3_700, n3_900, n3_1600, n3_2000, n3_3000, n3_3600, n3_5000, n3_86400, n3_m1, n3_m600, n3_m3600, n6_0, n6_1, n6_2, n6_3, n6_4, n6_7, n6_60, n6_100, n6_365, n6_366, n6_400, n6_900, n6_1461, n6_36524, n6_146097, iz_add, iz_sub, iz_mul, iz_neg, iz_div, iz_lt, iz_le, iz_eq, iz_l, lz_i, iz_nat, lz_add, lz_sub, lz_mul, lz_div, lz_lt, lz_le, lz_eq, lc_ge, lc_le, lc_eq, Option.bind_some, b01_z, b01_a, b01_1, iz_01, iz_11, pv_def, eq_self, Bool.false_eq_true, not_true_eq_false, not_false_eq_true, if_true, if_false, if_pos, if_neg, pw_isz]
      refine ⟨ix1 hi, ix2 hi, _, eL, ix1 hi, ix2 hi, _, eM, _, rfl, ?_⟩
      simp (disch := omega) only [n3_0, n3_1, n3_2, n3_3, n3_4, n3_5, n3_6, n3_7, n3_8, n3_9, n3_10, n3_11, n3_12, n3_20, n3_23, n3_24, n3_28, n3_29, n3_30, n3_31, n3_32, n3_40, n3_60, n3_120, n3_128, n3_365, n3_366, n3_400, n3_100, n3_600, n3_700, n3_900, n3_1600, n3_2000, n3_3000, n3_3600, n3_5000, n3_86400, n3_m1, n3_m600, n3_m3600, n6_0, n6_1, n6_2, n6_3, n6_4, n6_7, n6_60, n6_100, n6_365, n6_366, n6_400, n6_900, n6_1461, n6_36524, n6_146097, iz_add, iz_sub, iz_mul, iz_neg, iz_div, iz_lt, iz_le, iz_eq, iz_l, lz_i, iz_nat, lz_add, lz_sub, lz_mul, lz_div, lz_lt, lz_le, lz_eq, lc_ge, lc_le, lc_eq, Option.bind_some, b01_z, b01_a, b01_1, iz_01, iz_11, pv_def, eq_self, Bool.false_eq_true, not_true_eq_false, not_false_eq_true, if_true, if_false, if_pos, if_neg]
      exact hx _ _ _ _ hG0
  · have eL : L_setTune_f j11 (iz Dn) tunes ol L K nu dr (iz p) (iz q) = some (iz 1, tunes, ol) := by
      unfold L_setTune_f X8_setTune_f
      simp (disch := omega) only [n3_0, n3_1, n3_2, n3_3, n3_4, n3_5, n3_6, n3_7, n3_8, n3_9, n3_10, n3_11, n3_12, n3_20, n3_23, n3_24, n3_28, n3_29, n3_30, n3_31, n3_32, n3_40, n3_60, n3_120, n3_128, n3_365, n3_366, n3_400, n3_100, n3_600, n3_700, n3_900, n3_1600, n3_2000, n3_3000, n3_3600, n3_5000, n3_86400, n3_m1, n3_m600, n3_m3600, n6_0, n6_1, n6_2, n6_3, n6_4, n6_7, n6_60, n6_100, n6_365, n6_366, n6_400, n6_900, n6_1461, n6_36524, n6_146097, iz_add, iz_sub, iz_mul, iz_neg, iz_div, iz_lt, iz_le, iz_eq, iz_l, lz_i, iz_nat, lz_add, lz_sub, lz_mul, lz_div, lz_lt, lz_le, lz_eq, lc_ge, lc_le, lc_eq, Option.bind_some, b01_z, b01_a, b01_1, iz_01, iz_11, pv_def, eq_self, Bool.false_eq_true, not_true_eq_false, not_false_eq_true, if_true, if_false, if_pos, if_neg, pw_hour, catX_r]
    have eM : X9_setTune_f (iz Dn) mtune (iz p) (iz q) = some (iz 0, iz 1, mtune) := by
      unfold X9_setTune_f X9_fail_f
      simp (disch := omega) only [n3_0, n3_1, n3_2, n3_3, n3_4, n3_5, n3_6, n3_7, n3_8, n3_9, n3_10, n3_11, n3_12, n3_20, n3_23, n3_24, n3_28, n3_29, n3_30, n3_31, n3_32, n3_40, n3_60, n3_120, n3_128, n3_365, n3_366, n3_400, n3_100, n3_600, n3_700, n3_900, n3_1600, n3_2000, n3_3000, n3_3600, n3_5000, n3_86400, n3_m1, n3_m600, n3_m3600, n6_0, n6_1, n6_2, n6_3, n6_4, n6_7, n6_60, n6_100, n6_365, n6_366, n6_400, n6_900, n6_1461, n6_36524, n6_146097, iz_add, iz_sub, iz_mul, iz_neg, iz_div, iz_lt, iz_le, iz_eq, iz_l, lz_i, iz_nat, lz_add, lz_sub, lz_mul, lz_div, lz_lt, lz_le, lz_eq, lc_ge, lc_le, lc_eq, Option.bind_some, b01_z, b01_a, b01_1, iz_01, iz_11, pv_def, eq_self, Bool.false_eq_true, not_true_eq_false, not_false_eq_true, if_true, if_false, if_pos, if_neg, pw_isz]
    refine ⟨ix1 hi, ix2 hi, _, eL, ix1 hi, ix2 hi, _, eM, _, rfl, ?_⟩
    simp (disch := omega) only [n3_0, n3_1, n3_2, n3_3, n3_4, n3_5, n3_6, n3_7, n3_8, n3_9, n3_10, n3_11, n3_12, n3_20, n3_23, n3_24, n3_28, n3_29, n3_30, n3_31, n3_32, n3_40, n3_60, n3_120, n3_128, n3_365, n3_366, n3_400, n3_100, n3_600, n3_700, n3_900, n3_1600, n3_2000, n3_3000, n3_3600, n3_5000, n3_86400, n3_m1, n3_m600, n3_m3600, n6_0, n6_1, n6_2, n6_3, n6_4, n6_7, n6_60, n6_100, n6_365, n6_366, n6_400, n6_900, n6_1461, n6_36524, n6_146097, iz_add, iz_sub, iz_mul, iz_neg, iz_div, iz_lt, iz_le, iz_eq, iz_l, lz_i, iz_nat, lz_add, lz_sub, lz_mul, lz_div, lz_lt, lz_le, lz_eq, lc_ge, lc_le, lc_eq, Option.bind_some, b01_z, b01_a, b01_1, iz_01, iz_11, pv_def, eq_self, Bool.false_eq_true, not_true_eq_false, not_false_eq_true, if_true, if_false, if_pos, if_neg]
    exact hx _ _ _ _ hG0
