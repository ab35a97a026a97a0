theorem pOut_u {f : Nat → Int32} {s : Nat} (x : Int32) : ∀ (n k : Nat), k ≤ s → s < k + n → (pOut (upd f s x) n k).length + (pIn (f s) 8 1).length = (pOut f n k).length + (pIn x 8 1).length := by
  intro n
  induction n with
  | zero => intro k a b; omega
  | succ n ih =>
    intro k a b
    rw [pOut_s, pOut_s, List.length_append, List.length_append]
    by_cases h : k = s
    · subst h
      rw [up3_self, pOut_c (f := upd f k x) (g := f) n (k + 1) (fun j hj _ => up3_ne _ _ (by omega))]
      omega
    · rw [up3_ne _ _ h]
      have := ih (k + 1) (by omega) (by omega)
      omega
theorem gp_ch {a : Nat} {L : List Nat} {K : Nat → Nat} {ro : Nat → Nat} (h : DK a L K ro) (pn : Nat → Int32) (rw : Nat → Nat → Int32) {s b : Nat} (hs : s < 32) (hb : b ≤ 8) {x : Int} (hx : x = 0 ∨ x = 1) : ((pBit (rw (ro a) s) b = true ↔ x = 1) → X2_changePin_f a L K ro pn rw (iz s) (iz b) (iz x) = some (iz x, pn, rw)) ∧ (¬ (pBit (rw (ro a) s) b = true ↔ x = 1) → X2_changePin_f a L K ro pn rw (iz s) (iz b) (iz x) = some (iz (1 - x), va_up pn a (pn a + iz (2 * x - 1)), va_up rw (ro a) (upd (rw (ro a)) s (rw (ro a) s ^^^ (iz 1 <<< (iz b &&& iz 31)))))) := by
  have eh := pb_has h rw hs hb
  have h1 := h.1
  have h2 := h.2
  unfold X2_changePin_f X2_changePin_b53 X2_changePin_b57
  by_cases hp : pBit (rw (ro a) s) b = true
  · rw [b01_t hp] at eh
    rcases hx with rfl | rfl
    · refine ⟨fun h9 => absurd (h9.mp hp) (by decide), fun _ => ?_⟩
      simp (disch := omega) only [n3_0, n3_1, n3_2, n3_3, n3_4, n3_5, n3_6, n3_7, n3_8, n3_9, n3_10, n3_11, n3_12, n3_20, n3_23, n3_24, n3_28, n3_29, n3_30, n3_31, n3_32, n3_40, n3_60, n3_120, n3_128, n3_365, n3_366, n3_400, n3_100, n3_600, n3_700, n3_900, n3_1600, n3_2000, n3_3000, n3_3600, n3_5000, n3_86400, n3_m1, n3_m600, n3_m3600, n6_0, n6_1, n6_2, n6_3, n6_4, n6_7, n6_60, n6_100, n6_365, n6_366, n6_400, n6_900, n6_1461, n6_36524, n6_146097, iz_add, iz_sub, iz_mul, iz_neg, iz_div, iz_lt, iz_le, iz_eq, iz_l, lz_i, iz_nat, lz_add, lz_sub, lz_mul, lz_div, lz_lt, lz_le, lz_eq, lc_ge, lc_le, lc_eq, Option.bind_some, b01_z, b01_a, b01_1, iz_01, iz_11, pv_def, eq_self, Bool.false_eq_true, not_true_eq_false, not_false_eq_true, if_true, if_false, if_pos, if_neg, eh, Int.toNat_natCast]
      rfl
    · refine ⟨fun _ => ?_, fun h9 => absurd ⟨fun _ => rfl, fun _ => hp⟩ h9⟩
      simp (disch := omega) only [n3_0, n3_1, n3_2, n3_3, n3_4, n3_5, n3_6, n3_7, n3_8, n3_9, n3_10, n3_11, n3_12, n3_20, n3_23, n3_24, n3_28, n3_29, n3_30, n3_31, n3_32, n3_40, n3_60, n3_120, n3_128, n3_365, n3_366, n3_400, n3_100, n3_600, n3_700, n3_900, n3_1600, n3_2000, n3_3000, n3_3600, n3_5000, n3_86400, n3_m1, n3_m600, n3_m3600, n6_0, n6_1, n6_2, n6_3, n6_4, n6_7, n6_60, n6_100, n6_365, n6_366, n6_400, n6_900, n6_1461, n6_36524, n6_146097, iz_add, iz_sub, iz_mul, iz_neg, iz_div, iz_lt, iz_le, iz_eq, iz_l, lz_i, iz_nat, lz_add, lz_sub, lz_mul, lz_div, lz_lt, lz_le, lz_eq, lc_ge, lc_le, lc_eq, Option.bind_some, b01_z, b01_a, b01_1, iz_01, iz_11, pv_def, eq_self, Bool.false_eq_true, not_true_eq_false, not_false_eq_true, if_true, if_false, if_pos, if_neg, eh]
  · rw [b01_f hp] at eh
    rcases hx with rfl | rfl
    · refine ⟨fun _ => ?_, fun h9 => absurd ⟨fun h8 => absurd h8 hp, fun h8 => absurd h8 (by decide)⟩ h9⟩
      simp (disch := omega) only [n3_0, n3_1, n3_2, n3_3, n3_4, n3_5, n3_6, n3_7, n3_8, n3_9, n3_10, n3_11, n3_12, n3_20, n3_23, n3_24, n3_28, n3_29, n3_30, n3_31, n3_32, n3_40, n3_60, n3_120, n3_128, n3_365, n3_366, n3_400, n3_100, n3_600, n3_700, n3_900, n3_1600, n3_2000, n3_3000, n3_3600, n3_5000, n3_86400, n3_m1, n3_m600, n3_m3600, n6_0, n6_1, n6_2, n6_3, n6_4, n6_7, n6_60, n6_100, n6_365, n6_366, n6_400, n6_900, n6_1461, n6_36524, n6_146097, iz_add, iz_sub, iz_mul, iz_neg, iz_div, iz_lt, iz_le, iz_eq, iz_l, lz_i, iz_nat, lz_add, lz_sub, lz_mul, lz_div, lz_lt, lz_le, lz_eq, lc_ge, lc_le, lc_eq, Option.bind_some, b01_z, b01_a, b01_1, iz_01, iz_11, pv_def, eq_self, Bool.false_eq_true, not_true_eq_false, not_false_eq_true, if_true, if_false, if_pos, if_neg, eh]
    · refine ⟨fun h9 => absurd (h9.mpr rfl) hp, fun _ => ?_⟩
      simp (disch := omega) only [n3_0, n3_1, n3_2, n3_3, n3_4, n3_5, n3_6, n3_7, n3_8, n3_9, n3_10, n3_11, n3_12, n3_20, n3_23, n3_24, n3_28, n3_29, n3_30, n3_31, n3_32, n3_40, n3_60, n3_120, n3_128, n3_365, n3_366, n3_400, n3_100, n3_600, n3_700, n3_900, n3_1600, n3_2000, n3_3000, n3_3600, n3_5000, n3_86400, n3_m1, n3_m600, n3_m3600, n6_0, n6_1, n6_2, n6_3, n6_4, n6_7, n6_60, n6_100, n6_365, n6_366, n6_400, n6_900, n6_1461, n6_36524, n6_146097, iz_add, iz_sub, iz_mul, iz_neg, iz_div, iz_lt, iz_le, iz_eq, iz_l, lz_i, iz_nat, lz_add, lz_sub, lz_mul, lz_div, lz_lt, lz_le, lz_eq, lc_ge, lc_le, lc_eq, Option.bind_some, b01_z, b01_a, b01_1, iz_01, iz_11, pv_def, eq_self, Bool.false_eq_true, not_true_eq_false, not_false_eq_true, if_true, if_false, if_pos, if_neg, eh, Int.toNat_natCast]
      rfl
theorem GDr_pin {j0 j11 : Nat} {Dn : Nat} {tunes : Nat → Option Nat} {mpins mtune : Nat → Int32} {L : List Nat} {K : Nat → Nat} {nu : Nat → Int32} {ro : Nat → Nat} {pn : Nat → Int32} {rw : Nat → Nat → Int32} {dr : Nat → Nat → Option Nat} {bw : Nat → Nat} (hD4 : Dn ≤ 4) (hj0 : Dn = 0 → j11 = j0) (hj : 0 < Dn → j11 ∈ L ∧ K j11 = 3) (hd : ∀ d, d < Dn → dr j11 d = some (bw d) ∧ DD d (bw d) mpins L K nu ro pn rw) (hbi : ∀ d e, d < Dn → e < Dn → bw d = bw e → d = e) (hri : ∀ d e, d < Dn → e < Dn → ro (bw d) = ro (bw e) → d = e) (hz : ∀ i, i < 128 → ∃ z : Nat, z < 256 ∧ mpins i = iz (2 * (z : Int))) (hz0 : ∀ i, 32 * Dn ≤ i → i < 128 → mpins i = iz 0) (ht : ∀ h, h < 24 → (tunes h = none ∧ mtune h = iz (-1)) ∨ ∃ d : Nat, d < Dn ∧ tunes h = some (bw d) ∧ mtune h = iz d) {d s : Nat} (hdn : d < Dn) (hs : s < 32) {y : Nat} (hy : y < 256) : GDr j0 j11 (iz Dn) tunes (iz Dn) (upd mpins (32 * d + s) (iz (2 * (y : Int)))) mtune L K nu ro (va_up pn (bw d) (iz (pOut (upd (fun s => mpins (32 * d + s)) s (iz (2 * (y : Int)))) 32 0).length)) (va_up rw (ro (bw d)) (upd (rw (ro (bw d))) s (iz (2 * (y : Int))))) dr := by
  refine ⟨Dn, bw, hD4, rfl, rfl, hj0, hj, ?_, hbi, hri, ?_, ?_, ht⟩
  · intro e he
    obtain ⟨k1, k2, k3, k4, k5⟩ := hd e he
    refine ⟨k1, k2, k3, ?_, ?_⟩
    · intro j hj9
      by_cases h : e = d
      · subst h
        rw [up_self]
        by_cases h9 : j = s
        · rw [h9, up3_self, up3_self]
        · rw [up3_ne _ _ h9, up3_ne _ _ (by omega)]
          exact k4 j hj9
      · rw [up_ne _ _ (fun h9 => h (hri e d he hdn h9)), up3_ne _ _ (by omega)]
        exact k4 j hj9
    · by_cases h : e = d
      · subst h
        rw [up_self]
        congr 3
        refine pOut_c 32 0 (fun j _ hj9 => ?_)
        by_cases h9 : j = s
        · rw [h9, up3_self, up3_self]
        · rw [up3_ne _ _ h9, up3_ne _ _ (by omega)]
      · rw [up_ne _ _ (fun h9 => h (hbi e d he hdn h9)), k5]
        congr 3
        refine pOut_c 32 0 (fun j _ hj9 => ?_)
        rw [up3_ne _ _ (by omega)]
  · intro i hi
    by_cases h : i = 32 * d + s
    · rw [h, up3_self]; exact ⟨y, hy, rfl⟩
    · rw [up3_ne _ _ h]; exact hz i hi
  · intro i h1 h2
    rw [up3_ne _ _ (by omega)]
    exact hz0 i h1 h2
theorem gp_9f {Dn : Nat} (hD : Dn ≤ 4) (mpins : Nat → Int32) {p q r x : Int} (p1 : -2147483648 ≤ p) (p2 : p ≤ 2147483647) (q1 : -2147483648 ≤ q) (q2 : q ≤ 2147483647) (r1 : -2147483648 ≤ r) (r2 : r ≤ 2147483647) : (¬ (0 ≤ p ∧ p < Dn) → X9_setPin_f (iz Dn) mpins (iz p) (iz q) (iz r) (iz x) = some (iz 0, iz 1, mpins)) ∧ ((0 ≤ p ∧ p < Dn) → ¬ ((0 ≤ q ∧ q ≤ 31) ∧ (1 ≤ r ∧ r ≤ 8)) → X9_setPin_f (iz Dn) mpins (iz p) (iz q) (iz r) (iz x) = some (iz 0, iz 2, mpins)) := by
  unfold X9_setPin_f X9_setPin_b35 X9_setPin_b36
  refine ⟨fun h => ?_, fun h h' => ?_⟩
  · simp (disch := omega) only [n3_0, n3_1, n3_2, n3_3, n3_4, n3_5, n3_6, n3_7, n3_8, n3_9, n3_10, n3_11, n3_12, n3_20, n3_23, n3_24, n3_28, n3_29, n3_30, n3_31, n3_32, n3_40, n3_60, n3_120, n3_128, n3_365, n3_366, n3_400, n3_100, n3_600, n3_700, n3_900, n3_1600, n3_2000, n3_3000, n3_3600, n3_5000, n3_86400, n3_m1, n3_m600, n3_m3600, n6_0, n6_1, n6_2, n6_3, n6_4, n6_7, n6_60, n6_100, n6_365, n6_366, n6_400, n6_900, n6_1461, n6_36524, n6_146097, iz_add, iz_sub, iz_mul, iz_neg, iz_div, iz_lt, iz_le, iz_eq, iz_l, lz_i, iz_nat, lz_add, lz_sub, lz_mul, lz_div, lz_lt, lz_le, lz_eq, lc_ge, lc_le, lc_eq, Option.bind_some, b01_z, b01_a, b01_1, iz_01, iz_11, pv_def, eq_self, Bool.false_eq_true, not_true_eq_false, not_false_eq_true, if_true, if_false, if_pos, if_neg, gd_nf]
  · by_cases hq : 0 ≤ q ∧ q ≤ 31
    · simp (disch := omega) only [n3_0, n3_1, n3_2, n3_3, n3_4, n3_5, n3_6, n3_7, n3_8, n3_9, n3_10, n3_11, n3_12, n3_20, n3_23, n3_24, n3_28, n3_29, n3_30, n3_31, n3_32, n3_40, n3_60, n3_120, n3_128, n3_365, n3_366, n3_400, n3_100, n3_600, n3_700, n3_900, n3_1600, n3_2000, n3_3000, n3_3600, n3_5000, n3_86400, n3_m1, n3_m600, n3_m3600, n6_0, n6_1, n6_2, n6_3, n6_4, n6_7, n6_60, n6_100, n6_365, n6_366, n6_400, n6_900, n6_1461, n6_36524, n6_146097, iz_add, iz_sub, iz_mul, iz_neg, iz_div, iz_lt, iz_le, iz_eq, iz_l, lz_i, iz_nat, lz_add, lz_sub, lz_mul, lz_div, lz_lt, lz_le, lz_eq, lc_ge, lc_le, lc_eq, Option.bind_some, b01_z, b01_a, b01_1, iz_01, iz_11, pv_def, eq_self, Bool.false_eq_true, not_true_eq_false, not_false_eq_true, if_true, if_false, if_pos, if_neg, gd_nt, pw_isz]
    · simp (disch := omega) only [n3_0, n3_1, n3_2, n3_3, n3_4, n3_5, n3_6, n3_7, n3_8, n3_9, n3_10, n3_11, n3_12, n3_20, n3_23, n3_24, n3_28, n3_29, n3_30, n3_31, n3_32, n3_40, n3_60, n3_120, n3_128, n3_365, n3_366, n3_400, n3_100, n3_600, n3_700, n3_900, n3_1600, n3_2000, n3_3000, n3_3600, n3_5000, n3_86400, n3_m1, n3_m600, n3_m3600, n6_0, n6_1, n6_2, n6_3, n6_4, n6_7, n6_60, n6_100, n6_365, n6_366, n6_400, n6_900, n6_1461, n6_36524, n6_146097, iz_add, iz_sub, iz_mul, iz_neg, iz_div, iz_lt, iz_le, iz_eq, iz_l, lz_i, iz_nat, lz_add, lz_sub, lz_mul, lz_div, lz_lt, lz_le, lz_eq, lc_ge, lc_le, lc_eq, Option.bind_some, b01_z, b01_a, b01_1, iz_01, iz_11, pv_def, eq_self, Bool.false_eq_true, not_true_eq_false, not_false_eq_true, if_true, if_false, if_pos, if_neg, gd_nt, pw_isz]
theorem gp_9 {Dn : Nat} (hD : Dn ≤ 4) (mpins : Nat → Int32) {d s b : Nat} (hd : d < Dn) (hs : s < 32) (hb1 : 1 ≤ b) (hb : b ≤ 8) {x : Int} (hx : x = 0 ∨ x = 1) : ((pBit (mpins (32 * d + s)) b = true ↔ x = 1) → X9_setPin_f (iz Dn) mpins (iz d) (iz s) (iz b) (iz x) = some (iz x, iz 0, mpins)) ∧ (¬ (pBit (mpins (32 * d + s)) b = true ↔ x = 1) → X9_setPin_f (iz Dn) mpins (iz d) (iz s) (iz b) (iz x) = some (iz (1 - x), iz 0, upd mpins (32 * d + s) (mpins (32 * d + s) ^^^ (iz 1 <<< (iz b &&& iz 31))))) := by
  have e1 : (32 * (d : Int) + (s : Int)).toNat = 32 * d + s := by omega
  unfold X9_setPin_f X9_setPin_b35 X9_setPin_b36 X9_setPin_b76 X9_setPin_b98
  by_cases hp : pBit (mpins (32 * d + s)) b = true
  · rcases hx with rfl | rfl
    · refine ⟨fun h9 => absurd (h9.mp hp) (by decide), fun _ => ?_⟩
      simp (disch := omega) only [n3_0, n3_1, n3_2, n3_3, n3_4, n3_5, n3_6, n3_7, n3_8, n3_9, n3_10, n3_11, n3_12, n3_20, n3_23, n3_24, n3_28, n3_29, n3_30, n3_31, n3_32, n3_40, n3_60, n3_120, n3_128, n3_365, n3_366, n3_400, n3_100, n3_600, n3_700, n3_900, n3_1600, n3_2000, n3_3000, n3_3600, n3_5000, n3_86400, n3_m1, n3_m600, n3_m3600, n6_0, n6_1, n6_2, n6_3, n6_4, n6_7, n6_60, n6_100, n6_365, n6_366, n6_400, n6_900, n6_1461, n6_36524, n6_146097, iz_add, iz_sub, iz_mul, iz_neg, iz_div, iz_lt, iz_le, iz_eq, iz_l, lz_i, iz_nat, lz_add, lz_sub, lz_mul, lz_div, lz_lt, lz_le, lz_eq, lc_ge, lc_le, lc_eq, Option.bind_some, b01_z, b01_a, b01_1, iz_01, iz_11, pv_def, eq_self, Bool.false_eq_true, not_true_eq_false, not_false_eq_true, if_true, if_false, if_pos, if_neg, gd_nt, pw_isz, e1, pBit_e, hp]
      rfl
    · refine ⟨fun _ => ?_, fun h9 => absurd ⟨fun _ => rfl, fun _ => hp⟩ h9⟩
      simp (disch := omega) only [n3_0, n3_1, n3_2, n3_3, n3_4, n3_5, n3_6, n3_7, n3_8, n3_9, n3_10, n3_11, n3_12, n3_20, n3_23, n3_24, n3_28, n3_29, n3_30, n3_31, n3_32, n3_40, n3_60, n3_120, n3_128, n3_365, n3_366, n3_400, n3_100, n3_600, n3_700, n3_900, n3_1600, n3_2000, n3_3000, n3_3600, n3_5000, n3_86400, n3_m1, n3_m600, n3_m3600, n6_0, n6_1, n6_2, n6_3, n6_4, n6_7, n6_60, n6_100, n6_365, n6_366, n6_400, n6_900, n6_1461, n6_36524, n6_146097, iz_add, iz_sub, iz_mul, iz_neg, iz_div, iz_lt, iz_le, iz_eq, iz_l, lz_i, iz_nat, lz_add, lz_sub, lz_mul, lz_div, lz_lt, lz_le, lz_eq, lc_ge, lc_le, lc_eq, Option.bind_some, b01_z, b01_a, b01_1, iz_01, iz_11, pv_def, eq_self, Bool.false_eq_true, not_true_eq_false, not_false_eq_true, if_true, if_false, if_pos, if_neg, gd_nt, pw_isz, e1, pBit_e, hp]
  · rcases hx with rfl | rfl
    · refine ⟨fun _ => ?_, fun h9 => absurd ⟨fun h8 => absurd h8 hp, fun h8 => absurd h8 (by decide)⟩ h9⟩
      simp (disch := omega) only [n3_0, n3_1, n3_2, n3_3, n3_4, n3_5, n3_6, n3_7, n3_8, n3_9, n3_10, n3_11, n3_12, n3_20, n3_23, n3_24, n3_28, n3_29, n3_30, n3_31, n3_32, n3_40, n3_60, n3_120, n3_128, n3_365, n3_366, n3_400, n3_100, n3_600, n3_700, n3_900, n3_1600, n3_2000, n3_3000, n3_3600, n3_5000, n3_86400, n3_m1, n3_m600, n3_m3600, n6_0, n6_1, n6_2, n6_3, n6_4, n6_7, n6_60, n6_100, n6_365, n6_366, n6_400, n6_900, n6_1461, n6_36524, n6_146097, iz_add, iz_sub, iz_mul, iz_neg, iz_div, iz_lt, iz_le, iz_eq, iz_l, lz_i, iz_nat, lz_add, lz_sub, lz_mul, lz_div, lz_lt, lz_le, lz_eq, lc_ge, lc_le, lc_eq, Option.bind_some, b01_z, b01_a, b01_1, iz_01, iz_11, pv_def, eq_self, Bool.false_eq_true, not_true_eq_false, not_false_eq_true, if_true, if_false, if_pos, if_neg, gd_nt, pw_isz, e1, pBit_e, hp]
    · refine ⟨fun h9 => absurd (h9.mpr rfl) hp, fun _ => ?_⟩
      simp (disch := omega) only [n3_0, n3_1, n3_2, n3_3, n3_4, n3_5, n3_6, n3_7, n3_8, n3_9, n3_10, n3_11, n3_12, n3_20, n3_23, n3_24, n3_28, n3_29, n3_30, n3_31, n3_32, n3_40, n3_60, n3_120, n3_128, n3_365, n3_366, n3_400, n3_100, n3_600, n3_700, n3_900, n3_1600, n3_2000, n3_3000, n3_3600, n3_5000, n3_86400, n3_m1, n3_m600, n3_m3600, n6_0, n6_1, n6_2, n6_3, n6_4, n6_7, n6_60, n6_100, n6_365, n6_366, n6_400, n6_900, n6_1461, n6_36524, n6_146097, iz_add, iz_sub, iz_mul, iz_neg, iz_div, iz_lt, iz_le, iz_eq, iz_l, lz_i, iz_nat, lz_add, lz_sub, lz_mul, lz_div, lz_lt, lz_le, lz_eq, lc_ge, lc_le, lc_eq, Option.bind_some, b01_z, b01_a, b01_1, iz_01, iz_11, pv_def, eq_self, Bool.false_eq_true, not_true_eq_false, not_false_eq_true, if_true, if_false, if_pos, if_neg, gd_nt, pw_isz, e1, pBit_e, hp]
      rfl
theorem g_26x {j0 j11 : Nat} {dsz : Int32} {tunes : Nat → Option Nat} {mdrs : Int32} {mpins mtune : Nat → Int32} {L : List Nat} {K : Nat → Nat} {nu : Nat → Int32} {ro : Nat → Nat} {pn : Nat → Int32} {rw : Nat → Nat → Int32} {dr : Nat → Nat → Option Nat} (hG : GDr j0 j11 dsz tunes mdrs mpins mtune L K nu ro pn rw dr) (ol : Nat → Int64) {x : Int} (hx : x = 0 ∨ x = 1) (p q r : Int32) : (∃ (w : Int) (pn' : Nat → Int32) (rw' : Nat → Nat → Int32) (mpins' : Nat → Int32), (w = 0 ∨ w = 1) ∧ L_setPin_f j11 dsz ol L K ro pn rw dr p q r (iz x) = some (iz 0, vp_updL ol (0 : Int32).toNatClampNeg (lz w), pn', rw') ∧ X9_setPin_f mdrs mpins p q r (iz x) = some (iz w, iz 0, mpins') ∧ GDr j0 j11 dsz tunes mdrs mpins' mtune L K nu ro pn' rw' dr) ∨ (∃ k : Int, (k = 1 ∨ k = 2) ∧ L_setPin_f j11 dsz ol L K ro pn rw dr p q r (iz x) = some (iz k, ol, pn, rw) ∧ X9_setPin_f mdrs mpins p q r (iz x) = some (iz 0, iz k, mpins)) := by
  have hG0 := hG
  obtain ⟨Dn, bw, hD4, rfl, rfl, hj0, hj, hd, hbi, hri, hz, hz0, ht⟩ := hG
  obtain ⟨p, rfl, p1, p2⟩ := iz_of p
  obtain ⟨q, rfl, q1, q2⟩ := iz_of q
  obtain ⟨r, rfl, r1, r2⟩ := iz_of r
  obtain ⟨f1, f2⟩ := gp_9f (x := x) hD4 mpins p1 p2 q1 q2 r1 r2
  by_cases h : 0 ≤ p ∧ p < Dn
  · obtain ⟨d, rfl⟩ : ∃ d : Nat, p = d := ⟨p.toNat, by omega⟩
    have hdn : d < Dn := by omega
    obtain ⟨k1, k2, k3, k4, k5⟩ := hd d hdn
    have k21 := k2.1
    have e1 := gd_t hD4 hdn (hj (by omega)) k1 k2.1
    by_cases h' : (0 ≤ q ∧ q ≤ 31) ∧ (1 ≤ r ∧ r ≤ 8)
    · obtain ⟨s, rfl⟩ : ∃ s : Nat, q = s := ⟨q.toNat, by omega⟩
      obtain ⟨b, rfl⟩ : ∃ b : Nat, r = b := ⟨r.toNat, by omega⟩
      have hs : s < 32 := by omega
      left
      obtain ⟨c1, c2⟩ := gp_ch k2 pn rw hs (b := b) (by omega) hx
      obtain ⟨m1, m2⟩ := gp_9 hD4 mpins hdn hs (b := b) (by omega) (by omega) hx
      have ers := k4 s hs
      rw [ers] at c1 c2
      have x01 := iz_g (q := x) (by omega) (by omega)
      have y01 := iz_g (q := 1 - x) (by omega) (by omega)
      by_cases hs9 : pBit (mpins (32 * d + s)) b = true ↔ x = 1
      · have e2 := c1 hs9
        refine ⟨x, pn, rw, mpins, hx, ?_, m1 hs9, hG0⟩
        unfold L_setPin_f X8_setPin_f X8_setPin_b27 L_setPin_b20
        rcases hx with rfl | rfl
        · simp (disch := omega) only [n3_0, n3_1, n3_2, n3_3, n3_4, n3_5, n3_6, n3_7, n3_8, n3_9, n3_10, n3_11, n3_12, n3_20, n3_23, n3_24, n3_28, n3_29, n3_30, n3_31, n3_32, n3_40, n3_60, n3_120, n3_128, n3_365, n3_366, n3_400, n3_100, n3_600, n3_700, n3_900, n3_1600, n3_2000, n3_3000, n3_3600, n3_5000, n3_86400, n3_m1, n3_m600, n3_m3600, n6_0, n6_1, n6_2, n6_3, n6_4, n6_7, n6_60, n6_100, n6_365, n6_366, n6_400, n6_900, n6_1461, n6_36524, n6_146097, iz_add, iz_sub, iz_mul, iz_neg, iz_div, iz_lt, iz_le, iz_eq, iz_l, lz_i, iz_nat, lz_add, lz_sub, lz_mul, lz_div, lz_lt, lz_le, lz_eq, lc_ge, lc_le, lc_eq, Option.bind_some, b01_z, b01_a, b01_1, iz_01, iz_11, pv_def, eq_self, Bool.false_eq_true, not_true_eq_false, not_false_eq_true, if_true, if_false, if_pos, if_neg, e1, bindX_l, optE_s, pw_inz, e2, catX_l]
        · simp (disch := omega) only [n3_0, n3_1, n3_2, n3_3, n3_4, n3_5, n3_6, n3_7, n3_8, n3_9, n3_10, n3_11, n3_12, n3_20, n3_23, n3_24, n3_28, n3_29, n3_30, n3_31, n3_32, n3_40, n3_60, n3_120, n3_128, n3_365, n3_366, n3_400, n3_100, n3_600, n3_700, n3_900, n3_1600, n3_2000, n3_3000, n3_3600, n3_5000, n3_86400, n3_m1, n3_m600, n3_m3600, n6_0, n6_1, n6_2, n6_3, n6_4, n6_7, n6_60, n6_100, n6_365, n6_366, n6_400, n6_900, n6_1461, n6_36524, n6_146097, iz_add, iz_sub, iz_mul, iz_neg, iz_div, iz_lt, iz_le, iz_eq, iz_l, lz_i, iz_nat, lz_add, lz_sub, lz_mul, lz_div, lz_lt, lz_le, lz_eq, lc_ge, lc_le, lc_eq, Option.bind_some, b01_z, b01_a, b01_1, iz_01, iz_11, pv_def, eq_self, Bool.false_eq_true, not_true_eq_false, not_false_eq_true, if_true, if_false, if_pos, if_neg, e1, bindX_l, optE_s, pw_inz, e2, catX_l]
      · have e2 := c2 hs9
        obtain ⟨z, z1, z2⟩ := hz (32 * d + s) (by omega)
        obtain ⟨t1, t2, t3⟩ := pb_tg z z1 b (by omega) (by omega)
        have et : mpins (32 * d + s) ^^^ (iz 1 <<< (iz b &&& iz 31)) = iz (2 * (((pTg z b).toNatClampNeg / 2 : Nat) : Int)) := by
          rw [z2]; exact t1
        have hu := pOut_u (f := fun s => mpins (32 * d + s)) (s := s) (pTg z b) 32 0 (by omega) (by omega)
        rw [← z2] at t3
        have el : pn (bw d) + iz (2 * x - 1) = iz (pOut (upd (fun s => mpins (32 * d + s)) s (iz (2 * (((pTg z b).toNatClampNeg / 2 : Nat) : Int)))) 32 0).length := by
          rw [k5, iz_add, ← t1]
          congr 1
          rcases hx with rfl | rfl
          · have hp : pBit (mpins (32 * d + s)) b = true := by
              apply Classical.byContradiction
              intro h9
              exact hs9 ⟨fun h8 => absurd h8 h9, fun h8 => absurd h8 (by decide)⟩
            rw [if_pos hp, if_pos hp] at t3
            omega
          · have hp : ¬ pBit (mpins (32 * d + s)) b = true := fun h9 => hs9 ⟨fun _ => rfl, fun _ => h9⟩
            rw [if_neg hp, if_neg hp] at t3
            omega
        refine ⟨1 - x, va_up pn (bw d) (pn (bw d) + iz (2 * x - 1)), va_up rw (ro (bw d)) (upd (rw (ro (bw d))) s (mpins (32 * d + s) ^^^ (iz 1 <<< (iz b &&& iz 31)))), upd mpins (32 * d + s) (mpins (32 * d + s) ^^^ (iz 1 <<< (iz b &&& iz 31))), by omega, ?_, m2 hs9, ?_⟩
        · unfold L_setPin_f X8_setPin_f X8_setPin_b27 L_setPin_b20
          rcases hx with rfl | rfl
          · simp (disch := omega) only [n3_0, n3_1, n3_2, n3_3, n3_4, n3_5, n3_6, n3_7, n3_8, n3_9, n3_10, n3_11, n3_12, n3_20, n3_23, n3_24, n3_28, n3_29, n3_30, n3_31, n3_32, n3_40, n3_60, n3_120, n3_128, n3_365, n3_366, n3_400, n3_100, n3_600, n3_700, n3_900, n3_1600, n3_2000, n3_3000, n3_3600, n3_5000, n3_86400, n3_m1, n3_m600, n3_m3600, n6_0, n6_1, n6_2, n6_3, n6_4, n6_7, n6_60, n6_100, n6_365, n6_366, n6_400, n6_900, n6_1461, n6_36524, n6_146097, iz_add, iz_sub, iz_mul, iz_neg, iz_div, iz_lt, iz_le, iz_eq, iz_l, lz_i, iz_nat, lz_add, lz_sub, lz_mul, lz_div, lz_lt, lz_le, lz_eq, lc_ge, lc_le, lc_eq, Option.bind_some, b01_z, b01_a, b01_1, iz_01, iz_11, pv_def, eq_self, Bool.false_eq_true, not_true_eq_false, not_false_eq_true, if_true, if_false, if_pos, if_neg, e1, bindX_l, optE_s, pw_inz, e2, y01, catX_l]
            rfl
          · simp (disch := omega) only [n3_0, n3_1, n3_2, n3_3, n3_4, n3_5, n3_6, n3_7, n3_8, n3_9, n3_10, n3_11, n3_12, n3_20, n3_23, n3_24, n3_28, n3_29, n3_30, n3_31, n3_32, n3_40, n3_60, n3_120, n3_128, n3_365, n3_366, n3_400, n3_100, n3_600, n3_700, n3_900, n3_1600, n3_2000, n3_3000, n3_3600, n3_5000, n3_86400, n3_m1, n3_m600, n3_m3600, n6_0, n6_1, n6_2, n6_3, n6_4, n6_7, n6_60, n6_100, n6_365, n6_366, n6_400, n6_900, n6_1461, n6_36524, n6_146097, iz_add, iz_sub, iz_mul, iz_neg, iz_div, iz_lt, iz_le, iz_eq, iz_l, lz_i, iz_nat, lz_add, lz_sub, lz_mul, lz_div, lz_lt, lz_le, lz_eq, lc_ge, lc_le, lc_eq, Option.bind_some, b01_z, b01_a, b01_1, iz_01, iz_11, pv_def, eq_self, Bool.false_eq_true, not_true_eq_false, not_false_eq_true, if_true, if_false, if_pos, if_neg, e1, bindX_l, optE_s, pw_inz, e2, y01, catX_l]
            rfl
        · rw [el, et]
          exact GDr_pin hD4 hj0 hj hd hbi hri hz hz0 ht hdn hs t2
    · right
      refine ⟨2, Or.inr rfl, ?_, f2 h h'⟩
      unfold L_setPin_f X8_setPin_f X8_setPin_b27
      by_cases hq : 0 ≤ q ∧ q ≤ 31
      · simp (disch := omega) only [n3_0, n3_1, n3_2, n3_3, n3_4, n3_5, n3_6, n3_7, n3_8, n3_9, n3_10, n3_11, n3_12, n3_20, n3_23, n3_24, n3_28, n3_29, n3_30, n3_31, n3_32, n3_40, n3_60, n3_120, n3_128, n3_365, n3_366, n3_400, n3_100, n3_600, n3_700, n3_900, n3_1600, n3_2000, n3_3000, n3_3600, n3_5000, n3_86400, n3_m1, n3_m600, n3_m3600, n6_0, n6_1, n6_2, n6_3, n6_4, n6_7, n6_60, n6_100, n6_365, n6_366, n6_400, n6_900, n6_1461, n6_36524, n6_146097, iz_add, iz_sub, iz_mul, iz_neg, iz_div, iz_lt, iz_le, iz_eq, iz_l, lz_i, iz_nat, lz_add, lz_sub, lz_mul, lz_div, lz_lt, lz_le, lz_eq, lc_ge, lc_le, lc_eq, Option.bind_some, b01_z, b01_a, b01_1, iz_01, iz_11, pv_def, eq_self, Bool.false_eq_true, not_true_eq_false, not_false_eq_true, if_true, if_false, if_pos, if_neg, e1, bindX_l, optE_s, pw_inz, catX_r, String.reduceEq]
      · simp (disch := omega) only [n3_0, n3_1, n3_2, n3_3, n3_4, n3_5, n3_6, n3_7, n3_8, n3_9, n3_10, n3_11, n3_12, n3_20, n3_23, n3_24, n3_28, n3_29, n3_30, n3_31, n3_32, n3_40, n3_60, n3_120, n3_128, n3_365, n3_366, n3_400, n3_100, n3_600, n3_700, n3_900, n3_1600, n3_2000, n3_3000, n3_3600, n3_5000, n3_86400, n3_m1, n3_m600, n3_m3600, n6_0, n6_1, n6_2, n6_3, n6_4, n6_7, n6_60, n6_100, n6_365, n6_366, n6_400, n6_900, n6_1461, n6_36524, n6_146097, iz_add, iz_sub, iz_mul, iz_neg, iz_div, iz_lt, iz_le, iz_eq, iz_l, lz_i, iz_nat, lz_add, lz_sub, lz_mul, lz_div, lz_lt, lz_le, lz_eq, lc_ge, lc_le, lc_eq, Option.bind_some, b01_z, b01_a, b01_1, iz_01, iz_11, pv_def, eq_self, Bool.false_eq_true, not_true_eq_false, not_false_eq_true, if_true, if_false, if_pos, if_neg, e1, bindX_l, optE_s, pw_inz, catX_r, String.reduceEq]
  · right
    refine ⟨1, Or.inl rfl, ?_, f1 h⟩
    unfold L_setPin_f X8_setPin_f
    simp (disch := omega) only [n3_0, n3_1, n3_2, n3_3, n3_4, n3_5, n3_6, n3_7, n3_8, n3_9, n3_10, n3_11, n3_12, n3_20, n3_23, n3_24, n3_28, n3_29, n3_30, n3_31, n3_32, n3_40, n3_60, n3_120, n3_128, n3_365, n3_366, n3_400, n3_100, n3_600, n3_700, n3_900, n3_1600, n3_2000, n3_3000, n3_3600, n3_5000, n3_86400, n3_m1, n3_m600, n3_m3600, n6_0, n6_1, n6_2, n6_3, n6_4, n6_7, n6_60, n6_100, n6_365, n6_366, n6_400, n6_900, n6_1461, n6_36524, n6_146097, iz_add, iz_sub, iz_mul, iz_neg, iz_div, iz_lt, iz_le, iz_eq, iz_l, lz_i, iz_nat, lz_add, lz_sub, lz_mul, lz_div, lz_lt, lz_le, lz_eq, lc_ge, lc_le, lc_eq, Option.bind_some, b01_z, b01_a, b01_1, iz_01, iz_11, pv_def, eq_self, Bool.false_eq_true, not_true_eq_false, not_false_eq_true, if_true, if_false, if_pos, if_neg, gd_f, bindX_r, catX_r]
theorem g_26 {j0 j11 : Nat} {dsz : Int32} {tunes : Nat → Option Nat} {mdrs : Int32} {mpins mtune : Nat → Int32} {L : List Nat} {K : Nat → Nat} {nu : Nat → Int32} {ro : Nat → Nat} {pn : Nat → Int32} {rw : Nat → Nat → Int32} {dr : Nat → Nat → Option Nat} (hG : GDr j0 j11 dsz tunes mdrs mpins mtune L K nu ro pn rw dr) (ol : Nat → Int64) {i : Int} {an : Nat} (hi : 0 ≤ i ∧ i + 4 < an ∧ an ≤ 2560) (ain : Nat → Int32) {Next : (Int32 × (Nat → Int32) × (Nat → Int64) × (Nat → Int32) × (Nat → Nat → Int32)) → Prop} (hx : ∀ x1 x2 x3 x4 x5, GDr j0 j11 dsz tunes mdrs x2 mtune L K nu ro x4 x5 dr → Next (x1, x2, x3, x4, x5)) : law_26_f j11 dsz mdrs mpins ol L K ro pn rw dr (iz i) an ain Next := by
  have key : ∀ x : Int, (x = 0 ∨ x = 1) → ((ain (iz i + (4 : Int32)).toNatClampNeg = (0 : Int32)) ↔ x = 0) → law_26_b1446 Next j11 dsz mdrs mpins ol L K ro pn rw dr (iz i) an ain (iz x) := by
    intro x hx9 hiff
    have kk : ∀ (v : Int32) (b3 : Nat → Int64) (b4 : Nat → Int32) (b5 : Nat → Nat → Int32), law_26_b1485 Next mdrs mpins (iz i) ain v (iz x) b3 b4 b5 → (if ain (iz i + (4 : Int32)).toNatClampNeg = (0 : Int32) then law_26_b1485 Next mdrs mpins (iz i) ain v (0 : Int32) b3 b4 b5 else law_26_b1485 Next mdrs mpins (iz i) ain v (1 : Int32) b3 b4 b5) := by
      intro v b3 b4 b5 h
      rcases hx9 with rfl | rfl
      · rw [if_pos (hiff.mpr rfl)]; exact h
      · rw [if_neg (fun h9 => absurd (hiff.mp h9) (by decide))]; exact h
    unfold law_26_b1446
    rcases g_26x hG ol hx9 (ain (iz i + (1 : Int32)).toNatClampNeg) (ain (iz i + (2 : Int32)).toNatClampNeg) (ain (iz i + (3 : Int32)).toNatClampNeg) with ⟨w, pn', rw', mp', hw, eL, eM, hG'⟩ | ⟨k, hk, eL, eM⟩
    · refine ⟨_, eL, ix1 hi, ix2 hi, ix3 hi, ix4 hi, kk _ _ _ _ ?_⟩
      unfold law_26_b1485 law_26_b1519
      refine ⟨_, eM, _, rfl, ?_⟩
      rcases hw with rfl | rfl
      · simp (disch := omega) only [n3_0, n3_1, n3_2, n3_3, n3_4, n3_5, n3_6, n3_7, n3_8, n3_9, n3_10, n3_11, n3_12, n3_20, n3_23, n3_24, n3_28, n3_29, n3_30, n3_31, n3_32, n3_40, n3_60, n3_120, n3_128, n3_365, n3_366, n3_400, n3_100, n3_600, n3_700, n3_900, n3_1600, n3_2000, n3_3000, n3_3600, n3_5000, n3_86400, n3_m1, n3_m600, n3_m3600, n6_0, n6_1, n6_2, n6_3, n6_4, n6_7, n6_60, n6_100, n6_365, n6_366, n6_400, n6_900, n6_1461, n6_36524, n6_146097, iz_add, iz_sub, iz_mul, iz_neg, iz_div, iz_lt, iz_le, iz_eq, iz_l, lz_i, iz_nat, lz_add, lz_sub, lz_mul, lz_div, lz_lt, lz_le, lz_eq, lc_ge, lc_le, lc_eq, Option.bind_some, b01_z, b01_a, b01_1, iz_01, iz_11, pv_def, eq_self, Bool.false_eq_true, not_true_eq_false, not_false_eq_true, if_true, if_false, if_pos, if_neg, upL_s]
        exact hx _ _ _ _ _ hG'
      · simp (disch := omega) only [n3_0, n3_1, n3_2, n3_3, n3_4, n3_5, n3_6, n3_7, n3_8, n3_9, n3_10, n3_11, n3_12, n3_20, n3_23, n3_24, n3_28, n3_29, n3_30, n3_31, n3_32, n3_40, n3_60, n3_120, n3_128, n3_365, n3_366, n3_400, n3_100, n3_600, n3_700, n3_900, n3_1600, n3_2000, n3_3000, n3_3600, n3_5000, n3_86400, n3_m1, n3_m600, n3_m3600, n6_0, n6_1, n6_2, n6_3, n6_4, n6_7, n6_60, n6_100, n6_365, n6_366, n6_400, n6_900, n6_1461, n6_36524, n6_146097, iz_add, iz_sub, iz_mul, iz_neg, iz_div, iz_lt, iz_le, iz_eq, iz_l, lz_i, iz_nat, lz_add, lz_sub, lz_mul, lz_div, lz_lt, lz_le, lz_eq, lc_ge, lc_le, lc_eq, Option.bind_some, b01_z, b01_a, b01_1, iz_01, iz_11, pv_def, eq_self, Bool.false_eq_true, not_true_eq_false, not_false_eq_true, if_true, if_false, if_pos, if_neg, upL_s]
        exact hx _ _ _ _ _ hG'
    · refine ⟨_, eL, ix1 hi, ix2 hi, ix3 hi, ix4 hi, kk _ _ _ _ ?_⟩
      unfold law_26_b1485 law_26_b1519
      refine ⟨_, eM, _, rfl, ?_⟩
      rcases hk with rfl | rfl
      · simp (disch := omega) only [n3_0, n3_1, n3_2, n3_3, n3_4, n3_5, n3_6, n3_7, n3_8, n3_9, n3_10, n3_11, n3_12, n3_20, n3_23, n3_24, n3_28, n3_29, n3_30, n3_31, n3_32, n3_40, n3_60, n3_120, n3_128, n3_365, n3_366, n3_400, n3_100, n3_600, n3_700, n3_900, n3_1600, n3_2000, n3_3000, n3_3600, n3_5000, n3_86400, n3_m1, n3_m600, n3_m3600, n6_0, n6_1, n6_2, n6_3, n6_4, n6_7, n6_60, n6_100, n6_365, n6_366, n6_400, n6_900, n6_1461, n6_36524, n6_146097, iz_add, iz_sub, iz_mul, iz_neg, iz_div, iz_lt, iz_le, iz_eq, iz_l, lz_i, iz_nat, lz_add, lz_sub, lz_mul, lz_div, lz_lt, lz_le, lz_eq, lc_ge, lc_le, lc_eq, Option.bind_some, b01_z, b01_a, b01_1, iz_01, iz_11, pv_def, eq_self, Bool.false_eq_true, not_true_eq_false, not_false_eq_true, if_true, if_false, if_pos, if_neg]
        exact hx _ _ _ _ _ hG
      · simp (disch := omega) only [n3_0, n3_1, n3_2, n3_3, n3_4, n3_5, n3_6, n3_7, n3_8, n3_9, n3_10, n3_11, n3_12, n3_20, n3_23, n3_24, n3_28, n3_29, n3_30, n3_31, n3_32, n3_40, n3_60, n3_120, n3_128, n3_365, n3_366, n3_400, n3_100, n3_600, n3_700, n3_900, n3_1600, n3_2000, n3_3000, n3_3600, n3_5000, n3_86400, n3_m1, n3_m600, n3_m3600, n6_0, n6_1, n6_2, n6_3, n6_4, n6_7, n6_60, n6_100, n6_365, n6_366, n6_400, n6_900, n6_1461, n6_36524, n6_146097, iz_add, iz_sub, iz_mul, iz_neg, iz_div, iz_lt, iz_le, iz_eq, iz_l, lz_i, iz_nat, lz_add, lz_sub, lz_mul, lz_div, lz_lt, lz_le, lz_eq, lc_ge, lc_le, lc_eq, Option.bind_some, b01_z, b01_a, b01_1, iz_01, iz_11, pv_def, eq_self, Bool.false_eq_true, not_true_eq_false, not_false_eq_true, if_true, if_false, if_pos, if_neg]
        exact hx _ _ _ _ _ hG
  unfold law_26_f
  refine ⟨ix1 hi, ix2 hi, ix3 hi, ix4 hi, ?_⟩
  by_cases h : ain (iz i + (4 : Int32)).toNatClampNeg = (0 : Int32)
  · rw [if_pos h]
    exact key 0 (Or.inl rfl) ⟨fun _ => rfl, fun _ => h⟩
  · rw [if_neg h]
    exact key 1 (Or.inr rfl) ⟨fun h9 => absurd h9 h, fun h9 => absurd h9 (by decide)⟩
