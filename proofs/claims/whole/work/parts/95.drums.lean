theorem optE_n {β : Type} (A : Option β) (B : Nat → Option β) : optE none A B = A := rfl
theorem optE_s {β : Type} (a : Nat) (A : Option β) (B : Nat → Option β) : optE (some a) A B = B a := rfl
def DD (d a : Nat) (mpins : Nat → Int32) (L : List Nat) (K : Nat → Nat) (nu : Nat → Int32) (ro : Nat → Nat) (pn : Nat → Int32) (rw : Nat → Nat → Int32) : Prop :=
  DK a L K ro ∧ nu a = iz d ∧ (∀ s, s < 32 → rw (ro a) s = mpins (32 * d + s)) ∧ pn a = iz (pOut (fun s => mpins (32 * d + s)) 32 0).length
def GDr (j0 j11 : Nat) (dsz : Int32) (tunes : Nat → Option Nat) (mdrs : Int32) (mpins mtune : Nat → Int32) (L : List Nat) (K : Nat → Nat) (nu : Nat → Int32) (ro : Nat → Nat) (pn : Nat → Int32) (rw : Nat → Nat → Int32) (dr : Nat → Nat → Option Nat) : Prop :=
  ∃ (Dn : Nat) (bw : Nat → Nat), Dn ≤ 4 ∧ dsz = iz Dn ∧ mdrs = iz Dn ∧ (Dn = 0 → j11 = j0) ∧ (0 < Dn → j11 ∈ L ∧ K j11 = 3) ∧ (∀ d, d < Dn → dr j11 d = some (bw d) ∧ DD d (bw d) mpins L K nu ro pn rw) ∧ (∀ d e, d < Dn → e < Dn → bw d = bw e → d = e) ∧ (∀ d e, d < Dn → e < Dn → ro (bw d) = ro (bw e) → d = e) ∧ (∀ i, i < 128 → ∃ z : Nat, z < 256 ∧ mpins i = iz (2 * (z : Int))) ∧ (∀ i, 32 * Dn ≤ i → i < 128 → mpins i = iz 0) ∧ (∀ h, h < 24 → (tunes h = none ∧ mtune h = iz (-1)) ∨ ∃ d : Nat, d < Dn ∧ tunes h = some (bw d) ∧ mtune h = iz d)
theorem GDr_mono {j0 j11 : Nat} {dsz : Int32} {tunes : Nat → Option Nat} {mdrs : Int32} {mpins mtune : Nat → Int32} {L : List Nat} {K : Nat → Nat} {nu : Nat → Int32} {ro : Nat → Nat} {pn : Nat → Int32} {rw : Nat → Nat → Int32} {dr : Nat → Nat → Option Nat} (hG : GDr j0 j11 dsz tunes mdrs mpins mtune L K nu ro pn rw dr) {L' : List Nat} {K' : Nat → Nat} (hm : ∀ x, x ∈ L → x ∈ L' ∧ K' x = K x) : GDr j0 j11 dsz tunes mdrs mpins mtune L' K' nu ro pn rw dr := by
  obtain ⟨Dn, bw, hD4, rfl, rfl, hj0, hj, hd, hbi, hri, hz, hz0, ht⟩ := hG
  refine ⟨Dn, bw, hD4, rfl, rfl, hj0, fun h => ?_, fun d h => ?_, hbi, hri, hz, hz0, ht⟩
  · have h1 := hj h
    have h2 := hm _ h1.1
    exact ⟨h2.1, h2.2.trans h1.2⟩
  · obtain ⟨h1, ⟨⟨h2, h3⟩, h4, h5⟩, h6⟩ := hd d h
    have k1 := hm _ h2
    have k2 := hm _ h4
    exact ⟨h1, ⟨⟨k1.1, k1.2.trans h3⟩, k2.1, k2.2.trans h5⟩, h6⟩
theorem GTr_mono {ct : Int} {bp : Int64} {wsz : Int32} {wrow : Nat → Option Nat} {mwhe : Int32} {mbeats : Int64} {mteeth mleaves : Nat → Int32} {moffs : Nat → Int64} {L : List Nat} {K : Nat → Nat} {te le tb : Nat → Int32} {mb : Nat → Int64} (hG : GTr ct bp wsz wrow mwhe mbeats mteeth mleaves moffs L K te le tb mb) {L' : List Nat} {K' : Nat → Nat} (hm : ∀ x, x ∈ L → x ∈ L' ∧ K' x = K x) : GTr ct bp wsz wrow mwhe mbeats mteeth mleaves moffs L' K' te le tb mb := by
  obtain ⟨W, aw, D, Q, O, Z, B, w1, w6, rfl, rfl, rfl, rfl, b0, b1, hW, hA, hM, hZ0, hZ⟩ := hG
  refine ⟨W, aw, D, Q, O, Z, B, w1, w6, rfl, rfl, rfl, rfl, b0, b1, hW, ⟨fun i h => ?_, hA.2⟩, hM, hZ0, hZ⟩
  obtain ⟨c1, ⟨c2, c3⟩, c4⟩ := hA.1 i h
  have k1 := hm _ c2
  exact ⟨c1, ⟨k1.1, k1.2.trans c3⟩, c4⟩
def tlf (mtune mpins : Nat → Int32) (h : Nat) : List Nat := if mtune h = iz (-1) then [] else pOut (fun s => mpins (32 * (mtune h).toInt.toNat + s)) 32 0
theorem tlf_n {mtune : Nat → Int32} (mpins : Nat → Int32) {h : Nat} (e : mtune h = iz (-1)) : tlf mtune mpins h = [] := if_pos e
theorem tlf_d {mtune : Nat → Int32} (mpins : Nat → Int32) {h d : Nat} (hd : d < 4) (e : mtune h = iz d) : tlf mtune mpins h = pOut (fun s => mpins (32 * d + s)) 32 0 := by
  have e1 : ¬ (mtune h = iz (-1)) := by
    rw [e, iz_eq (by omega) (by omega) (by omega) (by omega)]; omega
  unfold tlf
  rw [if_neg e1, e, iz_toInt (by omega) (by omega), Int.toNat_natCast]
theorem GDr_tl {j0 j11 : Nat} {dsz : Int32} {tunes : Nat → Option Nat} {mdrs : Int32} {mpins mtune : Nat → Int32} {L : List Nat} {K : Nat → Nat} {nu : Nat → Int32} {ro : Nat → Nat} {pn : Nat → Int32} {rw : Nat → Nat → Int32} {dr : Nat → Nat → Option Nat} (hG : GDr j0 j11 dsz tunes mdrs mpins mtune L K nu ro pn rw dr) : BT (tlf mtune mpins) tunes L K ro pn rw ∧ RT (tlf mtune mpins) mtune mpins ∧ TLok (tlf mtune mpins) := by
  obtain ⟨Dn, bw, hD4, rfl, rfl, hj0, hj, hd, hbi, hri, hz, hz0, ht⟩ := hG
  refine ⟨fun h hh => ?_, fun h hh => ?_, fun h => ?_⟩
  · rcases ht h hh with ⟨h1, h2⟩ | ⟨d, h1, h2, h3⟩
    · exact Or.inl ⟨h1, tlf_n mpins h2⟩
    · obtain ⟨k1, k2, k3, k4, k5⟩ := hd d h1
      refine Or.inr ⟨bw d, h2, k2, ?_, ?_⟩
      · rw [k5, tlf_d mpins (by omega) h3]
      · rw [tlf_d mpins (by omega) h3]
        exact pOut_c 32 0 (fun s _ hs => k4 s (by omega))
  · rcases ht h hh with ⟨h1, h2⟩ | ⟨d, h1, h2, h3⟩
    · exact Or.inl ⟨h2, tlf_n mpins h2⟩
    · exact Or.inr ⟨d, by omega, h3, (tlf_d mpins (by omega) h3).symm⟩
  · unfold tlf
    split
    · exact ⟨Nat.zero_le _, fun y hy => absurd hy List.not_mem_nil⟩
    · exact ⟨pOut_len _ 32 0, pOut_b _ 32 0⟩
theorem gd_t {j11 : Nat} {L : List Nat} {K : Nat → Nat} {dr : Nat → Nat → Option Nat} {Dn : Nat} (hD : Dn ≤ 4) {d a : Nat} (h : d < Dn) (hj : j11 ∈ L ∧ K j11 = 3) (e : dr j11 d = some a) (ha : a ∈ L ∧ K a = 1) : X8_requireDrum_f j11 (iz Dn) L K dr (iz d) = some (Sum.inl (some a, ())) := by
  unfold X8_requireDrum_f X0_drumOrNull_f X0_drumOrNull_b29 X0_drumOrNull_b30 Jx4a65c_size_O_f Jx4a65c_get_P_f J15_checkIndex_7cf53_f J3_checkIndex_8e157_f J3_checkIndex_8e157_b9 Jx4a65c_elementData_P_f
  simp (disch := omega) only [n3_0, n3_1, n3_2, n3_3, n3_4, n3_5, n3_6, n3_7, n3_8, n3_9, n3_10, n3_11, n3_12, n3_20, n3_23, n3_24, n3_28, n3_29, n3_30, n3_31, n3_32, n3_40, n3_60, n3_120, n3_128, n3_365, n3_366, n3_400, n3_100, n3_600, n3_700, n3_900, n3_1600, n3_2000, n3_3000, n3_3600, n3_5000, n3_86400, n3_m1, n3_m600, n3_m3600, n6_0, n6_1, n6_2, n6_3, n6_4, n6_7, n6_60, n6_100, n6_365, n6_366, n6_400, n6_900, n6_1461, n6_36524, n6_146097, iz_add, iz_sub, iz_mul, iz_neg, iz_div, iz_lt, iz_le, iz_eq, iz_l, lz_i, iz_nat, lz_add, lz_sub, lz_mul, lz_div, lz_lt, lz_le, lz_eq, lc_ge, lc_le, lc_eq, Option.bind_some, b01_z, b01_a, b01_1, iz_01, iz_11, pv_def, eq_self, Bool.false_eq_true, not_true_eq_false, not_false_eq_true, if_true, if_false, if_pos, if_neg, Int.toNat_natCast, e, optE_s]
theorem gd_f {j11 : Nat} {L : List Nat} {K : Nat → Nat} {dr : Nat → Nat → Option Nat} {Dn : Nat} (hD : Dn ≤ 4) {z : Int} (z1 : -2147483648 ≤ z) (z2 : z ≤ 2147483647) (h : ¬ (0 ≤ z ∧ z < Dn)) : X8_requireDrum_f j11 (iz Dn) L K dr (iz z) = some (Sum.inr "java/lang/IndexOutOfBoundsException") := by
  unfold X8_requireDrum_f X0_drumOrNull_f X0_drumOrNull_b29 X0_drumOrNull_b30 Jx4a65c_size_O_f
  by_cases h0 : z < 0
  · simp (disch := omega) only [n3_0, n3_1, n3_2, n3_3, n3_4, n3_5, n3_6, n3_7, n3_8, n3_9, n3_10, n3_11, n3_12, n3_20, n3_23, n3_24, n3_28, n3_29, n3_30, n3_31, n3_32, n3_40, n3_60, n3_120, n3_128, n3_365, n3_366, n3_400, n3_100, n3_600, n3_700, n3_900, n3_1600, n3_2000, n3_3000, n3_3600, n3_5000, n3_86400, n3_m1, n3_m600, n3_m3600, n6_0, n6_1, n6_2, n6_3, n6_4, n6_7, n6_60, n6_100, n6_365, n6_366, n6_400, n6_900, n6_1461, n6_36524, n6_146097, iz_add, iz_sub, iz_mul, iz_neg, iz_div, iz_lt, iz_le, iz_eq, iz_l, lz_i, iz_nat, lz_add, lz_sub, lz_mul, lz_div, lz_lt, lz_le, lz_eq, lc_ge, lc_le, lc_eq, Option.bind_some, b01_z, b01_a, b01_1, iz_01, iz_11, pv_def, eq_self, Bool.false_eq_true, not_true_eq_false, not_false_eq_true, if_true, if_false, if_pos, if_neg, optE_n]
  · simp (disch := omega) only [n3_0, n3_1, n3_2, n3_3, n3_4, n3_5, n3_6, n3_7, n3_8, n3_9, n3_10, n3_11, n3_12, n3_20, n3_23, n3_24, n3_28, n3_29, n3_30, n3_31, n3_32, n3_40, n3_60, n3_120, n3_128, n3_365, n3_366, n3_400, n3_100, n3_600, n3_700, n3_900, n3_1600, n3_2000, n3_3000, n3_3600, n3_5000, n3_86400, n3_m1, n3_m600, n3_m3600, n6_0, n6_1, n6_2, n6_3, n6_4, n6_7, n6_60, n6_100, n6_365, n6_366, n6_400, n6_900, n6_1461, n6_36524, n6_146097, iz_add, iz_sub, iz_mul, iz_neg, iz_div, iz_lt, iz_le, iz_eq, iz_l, lz_i, iz_nat, lz_add, lz_sub, lz_mul, lz_div, lz_lt, lz_le, lz_eq, lc_ge, lc_le, lc_eq, Option.bind_some, b01_z, b01_a, b01_1, iz_01, iz_11, pv_def, eq_self, Bool.false_eq_true, not_true_eq_false, not_false_eq_true, if_true, if_false, if_pos, if_neg, optE_n]
theorem gd_nt {Dn : Nat} (hD : Dn ≤ 4) {z : Int} (h : 0 ≤ z ∧ z < Dn) : X9_noDrum_f (iz Dn) (iz z) = some (iz 0, iz 0) := by
  unfold X9_noDrum_f X9_noDrum_b20 X9_noDrum_b35
  simp (disch := omega) only [n3_0, n3_1, n3_2, n3_3, n3_4, n3_5, n3_6, n3_7, n3_8, n3_9, n3_10, n3_11, n3_12, n3_20, n3_23, n3_24, n3_28, n3_29, n3_30, n3_31, n3_32, n3_40, n3_60, n3_120, n3_128, n3_365, n3_366, n3_400, n3_100, n3_600, n3_700, n3_900, n3_1600, n3_2000, n3_3000, n3_3600, n3_5000, n3_86400, n3_m1, n3_m600, n3_m3600, n6_0, n6_1, n6_2, n6_3, n6_4, n6_7, n6_60, n6_100, n6_365, n6_366, n6_400, n6_900, n6_1461, n6_36524, n6_146097, iz_add, iz_sub, iz_mul, iz_neg, iz_div, iz_lt, iz_le, iz_eq, iz_l, lz_i, iz_nat, lz_add, lz_sub, lz_mul, lz_div, lz_lt, lz_le, lz_eq, lc_ge, lc_le, lc_eq, Option.bind_some, b01_z, b01_a, b01_1, iz_01, iz_11, pv_def, eq_self, Bool.false_eq_true, not_true_eq_false, not_false_eq_true, if_true, if_false, if_pos, if_neg, pw_isz]
theorem gd_nf {Dn : Nat} (hD : Dn ≤ 4) {z : Int} (h1 : -2147483648 ≤ z) (h2 : z ≤ 2147483647) (h : ¬ (0 ≤ z ∧ z < Dn)) : X9_noDrum_f (iz Dn) (iz z) = some (iz 1, iz 1) := by
  unfold X9_noDrum_f X9_noDrum_b20 X9_noDrum_b35
  simp (disch := omega) only [n3_0, n3_1, n3_2, n3_3, n3_4, n3_5, n3_6, n3_7, n3_8, n3_9, n3_10, n3_11, n3_12, n3_20, n3_23, n3_24, n3_28, n3_29, n3_30, n3_31, n3_32, n3_40, n3_60, n3_120, n3_128, n3_365, n3_366, n3_400, n3_100, n3_600, n3_700, n3_900, n3_1600, n3_2000, n3_3000, n3_3600, n3_5000, n3_86400, n3_m1, n3_m600, n3_m3600, n6_0, n6_1, n6_2, n6_3, n6_4, n6_7, n6_60, n6_100, n6_365, n6_366, n6_400, n6_900, n6_1461, n6_36524, n6_146097, iz_add, iz_sub, iz_mul, iz_neg, iz_div, iz_lt, iz_le, iz_eq, iz_l, lz_i, iz_nat, lz_add, lz_sub, lz_mul, lz_div, lz_lt, lz_le, lz_eq, lc_ge, lc_le, lc_eq, Option.bind_some, b01_z, b01_a, b01_1, iz_01, iz_11, pv_def, eq_self, Bool.false_eq_true, not_true_eq_false, not_false_eq_true, if_true, if_false, if_pos, if_neg, pw_isz]
theorem g_27 {N : Nat} (hN : 150000 ≤ N) {j0 j11 : Nat} {dsz : Int32} {tunes : Nat → Option Nat} {mdrs : Int32} {mpins mtune : Nat → Int32} {L : List Nat} {K : Nat → Nat} {nu : Nat → Int32} {ro : Nat → Nat} {pn : Nat → Int32} {rw : Nat → Nat → Int32} {dr : Nat → Nat → Option Nat} (hG : GDr j0 j11 dsz tunes mdrs mpins mtune L K nu ro pn rw dr) (ol : Nat → Int64) {i : Int} {an : Nat} (hi : 0 ≤ i ∧ i + 4 < an ∧ an ≤ 2560) (ain : Nat → Int32) {Next : (Int32 × (Nat → Int64)) → Prop} (hx : ∀ u, Next u) : law_27_f N j11 dsz mdrs mpins ol L K pn dr (iz i) an ain Next := by
  obtain ⟨Dn, bw, hD4, rfl, rfl, hj0, hj, hd, hbi, hri, hz, hz0, ht⟩ := hG
  obtain ⟨p, ep, p1, p2⟩ := iz_of (ain (iz i + (1 : Int32)).toNatClampNeg)
  unfold law_27_f
  rw [ep]
  by_cases h : 0 ≤ p ∧ p < Dn
  · obtain ⟨d, rfl⟩ : ∃ d : Nat, p = d := ⟨p.toNat, by omega⟩
    obtain ⟨k1, ⟨k2, k2'⟩, k3, k4, k5⟩ := hd d (by omega)
    have e1 := gd_t hD4 (by omega) (hj (by omega)) k1 k2
    have e2 := pb_L14 mpins (d := d) (by omega) (fun s hs => hz _ (by omega)) (iz 0) N 32 0 0 (by omega) (by omega)
    have e3 : X9_pins_L14 mpins (iz d) N (iz 0) (iz 0) (iz 0) = _ := e2
    have eL : L_pins_f j11 (iz Dn) ol L K pn dr (iz d) = some (iz 0, vp_updL ol (0 : Int32).toNatClampNeg (iz (pOut (fun s => mpins (32 * d + s)) 32 0).length).toInt64) := by
      unfold L_pins_f X8_pins_f X2_pinCount_f
      simp (disch := omega) only [n3_0, n3_1, n3_2, n3_3, n3_4, n3_5, n3_6, n3_7, n3_8, n3_9, n3_10, n3_11, n3_12, n3_20, n3_23, n3_24, n3_28, n3_29, n3_30, n3_31, n3_32, n3_40, n3_60, n3_120, n3_128, n3_365, n3_366, n3_400, n3_100, n3_600, n3_700, n3_900, n3_1600, n3_2000, n3_3000, n3_3600, n3_5000, n3_86400, n3_m1, n3_m600, n3_m3600, n6_0, n6_1, n6_2, n6_3, n6_4, n6_7, n6_60, n6_100, n6_365, n6_366, n6_400, n6_900, n6_1461, n6_36524, n6_146097, iz_add, iz_sub, iz_mul, iz_neg, iz_div, iz_lt, iz_le, iz_eq, iz_l, lz_i, iz_nat, lz_add, lz_sub, lz_mul, lz_div, lz_lt, lz_le, lz_eq, lc_ge, lc_le, lc_eq, Option.bind_some, b01_z, b01_a, b01_1, iz_01, iz_11, pv_def, eq_self, Bool.false_eq_true, not_true_eq_false, not_false_eq_true, if_true, if_false, if_pos, if_neg, e1, bindX_l, k5, catX_l]
    have eM : X9_pins_f N (iz Dn) mpins (iz d) = some (iz (0 + (pOut (fun s => mpins (32 * d + s)) 32 0).length), iz 0) := by
      unfold X9_pins_f
      simp (disch := omega) only [n3_0, n3_1, n3_2, n3_3, n3_4, n3_5, n3_6, n3_7, n3_8, n3_9, n3_10, n3_11, n3_12, n3_20, n3_23, n3_24, n3_28, n3_29, n3_30, n3_31, n3_32, n3_40, n3_60, n3_120, n3_128, n3_365, n3_366, n3_400, n3_100, n3_600, n3_700, n3_900, n3_1600, n3_2000, n3_3000, n3_3600, n3_5000, n3_86400, n3_m1, n3_m600, n3_m3600, n6_0, n6_1, n6_2, n6_3, n6_4, n6_7, n6_60, n6_100, n6_365, n6_366, n6_400, n6_900, n6_1461, n6_36524, n6_146097, iz_add, iz_sub, iz_mul, iz_neg, iz_div, iz_lt, iz_le, iz_eq, iz_l, lz_i, iz_nat, lz_add, lz_sub, lz_mul, lz_div, lz_lt, lz_le, lz_eq, lc_ge, lc_le, lc_eq, Option.bind_some, b01_z, b01_a, b01_1, iz_01, iz_11, pv_def, eq_self, Bool.false_eq_true, not_true_eq_false, not_false_eq_true, if_true, if_false, if_pos, if_neg, gd_nt, e3]
    rw [Int.zero_add] at eM
    refine ⟨ix1 hi, _, eL, ix1 hi, _, eM, _, rfl, ?_⟩
    simp (disch := omega) only [n3_0, n3_1, n3_2, n3_3, n3_4, n3_5, n3_6, n3_7, n3_8, n3_9, n3_10, n3_11, n3_12, n3_20, n3_23, n3_24, n3_28, n3_29, n3_30, n3_31, n3_32, n3_40, n3_60, n3_120, n3_128, n3_365, n3_366, n3_400, n3_100, n3_600, n3_700, n3_900, n3_1600, n3_2000, n3_3000, n3_3600, n3_5000, n3_86400, n3_m1, n3_m600, n3_m3600, n6_0, n6_1, n6_2, n6_3, n6_4, n6_7, n6_60, n6_100, n6_365, n6_366, n6_400, n6_900, n6_1461, n6_36524, n6_146097, iz_add, iz_sub, iz_mul, iz_neg, iz_div, iz_lt, iz_le, iz_eq, iz_l, lz_i, iz_nat, lz_add, lz_sub, lz_mul, lz_div, lz_lt, lz_le, lz_eq, lc_ge, lc_le, lc_eq, Option.bind_some, b01_z, b01_a, b01_1, iz_01, iz_11, pv_def, eq_self, Bool.false_eq_true, not_true_eq_false, not_false_eq_true, if_true, if_false, if_pos, if_neg, upL_s]
    exact hx _
  · have eL : L_pins_f j11 (iz Dn) ol L K pn dr (iz p) = some (iz 1, ol) := by
      unfold L_pins_f X8_pins_f
      simp (disch := omega) only [n3_0, n3_1, n3_2, n3_3, n3_4, n3_5, n3_6, n3_7, n3_8, n3_9, n3_10, n3_11, n3_12, n3_20, n3_23, n3_24, n3_28, n3_29, n3_30, n3_31, n3_32, n3_40, n3_60, n3_120, n3_128, n3_365, n3_366, n3_400, n3_100, n3_600, n3_700, n3_900, n3_1600, n3_2000, n3_3000, n3_3600, n3_5000, n3_86400, n3_m1, n3_m600, n3_m3600, n6_0, n6_1, n6_2, n6_3, n6_4, n6_7, n6_60, n6_100, n6_365, n6_366, n6_400, n6_900, n6_1461, n6_36524, n6_146097, iz_add, iz_sub, iz_mul, iz_neg, iz_div, iz_lt, iz_le, iz_eq, iz_l, lz_i, iz_nat, lz_add, lz_sub, lz_mul, lz_div, lz_lt, lz_le, lz_eq, lc_ge, lc_le, lc_eq, Option.bind_some, b01_z, b01_a, b01_1, iz_01, iz_11, pv_def, eq_self, Bool.false_eq_true, not_true_eq_false, not_false_eq_true, if_true, if_false, if_pos, if_neg, gd_f, bindX_r, catX_r]
    have eM : X9_pins_f N (iz Dn) mpins (iz p) = some (iz 0, iz 1) := by
      unfold X9_pins_f
      simp (disch := omega) only [n3_0, n3_1, n3_2, n3_3, n3_4, n3_5, n3_6, n3_7, n3_8, n3_9, n3_10, n3_11, n3_12, n3_20, n3_23, n3_24, n3_28, n3_29, n3_30, n3_31, n3_32, n3_40, n3_60, n3_120, n3_128, n3_365, n3_366, n3_400, n3_100, n3_600, n3_700, n3_900, n3_1600, n3_2000, n3_3000, n3_3600, n3_5000, n3_86400, n3_m1, n3_m600, n3_m3600, n6_0, n6_1, n6_2, n6_3, n6_4, n6_7, n6_60, n6_100, n6_365, n6_366, n6_400, n6_900, n6_1461, n6_36524, n6_146097, iz_add, iz_sub, iz_mul, iz_neg, iz_div, iz_lt, iz_le, iz_eq, iz_l, lz_i, iz_nat, lz_add, lz_sub, lz_mul, lz_div, lz_lt, lz_le, lz_eq, lc_ge, lc_le, lc_eq, Option.bind_some, b01_z, b01_a, b01_1, iz_01, iz_11, pv_def, eq_self, Bool.false_eq_true, not_true_eq_false, not_false_eq_true, if_true, if_false, if_pos, if_neg, gd_nf]
    refine ⟨ix1 hi, _, eL, ix1 hi, _, eM, _, rfl, ?_⟩
    simp (disch := omega) only [n3_0, n3_1, n3_2, n3_3, n3_4, n3_5, n3_6, n3_7, n3_8, n3_9, n3_10, n3_11, n3_12, n3_20, n3_23, n3_24, n3_28, n3_29, n3_30, n3_31, n3_32, n3_40, n3_60, n3_120, n3_128, n3_365, n3_366, n3_400, n3_100, n3_600, n3_700, n3_900, n3_1600, n3_2000, n3_3000, n3_3600, n3_5000, n3_86400, n3_m1, n3_m600, n3_m3600, n6_0, n6_1, n6_2, n6_3, n6_4, n6_7, n6_60, n6_100, n6_365, n6_366, n6_400, n6_900, n6_1461, n6_36524, n6_146097, iz_add, iz_sub, iz_mul, iz_neg, iz_div, iz_lt, iz_le, iz_eq, iz_l, lz_i, iz_nat, lz_add, lz_sub, lz_mul, lz_div, lz_lt, lz_le, lz_eq, lc_ge, lc_le, lc_eq, Option.bind_some, b01_z, b01_a, b01_1, iz_01, iz_11, pv_def, eq_self, Bool.false_eq_true, not_true_eq_false, not_false_eq_true, if_true, if_false, if_pos, if_neg]
    exact hx _
theorem g_28 {N : Nat} (hN : 150000 ≤ N) {j0 j11 : Nat} {dsz : Int32} {tunes : Nat → Option Nat} {mdrs : Int32} {mpins mtune : Nat → Int32} {L : List Nat} {K : Nat → Nat} {nu : Nat → Int32} {ro : Nat → Nat} {pn : Nat → Int32} {rw : Nat → Nat → Int32} {dr : Nat → Nat → Option Nat} (hG : GDr j0 j11 dsz tunes mdrs mpins mtune L K nu ro pn rw dr) (ol : Nat → Int64) {i : Int} {an : Nat} (hi : 0 ≤ i ∧ i + 4 < an ∧ an ≤ 2560) (ain : Nat → Int32) {Next : (Int32 × (Nat → Int64)) → Prop} (hx : ∀ u, Next u) : law_28_f N j11 dsz mdrs mpins ol L K ro pn rw dr (iz i) an ain Next := by
  obtain ⟨Dn, bw, hD4, rfl, rfl, hj0, hj, hd, hbi, hri, hz, hz0, ht⟩ := hG
  obtain ⟨p, ep, p1, p2⟩ := iz_of (ain (iz i + (1 : Int32)).toNatClampNeg)
  obtain ⟨q, eq, q1, q2⟩ := iz_of (ain (iz i + (2 : Int32)).toNatClampNeg)
  unfold law_28_f
  rw [ep, eq]
  by_cases h : 0 ≤ p ∧ p < Dn
  · obtain ⟨d, rfl⟩ : ∃ d : Nat, p = d := ⟨p.toNat, by omega⟩
    obtain ⟨k1, ⟨k2, k2'⟩, k3, k4, k5⟩ := hd d (by omega)
    have e1 := gd_t hD4 (by omega) (hj (by omega)) k1 k2
    have ec : pOut (rw (ro (bw d))) 32 0 = pOut (fun s => mpins (32 * d + s)) 32 0 := pOut_c 32 0 (fun s _ hs => k4 s (by omega))
    have e2 := pb_L15 (N := N) (by omega) mpins (d := d) (by omega) q1 q2 (iz 0) N 32 0 0 (by omega) (by omega) (by omega) (by omega)
    have e3 : X9_bellAt_L15 N mpins (iz d) (iz q) N (iz 0) (iz 0) (iz 0) = _ := e2
    rw [show q - 0 = q from by omega] at e3
    have hl := pOut_len (fun s => mpins (32 * d + s)) 32 0
    by_cases hq : 0 ≤ q ∧ q ≤ (pOut (fun s => mpins (32 * d + s)) 32 0).length - 1
    · obtain ⟨y, ey⟩ := pick_some (pOut (fun s => mpins (32 * d + s)) 32 0) q hq.1 (by omega)
      have e4 := pb_bell (N := N) (by omega) ⟨k2, k2'⟩ rw (q := q) hq.1 q2
      rw [ec, ey] at e4
      rw [ey] at e3
      have e4' : X2_bellOfPin_f N (bw d) L K ro rw (iz q) = some (iz y, ()) := e4
      have e3' : X9_bellAt_L15 N mpins (iz d) (iz q) N (iz 0) (iz 0) (iz 0) = some (iz y, iz 0) := e3
      have eL : L_bellAt_f N j11 (iz Dn) ol L K ro pn rw dr (iz d) (iz q) = some (iz 0, vp_updL ol (0 : Int32).toNatClampNeg (iz y).toInt64) := by
        unfold L_bellAt_f X8_bellAt_f X2_pinCount_f
        simp (disch := omega) only [n3_0, n3_1, n3_2, n3_3, n3_4, n3_5, n3_6, n3_7, n3_8, n3_9, n3_10, n3_11, n3_12, n3_20, n3_23, n3_24, n3_28, n3_29, n3_30, n3_31, n3_32, n3_40, n3_60, n3_120, n3_128, n3_365, n3_366, n3_400, n3_100, n3_600, n3_700, n3_900, n3_1600, n3_2000, n3_3000, n3_3600, n3_5000, n3_86400, n3_m1, n3_m600, n3_m3600, n6_0, n6_1, n6_2, n6_3, n6_4, n6_7, n6_60, n6_100, n6_365, n6_366, n6_400, n6_900, n6_1461, n6_36524, n6_146097, iz_add, iz_sub, iz_mul, iz_neg, iz_div, iz_lt, iz_le, iz_eq, iz_l, lz_i, iz_nat, lz_add, lz_sub, lz_mul, lz_div, lz_lt, lz_le, lz_eq, lc_ge, lc_le, lc_eq, Option.bind_some, b01_z, b01_a, b01_1, iz_01, iz_11, pv_def, eq_self, Bool.false_eq_true, not_true_eq_false, not_false_eq_true, if_true, if_false, if_pos, if_neg, e1, bindX_l, optE_s, k5, pw_inz, e4', catX_l]
      have eM : X9_bellAt_f N (iz Dn) mpins (iz d) (iz q) = some (iz y, iz 0) := by
        unfold X9_bellAt_f
        simp (disch := omega) only [n3_0, n3_1, n3_2, n3_3, n3_4, n3_5, n3_6, n3_7, n3_8, n3_9, n3_10, n3_11, n3_12, n3_20, n3_23, n3_24, n3_28, n3_29, n3_30, n3_31, n3_32, n3_40, n3_60, n3_120, n3_128, n3_365, n3_366, n3_400, n3_100, n3_600, n3_700, n3_900, n3_1600, n3_2000, n3_3000, n3_3600, n3_5000, n3_86400, n3_m1, n3_m600, n3_m3600, n6_0, n6_1, n6_2, n6_3, n6_4, n6_7, n6_60, n6_100, n6_365, n6_366, n6_400, n6_900, n6_1461, n6_36524, n6_146097, iz_add, iz_sub, iz_mul, iz_neg, iz_div, iz_lt, iz_le, iz_eq, iz_l, lz_i, iz_nat, lz_add, lz_sub, lz_mul, lz_div, lz_lt, lz_le, lz_eq, lc_ge, lc_le, lc_eq, Option.bind_some, b01_z, b01_a, b01_1, iz_01, iz_11, pv_def, eq_self, Bool.false_eq_true, not_true_eq_false, not_false_eq_true, if_true, if_false, if_pos, if_neg, gd_nt, e3']
      refine ⟨ix1 hi, ix2 hi, _, eL, ix1 hi, ix2 hi, _, eM, _, rfl, ?_⟩
      simp (disch := omega) only [n3_0, n3_1, n3_2, n3_3, n3_4, n3_5, n3_6, n3_7, n3_8, n3_9, n3_10, n3_11, n3_12, n3_20, n3_23, n3_24, n3_28, n3_29, n3_30, n3_31, n3_32, n3_40, n3_60, n3_120, n3_128, n3_365, n3_366, n3_400, n3_100, n3_600, n3_700, n3_900, n3_1600, n3_2000, n3_3000, n3_3600, n3_5000, n3_86400, n3_m1, n3_m600, n3_m3600, n6_0, n6_1, n6_2, n6_3, n6_4, n6_7, n6_60, n6_100, n6_365, n6_366, n6_400, n6_900, n6_1461, n6_36524, n6_146097, iz_add, iz_sub, iz_mul, iz_neg, iz_div, iz_lt, iz_le, iz_eq, iz_l, lz_i, iz_nat, lz_add, lz_sub, lz_mul, lz_div, lz_lt, lz_le, lz_eq, lc_ge, lc_le, lc_eq, Option.bind_some, b01_z, b01_a, b01_1, iz_01, iz_11, pv_def, eq_self, Bool.false_eq_true, not_true_eq_false, not_false_eq_true, if_true, if_false, if_pos, if_neg, upL_s]
      exact hx _
    · have ey : pick (pOut (fun s => mpins (32 * d + s)) 32 0) q = none := by
        by_cases h0 : q < 0
        · exact pick_neg _ _ h0
        · exact pick_none _ _ (by omega)
      rw [ey] at e3
      have e3' : X9_bellAt_L15 N mpins (iz d) (iz q) N (iz 0) (iz 0) (iz 0) = some (iz 0, iz 2) := e3
      have eL : L_bellAt_f N j11 (iz Dn) ol L K ro pn rw dr (iz d) (iz q) = some (iz 2, ol) := by
        unfold L_bellAt_f X8_bellAt_f X2_pinCount_f
        simp (disch := omega) only [n3_0, n3_1, n3_2, n3_3, n3_4, n3_5, n3_6, n3_7, n3_8, n3_9, n3_10, n3_11, n3_12, n3_20, n3_23, n3_24, n3_28, n3_29, n3_30, n3_31, n3_32, n3_40, n3_60, n3_120, n3_128, n3_365, n3_366, n3_400, n3_100, n3_600, n3_700, n3_900, n3_1600, n3_2000, n3_3000, n3_3600, n3_5000, n3_86400, n3_m1, n3_m600, n3_m3600, n6_0, n6_1, n6_2, n6_3, n6_4, n6_7, n6_60, n6_100, n6_365, n6_366, n6_400, n6_900, n6_1461, n6_36524, n6_146097, iz_add, iz_sub, iz_mul, iz_neg, iz_div, iz_lt, iz_le, iz_eq, iz_l, lz_i, iz_nat, lz_add, lz_sub, lz_mul, lz_div, lz_lt, lz_le, lz_eq, lc_ge, lc_le, lc_eq, Option.bind_some, b01_z, b01_a, b01_1, iz_01, iz_11, pv_def, eq_self, Bool.false_eq_true, not_true_eq_false, not_false_eq_true, if_true, if_false, if_pos, if_neg, e1, bindX_l, optE_s, k5, pw_inz, catX_r, String.reduceEq]
      have eM : X9_bellAt_f N (iz Dn) mpins (iz d) (iz q) = some (iz 0, iz 2) := by
        unfold X9_bellAt_f
        simp (disch := omega) only [n3_0, n3_1, n3_2, n3_3, n3_4, n3_5, n3_6, n3_7, n3_8, n3_9, n3_10, n3_11, n3_12, n3_20, n3_23, n3_24, n3_28, n3_29, n3_30, n3_31, n3_32, n3_40, n3_60, n3_120, n3_128, n3_365, n3_366, n3_400, n3_100, n3_600, n3_700, n3_900, n3_1600, n3_2000, n3_3000, n3_3600, n3_5000, n3_86400, n3_m1, n3_m600, n3_m3600, n6_0, n6_1, n6_2, n6_3, n6_4, n6_7, n6_60, n6_100, n6_365, n6_366, n6_400, n6_900, n6_1461, n6_36524, n6_146097, iz_add, iz_sub, iz_mul, iz_neg, iz_div, iz_lt, iz_le, iz_eq, iz_l, lz_i, iz_nat, lz_add, lz_sub, lz_mul, lz_div, lz_lt, lz_le, lz_eq, lc_ge, lc_le, lc_eq, Option.bind_some, b01_z, b01_a, b01_1, iz_01, iz_11, pv_def, eq_self, Bool.false_eq_true, not_true_eq_false, not_false_eq_true, if_true, if_false, if_pos, if_neg, gd_nt, e3']
      refine ⟨ix1 hi, ix2 hi, _, eL, ix1 hi, ix2 hi, _, eM, _, rfl, ?_⟩
      simp (disch := omega) only [n3_0, n3_1, n3_2, n3_3, n3_4, n3_5, n3_6, n3_7, n3_8, n3_9, n3_10, n3_11, n3_12, n3_20, n3_23, n3_24, n3_28, n3_29, n3_30, n3_31, n3_32, n3_40, n3_60, n3_120, n3_128, n3_365, n3_366, n3_400, n3_100, n3_600, n3_700, n3_900, n3_1600, n3_2000, n3_3000, n3_3600, n3_5000, n3_86400, n3_m1, n3_m600, n3_m3600, n6_0, n6_1, n6_2, n6_3, n6_4, n6_7, n6_60, n6_100, n6_365, n6_366, n6_400, n6_900, n6_1461, n6_36524, n6_146097, iz_add, iz_sub, iz_mul, iz_neg, iz_div, iz_lt, iz_le, iz_eq, iz_l, lz_i, iz_nat, lz_add, lz_sub, lz_mul, lz_div, lz_lt, lz_le, lz_eq, lc_ge, lc_le, lc_eq, Option.bind_some, b01_z, b01_a, b01_1, iz_01, iz_11, pv_def, eq_self, Bool.false_eq_true, not_true_eq_false, not_false_eq_true, if_true, if_false, if_pos, if_neg]
      exact hx _
  · have eL : L_bellAt_f N j11 (iz Dn) ol L K ro pn rw dr (iz p) (iz q) = some (iz 1, ol) := by
      unfold L_bellAt_f X8_bellAt_f
      simp (disch := omega) only [n3_0, n3_1, n3_2, n3_3, n3_4, n3_5, n3_6, n3_7, n3_8, n3_9, n3_10, n3_11, n3_12, n3_20, n3_23, n3_24, n3_28, n3_29, n3_30, n3_31, n3_32, n3_40, n3_60, n3_120, n3_128, n3_365, n3_366, n3_400, n3_100, n3_600, n3_700, n3_900, n3_1600, n3_2000, n3_3000, n3_3600, n3_5000, n3_86400, n3_m1, n3_m600, n3_m3600, n6_0, n6_1, n6_2, n6_3, n6_4, n6_7, n6_60, n6_100, n6_365, n6_366, n6_400, n6_900, n6_1461, n6_36524, n6_146097, iz_add, iz_sub, iz_mul, iz_neg, iz_div, iz_lt, iz_le, iz_eq, iz_l, lz_i, iz_nat, lz_add, lz_sub, lz_mul, lz_div, lz_lt, lz_le, lz_eq, lc_ge, lc_le, lc_eq, Option.bind_some, b01_z, b01_a, b01_1, iz_01, iz_11, pv_def, eq_self, Bool.false_eq_true, not_true_eq_false, not_false_eq_true, if_true, if_false, if_pos, if_neg, gd_f, bindX_r, catX_r]
    have eM : X9_bellAt_f N (iz Dn) mpins (iz p) (iz q) = some (iz 0, iz 1) := by
      unfold X9_bellAt_f
      simp (disch := omega) only [n3_0, n3_1, n3_2, n3_3, n3_4, n3_5, n3_6, n3_7, n3_8, n3_9, n3_10, n3_11, n3_12, n3_20, n3_23, n3_24, n3_28, n3_29, n3_30, n3_31, n3_32, n3_40, n3_60, n3_120, n3_128, n3_365, n3_366, n3_400, n3_100, n3_600, n3_700, n3_900, n3_1600, n3_2000, n3_3000, n3_3600, n3_5000, n3_86400, n3_m1, n3_m600, n3_m3600, n6_0, n6_1, n6_2, n6_3, n6_4, n6_7, n6_60, n6_100, n6_365, n6_366, n6_400, n6_900, n6_1461, n6_36524, n6_146097, iz_add, iz_sub, iz_mul, iz_neg, iz_div, iz_lt, iz_le, iz_eq, iz_l, lz_i, iz_nat, lz_add, lz_sub, lz_mul, lz_div, lz_lt, lz_le, lz_eq, lc_ge, lc_le, lc_eq, Option.bind_some, b01_z, b01_a, b01_1, iz_01, iz_11, pv_def, eq_self, Bool.false_eq_true, not_true_eq_false, not_false_eq_true, if_true, if_false, if_pos, if_neg, gd_nf]
    refine ⟨ix1 hi, ix2 hi, _, eL, ix1 hi, ix2 hi, _, eM, _, rfl, ?_⟩
    simp (disch := omega) only [n3_0, n3_1, n3_2, n3_3, n3_4, n3_5, n3_6, n3_7, n3_8, n3_9, n3_10, n3_11, n3_12, n3_20, n3_23, n3_24, n3_28, n3_29, n3_30, n3_31, n3_32, n3_40, n3_60, n3_120, n3_128, n3_365, n3_366, n3_400, n3_100, n3_600, n3_700, n3_900, n3_1600, n3_2000, n3_3000, n3_3600, n3_5000, n3_86400, n3_m1, n3_m600, n3_m3600, n6_0, n6_1, n6_2, n6_3, n6_4, n6_7, n6_60, n6_100, n6_365, n6_366, n6_400, n6_900, n6_1461, n6_36524, n6_146097, iz_add, iz_sub, iz_mul, iz_neg, iz_div, iz_lt, iz_le, iz_eq, iz_l, lz_i, iz_nat, lz_add, lz_sub, lz_mul, lz_div, lz_lt, lz_le, lz_eq, lc_ge, lc_le, lc_eq, Option.bind_some, b01_z, b01_a, b01_1, iz_01, iz_11, pv_def, eq_self, Bool.false_eq_true, not_true_eq_false, not_false_eq_true, if_true, if_false, if_pos, if_neg]
    exact hx _
theorem GDr_add {j0 j11 : Nat} {Dn : Nat} {tunes : Nat → Option Nat} {mpins mtune : Nat → Int32} {L : List Nat} {K : Nat → Nat} {nu : Nat → Int32} {ro : Nat → Nat} {pn : Nat → Int32} {rw : Nat → Nat → Int32} {dr : Nat → Nat → Option Nat} (hD4 : Dn < 4) (hG : GDr j0 j11 (iz Dn) tunes (iz Dn) mpins mtune L K nu ro pn rw dr) {j' q3 q1 : Nat} {L' : List Nat} {K' : Nat → Nat} {dr' : Nat → Nat → Option Nat} (hm : ∀ x, x ∈ L → x ∈ L' ∧ K' x = K x) (h1 : j' ∈ L' ∧ K' j' = 3) (h2 : ∀ d, d < Dn → dr' j' d = dr j11 d) (h3 : dr' j' Dn = some q3) (h4 : q3 ∈ L' ∧ K' q3 = 1) (h5 : q1 ∈ L' ∧ K' q1 = 2) (n3 : q3 ∉ L) (n1 : q1 ∉ L) : GDr j0 j' (iz ((Dn : Int) + 1)) tunes (iz ((Dn : Int) + 1)) mpins mtune L' K' (va_up nu q3 (iz Dn)) (va_up ro q3 q1) (va_up pn q3 (iz 0)) (va_up rw q1 (fun _ => iz 0)) dr' := by
  obtain ⟨Dm, bw, _, e9, _, _, _, hd, hbi, hri, hz, hz0, ht⟩ := hG
  have eD : Dm = Dn := by
    rw [iz_eq (by omega) (by omega) (by omega) (by omega)] at e9
    omega
  subst eD
  have hb3 : ∀ d, d < Dm → bw d ≠ q3 := fun d h h9 => n3 (h9 ▸ (hd d h).2.1.1.1)
  have hr1 : ∀ d, d < Dm → ro (bw d) ≠ q1 := fun d h h9 => n1 (h9 ▸ (hd d h).2.1.2.1)
  have ez : pOut (fun s => mpins (32 * Dm + s)) 32 0 = [] := by
    rw [pOut_c (g := fun _ => iz 0) 32 0 (fun s _ hs => hz0 _ (by omega) (by omega))]
    decide +kernel
  refine ⟨Dm + 1, atN Dm bw q3, by omega, rfl, rfl, fun h => by omega, fun _ => h1, ?_, ?_, ?_, hz, fun i a b => hz0 i (by omega) b, ?_⟩
  · intro d hdn
    by_cases h : d = Dm
    · subst h
      rw [atN_s]
      refine ⟨h3, ⟨h4, ?_⟩, ?_, ?_, ?_⟩
      · rw [up_self]; exact h5
      · rw [up_self]
      · intro s hs
        rw [up_self, up_self]
        exact (hz0 _ (by omega) (by omega)).symm
      · rw [up_self, ez]; rfl
    · obtain ⟨k1, ⟨⟨k2, k3⟩, k4, k5⟩, k6, k7, k8⟩ := hd d (by omega)
      have m1 := hm _ k2
      have m2 := hm _ k4
      have b3 := hb3 d (by omega)
      have b1 := hr1 d (by omega)
      rw [atN_n _ _ h]
      refine ⟨(h2 d (by omega)).trans k1, ⟨⟨m1.1, m1.2.trans k3⟩, ?_⟩, ?_, ?_, ?_⟩
      · rw [up_ne _ _ b3]; exact ⟨m2.1, m2.2.trans k5⟩
      · rw [up_ne _ _ b3]; exact k6
      · rw [up_ne _ _ b3, up_ne _ _ b1]; exact k7
      · rw [up_ne _ _ b3]; exact k8
  · intro d e h h'
    by_cases a : d = Dm
    · by_cases b : e = Dm
      · intro _; omega
      · rw [a, atN_s, atN_n _ _ b]
        intro h9
        exact absurd h9.symm (hb3 e (by omega))
    · by_cases b : e = Dm
      · rw [b, atN_s, atN_n _ _ a]
        intro h9
        exact absurd h9 (hb3 d (by omega))
      · rw [atN_n _ _ a, atN_n _ _ b]
        exact hbi d e (by omega) (by omega)
  · intro d e h h'
    by_cases a : d = Dm
    · by_cases b : e = Dm
      · intro _; omega
      · rw [a, atN_s, atN_n _ _ b, up_self, up_ne _ _ (hb3 e (by omega))]
        intro h9
        exact absurd h9.symm (hr1 e (by omega))
    · by_cases b : e = Dm
      · rw [b, atN_s, atN_n _ _ a, up_self, up_ne _ _ (hb3 d (by omega))]
        intro h9
        exact absurd h9 (hr1 d (by omega))
      · rw [atN_n _ _ a, atN_n _ _ b, up_ne _ _ (hb3 d (by omega)), up_ne _ _ (hb3 e (by omega))]
        exact hri d e (by omega) (by omega)
  · intro h hh
    rcases ht h hh with h9 | ⟨d, c1, c2, c3⟩
    · exact Or.inl h9
    · refine Or.inr ⟨d, by omega, ?_, c3⟩
      rw [atN_n _ _ (by omega)]; exact c2
