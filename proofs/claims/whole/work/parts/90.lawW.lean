def dvs (Z Q : Nat → Int) : Nat → UInt64
  | 0 => 4607182418800017408
  | k + 1 => FP.ddiv (FP.dmul (dvs Z Q k) (FP.i2d (iz (Z k)))) (FP.i2d (iz (Q k)))
theorem dvs_s (Z Q : Nat → Int) (k : Nat) : dvs Z Q (k + 1) = FP.ddiv (FP.dmul (dvs Z Q k) (FP.i2d (iz (Z k)))) (FP.i2d (iz (Q k))) := rfl
theorem dvs_1 {Z Q : Nat → Int} (h1 : Z 0 = 30) (h2 : Q 0 = 1) : dvs Z Q 1 = 4629137466983448576 := by
  rw [dvs_s, h1, h2]
  show FP.ddiv (FP.dmul 4607182418800017408 (FP.i2d (iz 30))) (FP.i2d (iz 1)) = 4629137466983448576
  decide +kernel
theorem dvs_n {W : Nat} {Z Q : Nat → Int} (hZ : ∀ i, i < W → 1 ≤ Z i ∧ Z i ≤ 120 ∧ 1 ≤ Q i ∧ Q i ≤ 24) : ∀ k, k ≤ W → fN (dvs Z Q k) := by
  intro k
  induction k with
  | zero => intro _; show (4607182418800017408 : UInt64).toNat % 9223372036854775808 ≤ 9218868437227405312; decide +kernel
  | succ k ih =>
    intro hk
    have h := hZ k (by omega)
    rw [dvs_s]
    exact fa_div (fa_mul (ih (by omega)) h.1 h.2.1) h.2.2.1 (by omega)
theorem pt_L5d {W : Nat} (hW : W ≤ 6) {aw : Nat → Nat} {wrow : Nat → Option Nat} {L : List Nat} {K : Nat → Nat} {te le : Nat → Int32} {Z Q : Nat → Int} (hA : ∀ i, i < W → wrow i = some (aw i) ∧ (aw i ∈ L ∧ K (aw i) = 0) ∧ te (aw i) = iz (Z i) ∧ le (aw i) = iz (Q i)) (hZ : ∀ i, i < W → 1 ≤ Z i ∧ Z i ≤ 120 ∧ 1 ≤ Q i ∧ Q i ≤ 24) {w : Nat} (hw : w < W) : ∀ (n k : Nat), k ≤ w + 1 → w + 1 - k < n → X6_beatsOfTurn_L5 (iz W) wrow L K te le (iz w) n (dvs Z Q k) (iz k) = some (dvs Z Q (w + 1), ()) := by
  intro n
  induction n with
  | zero => intro k a b; omega
  | succ n ih =>
    intro k a b
    show X6_beatsOfTurn_L5_body (iz W) wrow L K te le (iz w) (X6_beatsOfTurn_L5 (iz W) wrow L K te le (iz w) n) (dvs Z Q k) (iz k) = _
    unfold X6_beatsOfTurn_L5_body X6_beatsOfTurn_b65 Jx4a65c_size_8abf5_f X7_toothCount_f X7_leafCount_f
    by_cases hk : k = w + 1
    · subst hk
      simp (disch := omega) only [n3_0, n3_1, n3_2, n3_3, n3_4, n3_5, n3_6, n3_7, n3_8, n3_9, n3_10, n3_11, n3_12, n3_20, n3_23, n3_24, n3_28, n3_29, n3_30, n3_31, n3_32, n3_40, n3_60, n3_120, n3_128, n3_365, n3_366, n3_400, n3_100, n3_600, n3_700, n3_900, n3_1600, n3_2000, n3_3000, n3_3600, n3_5000, n3_86400, n3_m1, n3_m600, n3_m3600, n6_0, n6_1, n6_2, n6_3, n6_4, n6_7, n6_60, n6_100, n6_365, n6_366, n6_400, n6_900, n6_1461, n6_36524, n6_146097, iz_add, iz_sub, iz_mul, iz_neg, iz_div, iz_lt, iz_le, iz_eq, iz_l, lz_i, iz_nat, lz_add, lz_sub, lz_mul, lz_div, lz_lt, lz_le, lz_eq, lc_ge, lc_le, lc_eq, Option.bind_some, b01_z, b01_a, b01_1, iz_01, iz_11, pv_def, eq_self, Bool.false_eq_true, not_true_eq_false, not_false_eq_true, if_true, if_false, if_pos, if_neg]
    · have hk2 : k < W := by omega
      obtain ⟨a1, a2, a3, a4⟩ := hA k hk2
      have hz := hZ k hk2
      have g := pt_get (by omega) wrow hk2
      have m1 := fa_mul (dvs_n hZ k (by omega)) hz.1 hz.2.1
      have m2 := fa_div m1 hz.2.2.1 (by omega : Q k ≤ 120)
      have n1 := fa_guard64 m1
      have n2 := fa_guard64 m2
      simp (disch := omega) only [n3_0, n3_1, n3_2, n3_3, n3_4, n3_5, n3_6, n3_7, n3_8, n3_9, n3_10, n3_11, n3_12, n3_20, n3_23, n3_24, n3_28, n3_29, n3_30, n3_31, n3_32, n3_40, n3_60, n3_120, n3_128, n3_365, n3_366, n3_400, n3_100, n3_600, n3_700, n3_900, n3_1600, n3_2000, n3_3000, n3_3600, n3_5000, n3_86400, n3_m1, n3_m600, n3_m3600, n6_0, n6_1, n6_2, n6_3, n6_4, n6_7, n6_60, n6_100, n6_365, n6_366, n6_400, n6_900, n6_1461, n6_36524, n6_146097, iz_add, iz_sub, iz_mul, iz_neg, iz_div, iz_lt, iz_le, iz_eq, iz_l, lz_i, iz_nat, lz_add, lz_sub, lz_mul, lz_div, lz_lt, lz_le, lz_eq, lc_ge, lc_le, lc_eq, Option.bind_some, b01_z, b01_a, b01_1, iz_01, iz_11, pv_def, eq_self, Bool.false_eq_true, not_true_eq_false, not_false_eq_true, if_true, if_false, if_pos, if_neg, g, a1, a2, a3, a4, n1, n2, true_and, and_true, and_self]
      exact ih (k + 1) (by omega) (by omega)
theorem pt_L17 {W : Nat} (hW : W ≤ 6) {mteeth mleaves : Nat → Int32} {Z Q : Nat → Int} (hM : ∀ i, i < W → mteeth i = iz (Z i)) (hM2 : ∀ i, i + 1 < W → mleaves (i + 1) = iz (Q (i + 1))) (hZ : ∀ i, i < W → 1 ≤ Z i ∧ Z i ≤ 120 ∧ 1 ≤ Q i ∧ Q i ≤ 24) {w : Nat} (hw : w < W) (th : Int32) : ∀ (n k : Nat), k ≤ w → w - k < n → X9_beatsForTurn_L17 mteeth mleaves (iz w) n (dvs Z Q (k + 1)) (iz ((k : Int) + 1)) th = some (dvs Z Q (w + 1), th) := by
  intro n
  induction n with
  | zero => intro k a b; omega
  | succ n ih =>
    intro k a b
    show X9_beatsForTurn_L17_body mteeth mleaves (iz w) (X9_beatsForTurn_L17 mteeth mleaves (iz w) n) (dvs Z Q (k + 1)) (iz ((k : Int) + 1)) th = _
    unfold X9_beatsForTurn_L17_body
    by_cases hk : k = w
    · subst hk
      simp (disch := omega) only [n3_0, n3_1, n3_2, n3_3, n3_4, n3_5, n3_6, n3_7, n3_8, n3_9, n3_10, n3_11, n3_12, n3_20, n3_23, n3_24, n3_28, n3_29, n3_30, n3_31, n3_32, n3_40, n3_60, n3_120, n3_128, n3_365, n3_366, n3_400, n3_100, n3_600, n3_700, n3_900, n3_1600, n3_2000, n3_3000, n3_3600, n3_5000, n3_86400, n3_m1, n3_m600, n3_m3600, n6_0, n6_1, n6_2, n6_3, n6_4, n6_7, n6_60, n6_100, n6_365, n6_366, n6_400, n6_900, n6_1461, n6_36524, n6_146097, iz_add, iz_sub, iz_mul, iz_neg, iz_div, iz_lt, iz_le, iz_eq, iz_l, lz_i, iz_nat, lz_add, lz_sub, lz_mul, lz_div, lz_lt, lz_le, lz_eq, lc_ge, lc_le, lc_eq, Option.bind_some, b01_z, b01_a, b01_1, iz_01, iz_11, pv_def, eq_self, Bool.false_eq_true, not_true_eq_false, not_false_eq_true, if_true, if_false, if_pos, if_neg]
    · have hk2 : k + 1 < W := by omega
      have a1 := hM (k + 1) hk2
      have a2 := hM2 k hk2
      have hz := hZ (k + 1) hk2
      have e1 : ((k : Int) + 1).toNat = k + 1 := by omega
      have m1 := fa_mul (dvs_n hZ (k + 1) (by omega)) hz.1 hz.2.1
      have m2 := fa_div m1 hz.2.2.1 (by omega : Q (k + 1) ≤ 120)
      have n1 := fa_guard64 m1
      have n2 := fa_guard64 m2
      simp (disch := omega) only [n3_0, n3_1, n3_2, n3_3, n3_4, n3_5, n3_6, n3_7, n3_8, n3_9, n3_10, n3_11, n3_12, n3_20, n3_23, n3_24, n3_28, n3_29, n3_30, n3_31, n3_32, n3_40, n3_60, n3_120, n3_128, n3_365, n3_366, n3_400, n3_100, n3_600, n3_700, n3_900, n3_1600, n3_2000, n3_3000, n3_3600, n3_5000, n3_86400, n3_m1, n3_m600, n3_m3600, n6_0, n6_1, n6_2, n6_3, n6_4, n6_7, n6_60, n6_100, n6_365, n6_366, n6_400, n6_900, n6_1461, n6_36524, n6_146097, iz_add, iz_sub, iz_mul, iz_neg, iz_div, iz_lt, iz_le, iz_eq, iz_l, lz_i, iz_nat, lz_add, lz_sub, lz_mul, lz_div, lz_lt, lz_le, lz_eq, lc_ge, lc_le, lc_eq, Option.bind_some, b01_z, b01_a, b01_1, iz_01, iz_11, pv_def, eq_self, Bool.false_eq_true, not_true_eq_false, not_false_eq_true, if_true, if_false, if_pos, if_neg, e1, a1, a2, n1, n2]
      exact ih (k + 1) (by omega) (by omega)
theorem gf_4 {N : Nat} (hN : 150000 ≤ N) {ct : Int} (hc : ct ≤ 512) {bp : Int64} {wsz : Int32} {wrow : Nat → Option Nat} {mwhe : Int32} {mbeats : Int64} {mteeth mleaves : Nat → Int32} {moffs : Nat → Int64} {L : List Nat} {K : Nat → Nat} {te le tb : Nat → Int32} {mb : Nat → Int64} (hG : GTr ct bp wsz wrow mwhe mbeats mteeth mleaves moffs L K te le tb mb) (od : Nat → UInt64) (p : Int32) : (∃ x : UInt64, fN x ∧ L_beatsForTurn_f N wsz wrow od L K te le p = some (iz 0, vf_upd od (0 : Int32).toNatClampNeg x) ∧ X9_beatsForTurn_f N mwhe mteeth mleaves p = some (x, iz 0)) ∨ (∃ x, L_beatsForTurn_f N wsz wrow od L K te le p = some (iz 1, od) ∧ X9_beatsForTurn_f N mwhe mteeth mleaves p = some (x, iz 1)) := by
  obtain ⟨W, aw, D, Q, O, Z, B, w1, w6, rfl, rfl, rfl, rfl, b0, b1, hW, hA, hM, hZ0, hZ⟩ := hG
  obtain ⟨z, rfl, z1, z2⟩ := iz_of p
  have hzq : ∀ i, i < W → 1 ≤ Z i ∧ Z i ≤ 120 ∧ 1 ≤ Q i ∧ Q i ≤ 24 := fun i hi => by
    have h1 := hZ i hi
    have h2 := hW i hi
    omega
  unfold L_beatsForTurn_f X8_beatsForTurn_f X9_beatsForTurn_f
  by_cases h : 0 ≤ z ∧ z < W
  · obtain ⟨w, rfl⟩ : ∃ w : Nat, z = w := ⟨z.toNat, by omega⟩
    have hw : w < W := by omega
    have e1 : X6_beatsOfTurn_f N (iz W) wrow L K te le (iz w) = some (dvs Z Q (w + 1), ()) := pt_L5d w6 (aw := aw) (fun i hi => ⟨(hA.1 i hi).1, (hA.1 i hi).2.1, (hZ i hi).1, (hA.1 i hi).2.2.1⟩) hzq hw N 0 (by omega) (by omega)
    have e2 := pt_L17 w6 (fun i hi => (hZ i hi).2.1) (fun i hi => (hM.2.2.2 i hi).2.1) hzq hw (iz 0) N 0 (by omega) (by omega)
    rw [dvs_1 hZ0 hM.2.1] at e2
    have e2' : X9_beatsForTurn_L17 mteeth mleaves (iz w) N 4629137466983448576 (iz 1) (iz 0) = some (dvs Z Q (w + 1), iz 0) := e2
    refine Or.inl ⟨dvs Z Q (w + 1), dvs_n hzq (w + 1) (by omega), ?_, ?_⟩
    · simp (disch := omega) only [n3_0, n3_1, n3_2, n3_3, n3_4, n3_5, n3_6, n3_7, n3_8, n3_9, n3_10, n3_11, n3_12, n3_20, n3_23, n3_24, n3_28, n3_29, n3_30, n3_31, n3_32, n3_40, n3_60, n3_120, n3_128, n3_365, n3_366, n3_400, n3_100, n3_600, n3_700, n3_900, n3_1600, n3_2000, n3_3000, n3_3600, n3_5000, n3_86400, n3_m1, n3_m600, n3_m3600, n6_0, n6_1, n6_2, n6_3, n6_4, n6_7, n6_60, n6_100, n6_365, n6_366, n6_400, n6_900, n6_1461, n6_36524, n6_146097, iz_add, iz_sub, iz_mul, iz_neg, iz_div, iz_lt, iz_le, iz_eq, iz_l, lz_i, iz_nat, lz_add, lz_sub, lz_mul, lz_div, lz_lt, lz_le, lz_eq, lc_ge, lc_le, lc_eq, Option.bind_some, b01_z, b01_a, b01_1, iz_01, iz_11, pv_def, eq_self, Bool.false_eq_true, not_true_eq_false, not_false_eq_true, if_true, if_false, if_pos, if_neg, gt_rt, bindX_l, e1, catX_l]
    · simp (disch := omega) only [n3_0, n3_1, n3_2, n3_3, n3_4, n3_5, n3_6, n3_7, n3_8, n3_9, n3_10, n3_11, n3_12, n3_20, n3_23, n3_24, n3_28, n3_29, n3_30, n3_31, n3_32, n3_40, n3_60, n3_120, n3_128, n3_365, n3_366, n3_400, n3_100, n3_600, n3_700, n3_900, n3_1600, n3_2000, n3_3000, n3_3600, n3_5000, n3_86400, n3_m1, n3_m600, n3_m3600, n6_0, n6_1, n6_2, n6_3, n6_4, n6_7, n6_60, n6_100, n6_365, n6_366, n6_400, n6_900, n6_1461, n6_36524, n6_146097, iz_add, iz_sub, iz_mul, iz_neg, iz_div, iz_lt, iz_le, iz_eq, iz_l, lz_i, iz_nat, lz_add, lz_sub, lz_mul, lz_div, lz_lt, lz_le, lz_eq, lc_ge, lc_le, lc_eq, Option.bind_some, b01_z, b01_a, b01_1, iz_01, iz_11, pv_def, eq_self, Bool.false_eq_true, not_true_eq_false, not_false_eq_true, if_true, if_false, if_pos, if_neg, gt_nt, e2']
  · refine Or.inr ⟨0, ?_, ?_⟩
    · simp (disch := omega) only [n3_0, n3_1, n3_2, n3_3, n3_4, n3_5, n3_6, n3_7, n3_8, n3_9, n3_10, n3_11, n3_12, n3_20, n3_23, n3_24, n3_28, n3_29, n3_30, n3_31, n3_32, n3_40, n3_60, n3_120, n3_128, n3_365, n3_366, n3_400, n3_100, n3_600, n3_700, n3_900, n3_1600, n3_2000, n3_3000, n3_3600, n3_5000, n3_86400, n3_m1, n3_m600, n3_m3600, n6_0, n6_1, n6_2, n6_3, n6_4, n6_7, n6_60, n6_100, n6_365, n6_366, n6_400, n6_900, n6_1461, n6_36524, n6_146097, iz_add, iz_sub, iz_mul, iz_neg, iz_div, iz_lt, iz_le, iz_eq, iz_l, lz_i, iz_nat, lz_add, lz_sub, lz_mul, lz_div, lz_lt, lz_le, lz_eq, lc_ge, lc_le, lc_eq, Option.bind_some, b01_z, b01_a, b01_1, iz_01, iz_11, pv_def, eq_self, Bool.false_eq_true, not_true_eq_false, not_false_eq_true, if_true, if_false, if_pos, if_neg, gt_rf, bindX_r, catX_r]
    · simp (disch := omega) only [n3_0, n3_1, n3_2, n3_3, n3_4, n3_5, n3_6, n3_7, n3_8, n3_9, n3_10, n3_11, n3_12, n3_20, n3_23, n3_24, n3_28, n3_29, n3_30, n3_31, n3_32, n3_40, n3_60, n3_120, n3_128, n3_365, n3_366, n3_400, n3_100, n3_600, n3_700, n3_900, n3_1600, n3_2000, n3_3000, n3_3600, n3_5000, n3_86400, n3_m1, n3_m600, n3_m3600, n6_0, n6_1, n6_2, n6_3, n6_4, n6_7, n6_60, n6_100, n6_365, n6_366, n6_400, n6_900, n6_1461, n6_36524, n6_146097, iz_add, iz_sub, iz_mul, iz_neg, iz_div, iz_lt, iz_le, iz_eq, iz_l, lz_i, iz_nat, lz_add, lz_sub, lz_mul, lz_div, lz_lt, lz_le, lz_eq, lc_ge, lc_le, lc_eq, Option.bind_some, b01_z, b01_a, b01_1, iz_01, iz_11, pv_def, eq_self, Bool.false_eq_true, not_true_eq_false, not_false_eq_true, if_true, if_false, if_pos, if_neg, gt_nf]
theorem vf_s {α : Type} (f : Nat → α) (k : Nat) (v : α) : vf_upd f k v k = v := if_pos rfl
theorem g_4 {N : Nat} (hN : 150000 ≤ N) {ct : Int} (hc : ct ≤ 512) {bp : Int64} {wsz : Int32} {wrow : Nat → Option Nat} {mwhe : Int32} {mbeats : Int64} {mteeth mleaves : Nat → Int32} {moffs : Nat → Int64} {L : List Nat} {K : Nat → Nat} {te le tb : Nat → Int32} {mb : Nat → Int64} (hG : GTr ct bp wsz wrow mwhe mbeats mteeth mleaves moffs L K te le tb mb) (od : Nat → UInt64) {i : Int} {an : Nat} (hi : 0 ≤ i ∧ i + 4 < an ∧ an ≤ 2560) (ain : Nat → Int32) {Next : (Int32 × (Nat → UInt64)) → Prop} (hx : ∀ u, Next u) : law_4_f N wsz wrow mwhe mteeth mleaves od L K te le (iz i) an ain Next := by
  unfold law_4_f
  rcases gf_4 hN hc hG od (ain (iz i + (1 : Int32)).toNatClampNeg) with ⟨x, hf, eL, eM⟩ | ⟨x, eL, eM⟩
  · refine ⟨ix1 hi, _, eL, ix1 hi, _, eM, _, rfl, ?_⟩
    have hcm : Op.cmpValue (FP.dcmp x x) .l = iz 0 := fa_cmp hf
    simp (disch := omega) only [n3_0, n3_1, n3_2, n3_3, n3_4, n3_5, n3_6, n3_7, n3_8, n3_9, n3_10, n3_11, n3_12, n3_20, n3_23, n3_24, n3_28, n3_29, n3_30, n3_31, n3_32, n3_40, n3_60, n3_120, n3_128, n3_365, n3_366, n3_400, n3_100, n3_600, n3_700, n3_900, n3_1600, n3_2000, n3_3000, n3_3600, n3_5000, n3_86400, n3_m1, n3_m600, n3_m3600, n6_0, n6_1, n6_2, n6_3, n6_4, n6_7, n6_60, n6_100, n6_365, n6_366, n6_400, n6_900, n6_1461, n6_36524, n6_146097, iz_add, iz_sub, iz_mul, iz_neg, iz_div, iz_lt, iz_le, iz_eq, iz_l, lz_i, iz_nat, lz_add, lz_sub, lz_mul, lz_div, lz_lt, lz_le, lz_eq, lc_ge, lc_le, lc_eq, Option.bind_some, b01_z, b01_a, b01_1, iz_01, iz_11, pv_def, eq_self, Bool.false_eq_true, not_true_eq_false, not_false_eq_true, if_true, if_false, if_pos, if_neg, vf_s, hcm]
    exact hx _
  · refine ⟨ix1 hi, _, eL, ix1 hi, _, eM, _, rfl, ?_⟩
    simp (disch := omega) only [n3_0, n3_1, n3_2, n3_3, n3_4, n3_5, n3_6, n3_7, n3_8, n3_9, n3_10, n3_11, n3_12, n3_20, n3_23, n3_24, n3_28, n3_29, n3_30, n3_31, n3_32, n3_40, n3_60, n3_120, n3_128, n3_365, n3_366, n3_400, n3_100, n3_600, n3_700, n3_900, n3_1600, n3_2000, n3_3000, n3_3600, n3_5000, n3_86400, n3_m1, n3_m600, n3_m3600, n6_0, n6_1, n6_2, n6_3, n6_4, n6_7, n6_60, n6_100, n6_365, n6_366, n6_400, n6_900, n6_1461, n6_36524, n6_146097, iz_add, iz_sub, iz_mul, iz_neg, iz_div, iz_lt, iz_le, iz_eq, iz_l, lz_i, iz_nat, lz_add, lz_sub, lz_mul, lz_div, lz_lt, lz_le, lz_eq, lc_ge, lc_le, lc_eq, Option.bind_some, b01_z, b01_a, b01_1, iz_01, iz_11, pv_def, eq_self, Bool.false_eq_true, not_true_eq_false, not_false_eq_true, if_true, if_false, if_pos, if_neg]
    exact hx _
theorem mvc_c {D Q O D' Q' O' : Nat → Int} (x : Int) : ∀ i : Nat, (∀ j, j < i → D' j = D j ∧ Q' j = Q j ∧ O' j = O j) → mvc D' Q' O' i x = mvc D Q O i x := by
  intro i
  induction i with
  | zero => intro _; rfl
  | succ i ih =>
    intro h
    have h1 := h i (by omega)
    rw [mvc_s, mvc_s, ih (fun j hj => h j (by omega)), h1.1, h1.2.1, h1.2.2]
def atW (W : Nat) (f : Nat → Int) (v : Int) (i : Nat) : Int := if i = W then v else f i
theorem atW_s (W : Nat) (f : Nat → Int) (v : Int) : atW W f v W = v := if_pos rfl
theorem atW_n {W : Nat} (f : Nat → Int) (v : Int) {i : Nat} (h : i ≠ W) : atW W f v i = f i := if_neg h
def atN (W : Nat) (f : Nat → Nat) (v : Nat) (i : Nat) : Nat := if i = W then v else f i
theorem atN_s (W : Nat) (f : Nat → Nat) (v : Nat) : atN W f v W = v := if_pos rfl
theorem atN_n {W : Nat} (f : Nat → Nat) (v : Nat) {i : Nat} (h : i ≠ W) : atN W f v i = f i := if_neg h
theorem upL_n (f : Nat → Int64) {k j : Nat} (v : Int64) (h : j ≠ k) : vp_updL f k v j = f j := if_neg h
theorem GTr_add {ct : Int} {W : Nat} {aw : Nat → Nat} {D Q O Z : Nat → Int} {B : Int} {wrow : Nat → Option Nat} {mteeth mleaves : Nat → Int32} {moffs : Nat → Int64} {L : List Nat} {K : Nat → Nat} {te le tb : Nat → Int32} {mb : Nat → Int64} (w1 : 1 ≤ W) (w6 : W < 6) (b0 : 0 ≤ B) (b1 : B ≤ 5000 * ct) (hW : TW W D Q O B) (hA : TA W aw D Q O wrow L K le tb mb) (hM : TM W D Q O mteeth mleaves moffs) (hZ0 : Z 0 = 30) (hZ : ∀ i, i < W → te (aw i) = iz (Z i) ∧ mteeth i = iz (Z i) ∧ 6 ≤ Z i ∧ Z i ≤ 120) (hct : ct ≤ 512) {p q : Int} (hp : 6 ≤ p ∧ p ≤ 120) (hq : 6 ≤ q ∧ q ≤ 24) {a : Nat} (ha : a ∉ L) : GTr ct (lz B) (iz ((W : Int) + 1)) (va_up wrow W (some a)) (iz ((W : Int) + 1)) (lz B) (upd mteeth W (iz p)) (upd mleaves W (iz q)) (vp_updL moffs W (lz (mvc D Q O W B))) (L ++ [a]) (va_up K a 0) (va_up te a (iz p)) (va_up le a (iz q)) (va_up tb a (iz (Z (W - 1)))) (va_up mb a (lz (mvc D Q O W B))) := by
  have hne : ∀ i, i < W → aw i ≠ a := fun i hi h9 => ha (h9 ▸ (hA.1 i hi).2.1.1)
  have hz1 := hZ (W - 1) (by omega)
  have hbd := mvc_b (by omega) hW b0 (x := B) (by omega) (by omega) (i := W) (by omega)
  refine ⟨W + 1, atN W aw a, atW W D (Z (W - 1)), atW W Q q, atW W O (mvc D Q O W B), atW W Z p, B, by omega, by omega, rfl, rfl, rfl, rfl, b0, b1, ?_, ?_, ?_, ?_, ?_⟩
  · intro i hi
    have em : mvc (atW W D (Z (W - 1))) (atW W Q q) (atW W O (mvc D Q O W B)) i B = mvc D Q O i B := mvc_c B i (fun j hj => ⟨atW_n _ _ (by omega), atW_n _ _ (by omega), atW_n _ _ (by omega)⟩)
    rw [em]
    by_cases h : i = W
    · subst h
      rw [atW_s, atW_s, atW_s]
      omega
    · rw [atW_n _ _ h, atW_n _ _ h, atW_n _ _ h]
      exact hW i (by omega)
  · constructor
    · intro i hi
      by_cases h : i = W
      · subst h
        rw [atN_s, atW_s, atW_s, atW_s, up_self, up_self, up_self, up_self, up_self]
        exact ⟨rfl, ⟨List.mem_append_right _ List.mem_cons_self, rfl⟩, rfl, rfl, rfl⟩
      · obtain ⟨c1, c2, c3, c4, c5⟩ := hA.1 i (by omega)
        have hn := hne i (by omega)
        rw [atN_n _ _ h, atW_n _ _ h, atW_n _ _ h, atW_n _ _ h, up_ne _ _ h, up_ne _ _ hn, up_ne _ _ hn, up_ne _ _ hn, up_ne _ _ hn]
        exact ⟨c1, ⟨List.mem_append_left _ c2.1, c2.2⟩, c3, c4, c5⟩
    · intro i j hi hj
      by_cases h : i = W
      · by_cases h' : j = W
        · intro _; omega
        · rw [h, atN_s, atN_n _ _ h']
          intro h9
          exact absurd h9.symm (hne j (by omega))
      · by_cases h' : j = W
        · rw [h', atN_s, atN_n _ _ h]
          intro h9
          exact absurd h9 (hne i (by omega))
        · rw [atN_n _ _ h, atN_n _ _ h']
          exact hA.2 i j (by omega) (by omega)
  · refine ⟨?_, ?_, ?_, ?_⟩
    · rw [atW_n _ _ (by omega)]; exact hM.1
    · rw [atW_n _ _ (by omega)]; exact hM.2.1
    · rw [atW_n _ _ (by omega)]; exact hM.2.2.1
    · intro i hi
      rw [up3_ne _ _ (by omega : i ≠ W)]
      by_cases h : i + 1 = W
      · rw [h, atW_s, atW_s, atW_s, up3_self, upL_s]
        refine ⟨?_, rfl, rfl⟩
        rw [show i = W - 1 from by omega]
        exact hz1.2.1
      · rw [atW_n _ _ h, atW_n _ _ h, atW_n _ _ h, up3_ne _ _ h, upL_n _ _ h]
        exact hM.2.2.2 i (by omega)
  · rw [atW_n _ _ (by omega)]; exact hZ0
  · intro i hi
    by_cases h : i = W
    · subst h
      rw [atN_s, atW_s, up_self, up3_self]
      exact ⟨rfl, rfl, hp.1, hp.2⟩
    · rw [atN_n _ _ h, atW_n _ _ h, up_ne _ _ (hne i (by omega)), up3_ne _ _ h]
      exact hZ i (by omega)
