def mvc (D Q O : Nat → Int) : Nat → Int → Int
  | 0, x => x
  | i + 1, x => (mvc D Q O i x - O i) * Q i / D i
def TW (W : Nat) (D Q O : Nat → Int) (B : Int) : Prop := ∀ i, i < W → 1 ≤ D i ∧ D i ≤ 120 ∧ 1 ≤ Q i ∧ Q i ≤ 24 ∧ 0 ≤ O i ∧ O i ≤ mvc D Q O i B
theorem mvc_s (D Q O : Nat → Int) (i : Nat) (x : Int) : mvc D Q O (i + 1) x = (mvc D Q O i x - O i) * Q i / D i := rfl
theorem mvc_mono {W : Nat} {D Q O : Nat → Int} {B : Int} (h : TW W D Q O B) {x y : Int} (hxy : x ≤ y) : ∀ i, i ≤ W → mvc D Q O i x ≤ mvc D Q O i y := by
  intro i
  induction i with
  | zero => intro _; exact hxy
  | succ i ih =>
    intro hi
    have e := ih (by omega)
    have hd := h i (by omega)
    rw [mvc_s, mvc_s]
    exact Int.ediv_le_ediv (by omega) (Int.mul_le_mul_of_nonneg_right (by omega) (by omega))
theorem mvc_ge {W : Nat} {D Q O : Nat → Int} {B : Int} (h : TW W D Q O B) {x : Int} (hx : B ≤ x) {i : Nat} (hi : i < W) : O i ≤ mvc D Q O i x := by
  have := mvc_mono h hx i (by omega)
  have := h i hi
  omega
theorem mvc_bd {W : Nat} {D Q O : Nat → Int} {B : Int} (h : TW W D Q O B) (hB : 0 ≤ B) {x : Int} (hx : B ≤ x) (hx2 : x ≤ 4000000) : ∀ i, i ≤ W → 0 ≤ mvc D Q O i x ∧ mvc D Q O i x ≤ 24 ^ i * 4000000 := by
  intro i
  induction i with
  | zero => intro _; exact ⟨by show 0 ≤ x; omega, by show x ≤ _; omega⟩
  | succ i ih =>
    intro hi
    have e := ih (by omega)
    have hd := h i (by omega)
    have g := mvc_ge h hx (i := i) (by omega)
    rw [mvc_s]
    have a1 : 0 ≤ (mvc D Q O i x - O i) * Q i := Int.mul_nonneg (by omega) (by omega)
    have a2 : (mvc D Q O i x - O i) * Q i ≤ (24 ^ i * 4000000) * 24 := Int.mul_le_mul (by omega) (by omega) (by omega) (by omega)
    refine ⟨Int.ediv_nonneg a1 (by omega), ?_⟩
    refine Int.le_trans (Int.ediv_le_self _ a1) ?_
    rw [Int.pow_succ]
    omega
theorem p24 : ∀ i : Nat, i ≤ 6 → (24 : Int) ^ i * 4000000 ≤ 764411904000000 := by decide
theorem mvc_b {W : Nat} {D Q O : Nat → Int} {B : Int} (hW : W ≤ 6) (h : TW W D Q O B) (hB : 0 ≤ B) {x : Int} (hx : B ≤ x) (hx2 : x ≤ 4000000) {i : Nat} (hi : i ≤ W) : 0 ≤ mvc D Q O i x ∧ mvc D Q O i x ≤ 764411904000000 := by
  have e := mvc_bd h hB hx hx2 i hi
  have := p24 i (by omega)
  omega
theorem mvc_p {W : Nat} {D Q O : Nat → Int} {B : Int} (hW : W ≤ 6) (h : TW W D Q O B) (hB : 0 ≤ B) {x : Int} (hx : B ≤ x) (hx2 : x ≤ 4000000) {i : Nat} (hi : i < W) : 0 ≤ (mvc D Q O i x - O i) * Q i ∧ (mvc D Q O i x - O i) * Q i ≤ 764411904000000 * 24 := by
  have e := mvc_b hW h hB hx hx2 (i := i) (by omega)
  have hd := h i hi
  have g := mvc_ge h hx hi
  exact ⟨Int.mul_nonneg (by omega) (by omega), Int.mul_le_mul (by omega) (by omega) (by omega) (by omega)⟩
/-- the class's wheels -/
def TA (W : Nat) (aw : Nat → Nat) (D Q O : Nat → Int) (wrow : Nat → Option Nat) (L : List Nat) (K : Nat → Nat) (le tb : Nat → Int32) (mb : Nat → Int64) : Prop :=
  (∀ i, i < W → wrow i = some (aw i) ∧ (aw i ∈ L ∧ K (aw i) = 0) ∧ le (aw i) = iz (Q i) ∧ tb (aw i) = iz (D i) ∧ mb (aw i) = lz (O i)) ∧ (∀ i j, i < W → j < W → aw i = aw j → i = j)
theorem pt_get {W : Nat} (hW : W ≤ 10) (row : Nat → Option Nat) {k : Nat} (hk : k < W) : Jx4a65c_get_915e3_f (iz W) row (iz k) = some (row k, ()) := by
  unfold Jx4a65c_get_915e3_f J15_checkIndex_7cf53_f J3_checkIndex_8e157_f J3_checkIndex_8e157_b9 Jx4a65c_elementData_915e3_f
  simp (disch := omega) only [n3_0, n3_1, n3_2, n3_3, n3_4, n3_5, n3_6, n3_7, n3_8, n3_9, n3_10, n3_11, n3_12, n3_20, n3_23, n3_24, n3_28, n3_29, n3_30, n3_31, n3_32, n3_40, n3_60, n3_120, n3_128, n3_365, n3_366, n3_400, n3_100, n3_600, n3_700, n3_900, n3_1600, n3_2000, n3_3000, n3_3600, n3_5000, n3_86400, n3_m1, n3_m600, n3_m3600, n6_0, n6_1, n6_2, n6_3, n6_4, n6_7, n6_60, n6_100, n6_365, n6_366, n6_400, n6_900, n6_1461, n6_36524, n6_146097, iz_add, iz_sub, iz_mul, iz_neg, iz_div, iz_lt, iz_le, iz_eq, iz_l, lz_i, iz_nat, lz_add, lz_sub, lz_mul, lz_div, lz_lt, lz_le, lz_eq, lc_ge, lc_le, lc_eq, Option.bind_some, b01_z, b01_a, b01_1, iz_01, iz_11, pv_def, eq_self, not_true_eq_false, not_false_eq_true, if_true, if_false, if_pos, if_neg, Int.toNat_natCast]
theorem pt_when {W : Nat} {D Q O : Nat → Int} {B : Int} (hW : W ≤ 6) (h : TW W D Q O B) (hB : 0 ≤ B) {x : Int} (hx : B ≤ x) (hx2 : x ≤ 4000000) {aw : Nat → Nat} {wrow : Nat → Option Nat} {L : List Nat} {K : Nat → Nat} {le tb : Nat → Int32} {mb : Nat → Int64} (hA : TA W aw D Q O wrow L K le tb mb) {i : Nat} (hi : i < W) : X7_movedWhen_f (aw i) L K le tb mb (lz (mvc D Q O i x)) = some (lz (mvc D Q O (i + 1) x), ()) := by
  obtain ⟨a1, a2, a3, a4, a5⟩ := hA.1 i hi
  have hd := h i hi
  have hp := mvc_p hW h hB hx hx2 hi
  have hb := mvc_b hW h hB hx hx2 (i := i) (by omega)
  unfold X7_movedWhen_f
  rw [if_pos a2, a3, a4, a5]
  simp (disch := omega) only [n3_0, n3_1, n3_2, n3_3, n3_4, n3_5, n3_6, n3_7, n3_8, n3_9, n3_10, n3_11, n3_12, n3_20, n3_23, n3_24, n3_28, n3_29, n3_30, n3_31, n3_32, n3_40, n3_60, n3_120, n3_128, n3_365, n3_366, n3_400, n3_100, n3_600, n3_700, n3_900, n3_1600, n3_2000, n3_3000, n3_3600, n3_5000, n3_86400, n3_m1, n3_m600, n3_m3600, n6_0, n6_1, n6_2, n6_3, n6_4, n6_7, n6_60, n6_100, n6_365, n6_366, n6_400, n6_900, n6_1461, n6_36524, n6_146097, iz_add, iz_sub, iz_mul, iz_neg, iz_div, iz_lt, iz_le, iz_eq, iz_l, lz_i, iz_nat, lz_add, lz_sub, lz_mul, lz_div, lz_lt, lz_le, lz_eq, lc_ge, lc_le, lc_eq, Option.bind_some, b01_z, b01_a, b01_1, iz_01, iz_11, pv_def, eq_self, not_true_eq_false, not_false_eq_true, if_true, if_false, if_pos, if_neg, pw_part]
  rfl
theorem pt_L6 {W : Nat} {D Q O : Nat → Int} {B : Int} (hW : W ≤ 6) (h : TW W D Q O B) (hB : 0 ≤ B) {x : Int} (hx : B ≤ x) (hx2 : x ≤ 4000000) {aw : Nat → Nat} {wrow : Nat → Option Nat} {L : List Nat} {K : Nat → Nat} {le tb : Nat → Int32} {mb : Nat → Int64} (hA : TA W aw D Q O wrow L K le tb mb) {w : Nat} (hw : w < W) : ∀ (n k : Nat), k ≤ w + 1 → w + 1 - k < n → X6_movedByRatios_L6 (iz W) wrow L K le tb mb (iz w) n (lz (mvc D Q O k x)) (iz k) = some (lz (mvc D Q O (w + 1) x), ()) := by
  intro n
  induction n with
  | zero => intro k a b; omega
  | succ n ih =>
    intro k a b
    show X6_movedByRatios_L6_body (iz W) wrow L K le tb mb (iz w) (X6_movedByRatios_L6 (iz W) wrow L K le tb mb (iz w) n) (lz (mvc D Q O k x)) (iz k) = _
    unfold X6_movedByRatios_L6_body X6_movedByRatios_b49 Jx4a65c_size_8abf5_f
    by_cases hk : k = w + 1
    · subst hk
      simp (disch := omega) only [n3_0, n3_1, n3_2, n3_3, n3_4, n3_5, n3_6, n3_7, n3_8, n3_9, n3_10, n3_11, n3_12, n3_20, n3_23, n3_24, n3_28, n3_29, n3_30, n3_31, n3_32, n3_40, n3_60, n3_120, n3_128, n3_365, n3_366, n3_400, n3_100, n3_600, n3_700, n3_900, n3_1600, n3_2000, n3_3000, n3_3600, n3_5000, n3_86400, n3_m1, n3_m600, n3_m3600, n6_0, n6_1, n6_2, n6_3, n6_4, n6_7, n6_60, n6_100, n6_365, n6_366, n6_400, n6_900, n6_1461, n6_36524, n6_146097, iz_add, iz_sub, iz_mul, iz_neg, iz_div, iz_lt, iz_le, iz_eq, iz_l, lz_i, iz_nat, lz_add, lz_sub, lz_mul, lz_div, lz_lt, lz_le, lz_eq, lc_ge, lc_le, lc_eq, Option.bind_some, b01_z, b01_a, b01_1, iz_01, iz_11, pv_def, eq_self, not_true_eq_false, not_false_eq_true, if_true, if_false, if_pos, if_neg]
    · have hk2 : k < W := by omega
      obtain ⟨a1, a2, a3, a4, a5⟩ := hA.1 k hk2
      have e := pt_when hW h hB hx hx2 hA hk2
      have g := pt_get (by omega) wrow hk2
      simp (disch := omega) only [n3_0, n3_1, n3_2, n3_3, n3_4, n3_5, n3_6, n3_7, n3_8, n3_9, n3_10, n3_11, n3_12, n3_20, n3_23, n3_24, n3_28, n3_29, n3_30, n3_31, n3_32, n3_40, n3_60, n3_120, n3_128, n3_365, n3_366, n3_400, n3_100, n3_600, n3_700, n3_900, n3_1600, n3_2000, n3_3000, n3_3600, n3_5000, n3_86400, n3_m1, n3_m600, n3_m3600, n6_0, n6_1, n6_2, n6_3, n6_4, n6_7, n6_60, n6_100, n6_365, n6_366, n6_400, n6_900, n6_1461, n6_36524, n6_146097, iz_add, iz_sub, iz_mul, iz_neg, iz_div, iz_lt, iz_le, iz_eq, iz_l, lz_i, iz_nat, lz_add, lz_sub, lz_mul, lz_div, lz_lt, lz_le, lz_eq, lc_ge, lc_le, lc_eq, Option.bind_some, b01_z, b01_a, b01_1, iz_01, iz_11, pv_def, eq_self, not_true_eq_false, not_false_eq_true, if_true, if_false, if_pos, if_neg, g, a1, e]
      exact ih (k + 1) (by omega) (by omega)
theorem mvc_1 {D Q O : Nat → Int} (h1 : D 0 = 1) (h2 : Q 0 = 1) (h3 : O 0 = 0) (x : Int) : mvc D Q O 1 x = x := by
  rw [mvc_s, h1, h2, h3]
  show (x - 0) * 1 / 1 = x
  omega
theorem pt_rat {N : Nat} (hN : 20 ≤ N) {W : Nat} {D Q O : Nat → Int} {B : Int} (hW : W ≤ 6) (h : TW W D Q O B) (hB : 0 ≤ B) {x : Int} (hx : B ≤ x) (hx2 : x ≤ 4000000) {aw : Nat → Nat} {wrow : Nat → Option Nat} {L : List Nat} {K : Nat → Nat} {le tb : Nat → Int32} {mb : Nat → Int64} (hA : TA W aw D Q O wrow L K le tb mb) {w : Nat} (hw : w < W) : X6_movedByRatios_f N (iz W) wrow L K le tb mb (iz w) (lz x) = some (lz (mvc D Q O (w + 1) x), ()) := by
  unfold X6_movedByRatios_f
  exact pt_L6 hW h hB hx hx2 hA hw N 0 (by omega) (by omega)
/-- the reference's wheels -/
def TM (W : Nat) (D Q O : Nat → Int) (mteeth mleaves : Nat → Int32) (moffs : Nat → Int64) : Prop :=
  D 0 = 1 ∧ Q 0 = 1 ∧ O 0 = 0 ∧ ∀ i, i + 1 < W → mteeth i = iz (D (i + 1)) ∧ mleaves (i + 1) = iz (Q (i + 1)) ∧ moffs (i + 1) = lz (O (i + 1))
theorem pt_L69 {W : Nat} {D Q O : Nat → Int} {B : Int} (hW : W ≤ 6) (h : TW W D Q O B) (hB : 0 ≤ B) {x : Int} (hx : B ≤ x) (hx2 : x ≤ 4000000) {mteeth mleaves : Nat → Int32} {moffs : Nat → Int64} (hM : TM W D Q O mteeth mleaves moffs) {w : Nat} (hw : w < W) : ∀ (n k : Nat), k ≤ w → w - k < n → X9_movedAt_L6 mteeth mleaves moffs (iz w) n (lz (mvc D Q O (k + 1) x)) (iz ((k : Int) + 1)) = some (lz (mvc D Q O (w + 1) x), ()) := by
  intro n
  induction n with
  | zero => intro k a b; omega
  | succ n ih =>
    intro k a b
    show X9_movedAt_L6_body mteeth mleaves moffs (iz w) (X9_movedAt_L6 mteeth mleaves moffs (iz w) n) (lz (mvc D Q O (k + 1) x)) (iz ((k : Int) + 1)) = _
    unfold X9_movedAt_L6_body
    by_cases hk : k = w
    · subst hk
      simp (disch := omega) only [n3_0, n3_1, n3_2, n3_3, n3_4, n3_5, n3_6, n3_7, n3_8, n3_9, n3_10, n3_11, n3_12, n3_20, n3_23, n3_24, n3_28, n3_29, n3_30, n3_31, n3_32, n3_40, n3_60, n3_120, n3_128, n3_365, n3_366, n3_400, n3_100, n3_600, n3_700, n3_900, n3_1600, n3_2000, n3_3000, n3_3600, n3_5000, n3_86400, n3_m1, n3_m600, n3_m3600, n6_0, n6_1, n6_2, n6_3, n6_4, n6_7, n6_60, n6_100, n6_365, n6_366, n6_400, n6_900, n6_1461, n6_36524, n6_146097, iz_add, iz_sub, iz_mul, iz_neg, iz_div, iz_lt, iz_le, iz_eq, iz_l, lz_i, iz_nat, lz_add, lz_sub, lz_mul, lz_div, lz_lt, lz_le, lz_eq, lc_ge, lc_le, lc_eq, Option.bind_some, b01_z, b01_a, b01_1, iz_01, iz_11, pv_def, eq_self, not_true_eq_false, not_false_eq_true, if_true, if_false, if_pos, if_neg]
    · have hk2 : k + 1 < W := by omega
      obtain ⟨a1, a2, a3⟩ := hM.2.2.2 k hk2
      have hd := h (k + 1) hk2
      have hp := mvc_p hW h hB hx hx2 hk2
      have e1 : ((k : Int) + 1).toNat = k + 1 := by omega
      have e2 : ((k : Int) + 1 - 1).toNat = k := by omega
      simp (disch := omega) only [n3_0, n3_1, n3_2, n3_3, n3_4, n3_5, n3_6, n3_7, n3_8, n3_9, n3_10, n3_11, n3_12, n3_20, n3_23, n3_24, n3_28, n3_29, n3_30, n3_31, n3_32, n3_40, n3_60, n3_120, n3_128, n3_365, n3_366, n3_400, n3_100, n3_600, n3_700, n3_900, n3_1600, n3_2000, n3_3000, n3_3600, n3_5000, n3_86400, n3_m1, n3_m600, n3_m3600, n6_0, n6_1, n6_2, n6_3, n6_4, n6_7, n6_60, n6_100, n6_365, n6_366, n6_400, n6_900, n6_1461, n6_36524, n6_146097, iz_add, iz_sub, iz_mul, iz_neg, iz_div, iz_lt, iz_le, iz_eq, iz_l, lz_i, iz_nat, lz_add, lz_sub, lz_mul, lz_div, lz_lt, lz_le, lz_eq, lc_ge, lc_le, lc_eq, Option.bind_some, b01_z, b01_a, b01_1, iz_01, iz_11, pv_def, eq_self, not_true_eq_false, not_false_eq_true, if_true, if_false, if_pos, if_neg, e1, e2, a1, a2, a3]
      exact ih (k + 1) (by omega) (by omega)
theorem pt_rat9 {N : Nat} (hN : 20 ≤ N) {W : Nat} {D Q O : Nat → Int} {B : Int} (hW : W ≤ 6) (h : TW W D Q O B) (hB : 0 ≤ B) {x : Int} (hx : B ≤ x) (hx2 : x ≤ 4000000) {mteeth mleaves : Nat → Int32} {moffs : Nat → Int64} (hM : TM W D Q O mteeth mleaves moffs) {w : Nat} (hw : w < W) : X9_movedAt_f N mteeth mleaves moffs (iz w) (lz x) = some (lz (mvc D Q O (w + 1) x), ()) := by
  unfold X9_movedAt_f
  have e := pt_L69 hW h hB hx hx2 hM hw N 0 (by omega) (by omega)
  rw [mvc_1 hM.1 hM.2.1 hM.2.2.1] at e
  exact e
def wrem (D Q O : Nat → Int) (i : Nat) (x : Int) : Int := (mvc D Q O i x - O i) * Q i % D i
theorem up_self {α : Type} (f : Nat → α) (k : Nat) (v : α) : va_up f k v k = v := if_pos rfl
theorem up_ne {α : Type} (f : Nat → α) {k j : Nat} (v : α) (h : j ≠ k) : va_up f k v j = f j := if_neg h
theorem pt_sw {W : Nat} {D Q O : Nat → Int} {B : Int} (hW : W ≤ 6) (h : TW W D Q O B) (hB : 0 ≤ B) {x : Int} (hx : B ≤ x) (hx2 : x ≤ 4000000) {aw : Nat → Nat} {wrow : Nat → Option Nat} {L : List Nat} {K : Nat → Nat} {le tb : Nat → Int32} {mb : Nat → Int64} (hA : TA W aw D Q O wrow L K le tb mb) {i : Nat} (hi : i < W) (wr : Nat → Int64) : X7_startWalk_f (aw i) L K le tb mb wr (lz (mvc D Q O i x)) = some (va_up wr (aw i) (lz (wrem D Q O i x))) := by
  have e := pt_when hW h hB hx hx2 hA hi
  obtain ⟨a1, a2, a3, a4, a5⟩ := hA.1 i hi
  have hd := h i hi
  unfold X7_startWalk_f
  rw [if_pos a2, e, Option.bind_some, a3, a4, a5]
  simp (disch := omega) only [n3_0, n3_1, n3_2, n3_3, n3_4, n3_5, n3_6, n3_7, n3_8, n3_9, n3_10, n3_11, n3_12, n3_20, n3_23, n3_24, n3_28, n3_29, n3_30, n3_31, n3_32, n3_40, n3_60, n3_120, n3_128, n3_365, n3_366, n3_400, n3_100, n3_600, n3_700, n3_900, n3_1600, n3_2000, n3_3000, n3_3600, n3_5000, n3_86400, n3_m1, n3_m600, n3_m3600, n6_0, n6_1, n6_2, n6_3, n6_4, n6_7, n6_60, n6_100, n6_365, n6_366, n6_400, n6_900, n6_1461, n6_36524, n6_146097, iz_add, iz_sub, iz_mul, iz_neg, iz_div, iz_lt, iz_le, iz_eq, iz_l, lz_i, iz_nat, lz_add, lz_sub, lz_mul, lz_div, lz_lt, lz_le, lz_eq, lc_ge, lc_le, lc_eq, Option.bind_some, b01_z, b01_a, b01_1, iz_01, iz_11, pv_def, eq_self, not_true_eq_false, not_false_eq_true, if_true, if_false, if_pos, if_neg, mvc_s]
  rfl
theorem pt_L6s {W : Nat} {D Q O : Nat → Int} {B : Int} (hW : W ≤ 6) (h : TW W D Q O B) (hB : 0 ≤ B) {x : Int} (hx : B ≤ x) (hx2 : x ≤ 4000000) {aw : Nat → Nat} {wrow : Nat → Option Nat} {L : List Nat} {K : Nat → Nat} {le tb : Nat → Int32} {mb : Nat → Int64} (hA : TA W aw D Q O wrow L K le tb mb) {w : Nat} (hw : w < W) : ∀ (n k : Nat) (wr : Nat → Int64), k ≤ w + 1 → w + 1 - k < n → (∀ i, i < k → wr (aw i) = lz (wrem D Q O i x)) → ∃ wr' : Nat → Int64, X6_startWalk_L6 (iz W) wrow L K le tb mb (iz w) n (lz (mvc D Q O k x)) (iz k) wr = some (lz (mvc D Q O (w + 1) x), wr') ∧ ∀ i, i < w + 1 → wr' (aw i) = lz (wrem D Q O i x) := by
  intro n
  induction n with
  | zero => intro k wr a b; omega
  | succ n ih =>
    intro k wr a b hr
    by_cases hk : k = w + 1
    · subst hk
      refine ⟨wr, ?_, hr⟩
      show X6_startWalk_L6_body (iz W) wrow L K le tb mb (iz w) (X6_startWalk_L6 (iz W) wrow L K le tb mb (iz w) n) (lz (mvc D Q O (w + 1) x)) (iz ((w + 1 : Nat) : Int)) wr = _
      unfold X6_startWalk_L6_body X6_startWalk_b66 Jx4a65c_size_8abf5_f
      simp (disch := omega) only [n3_0, n3_1, n3_2, n3_3, n3_4, n3_5, n3_6, n3_7, n3_8, n3_9, n3_10, n3_11, n3_12, n3_20, n3_23, n3_24, n3_28, n3_29, n3_30, n3_31, n3_32, n3_40, n3_60, n3_120, n3_128, n3_365, n3_366, n3_400, n3_100, n3_600, n3_700, n3_900, n3_1600, n3_2000, n3_3000, n3_3600, n3_5000, n3_86400, n3_m1, n3_m600, n3_m3600, n6_0, n6_1, n6_2, n6_3, n6_4, n6_7, n6_60, n6_100, n6_365, n6_366, n6_400, n6_900, n6_1461, n6_36524, n6_146097, iz_add, iz_sub, iz_mul, iz_neg, iz_div, iz_lt, iz_le, iz_eq, iz_l, lz_i, iz_nat, lz_add, lz_sub, lz_mul, lz_div, lz_lt, lz_le, lz_eq, lc_ge, lc_le, lc_eq, Option.bind_some, b01_z, b01_a, b01_1, iz_01, iz_11, pv_def, eq_self, not_true_eq_false, not_false_eq_true, if_true, if_false, if_pos, if_neg]
    · have hk2 : k < W := by omega
      obtain ⟨wr', e1, e2⟩ := ih (k + 1) (va_up wr (aw k) (lz (wrem D Q O k x))) (by omega) (by omega) (by
        intro i hi
        by_cases hik : i = k
        · subst hik; exact up_self _ _ _
        · rw [up_ne _ _ (fun h9 => hik (hA.2 i k (by omega) hk2 h9))]
          exact hr i (by omega))
      refine ⟨wr', ?_, e2⟩
      rw [← e1]
      show X6_startWalk_L6_body (iz W) wrow L K le tb mb (iz w) (X6_startWalk_L6 (iz W) wrow L K le tb mb (iz w) n) (lz (mvc D Q O k x)) (iz k) wr = _
      unfold X6_startWalk_L6_body X6_startWalk_b66 Jx4a65c_size_8abf5_f
      obtain ⟨a1, a2, a3, a4, a5⟩ := hA.1 k hk2
      have e := pt_when hW h hB hx hx2 hA hk2
      have e' := pt_sw hW h hB hx hx2 hA hk2 wr
      have g := pt_get (by omega) wrow hk2
      simp (disch := omega) only [n3_0, n3_1, n3_2, n3_3, n3_4, n3_5, n3_6, n3_7, n3_8, n3_9, n3_10, n3_11, n3_12, n3_20, n3_23, n3_24, n3_28, n3_29, n3_30, n3_31, n3_32, n3_40, n3_60, n3_120, n3_128, n3_365, n3_366, n3_400, n3_100, n3_600, n3_700, n3_900, n3_1600, n3_2000, n3_3000, n3_3600, n3_5000, n3_86400, n3_m1, n3_m600, n3_m3600, n6_0, n6_1, n6_2, n6_3, n6_4, n6_7, n6_60, n6_100, n6_365, n6_366, n6_400, n6_900, n6_1461, n6_36524, n6_146097, iz_add, iz_sub, iz_mul, iz_neg, iz_div, iz_lt, iz_le, iz_eq, iz_l, lz_i, iz_nat, lz_add, lz_sub, lz_mul, lz_div, lz_lt, lz_le, lz_eq, lc_ge, lc_le, lc_eq, Option.bind_some, b01_z, b01_a, b01_1, iz_01, iz_11, pv_def, eq_self, not_true_eq_false, not_false_eq_true, if_true, if_false, if_pos, if_neg, g, a1, e, e']
      rfl
theorem ediv_shift (A d D : Int) (hD : 0 < D) : (A % D + d) / D = (A + d) / D - A / D ∧ (A % D + d) % D = (A + d) % D := by
  have e : A + d = (A % D + d) + D * (A / D) := by
    have := Int.emod_add_mul_ediv A D
    omega
  constructor
  · rw [e, Int.add_mul_ediv_left _ _ (by omega)]
    omega
  · rw [e, Int.add_mul_emod_self_left]
theorem pt_wk {W : Nat} {D Q O : Nat → Int} {B : Int} (hW : W ≤ 6) (h : TW W D Q O B) (hB : 0 ≤ B) {x : Int} (hx : B ≤ x) (hx2 : x + 1 ≤ 4000000) {aw : Nat → Nat} {wrow : Nat → Option Nat} {L : List Nat} {K : Nat → Nat} {le tb : Nat → Int32} {mb : Nat → Int64} (hA : TA W aw D Q O wrow L K le tb mb) {i : Nat} (hi : i < W) {wr : Nat → Int64} (hr : wr (aw i) = lz (wrem D Q O i x)) : ∃ wr' : Nat → Int64, X7_walk_f (aw i) L K le tb wr (lz (mvc D Q O i (x + 1) - mvc D Q O i x)) = some (lz (mvc D Q O (i + 1) (x + 1) - mvc D Q O (i + 1) x), wr') ∧ wr' (aw i) = lz (wrem D Q O i (x + 1)) ∧ ∀ j, j ≠ aw i → wr' j = wr j := by
  obtain ⟨a1, a2, a3, a4, a5⟩ := hA.1 i hi
  have hd := h i hi
  have hm := mvc_mono h (x := x) (y := x + 1) (by omega) i (by omega)
  have hb := mvc_b hW h hB hx (by omega) (i := i) (by omega)
  have hb' := mvc_b hW h hB (x := x + 1) (by omega) (by omega) (i := i) (by omega)
  have es := ediv_shift ((mvc D Q O i x - O i) * Q i) ((mvc D Q O i (x + 1) - mvc D Q O i x) * Q i) (D i) (by omega)
  have er : (mvc D Q O i x - O i) * Q i + (mvc D Q O i (x + 1) - mvc D Q O i x) * Q i = (mvc D Q O i (x + 1) - O i) * Q i := by
    rw [← Int.add_mul]; congr 1; omega
  rw [er] at es
  have w0 : 0 ≤ wrem D Q O i x := Int.emod_nonneg _ (by omega)
  have w1 : wrem D Q O i x < D i := Int.emod_lt_of_pos _ (by omega)
  have m0 : 0 ≤ (mvc D Q O i (x + 1) - mvc D Q O i x) * Q i := Int.mul_nonneg (by omega) (by omega)
  have m1 : (mvc D Q O i (x + 1) - mvc D Q O i x) * Q i ≤ 764411904000000 * 24 := Int.mul_le_mul (by omega) (by omega) (by omega) (by omega)
  have ew : X7_walk_f (aw i) L K le tb wr (lz (mvc D Q O i (x + 1) - mvc D Q O i x)) = some (lz ((wrem D Q O i x + (mvc D Q O i (x + 1) - mvc D Q O i x) * Q i) / D i), va_up (va_up wr (aw i) (lz (wrem D Q O i x + (mvc D Q O i (x + 1) - mvc D Q O i x) * Q i))) (aw i) (lz ((wrem D Q O i x + (mvc D Q O i (x + 1) - mvc D Q O i x) * Q i) % D i))) := by
    unfold X7_walk_f
    rw [if_pos a2, hr, a3, a4]
    simp (disch := omega) only [n3_0, n3_1, n3_2, n3_3, n3_4, n3_5, n3_6, n3_7, n3_8, n3_9, n3_10, n3_11, n3_12, n3_20, n3_23, n3_24, n3_28, n3_29, n3_30, n3_31, n3_32, n3_40, n3_60, n3_120, n3_128, n3_365, n3_366, n3_400, n3_100, n3_600, n3_700, n3_900, n3_1600, n3_2000, n3_3000, n3_3600, n3_5000, n3_86400, n3_m1, n3_m600, n3_m3600, n6_0, n6_1, n6_2, n6_3, n6_4, n6_7, n6_60, n6_100, n6_365, n6_366, n6_400, n6_900, n6_1461, n6_36524, n6_146097, iz_add, iz_sub, iz_mul, iz_neg, iz_div, iz_lt, iz_le, iz_eq, iz_l, lz_i, iz_nat, lz_add, lz_sub, lz_mul, lz_div, lz_lt, lz_le, lz_eq, lc_ge, lc_le, lc_eq, Option.bind_some, b01_z, b01_a, b01_1, iz_01, iz_11, pv_def, eq_self, not_true_eq_false, not_false_eq_true, if_true, if_false, if_pos, if_neg, up_self, pw_part]
  rw [show wrem D Q O i x = (mvc D Q O i x - O i) * Q i % D i from rfl, es.1, es.2] at ew
  rw [mvc_s, mvc_s]
  exact ⟨_, ew, up_self _ _ _, fun j hj => by rw [up_ne _ _ hj, up_ne _ _ hj]⟩
theorem pt_L5 {W : Nat} {D Q O : Nat → Int} {B : Int} (hW : W ≤ 6) (h : TW W D Q O B) (hB : 0 ≤ B) {x : Int} (hx : B ≤ x) (hx2 : x + 1 ≤ 4000000) {aw : Nat → Nat} {wrow : Nat → Option Nat} {L : List Nat} {K : Nat → Nat} {le tb : Nat → Int32} {mb : Nat → Int64} (hA : TA W aw D Q O wrow L K le tb mb) {w : Nat} (hw : w < W) : ∀ (n k : Nat) (wr : Nat → Int64), k ≤ w + 1 → w + 1 - k < n → (∀ i, i < k → wr (aw i) = lz (wrem D Q O i (x + 1))) → (∀ i, k ≤ i → i < w + 1 → wr (aw i) = lz (wrem D Q O i x)) → ∃ wr' : Nat → Int64, X6_walkOneBeat_L5 (iz W) wrow L K le tb (iz w) n (lz (mvc D Q O k (x + 1) - mvc D Q O k x)) (iz k) wr = some (lz (mvc D Q O (w + 1) (x + 1) - mvc D Q O (w + 1) x), wr') ∧ ∀ i, i < w + 1 → wr' (aw i) = lz (wrem D Q O i (x + 1)) := by
  intro n
  induction n with
  | zero => intro k wr a b; omega
  | succ n ih =>
    intro k wr a b hr hr2
    by_cases hk : k = w + 1
    · subst hk
      refine ⟨wr, ?_, hr⟩
      show X6_walkOneBeat_L5_body (iz W) wrow L K le tb (iz w) (X6_walkOneBeat_L5 (iz W) wrow L K le tb (iz w) n) (lz (mvc D Q O (w + 1) (x + 1) - mvc D Q O (w + 1) x)) (iz ((w + 1 : Nat) : Int)) wr = _
      unfold X6_walkOneBeat_L5_body X6_walkOneBeat_b46 Jx4a65c_size_8abf5_f
      simp (disch := omega) only [n3_0, n3_1, n3_2, n3_3, n3_4, n3_5, n3_6, n3_7, n3_8, n3_9, n3_10, n3_11, n3_12, n3_20, n3_23, n3_24, n3_28, n3_29, n3_30, n3_31, n3_32, n3_40, n3_60, n3_120, n3_128, n3_365, n3_366, n3_400, n3_100, n3_600, n3_700, n3_900, n3_1600, n3_2000, n3_3000, n3_3600, n3_5000, n3_86400, n3_m1, n3_m600, n3_m3600, n6_0, n6_1, n6_2, n6_3, n6_4, n6_7, n6_60, n6_100, n6_365, n6_366, n6_400, n6_900, n6_1461, n6_36524, n6_146097, iz_add, iz_sub, iz_mul, iz_neg, iz_div, iz_lt, iz_le, iz_eq, iz_l, lz_i, iz_nat, lz_add, lz_sub, lz_mul, lz_div, lz_lt, lz_le, lz_eq, lc_ge, lc_le, lc_eq, Option.bind_some, b01_z, b01_a, b01_1, iz_01, iz_11, pv_def, eq_self, not_true_eq_false, not_false_eq_true, if_true, if_false, if_pos, if_neg]
    · have hk2 : k < W := by omega
      obtain ⟨wr1, f1, f2, f3⟩ := pt_wk hW h hB hx hx2 hA hk2 (hr2 k (by omega) (by omega))
      obtain ⟨wr', e1, e2⟩ := ih (k + 1) wr1 (by omega) (by omega) (by
        intro i hi
        by_cases hik : i = k
        · subst hik; exact f2
        · rw [f3 _ (fun h9 => hik (hA.2 i k (by omega) hk2 h9))]
          exact hr i (by omega)) (by
        intro i hi hi2
        rw [f3 _ (fun h9 => by have := hA.2 i k (by omega) hk2 h9; omega)]
        exact hr2 i (by omega) hi2)
      refine ⟨wr', ?_, e2⟩
      rw [← e1]
      show X6_walkOneBeat_L5_body (iz W) wrow L K le tb (iz w) (X6_walkOneBeat_L5 (iz W) wrow L K le tb (iz w) n) (lz (mvc D Q O k (x + 1) - mvc D Q O k x)) (iz k) wr = _
      unfold X6_walkOneBeat_L5_body X6_walkOneBeat_b46 Jx4a65c_size_8abf5_f
      obtain ⟨a1, a2, a3, a4, a5⟩ := hA.1 k hk2
      have g := pt_get (by omega) wrow hk2
      simp (disch := omega) only [n3_0, n3_1, n3_2, n3_3, n3_4, n3_5, n3_6, n3_7, n3_8, n3_9, n3_10, n3_11, n3_12, n3_20, n3_23, n3_24, n3_28, n3_29, n3_30, n3_31, n3_32, n3_40, n3_60, n3_120, n3_128, n3_365, n3_366, n3_400, n3_100, n3_600, n3_700, n3_900, n3_1600, n3_2000, n3_3000, n3_3600, n3_5000, n3_86400, n3_m1, n3_m600, n3_m3600, n6_0, n6_1, n6_2, n6_3, n6_4, n6_7, n6_60, n6_100, n6_365, n6_366, n6_400, n6_900, n6_1461, n6_36524, n6_146097, iz_add, iz_sub, iz_mul, iz_neg, iz_div, iz_lt, iz_le, iz_eq, iz_l, lz_i, iz_nat, lz_add, lz_sub, lz_mul, lz_div, lz_lt, lz_le, lz_eq, lc_ge, lc_le, lc_eq, Option.bind_some, b01_z, b01_a, b01_1, iz_01, iz_11, pv_def, eq_self, not_true_eq_false, not_false_eq_true, if_true, if_false, if_pos, if_neg, g, a1, f1]
      rfl
theorem pt_beat {N : Nat} (hN : 20 ≤ N) {W : Nat} {D Q O : Nat → Int} {B : Int} (hW : W ≤ 6) (h : TW W D Q O B) (hB : 0 ≤ B) {x : Int} (hx : B ≤ x) (hx2 : x + 1 ≤ 4000000) {aw : Nat → Nat} {wrow : Nat → Option Nat} {L : List Nat} {K : Nat → Nat} {le tb : Nat → Int32} {mb : Nat → Int64} (hA : TA W aw D Q O wrow L K le tb mb) {w : Nat} (hw : w < W) (wr : Nat → Int64) (hr : ∀ i, i < w + 1 → wr (aw i) = lz (wrem D Q O i x)) : ∃ wr' : Nat → Int64, X6_walkOneBeat_f N (iz W) wrow L K le tb wr (iz w) = some (lz (mvc D Q O (w + 1) (x + 1) - mvc D Q O (w + 1) x), wr') ∧ ∀ i, i < w + 1 → wr' (aw i) = lz (wrem D Q O i (x + 1)) := by
  unfold X6_walkOneBeat_f
  have e := pt_L5 hW h hB hx hx2 hA hw N 0 wr (by omega) (by omega) (fun i hi => by omega) (fun i _ hi => hr i hi)
  rw [show mvc D Q O 0 (x + 1) - mvc D Q O 0 x = 1 from by show x + 1 - x = 1; omega] at e
  exact e
theorem pt_L11 {N : Nat} (hN : 20 ≤ N) {W : Nat} {D Q O : Nat → Int} {B : Int} (hW : W ≤ 6) (h : TW W D Q O B) (hB : 0 ≤ B) {b : Nat} (hb2 : B + b ≤ 4000000) {aw : Nat → Nat} {wrow : Nat → Option Nat} {L : List Nat} {K : Nat → Nat} {le tb : Nat → Int32} {mb : Nat → Int64} (hA : TA W aw D Q O wrow L K le tb mb) {w : Nat} (hw : w < W) : ∀ (n j : Nat) (wr : Nat → Int64), j ≤ b → b - j < n → (∀ i, i < w + 1 → wr (aw i) = lz (wrem D Q O i (B + j))) → ∃ wr' : Nat → Int64, X6_movedByWalking_L11 N (iz W) wrow L K le tb (iz w) (iz b) n (lz (mvc D Q O (w + 1) (B + j))) (iz j) wr = some (lz (mvc D Q O (w + 1) (B + b)), wr') := by
  intro n
  induction n with
  | zero => intro j wr a b; omega
  | succ n ih =>
    intro j wr ha hb hr
    by_cases hk : j = b
    · subst hk
      refine ⟨wr, ?_⟩
      show X6_movedByWalking_L11_body N (iz W) wrow L K le tb (iz w) (iz j) (X6_movedByWalking_L11 N (iz W) wrow L K le tb (iz w) (iz j) n) (lz (mvc D Q O (w + 1) (B + j))) (iz j) wr = _
      unfold X6_movedByWalking_L11_body
      simp (disch := omega) only [n3_0, n3_1, n3_2, n3_3, n3_4, n3_5, n3_6, n3_7, n3_8, n3_9, n3_10, n3_11, n3_12, n3_20, n3_23, n3_24, n3_28, n3_29, n3_30, n3_31, n3_32, n3_40, n3_60, n3_120, n3_128, n3_365, n3_366, n3_400, n3_100, n3_600, n3_700, n3_900, n3_1600, n3_2000, n3_3000, n3_3600, n3_5000, n3_86400, n3_m1, n3_m600, n3_m3600, n6_0, n6_1, n6_2, n6_3, n6_4, n6_7, n6_60, n6_100, n6_365, n6_366, n6_400, n6_900, n6_1461, n6_36524, n6_146097, iz_add, iz_sub, iz_mul, iz_neg, iz_div, iz_lt, iz_le, iz_eq, iz_l, lz_i, iz_nat, lz_add, lz_sub, lz_mul, lz_div, lz_lt, lz_le, lz_eq, lc_ge, lc_le, lc_eq, Option.bind_some, b01_z, b01_a, b01_1, iz_01, iz_11, pv_def, eq_self, not_true_eq_false, not_false_eq_true, if_true, if_false, if_pos, if_neg]
    · obtain ⟨wr1, e1, e2⟩ := pt_beat hN hW h hB (x := B + j) (by omega) (by omega) hA hw wr hr
      rw [show B + (j : Int) + 1 = B + ((j + 1 : Nat) : Int) from by omega] at e1 e2
      obtain ⟨wr', e3⟩ := ih (j + 1) wr1 (by omega) (by omega) e2
      refine ⟨wr', ?_⟩
      rw [← e3]
      show X6_movedByWalking_L11_body N (iz W) wrow L K le tb (iz w) (iz b) (X6_movedByWalking_L11 N (iz W) wrow L K le tb (iz w) (iz b) n) (lz (mvc D Q O (w + 1) (B + j))) (iz j) wr = _
      unfold X6_movedByWalking_L11_body
      simp (disch := omega) only [n3_0, n3_1, n3_2, n3_3, n3_4, n3_5, n3_6, n3_7, n3_8, n3_9, n3_10, n3_11, n3_12, n3_20, n3_23, n3_24, n3_28, n3_29, n3_30, n3_31, n3_32, n3_40, n3_60, n3_120, n3_128, n3_365, n3_366, n3_400, n3_100, n3_600, n3_700, n3_900, n3_1600, n3_2000, n3_3000, n3_3600, n3_5000, n3_86400, n3_m1, n3_m600, n3_m3600, n6_0, n6_1, n6_2, n6_3, n6_4, n6_7, n6_60, n6_100, n6_365, n6_366, n6_400, n6_900, n6_1461, n6_36524, n6_146097, iz_add, iz_sub, iz_mul, iz_neg, iz_div, iz_lt, iz_le, iz_eq, iz_l, lz_i, iz_nat, lz_add, lz_sub, lz_mul, lz_div, lz_lt, lz_le, lz_eq, lc_ge, lc_le, lc_eq, Option.bind_some, b01_z, b01_a, b01_1, iz_01, iz_11, pv_def, eq_self, not_true_eq_false, not_false_eq_true, if_true, if_false, if_pos, if_neg, e1]
      rw [show mvc D Q O (w + 1) (B + ↑j) + (mvc D Q O (w + 1) (B + ((j + 1 : Nat) : Int)) - mvc D Q O (w + 1) (B + ↑j)) = mvc D Q O (w + 1) (B + ((j + 1 : Nat) : Int)) from by omega]
      rfl
theorem pt_walk {N : Nat} (hN : 6000 ≤ N) {W : Nat} {D Q O : Nat → Int} {B : Int} (hW : W ≤ 6) (h : TW W D Q O B) (hB : 0 ≤ B) {b : Nat} (hb : b ≤ 5000) (hb2 : B + b ≤ 4000000) {aw : Nat → Nat} {wrow : Nat → Option Nat} {L : List Nat} {K : Nat → Nat} {le tb : Nat → Int32} {mb : Nat → Int64} (hA : TA W aw D Q O wrow L K le tb mb) {w : Nat} (hw : w < W) (wr : Nat → Int64) : ∃ wr' : Nat → Int64, X6_movedByWalking_f N (iz W) wrow L K le tb mb wr (iz w) (lz B) (iz b) = some (lz (mvc D Q O (w + 1) (B + b)), wr') := by
  obtain ⟨wr1, e1, e2⟩ := pt_L6s hW h hB (x := B) (by omega) (by omega) hA hw N 0 wr (by omega) (by omega) (fun i hi => by omega)
  have e1' : X6_startWalk_f N (iz W) wrow L K le tb mb wr (iz w) (lz B) = some (lz (mvc D Q O (w + 1) B), wr1) := e1
  obtain ⟨wr', e3⟩ := pt_L11 (N := N) (by omega) hW h hB hb2 hA hw N 0 wr1 (by omega) (by omega) (by
    intro i hi
    rw [e2 i hi]
    congr 2
    omega)
  refine ⟨wr', ?_⟩
  unfold X6_movedByWalking_f
  rw [e1', Option.bind_some]
  rw [show B + ((0 : Nat) : Int) = B from by omega] at e3
  exact e3
theorem pt_teeth {W : Nat} (hW : W ≤ 6) {aw : Nat → Nat} {wrow : Nat → Option Nat} {L : List Nat} {K : Nat → Nat} {te : Nat → Int32} {w : Nat} (hw : w < W) (a1 : wrow w = some (aw w)) (a2 : aw w ∈ L ∧ K (aw w) = 0) : X6_teethOf_f (iz W) wrow L K te (iz w) = some (te (aw w), ()) := by
  have g := pt_get (by omega) wrow hw
  unfold X6_teethOf_f X6_teethOf_b32 X6_teethOf_b33 Jx4a65c_size_8abf5_f X7_toothCount_f
  simp (disch := omega) only [n3_0, n3_1, n3_2, n3_3, n3_4, n3_5, n3_6, n3_7, n3_8, n3_9, n3_10, n3_11, n3_12, n3_20, n3_23, n3_24, n3_28, n3_29, n3_30, n3_31, n3_32, n3_40, n3_60, n3_120, n3_128, n3_365, n3_366, n3_400, n3_100, n3_600, n3_700, n3_900, n3_1600, n3_2000, n3_3000, n3_3600, n3_5000, n3_86400, n3_m1, n3_m600, n3_m3600, n6_0, n6_1, n6_2, n6_3, n6_4, n6_7, n6_60, n6_100, n6_365, n6_366, n6_400, n6_900, n6_1461, n6_36524, n6_146097, iz_add, iz_sub, iz_mul, iz_neg, iz_div, iz_lt, iz_le, iz_eq, iz_l, lz_i, iz_nat, lz_add, lz_sub, lz_mul, lz_div, lz_lt, lz_le, lz_eq, lc_ge, lc_le, lc_eq, Option.bind_some, b01_z, b01_a, b01_1, iz_01, iz_11, pv_def, eq_self, not_true_eq_false, not_false_eq_true, if_true, if_false, if_pos, if_neg, g, a1]
