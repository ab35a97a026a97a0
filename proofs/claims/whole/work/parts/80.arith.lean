def iz (z : Int) : Int32 := Int32.ofInt z
def lz (z : Int) : Int64 := Int64.ofInt z
theorem iz_of (x : Int32) : ∃ z : Int, x = iz z ∧ -2147483648 ≤ z ∧ z ≤ 2147483647 :=
  ⟨x.toInt, (Int32.ofInt_toInt x).symm, x.le_toInt, by have := x.toInt_lt; omega⟩
theorem lz_of (x : Int64) : ∃ z : Int, x = lz z ∧ -9223372036854775808 ≤ z ∧ z ≤ 9223372036854775807 :=
  ⟨x.toInt, (Int64.ofInt_toInt x).symm, x.le_toInt, by have := x.toInt_lt; omega⟩
theorem iz_add (a b : Int) : iz a + iz b = iz (a + b) := (Int32.ofInt_add a b).symm
theorem iz_sub (a b : Int) : iz a - iz b = iz (a - b) := (Int32.ofInt_sub a b).symm
theorem iz_mul (a b : Int) : iz a * iz b = iz (a * b) := (Int32.ofInt_mul a b).symm
theorem iz_neg (a : Int) : -iz a = iz (-a) := (Int32.ofInt_neg a).symm
theorem lz_add (a b : Int) : lz a + lz b = lz (a + b) := (Int64.ofInt_add a b).symm
theorem lz_sub (a b : Int) : lz a - lz b = lz (a - b) := (Int64.ofInt_sub a b).symm
theorem lz_mul (a b : Int) : lz a * lz b = lz (a * b) := (Int64.ofInt_mul a b).symm
theorem iz_toInt {a : Int} (h1 : -2147483648 ≤ a) (h2 : a ≤ 2147483647) : (iz a).toInt = a :=
  Int32.toInt_ofInt_of_le (by omega) (by omega)
theorem lz_toInt {a : Int} (h1 : -9223372036854775808 ≤ a) (h2 : a ≤ 9223372036854775807) : (lz a).toInt = a :=
  Int64.toInt_ofInt_of_le (by omega) (by omega)
theorem iz_lt {a b : Int} (h1 : -2147483648 ≤ a) (h2 : a ≤ 2147483647) (h3 : -2147483648 ≤ b) (h4 : b ≤ 2147483647) : (iz a < iz b) = (a < b) :=
  propext (by rw [Int32.lt_iff_toInt_lt, iz_toInt h1 h2, iz_toInt h3 h4])
theorem iz_le {a b : Int} (h1 : -2147483648 ≤ a) (h2 : a ≤ 2147483647) (h3 : -2147483648 ≤ b) (h4 : b ≤ 2147483647) : (iz a ≤ iz b) = (a ≤ b) :=
  propext (by rw [Int32.le_iff_toInt_le, iz_toInt h1 h2, iz_toInt h3 h4])
theorem iz_eq {a b : Int} (h1 : -2147483648 ≤ a) (h2 : a ≤ 2147483647) (h3 : -2147483648 ≤ b) (h4 : b ≤ 2147483647) : (iz a = iz b) = (a = b) :=
  propext (by rw [← Int32.toInt_inj, iz_toInt h1 h2, iz_toInt h3 h4])
theorem lz_lt {a b : Int} (h1 : -9223372036854775808 ≤ a) (h2 : a ≤ 9223372036854775807) (h3 : -9223372036854775808 ≤ b) (h4 : b ≤ 9223372036854775807) : (lz a < lz b) = (a < b) :=
  propext (by rw [Int64.lt_iff_toInt_lt, lz_toInt h1 h2, lz_toInt h3 h4])
theorem lz_le {a b : Int} (h1 : -9223372036854775808 ≤ a) (h2 : a ≤ 9223372036854775807) (h3 : -9223372036854775808 ≤ b) (h4 : b ≤ 9223372036854775807) : (lz a ≤ lz b) = (a ≤ b) :=
  propext (by rw [Int64.le_iff_toInt_le, lz_toInt h1 h2, lz_toInt h3 h4])
theorem lz_eq {a b : Int} (h1 : -9223372036854775808 ≤ a) (h2 : a ≤ 9223372036854775807) (h3 : -9223372036854775808 ≤ b) (h4 : b ≤ 9223372036854775807) : (lz a = lz b) = (a = b) :=
  propext (by rw [← Int64.toInt_inj, lz_toInt h1 h2, lz_toInt h3 h4])
theorem iz_div {a b : Int} (h1 : 0 ≤ a) (h2 : a ≤ 2147483647) (h3 : 0 ≤ b) (h4 : b ≤ 2147483647) : iz a / iz b = iz (a / b) := by
  have e := Int32.ofInt_tdiv (a := a) (b := b) (by rw [Int32.toInt_minValue]; omega) (by rw [Int32.toInt_maxValue]; omega) (by rw [Int32.toInt_minValue]; omega) (by rw [Int32.toInt_maxValue]; omega)
  rw [Int.tdiv_eq_ediv_of_nonneg h1] at e
  exact e.symm
theorem lz_div {a b : Int} (h1 : 0 ≤ a) (h2 : a ≤ 9223372036854775807) (h3 : 0 ≤ b) (h4 : b ≤ 9223372036854775807) : lz a / lz b = lz (a / b) := by
  have e := Int64.ofInt_tdiv (a := a) (b := b) (by rw [Int64.toInt_minValue]; omega) (by rw [Int64.toInt_maxValue]; omega) (by rw [Int64.toInt_minValue]; omega) (by rw [Int64.toInt_maxValue]; omega)
  rw [Int.tdiv_eq_ediv_of_nonneg h1] at e
  exact e.symm
theorem iz_l {a : Int} (h1 : -2147483648 ≤ a) (h2 : a ≤ 2147483647) : (iz a).toInt64 = lz a :=
  Int32.toInt64_ofInt (by rw [Int32.toInt_minValue]; omega) (by rw [Int32.toInt_maxValue]; omega)
theorem lz_i (a : Int) : (lz a).toInt32 = iz a := Int64.toInt32_ofInt
theorem iz_nat {a : Int} (h1 : -2147483648 ≤ a) (h2 : a ≤ 2147483647) : (iz a).toNatClampNeg = a.toNat :=
  Int32.toNatClampNeg_ofInt_of_le (by omega) (by omega)
theorem lc_ge (x y : Int64) : (iz 0 ≤ lg_cmp x y) = (y ≤ x) := propext (lg_cmp_ge x y)
theorem lc_le (x y : Int64) : (lg_cmp x y ≤ iz 0) = (x ≤ y) := propext (lg_cmp_le x y)
theorem lc_eq (x y : Int64) : (lg_cmp x y = iz 0) = (x = y) := by
  apply propext
  have h1 := lg_cmp_le x y
  have h2 := lg_cmp_ge x y
  constructor
  · intro h
    rw [show iz 0 = 0 from rfl] at h
    have a1 : lg_cmp x y ≤ 0 := by rw [h]; exact Int32.le_refl _
    have a2 : 0 ≤ lg_cmp x y := by rw [h]; exact Int32.le_refl _
    have b1 := h1.mp a1
    have b2 := h2.mp a2
    rw [Int64.le_iff_toInt_le] at b1 b2
    exact Int64.toInt_inj.mp (by omega)
  · rintro rfl
    unfold lg_cmp
    simp
    rfl
def b01 (p : Prop) [Decidable p] : Int32 := if p then iz 1 else iz 0
theorem b01_t {p : Prop} [Decidable p] (h : p) : b01 p = iz 1 := if_pos h
theorem b01_f {p : Prop} [Decidable p] (h : ¬ p) : b01 p = iz 0 := if_neg h
theorem b01_z (p : Prop) [Decidable p] : (b01 p = iz 0) = ¬ p := by
  apply propext
  by_cases h : p
  · rw [b01_t h]; exact ⟨fun h9 => absurd h9 (by decide), fun h9 => absurd h h9⟩
  · rw [b01_f h]; exact ⟨fun _ => h, fun _ => rfl⟩
theorem b01_a (p : Prop) [Decidable p] : (b01 p &&& iz 1 = b01 p) = True := by
  apply propext
  by_cases h : p
  · rw [b01_t h]; exact ⟨fun _ => trivial, fun _ => by decide⟩
  · rw [b01_f h]; exact ⟨fun _ => trivial, fun _ => by decide⟩
theorem b01_1 (p : Prop) [Decidable p] : (b01 p = iz 1) = p := by
  apply propext
  by_cases h : p
  · rw [b01_t h]; exact ⟨fun _ => h, fun _ => rfl⟩
  · rw [b01_f h]; exact ⟨fun h9 => absurd h9 (by decide), fun h9 => absurd h9 h⟩
theorem iz_01 : iz 0 &&& iz 1 = iz 0 := by decide
theorem iz_11 : iz 1 &&& iz 1 = iz 1 := by decide
theorem b01_c {p q : Prop} [Decidable p] [Decidable q] (h : p ↔ q) : b01 p = b01 q := by
  by_cases h1 : p
  · rw [b01_t h1, b01_t (h.mp h1)]
  · rw [b01_f h1, b01_f (fun h2 => h1 (h.mpr h2))]
theorem i3_ge (x : Int32) : (0 ≤ x) ↔ x.toBitVec.msb = false := by
  rw [Int32.le_iff_toInt_le, BitVec.msb_eq_toInt, Int32.toInt_toBitVec, Int32.toInt_zero]
  simp
theorem i6_ge (x : Int64) : (0 ≤ x) ↔ x.toBitVec.msb = false := by
  rw [Int64.le_iff_toInt_le, BitVec.msb_eq_toInt, Int64.toInt_toBitVec, Int64.toInt_zero]
  simp
theorem i3_xor {x y : Int32} (h1 : 0 ≤ x) (h2 : 0 ≤ y) : 0 ≤ x ^^^ y := by
  rw [i3_ge] at h1 h2 ⊢
  rw [Int32.toBitVec_xor, BitVec.msb_xor, h1, h2]
  rfl
theorem i6_xor {x y : Int64} (h1 : 0 ≤ x) (h2 : 0 ≤ y) : 0 ≤ x ^^^ y := by
  rw [i6_ge] at h1 h2 ⊢
  rw [Int64.toBitVec_xor, BitVec.msb_xor, h1, h2]
  rfl
theorem iz_xor {a b : Int} (h1 : 0 ≤ a) (h2 : a ≤ 2147483647) (h3 : 0 ≤ b) (h4 : b ≤ 2147483647) : iz 0 ≤ iz a ^^^ iz b := by
  have e1 : iz 0 ≤ iz a := by rw [iz_le (by omega) (by omega) (by omega) (by omega)]; exact h1
  have e2 : iz 0 ≤ iz b := by rw [iz_le (by omega) (by omega) (by omega) (by omega)]; exact h3
  exact i3_xor e1 e2
theorem lz_xor {a b : Int} (h1 : 0 ≤ a) (h2 : a ≤ 9223372036854775807) (h3 : 0 ≤ b) (h4 : b ≤ 9223372036854775807) : lz 0 ≤ lz a ^^^ lz b := by
  have e1 : lz 0 ≤ lz a := by rw [lz_le (by omega) (by omega) (by omega) (by omega)]; exact h1
  have e2 : lz 0 ≤ lz b := by rw [lz_le (by omega) (by omega) (by omega) (by omega)]; exact h3
  exact i6_xor e1 e2
theorem pv_def (a b : Int) : a - a / b * b = a % b := by rw [Int.emod_def, Int.mul_comm]
theorem n3_0 : (0 : Int32) = iz 0 := rfl
theorem n3_1 : (1 : Int32) = iz 1 := rfl
theorem n3_2 : (2 : Int32) = iz 2 := rfl
theorem n3_3 : (3 : Int32) = iz 3 := rfl
theorem n3_4 : (4 : Int32) = iz 4 := rfl
theorem n3_5 : (5 : Int32) = iz 5 := rfl
theorem n3_6 : (6 : Int32) = iz 6 := rfl
theorem n3_7 : (7 : Int32) = iz 7 := rfl
theorem n3_8 : (8 : Int32) = iz 8 := rfl
theorem n3_9 : (9 : Int32) = iz 9 := rfl
theorem n3_10 : (10 : Int32) = iz 10 := rfl
theorem n3_11 : (11 : Int32) = iz 11 := rfl
theorem n3_12 : (12 : Int32) = iz 12 := rfl
theorem n3_20 : (20 : Int32) = iz 20 := rfl
theorem n3_23 : (23 : Int32) = iz 23 := rfl
theorem n3_24 : (24 : Int32) = iz 24 := rfl
theorem n3_28 : (28 : Int32) = iz 28 := rfl
theorem n3_29 : (29 : Int32) = iz 29 := rfl
theorem n3_30 : (30 : Int32) = iz 30 := rfl
theorem n3_31 : (31 : Int32) = iz 31 := rfl
theorem n3_32 : (32 : Int32) = iz 32 := rfl
theorem n3_40 : (40 : Int32) = iz 40 := rfl
theorem n3_60 : (60 : Int32) = iz 60 := rfl
theorem n3_120 : (120 : Int32) = iz 120 := rfl
theorem n3_128 : (128 : Int32) = iz 128 := rfl
theorem n3_365 : (365 : Int32) = iz 365 := rfl
theorem n3_366 : (366 : Int32) = iz 366 := rfl
theorem n3_400 : (400 : Int32) = iz 400 := rfl
theorem n3_100 : (100 : Int32) = iz 100 := rfl
theorem n3_600 : (600 : Int32) = iz 600 := rfl
theorem n3_700 : (700 : Int32) = iz 700 := rfl
theorem n3_900 : (900 : Int32) = iz 900 := rfl
theorem n3_1600 : (1600 : Int32) = iz 1600 := rfl
theorem n3_2000 : (2000 : Int32) = iz 2000 := rfl
theorem n3_3000 : (3000 : Int32) = iz 3000 := rfl
theorem n3_3600 : (3600 : Int32) = iz 3600 := rfl
theorem n3_5000 : (5000 : Int32) = iz 5000 := rfl
theorem n3_86400 : (86400 : Int32) = iz 86400 := rfl
theorem n3_m1 : (-1 : Int32) = iz (-1) := rfl
theorem n3_m600 : (-600 : Int32) = iz (-600) := rfl
theorem n3_m3600 : (-3600 : Int32) = iz (-3600) := rfl
theorem n6_0 : (0 : Int64) = lz 0 := rfl
theorem n6_1 : (1 : Int64) = lz 1 := rfl
theorem n6_2 : (2 : Int64) = lz 2 := rfl
theorem n6_3 : (3 : Int64) = lz 3 := rfl
theorem n6_4 : (4 : Int64) = lz 4 := rfl
theorem n6_7 : (7 : Int64) = lz 7 := rfl
theorem n6_60 : (60 : Int64) = lz 60 := rfl
theorem n6_100 : (100 : Int64) = lz 100 := rfl
theorem n6_365 : (365 : Int64) = lz 365 := rfl
theorem n6_366 : (366 : Int64) = lz 366 := rfl
theorem n6_400 : (400 : Int64) = lz 400 := rfl
theorem n6_900 : (900 : Int64) = lz 900 := rfl
theorem n6_1461 : (1461 : Int64) = lz 1461 := rfl
theorem n6_36524 : (36524 : Int64) = lz 36524 := rfl
theorem n6_146097 : (146097 : Int64) = lz 146097 := rfl
theorem pf_mod {a b : Int} (h1 : 0 ≤ a) (h2 : a ≤ 2147483647) (h3 : 0 < b) (h4 : b ≤ 2147483647) : J9_floorMod_7cf53_f (iz a) (iz b) = some (iz (a % b), ()) := by
  unfold J9_floorMod_7cf53_f J9_floorMod_7cf53_b18
  have e0 : ¬ (iz b = 0) := by
    rw [n3_0, iz_eq (by omega) (by omega) (by omega) (by omega)]; omega
  have e1 : (0 : Int32) ≤ iz a ^^^ iz b := iz_xor h1 h2 (by omega) h4
  rw [if_pos e0, if_pos e1, iz_div h1 h2 (by omega) h4, iz_mul, iz_sub, pv_def]
theorem pf_div {a b : Int} (h1 : 0 ≤ a) (h2 : a ≤ 2147483647) (h3 : 0 < b) (h4 : b ≤ 2147483647) : J9_floorDiv_7cf53_f (iz a) (iz b) = some (iz (a / b), ()) := by
  unfold J9_floorDiv_7cf53_f J9_floorDiv_7cf53_b21
  have e0 : ¬ (iz b = 0) := by
    rw [n3_0, iz_eq (by omega) (by omega) (by omega) (by omega)]; omega
  have e1 : (0 : Int32) ≤ iz a ^^^ iz b := iz_xor h1 h2 (by omega) h4
  rw [if_pos e0, if_pos e1, iz_div h1 h2 (by omega) h4]
theorem pf_ldiv {a b : Int} (h1 : 0 ≤ a) (h2 : a ≤ 9223372036854775807) (h3 : 0 < b) (h4 : b ≤ 9223372036854775807) : J9_floorDiv_f86c9_f (lz a) (lz b) = some (lz (a / b), ()) := by
  unfold J9_floorDiv_f86c9_f J9_floorDiv_f86c9_b27
  have e0 : ¬ (lz b = 0) := by
    rw [n6_0, lz_eq (by omega) (by omega) (by omega) (by omega)]; omega
  have e1 : (0 : Int32) ≤ lg_cmp (lz a ^^^ lz b) 0 := (lg_cmp_ge _ _).mpr (lz_xor h1 h2 (by omega) h4)
  rw [if_pos e0, if_pos e1, lz_div h1 h2 (by omega) h4]
theorem pf_lmod {a b : Int} (h1 : 0 ≤ a) (h2 : a ≤ 9223372036854775807) (h3 : 0 < b) (h4 : b ≤ 9223372036854775807) : J9_floorMod_f86c9_f (lz a) (lz b) = some (lz (a % b), ()) := by
  unfold J9_floorMod_f86c9_f J9_floorMod_f86c9_b25
  have e0 : ¬ (lz b = 0) := by
    rw [n6_0, lz_eq (by omega) (by omega) (by omega) (by omega)]; omega
  have e1 : (0 : Int32) ≤ lg_cmp (lz a ^^^ lz b) 0 := (lg_cmp_ge _ _).mpr (lz_xor h1 h2 (by omega) h4)
  rw [if_pos e0, if_pos e1, lz_div h1 h2 (by omega) h4, lz_mul, lz_sub, pv_def]
theorem pw_in (a b c : Int32) : X8_isWithin_f a b c = some (b01 (b ≤ a ∧ a ≤ c), ()) := by
  unfold X8_isWithin_f X8_isWithin_b14 X8_isWithin_b15
  have e0 : (0 : Int32) &&& 1 = 0 := by decide
  have e1 : (1 : Int32) &&& 1 = 1 := by decide
  rw [if_pos e0, if_pos e1]
  by_cases h1 : a < b
  · rw [if_pos h1, b01_f (fun h => by rw [Int32.le_iff_toInt_le] at h; rw [Int32.lt_iff_toInt_lt] at h1; omega)]; rfl
  · rw [if_neg h1]
    by_cases h2 : c < a
    · rw [if_pos h2, b01_f (fun h => by have h3 := h.2; rw [Int32.le_iff_toInt_le] at h3; rw [Int32.lt_iff_toInt_lt] at h2; omega)]; rfl
    · rw [if_neg h2, b01_t ⟨by rw [Int32.lt_iff_toInt_lt] at h1; rw [Int32.le_iff_toInt_le]; omega, by rw [Int32.lt_iff_toInt_lt] at h2; rw [Int32.le_iff_toInt_le]; omega⟩]; rfl
theorem pw_is (a b c : Int32) : X9_isIn_f a b c = some (b01 (b ≤ a ∧ a ≤ c), ()) := pw_in a b c
theorem pw_inz {a b c : Int} (h1 : -2147483648 ≤ a) (h2 : a ≤ 2147483647) (h3 : -2147483648 ≤ b) (h4 : b ≤ 2147483647) (h5 : -2147483648 ≤ c) (h6 : c ≤ 2147483647) : X8_isWithin_f (iz a) (iz b) (iz c) = some (b01 (b ≤ a ∧ a ≤ c), ()) := by
  rw [pw_in, b01_c (q := b ≤ a ∧ a ≤ c) (by rw [iz_le h3 h4 h1 h2, iz_le h1 h2 h5 h6])]
theorem pw_isz {a b c : Int} (h1 : -2147483648 ≤ a) (h2 : a ≤ 2147483647) (h3 : -2147483648 ≤ b) (h4 : b ≤ 2147483647) (h5 : -2147483648 ≤ c) (h6 : c ≤ 2147483647) : X9_isIn_f (iz a) (iz b) (iz c) = some (b01 (b ≤ a ∧ a ≤ c), ()) := pw_inz h1 h2 h3 h4 h5 h6
theorem pw_hour {a : Int} (h1 : -2147483648 ≤ a) (h2 : a ≤ 2147483647) : X8_isHour_f (iz a) = some (b01 (0 ≤ a ∧ a ≤ 23), ()) := by
  unfold X8_isHour_f
  rw [n3_0, n3_23, pw_inz h1 h2 (by omega) (by omega) (by omega) (by omega), Option.bind_some]
  rw [n3_1, if_pos (by rw [b01_a]; trivial)]
theorem pw_hourOf {a : Int} (h1 : 0 ≤ a) (h2 : a ≤ 2147483647) : X8_hourOf_f (iz a) = some (iz (a / 3600 % 24), ()) := by
  unfold X8_hourOf_f
  rw [n3_3600, pf_div h1 h2 (by omega) (by omega), Option.bind_some, n3_24]
  rw [pf_mod (by omega) (by omega) (by omega) (by omega), Option.bind_some] <;> rfl
theorem pw_part {a b : Int} (h1 : 0 ≤ a) (h2 : a ≤ 9223372036854775807) (h3 : 0 < b) (h4 : b ≤ 9223372036854775807) : X8_wholePart_f (lz a) (lz b) = some (lz (a / b), ()) := by
  unfold X8_wholePart_f X8_wholePart_b15
  have e1 : (0 : Int32) ≤ lg_cmp (lz b) 1 := (lg_cmp_ge _ _).mpr (by rw [n6_1, lz_le (by omega) (by omega) (by omega) (by omega)]; omega)
  rw [if_pos e1, pf_ldiv h1 h2 h3 h4, Option.bind_some] <;> rfl
theorem pw_secs {n d r b : Int} (hn : 0 ≤ n) (hn2 : n ≤ 20) (hd : 1 ≤ d) (hd2 : d ≤ 20) (hr : 0 ≤ r) (hr2 : r ≤ 20) (hb : 0 ≤ b) (hb2 : b ≤ 5000) : X4_secondsOf_f (iz n) (iz d) (iz r) (iz b) = some (iz ((r + n * b) / d), ()) := by
  have e0 : 0 ≤ n * b := Int.mul_nonneg hn hb
  have e1 : n * b ≤ 20 * 5000 := Int.mul_le_mul hn2 hb2 hb (by omega)
  unfold X4_secondsOf_f
  rw [iz_mul, iz_add, iz_l (by omega) (by omega), iz_l (by omega) (by omega), pw_part (by omega) (by omega) (by omega) (by omega), Option.bind_some, lz_i] <;> rfl
