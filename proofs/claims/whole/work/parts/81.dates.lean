theorem sm_i {a b : Int} (h : a = b) : (some (iz a, ()) : Option (Int32 × Unit)) = some (iz b, ()) := by rw [h]
theorem sm_l {a b : Int} (h : a = b) : (some (lz a, ()) : Option (Int64 × Unit)) = some (lz b, ()) := by rw [h]
def dLeap (y : Int) : Bool := decide (y % 4 = 0 ∧ (y % 100 ≠ 0 ∨ y % 400 = 0))
theorem dLeap_t {y : Int} : dLeap y = true ↔ (y % 4 = 0 ∧ (y % 100 ≠ 0 ∨ y % 400 = 0)) := decide_eq_true_iff
def dTab (m : Int) : Int := if m = 2 then 28 else if m = 4 ∨ m = 6 ∨ m = 9 ∨ m = 11 then 30 else 31
def dDom (y m : Int) : Int := dTab m + (if m = 2 ∧ dLeap y = true then 1 else 0)
def dBt (m : Int) : Int := if m = 1 then 0 else if m = 2 then 31 else if m = 3 then 59 else if m = 4 then 90 else if m = 5 then 120 else if m = 6 then 151 else if m = 7 then 181 else if m = 8 then 212 else if m = 9 then 243 else if m = 10 then 273 else if m = 11 then 304 else if m = 12 then 334 else 365
def dBm (y m : Int) : Int := dBt m + (if 2 < m ∧ dLeap y = true then 1 else 0)
def dBef (y : Int) : Int := (y - 1) * 365 + (y - 1) / 4 - (y - 1) / 100 + (y - 1) / 400
theorem dTab_r (m : Int) : 28 ≤ dTab m ∧ dTab m ≤ 31 := by
  unfold dTab
  split
  · omega
  · split <;> omega
theorem dDom_r (y m : Int) : 28 ≤ dDom y m ∧ dDom y m ≤ 32 := by
  have := dTab_r m
  unfold dDom
  split <;> omega
theorem dBt_r (m : Int) : 0 ≤ dBt m ∧ dBt m ≤ 365 := by
  unfold dBt
  repeat' split
  all_goals omega
theorem dBm_r (y m : Int) : 0 ≤ dBm y m ∧ dBm y m ≤ 366 := by
  have := dBt_r m
  unfold dBm
  split <;> omega
theorem dBef_r {y : Int} (h1 : 0 ≤ y) (h2 : y ≤ 100000) : -500 ≤ dBef y ∧ dBef y ≤ 40000000 := by
  unfold dBef; omega
theorem dM_cases {m : Int} (h1 : 1 ≤ m) (h2 : m ≤ 12) : m = 1 ∨ m = 2 ∨ m = 3 ∨ m = 4 ∨ m = 5 ∨ m = 6 ∨ m = 7 ∨ m = 8 ∨ m = 9 ∨ m = 10 ∨ m = 11 ∨ m = 12 := by omega
theorem dBm_s {y m : Int} (h1 : 1 ≤ m) (h2 : m ≤ 12) : dBm y (m + 1) = dBm y m + dDom y m := by
  rcases dM_cases h1 h2 with rfl | rfl | rfl | rfl | rfl | rfl | rfl | rfl | rfl | rfl | rfl | rfl <;> (unfold dBm dDom; by_cases h : dLeap y = true <;> simp [h, dBt, dTab])
theorem dBm_1 (y : Int) : dBm y 1 = 0 := by
  unfold dBm
  rw [if_neg (by omega)]
  rfl
theorem dBm_13 (y : Int) : dBm y 13 = if dLeap y = true then 366 else 365 := by
  unfold dBm
  by_cases h : dLeap y = true <;> simp [h, dBt]
theorem dBef_s (y : Int) : dBef (y + 1) = dBef y + dBm y 13 := by
  rw [dBm_13]
  unfold dBef
  by_cases h : dLeap y = true
  · rw [if_pos h]
    rw [dLeap_t] at h
    omega
  · rw [if_neg h]
    rw [dLeap_t] at h
    omega
theorem dBef_m {a b : Int} (h : a ≤ b) : dBef a ≤ dBef b := by
  unfold dBef; omega
theorem dDOM_e {m : Int} (h1 : 1 ≤ m) (h2 : m ≤ 12) : fDOM (m - 1).toNat = iz (dTab m) := by
  rcases dM_cases h1 h2 with rfl | rfl | rfl | rfl | rfl | rfl | rfl | rfl | rfl | rfl | rfl | rfl <;> rfl
theorem dDBM_e {m : Int} (h1 : 1 ≤ m) (h2 : m ≤ 12) : fDBM (m - 1).toNat = iz (dBt m) := by
  rcases dM_cases h1 h2 with rfl | rfl | rfl | rfl | rfl | rfl | rfl | rfl | rfl | rfl | rfl | rfl <;> rfl
theorem pd_leap {y : Int} (h1 : 0 ≤ y) (h2 : y ≤ 100000) : X1_hasLeapDay_f (iz y) = some (b01 (dLeap y = true), ()) := by
  unfold X1_hasLeapDay_f X1_hasLeapDay_b25 X1_hasLeapDay_b21 X1_hasLeapDay_b26
  simp (disch := omega) only [n3_0, n3_1, n3_2, n3_3, n3_4, n3_5, n3_6, n3_7, n3_8, n3_9, n3_10, n3_11, n3_12, n3_20, n3_23, n3_24, n3_28, n3_29, n3_30, n3_31, n3_32, n3_40, n3_60, n3_120, n3_128, n3_365, n3_366, n3_400, n3_100, n3_600, n3_700, n3_900, n3_1600, n3_2000, n3_3000, n3_3600, n3_5000, n3_86400, n3_m1, n3_m600, n3_m3600, n6_0, n6_1, n6_2, n6_3, n6_4, n6_7, n6_60, n6_100, n6_365, n6_366, n6_400, n6_900, n6_1461, n6_36524, n6_146097, iz_add, iz_sub, iz_mul, iz_neg, iz_div, iz_lt, iz_le, iz_eq, iz_l, lz_i, iz_nat, lz_add, lz_sub, lz_mul, lz_div, lz_lt, lz_le, lz_eq, lc_ge, lc_le, lc_eq, Option.bind_some, b01_z, b01_a, b01_1, iz_01, iz_11, pv_def, eq_self, not_true_eq_false, not_false_eq_true, if_true, if_false, if_pos, if_neg]
  by_cases h4 : y % 4 = 0
  · rw [if_pos h4]
    by_cases h100 : y % 100 = 0
    · rw [if_pos h100]
      by_cases h400 : y % 400 = 0
      · rw [if_pos h400, b01_t (dLeap_t.mpr ⟨h4, Or.inr h400⟩)]
      · rw [if_neg h400, b01_f (fun h => by rw [dLeap_t] at h; omega)]
    · rw [if_neg h100, b01_t (dLeap_t.mpr ⟨h4, Or.inl h100⟩)]
  · rw [if_neg h4, b01_f (fun h => by rw [dLeap_t] at h; omega)]
theorem pd_leap9 {y : Int} (h1 : 0 ≤ y) (h2 : y ≤ 100000) : X9_leaps_f (iz y) = some (b01 (dLeap y = true), ()) := pd_leap h1 h2
theorem pd_dom {y m : Int} (h1 : 0 ≤ y) (h2 : y ≤ 100000) (h3 : 1 ≤ m) (h4 : m ≤ 12) : X1_daysOfMonth_f (iz y) (iz m) = some (iz (dDom y m), ()) := by
  have ht := dTab_r m
  unfold X1_daysOfMonth_f X1_daysOfMonth_b37 X1_daysOfMonth_b38
  simp (disch := omega) only [n3_0, n3_1, n3_2, n3_3, n3_4, n3_5, n3_6, n3_7, n3_8, n3_9, n3_10, n3_11, n3_12, n3_20, n3_23, n3_24, n3_28, n3_29, n3_30, n3_31, n3_32, n3_40, n3_60, n3_120, n3_128, n3_365, n3_366, n3_400, n3_100, n3_600, n3_700, n3_900, n3_1600, n3_2000, n3_3000, n3_3600, n3_5000, n3_86400, n3_m1, n3_m600, n3_m3600, n6_0, n6_1, n6_2, n6_3, n6_4, n6_7, n6_60, n6_100, n6_365, n6_366, n6_400, n6_900, n6_1461, n6_36524, n6_146097, iz_add, iz_sub, iz_mul, iz_neg, iz_div, iz_lt, iz_le, iz_eq, iz_l, lz_i, iz_nat, lz_add, lz_sub, lz_mul, lz_div, lz_lt, lz_le, lz_eq, lc_ge, lc_le, lc_eq, Option.bind_some, b01_z, b01_a, b01_1, iz_01, iz_11, pv_def, eq_self, not_true_eq_false, not_false_eq_true, if_true, if_false, if_pos, if_neg, pw_inz, pd_leap, dDOM_e]
  unfold dDom
  by_cases hm : m = 2
  · rw [if_pos hm]
    by_cases hl : dLeap y = true
    · simp [hm, hl]
    · simp [hm, hl]
  · rw [if_neg hm, if_neg (fun h => hm h.1)]
theorem pd_dom9 {y m : Int} (h1 : 0 ≤ y) (h2 : y ≤ 100000) (h3 : 1 ≤ m) (h4 : m ≤ 12) : X9_days_f (iz y) (iz m) = some (iz (dDom y m), ()) := by
  unfold X9_days_f X9_days_b19 X9_days_b43 X9_days_b50
  simp (disch := omega) only [n3_0, n3_1, n3_2, n3_3, n3_4, n3_5, n3_6, n3_7, n3_8, n3_9, n3_10, n3_11, n3_12, n3_20, n3_23, n3_24, n3_28, n3_29, n3_30, n3_31, n3_32, n3_40, n3_60, n3_120, n3_128, n3_365, n3_366, n3_400, n3_100, n3_600, n3_700, n3_900, n3_1600, n3_2000, n3_3000, n3_3600, n3_5000, n3_86400, n3_m1, n3_m600, n3_m3600, n6_0, n6_1, n6_2, n6_3, n6_4, n6_7, n6_60, n6_100, n6_365, n6_366, n6_400, n6_900, n6_1461, n6_36524, n6_146097, iz_add, iz_sub, iz_mul, iz_neg, iz_div, iz_lt, iz_le, iz_eq, iz_l, lz_i, iz_nat, lz_add, lz_sub, lz_mul, lz_div, lz_lt, lz_le, lz_eq, lc_ge, lc_le, lc_eq, Option.bind_some, b01_z, b01_a, b01_1, iz_01, iz_11, pv_def, eq_self, not_true_eq_false, not_false_eq_true, if_true, if_false, if_pos, if_neg, pd_leap9]
  unfold dDom dTab
  by_cases hm : m = 2
  · subst hm
    by_cases hl : dLeap y = true
    · simp [hl]
    · simp [hl]
  · have hz : (if m = 2 ∧ dLeap y = true then (1 : Int) else 0) = 0 := if_neg (fun h => hm h.1)
    rw [if_neg hm, if_neg hm, hz]
    by_cases a4 : m = 4
    · simp [a4]
    · by_cases a6 : m = 6
      · simp [a6]
      · by_cases a9 : m = 9
        · simp [a9]
        · by_cases a11 : m = 11
          · simp [a11]
          · simp [a4, a6, a9, a11]
theorem pd_dbm {y m : Int} (h1 : 0 ≤ y) (h2 : y ≤ 100000) (h3 : 1 ≤ m) (h4 : m ≤ 12) : X1_daysBeforeMonth_f (iz y) (iz m) = some (iz (dBm y m), ()) := by
  have ht := dBt_r m
  unfold X1_daysBeforeMonth_f X1_daysBeforeMonth_b37 X1_daysBeforeMonth_b38
  simp (disch := omega) only [n3_0, n3_1, n3_2, n3_3, n3_4, n3_5, n3_6, n3_7, n3_8, n3_9, n3_10, n3_11, n3_12, n3_20, n3_23, n3_24, n3_28, n3_29, n3_30, n3_31, n3_32, n3_40, n3_60, n3_120, n3_128, n3_365, n3_366, n3_400, n3_100, n3_600, n3_700, n3_900, n3_1600, n3_2000, n3_3000, n3_3600, n3_5000, n3_86400, n3_m1, n3_m600, n3_m3600, n6_0, n6_1, n6_2, n6_3, n6_4, n6_7, n6_60, n6_100, n6_365, n6_366, n6_400, n6_900, n6_1461, n6_36524, n6_146097, iz_add, iz_sub, iz_mul, iz_neg, iz_div, iz_lt, iz_le, iz_eq, iz_l, lz_i, iz_nat, lz_add, lz_sub, lz_mul, lz_div, lz_lt, lz_le, lz_eq, lc_ge, lc_le, lc_eq, Option.bind_some, b01_z, b01_a, b01_1, iz_01, iz_11, pv_def, eq_self, not_true_eq_false, not_false_eq_true, if_true, if_false, if_pos, if_neg, pw_inz, pd_leap, dDBM_e]
  unfold dBm
  by_cases hm : m ≤ 2
  · rw [if_pos hm, if_neg (by omega)]
  · rw [if_neg hm]
    by_cases hl : dLeap y = true
    · rw [if_neg (by simp [hl]), if_pos ⟨by omega, hl⟩]
    · rw [if_pos hl, if_neg (fun h => hl h.2)]
theorem pd_bef {y : Int} (h1 : 1 ≤ y) (h2 : y ≤ 100000) : X1_daysBeforeYear_f (iz y) = some (lz (dBef y), ()) := by
  unfold X1_daysBeforeYear_f
  simp (disch := omega) only [n3_0, n3_1, n3_2, n3_3, n3_4, n3_5, n3_6, n3_7, n3_8, n3_9, n3_10, n3_11, n3_12, n3_20, n3_23, n3_24, n3_28, n3_29, n3_30, n3_31, n3_32, n3_40, n3_60, n3_120, n3_128, n3_365, n3_366, n3_400, n3_100, n3_600, n3_700, n3_900, n3_1600, n3_2000, n3_3000, n3_3600, n3_5000, n3_86400, n3_m1, n3_m600, n3_m3600, n6_0, n6_1, n6_2, n6_3, n6_4, n6_7, n6_60, n6_100, n6_365, n6_366, n6_400, n6_900, n6_1461, n6_36524, n6_146097, iz_add, iz_sub, iz_mul, iz_neg, iz_div, iz_lt, iz_le, iz_eq, iz_l, lz_i, iz_nat, lz_add, lz_sub, lz_mul, lz_div, lz_lt, lz_le, lz_eq, lc_ge, lc_le, lc_eq, Option.bind_some, b01_z, b01_a, b01_1, iz_01, iz_11, pv_def, eq_self, not_true_eq_false, not_false_eq_true, if_true, if_false, if_pos, if_neg]
  exact sm_l (by unfold dBef; omega)
theorem pd_bef9 {y : Int} (h1 : 1 ≤ y) (h2 : y ≤ 100000) : X9_before_f (iz y) = some (lz (dBef y), ()) := by
  unfold X9_before_f
  simp (disch := omega) only [n3_0, n3_1, n3_2, n3_3, n3_4, n3_5, n3_6, n3_7, n3_8, n3_9, n3_10, n3_11, n3_12, n3_20, n3_23, n3_24, n3_28, n3_29, n3_30, n3_31, n3_32, n3_40, n3_60, n3_120, n3_128, n3_365, n3_366, n3_400, n3_100, n3_600, n3_700, n3_900, n3_1600, n3_2000, n3_3000, n3_3600, n3_5000, n3_86400, n3_m1, n3_m600, n3_m3600, n6_0, n6_1, n6_2, n6_3, n6_4, n6_7, n6_60, n6_100, n6_365, n6_366, n6_400, n6_900, n6_1461, n6_36524, n6_146097, iz_add, iz_sub, iz_mul, iz_neg, iz_div, iz_lt, iz_le, iz_eq, iz_l, lz_i, iz_nat, lz_add, lz_sub, lz_mul, lz_div, lz_lt, lz_le, lz_eq, lc_ge, lc_le, lc_eq, Option.bind_some, b01_z, b01_a, b01_1, iz_01, iz_11, pv_def, eq_self, not_true_eq_false, not_false_eq_true, if_true, if_false, if_pos, if_neg]
  exact sm_l (by unfold dBef; omega)
theorem pd_num {y m d : Int} (h1 : 1 ≤ y) (h2 : y ≤ 100000) (h3 : 1 ≤ m) (h4 : m ≤ 12) (h5 : 0 ≤ d) (h6 : d ≤ 100) : X1_numberByYears_f (iz y) (iz m) (iz d) = some (lz (dBef y + dBm y m + d), ()) := by
  have ht := dBm_r y m
  unfold X1_numberByYears_f
  simp (disch := omega) only [n3_0, n3_1, n3_2, n3_3, n3_4, n3_5, n3_6, n3_7, n3_8, n3_9, n3_10, n3_11, n3_12, n3_20, n3_23, n3_24, n3_28, n3_29, n3_30, n3_31, n3_32, n3_40, n3_60, n3_120, n3_128, n3_365, n3_366, n3_400, n3_100, n3_600, n3_700, n3_900, n3_1600, n3_2000, n3_3000, n3_3600, n3_5000, n3_86400, n3_m1, n3_m600, n3_m3600, n6_0, n6_1, n6_2, n6_3, n6_4, n6_7, n6_60, n6_100, n6_365, n6_366, n6_400, n6_900, n6_1461, n6_36524, n6_146097, iz_add, iz_sub, iz_mul, iz_neg, iz_div, iz_lt, iz_le, iz_eq, iz_l, lz_i, iz_nat, lz_add, lz_sub, lz_mul, lz_div, lz_lt, lz_le, lz_eq, lc_ge, lc_le, lc_eq, Option.bind_some, b01_z, b01_a, b01_1, iz_01, iz_11, pv_def, eq_self, not_true_eq_false, not_false_eq_true, if_true, if_false, if_pos, if_neg, pd_bef, pd_dbm]
theorem pd_L11 {y m : Int} (h1 : 1 ≤ y) (h2 : y ≤ 100000) (h4 : m ≤ 12) : ∀ (n : Nat) (acc k : Int), 1 ≤ k → k ≤ m → m - k < n → X9_number_L11 (iz y) (iz m) n (lz acc) (iz k) = some (lz (acc + dBm y m - dBm y k), ()) := by
  intro n
  induction n with
  | zero => intro acc k a b c; omega
  | succ n ih =>
    intro acc k a b c
    show X9_number_L11_body (iz y) (iz m) (X9_number_L11 (iz y) (iz m) n) (lz acc) (iz k) = _
    unfold X9_number_L11_body
    by_cases h : m ≤ k
    · obtain rfl : m = k := by omega
      simp (disch := omega) only [n3_0, n3_1, n3_2, n3_3, n3_4, n3_5, n3_6, n3_7, n3_8, n3_9, n3_10, n3_11, n3_12, n3_20, n3_23, n3_24, n3_28, n3_29, n3_30, n3_31, n3_32, n3_40, n3_60, n3_120, n3_128, n3_365, n3_366, n3_400, n3_100, n3_600, n3_700, n3_900, n3_1600, n3_2000, n3_3000, n3_3600, n3_5000, n3_86400, n3_m1, n3_m600, n3_m3600, n6_0, n6_1, n6_2, n6_3, n6_4, n6_7, n6_60, n6_100, n6_365, n6_366, n6_400, n6_900, n6_1461, n6_36524, n6_146097, iz_add, iz_sub, iz_mul, iz_neg, iz_div, iz_lt, iz_le, iz_eq, iz_l, lz_i, iz_nat, lz_add, lz_sub, lz_mul, lz_div, lz_lt, lz_le, lz_eq, lc_ge, lc_le, lc_eq, Option.bind_some, b01_z, b01_a, b01_1, iz_01, iz_11, pv_def, eq_self, not_true_eq_false, not_false_eq_true, if_true, if_false, if_pos, if_neg]
      exact sm_l (by omega)
    · have hr := dDom_r y k
      have hs := dBm_s (y := y) (m := k) a (by omega)
      simp (disch := omega) only [n3_0, n3_1, n3_2, n3_3, n3_4, n3_5, n3_6, n3_7, n3_8, n3_9, n3_10, n3_11, n3_12, n3_20, n3_23, n3_24, n3_28, n3_29, n3_30, n3_31, n3_32, n3_40, n3_60, n3_120, n3_128, n3_365, n3_366, n3_400, n3_100, n3_600, n3_700, n3_900, n3_1600, n3_2000, n3_3000, n3_3600, n3_5000, n3_86400, n3_m1, n3_m600, n3_m3600, n6_0, n6_1, n6_2, n6_3, n6_4, n6_7, n6_60, n6_100, n6_365, n6_366, n6_400, n6_900, n6_1461, n6_36524, n6_146097, iz_add, iz_sub, iz_mul, iz_neg, iz_div, iz_lt, iz_le, iz_eq, iz_l, lz_i, iz_nat, lz_add, lz_sub, lz_mul, lz_div, lz_lt, lz_le, lz_eq, lc_ge, lc_le, lc_eq, Option.bind_some, b01_z, b01_a, b01_1, iz_01, iz_11, pv_def, eq_self, not_true_eq_false, not_false_eq_true, if_true, if_false, if_pos, if_neg, pd_dom9]
      rw [ih _ _ (by omega) (by omega) (by omega)]
      exact sm_l (by omega)
theorem pd_num9 {N : Nat} (hN : 20 ≤ N) {y m d : Int} (h1 : 1 ≤ y) (h2 : y ≤ 100000) (h3 : 1 ≤ m) (h4 : m ≤ 12) (h5 : 0 ≤ d) (h6 : d ≤ 100) : X9_number_f N (iz y) (iz m) (iz d) = some (lz (dBef y + dBm y m + d), ()) := by
  unfold X9_number_f
  rw [pd_bef9 h1 h2, Option.bind_some]
  simp (disch := omega) only [n3_0, n3_1, n3_2, n3_3, n3_4, n3_5, n3_6, n3_7, n3_8, n3_9, n3_10, n3_11, n3_12, n3_20, n3_23, n3_24, n3_28, n3_29, n3_30, n3_31, n3_32, n3_40, n3_60, n3_120, n3_128, n3_365, n3_366, n3_400, n3_100, n3_600, n3_700, n3_900, n3_1600, n3_2000, n3_3000, n3_3600, n3_5000, n3_86400, n3_m1, n3_m600, n3_m3600, n6_0, n6_1, n6_2, n6_3, n6_4, n6_7, n6_60, n6_100, n6_365, n6_366, n6_400, n6_900, n6_1461, n6_36524, n6_146097, iz_add, iz_sub, iz_mul, iz_neg, iz_div, iz_lt, iz_le, iz_eq, iz_l, lz_i, iz_nat, lz_add, lz_sub, lz_mul, lz_div, lz_lt, lz_le, lz_eq, lc_ge, lc_le, lc_eq, Option.bind_some, b01_z, b01_a, b01_1, iz_01, iz_11, pv_def, eq_self, not_true_eq_false, not_false_eq_true, if_true, if_false, if_pos, if_neg]
  rw [pd_L11 h1 h2 h4 N _ 1 (by omega) (by omega) (by omega), dBm_1]
  exact sm_l (by omega)
theorem pd_L41 {y m : Int} (h1 : 1 ≤ y) (h2 : y ≤ 100000) (h4 : m ≤ 12) : ∀ (n : Nat) (acc k : Int), 1 ≤ k → k ≤ m → m - k < n → X1_numberOneByOne_L41 (iz y) (iz m) n (lz acc) (iz k) = some (lz (acc + dBm y m - dBm y k), ()) := by
  intro n
  induction n with
  | zero => intro acc k a b c; omega
  | succ n ih =>
    intro acc k a b c
    show X1_numberOneByOne_L41_body (iz y) (iz m) (X1_numberOneByOne_L41 (iz y) (iz m) n) (lz acc) (iz k) = _
    unfold X1_numberOneByOne_L41_body
    by_cases h : m ≤ k
    · obtain rfl : m = k := by omega
      simp (disch := omega) only [n3_0, n3_1, n3_2, n3_3, n3_4, n3_5, n3_6, n3_7, n3_8, n3_9, n3_10, n3_11, n3_12, n3_20, n3_23, n3_24, n3_28, n3_29, n3_30, n3_31, n3_32, n3_40, n3_60, n3_120, n3_128, n3_365, n3_366, n3_400, n3_100, n3_600, n3_700, n3_900, n3_1600, n3_2000, n3_3000, n3_3600, n3_5000, n3_86400, n3_m1, n3_m600, n3_m3600, n6_0, n6_1, n6_2, n6_3, n6_4, n6_7, n6_60, n6_100, n6_365, n6_366, n6_400, n6_900, n6_1461, n6_36524, n6_146097, iz_add, iz_sub, iz_mul, iz_neg, iz_div, iz_lt, iz_le, iz_eq, iz_l, lz_i, iz_nat, lz_add, lz_sub, lz_mul, lz_div, lz_lt, lz_le, lz_eq, lc_ge, lc_le, lc_eq, Option.bind_some, b01_z, b01_a, b01_1, iz_01, iz_11, pv_def, eq_self, not_true_eq_false, not_false_eq_true, if_true, if_false, if_pos, if_neg]
      exact sm_l (by omega)
    · have hr := dDom_r y k
      have hs := dBm_s (y := y) (m := k) a (by omega)
      simp (disch := omega) only [n3_0, n3_1, n3_2, n3_3, n3_4, n3_5, n3_6, n3_7, n3_8, n3_9, n3_10, n3_11, n3_12, n3_20, n3_23, n3_24, n3_28, n3_29, n3_30, n3_31, n3_32, n3_40, n3_60, n3_120, n3_128, n3_365, n3_366, n3_400, n3_100, n3_600, n3_700, n3_900, n3_1600, n3_2000, n3_3000, n3_3600, n3_5000, n3_86400, n3_m1, n3_m600, n3_m3600, n6_0, n6_1, n6_2, n6_3, n6_4, n6_7, n6_60, n6_100, n6_365, n6_366, n6_400, n6_900, n6_1461, n6_36524, n6_146097, iz_add, iz_sub, iz_mul, iz_neg, iz_div, iz_lt, iz_le, iz_eq, iz_l, lz_i, iz_nat, lz_add, lz_sub, lz_mul, lz_div, lz_lt, lz_le, lz_eq, lc_ge, lc_le, lc_eq, Option.bind_some, b01_z, b01_a, b01_1, iz_01, iz_11, pv_def, eq_self, not_true_eq_false, not_false_eq_true, if_true, if_false, if_pos, if_neg, pd_dom]
      rw [ih _ _ (by omega) (by omega) (by omega)]
      exact sm_l (by omega)
theorem pd_L6 {N : Nat} (hN : 20 ≤ N) {y m : Int} (h1 : 1 ≤ y) (h2 : y ≤ 100000) (h3 : 1 ≤ m) (h4 : m ≤ 12) : ∀ (n : Nat) (acc k : Int), 1 ≤ k → k ≤ y → y - k < n → X1_numberOneByOne_L6 N (iz y) (iz m) n (lz acc) (iz k) = some (lz (acc + dBef y - dBef k + dBm y m), ()) := by
  intro n
  induction n with
  | zero => intro acc k a b c; omega
  | succ n ih =>
    intro acc k a b c
    show X1_numberOneByOne_L6_body N (iz y) (iz m) (X1_numberOneByOne_L6 N (iz y) (iz m) n) (lz acc) (iz k) = _
    unfold X1_numberOneByOne_L6_body X1_numberOneByOne_b30
    by_cases h : y ≤ k
    · obtain rfl : y = k := by omega
      simp (disch := omega) only [n3_0, n3_1, n3_2, n3_3, n3_4, n3_5, n3_6, n3_7, n3_8, n3_9, n3_10, n3_11, n3_12, n3_20, n3_23, n3_24, n3_28, n3_29, n3_30, n3_31, n3_32, n3_40, n3_60, n3_120, n3_128, n3_365, n3_366, n3_400, n3_100, n3_600, n3_700, n3_900, n3_1600, n3_2000, n3_3000, n3_3600, n3_5000, n3_86400, n3_m1, n3_m600, n3_m3600, n6_0, n6_1, n6_2, n6_3, n6_4, n6_7, n6_60, n6_100, n6_365, n6_366, n6_400, n6_900, n6_1461, n6_36524, n6_146097, iz_add, iz_sub, iz_mul, iz_neg, iz_div, iz_lt, iz_le, iz_eq, iz_l, lz_i, iz_nat, lz_add, lz_sub, lz_mul, lz_div, lz_lt, lz_le, lz_eq, lc_ge, lc_le, lc_eq, Option.bind_some, b01_z, b01_a, b01_1, iz_01, iz_11, pv_def, eq_self, not_true_eq_false, not_false_eq_true, if_true, if_false, if_pos, if_neg]
      rw [pd_L41 h1 h2 h4 N _ 1 (by omega) (by omega) (by omega), dBm_1]
      exact sm_l (by omega)
    · have hs := dBef_s k
      rw [dBm_13] at hs
      simp (disch := omega) only [n3_0, n3_1, n3_2, n3_3, n3_4, n3_5, n3_6, n3_7, n3_8, n3_9, n3_10, n3_11, n3_12, n3_20, n3_23, n3_24, n3_28, n3_29, n3_30, n3_31, n3_32, n3_40, n3_60, n3_120, n3_128, n3_365, n3_366, n3_400, n3_100, n3_600, n3_700, n3_900, n3_1600, n3_2000, n3_3000, n3_3600, n3_5000, n3_86400, n3_m1, n3_m600, n3_m3600, n6_0, n6_1, n6_2, n6_3, n6_4, n6_7, n6_60, n6_100, n6_365, n6_366, n6_400, n6_900, n6_1461, n6_36524, n6_146097, iz_add, iz_sub, iz_mul, iz_neg, iz_div, iz_lt, iz_le, iz_eq, iz_l, lz_i, iz_nat, lz_add, lz_sub, lz_mul, lz_div, lz_lt, lz_le, lz_eq, lc_ge, lc_le, lc_eq, Option.bind_some, b01_z, b01_a, b01_1, iz_01, iz_11, pv_def, eq_self, not_true_eq_false, not_false_eq_true, if_true, if_false, if_pos, if_neg, pd_leap]
      by_cases hl : dLeap k = true
      · rw [if_pos hl] at hs
        rw [if_neg (by simp [hl]), ih _ _ (by omega) (by omega) (by omega)]
        exact sm_l (by omega)
      · rw [if_neg hl] at hs
        rw [if_pos hl, ih _ _ (by omega) (by omega) (by omega)]
        exact sm_l (by omega)
theorem dBef_1 : dBef 1 = 0 := rfl
theorem pd_one {N : Nat} (hN : 20 ≤ N) {y m d : Int} (h1 : 1 ≤ y) (h2 : y ≤ 100000) (hN2 : y < N) (h3 : 1 ≤ m) (h4 : m ≤ 12) (h5 : 0 ≤ d) (h6 : d ≤ 100) : X1_numberOneByOne_f N (iz y) (iz m) (iz d) = some (lz (dBef y + dBm y m + d), ()) := by
  unfold X1_numberOneByOne_f
  simp (disch := omega) only [n3_0, n3_1, n3_2, n3_3, n3_4, n3_5, n3_6, n3_7, n3_8, n3_9, n3_10, n3_11, n3_12, n3_20, n3_23, n3_24, n3_28, n3_29, n3_30, n3_31, n3_32, n3_40, n3_60, n3_120, n3_128, n3_365, n3_366, n3_400, n3_100, n3_600, n3_700, n3_900, n3_1600, n3_2000, n3_3000, n3_3600, n3_5000, n3_86400, n3_m1, n3_m600, n3_m3600, n6_0, n6_1, n6_2, n6_3, n6_4, n6_7, n6_60, n6_100, n6_365, n6_366, n6_400, n6_900, n6_1461, n6_36524, n6_146097, iz_add, iz_sub, iz_mul, iz_neg, iz_div, iz_lt, iz_le, iz_eq, iz_l, lz_i, iz_nat, lz_add, lz_sub, lz_mul, lz_div, lz_lt, lz_le, lz_eq, lc_ge, lc_le, lc_eq, Option.bind_some, b01_z, b01_a, b01_1, iz_01, iz_11, pv_def, eq_self, not_true_eq_false, not_false_eq_true, if_true, if_false, if_pos, if_neg]
  rw [pd_L6 hN h1 h2 h3 h4 N _ 1 (by omega) (by omega) (by omega), dBef_1]
  exact sm_l (by omega)
def dIs (y m d : Int) : Prop := 1 ≤ y ∧ y ≤ 3000 ∧ 1 ≤ m ∧ m ≤ 12 ∧ 1 ≤ d ∧ d ≤ dDom y m
theorem pd_is {y m d : Int} (a1 : -2147483648 ≤ y) (a2 : y ≤ 2147483647) (b1 : -2147483648 ≤ m) (b2 : m ≤ 2147483647) (c1 : -2147483648 ≤ d) (c2 : d ≤ 2147483647) : (dIs y m d ∧ X1_isDate_f (iz y) (iz m) (iz d) = some (iz 1, ()) ∧ X9_isDate_f (iz y) (iz m) (iz d) = some (iz 1, ())) ∨ (¬ dIs y m d ∧ X1_isDate_f (iz y) (iz m) (iz d) = some (iz 0, ()) ∧ X9_isDate_f (iz y) (iz m) (iz d) = some (iz 0, ())) := by
  unfold X1_isDate_f X1_isDate_b38 X1_isDate_b39 X9_isDate_f X9_isDate_b38 X9_isDate_b39
  have hr := dDom_r y m
  unfold dIs
  by_cases hy : 1 ≤ y ∧ y ≤ 3000
  · by_cases hm : 1 ≤ m ∧ m ≤ 12
    · by_cases hd : 1 ≤ d ∧ d ≤ dDom y m
      · refine Or.inl ⟨⟨hy.1, hy.2, hm.1, hm.2, hd.1, hd.2⟩, ?_, ?_⟩
        · simp (disch := omega) only [n3_0, n3_1, n3_2, n3_3, n3_4, n3_5, n3_6, n3_7, n3_8, n3_9, n3_10, n3_11, n3_12, n3_20, n3_23, n3_24, n3_28, n3_29, n3_30, n3_31, n3_32, n3_40, n3_60, n3_120, n3_128, n3_365, n3_366, n3_400, n3_100, n3_600, n3_700, n3_900, n3_1600, n3_2000, n3_3000, n3_3600, n3_5000, n3_86400, n3_m1, n3_m600, n3_m3600, n6_0, n6_1, n6_2, n6_3, n6_4, n6_7, n6_60, n6_100, n6_365, n6_366, n6_400, n6_900, n6_1461, n6_36524, n6_146097, iz_add, iz_sub, iz_mul, iz_neg, iz_div, iz_lt, iz_le, iz_eq, iz_l, lz_i, iz_nat, lz_add, lz_sub, lz_mul, lz_div, lz_lt, lz_le, lz_eq, lc_ge, lc_le, lc_eq, Option.bind_some, b01_z, b01_a, b01_1, iz_01, iz_11, pv_def, eq_self, not_true_eq_false, not_false_eq_true, if_true, if_false, if_pos, if_neg, pw_inz, pw_isz, pd_dom, pd_dom9]
        · simp (disch := omega) only [n3_0, n3_1, n3_2, n3_3, n3_4, n3_5, n3_6, n3_7, n3_8, n3_9, n3_10, n3_11, n3_12, n3_20, n3_23, n3_24, n3_28, n3_29, n3_30, n3_31, n3_32, n3_40, n3_60, n3_120, n3_128, n3_365, n3_366, n3_400, n3_100, n3_600, n3_700, n3_900, n3_1600, n3_2000, n3_3000, n3_3600, n3_5000, n3_86400, n3_m1, n3_m600, n3_m3600, n6_0, n6_1, n6_2, n6_3, n6_4, n6_7, n6_60, n6_100, n6_365, n6_366, n6_400, n6_900, n6_1461, n6_36524, n6_146097, iz_add, iz_sub, iz_mul, iz_neg, iz_div, iz_lt, iz_le, iz_eq, iz_l, lz_i, iz_nat, lz_add, lz_sub, lz_mul, lz_div, lz_lt, lz_le, lz_eq, lc_ge, lc_le, lc_eq, Option.bind_some, b01_z, b01_a, b01_1, iz_01, iz_11, pv_def, eq_self, not_true_eq_false, not_false_eq_true, if_true, if_false, if_pos, if_neg, pw_inz, pw_isz, pd_dom, pd_dom9]
      · refine Or.inr ⟨fun h => hd ⟨h.2.2.2.2.1, h.2.2.2.2.2⟩, ?_, ?_⟩
        · simp (disch := omega) only [n3_0, n3_1, n3_2, n3_3, n3_4, n3_5, n3_6, n3_7, n3_8, n3_9, n3_10, n3_11, n3_12, n3_20, n3_23, n3_24, n3_28, n3_29, n3_30, n3_31, n3_32, n3_40, n3_60, n3_120, n3_128, n3_365, n3_366, n3_400, n3_100, n3_600, n3_700, n3_900, n3_1600, n3_2000, n3_3000, n3_3600, n3_5000, n3_86400, n3_m1, n3_m600, n3_m3600, n6_0, n6_1, n6_2, n6_3, n6_4, n6_7, n6_60, n6_100, n6_365, n6_366, n6_400, n6_900, n6_1461, n6_36524, n6_146097, iz_add, iz_sub, iz_mul, iz_neg, iz_div, iz_lt, iz_le, iz_eq, iz_l, lz_i, iz_nat, lz_add, lz_sub, lz_mul, lz_div, lz_lt, lz_le, lz_eq, lc_ge, lc_le, lc_eq, Option.bind_some, b01_z, b01_a, b01_1, iz_01, iz_11, pv_def, eq_self, not_true_eq_false, not_false_eq_true, if_true, if_false, if_pos, if_neg, pw_inz, pw_isz, pd_dom, pd_dom9]
        · simp (disch := omega) only [n3_0, n3_1, n3_2, n3_3, n3_4, n3_5, n3_6, n3_7, n3_8, n3_9, n3_10, n3_11, n3_12, n3_20, n3_23, n3_24, n3_28, n3_29, n3_30, n3_31, n3_32, n3_40, n3_60, n3_120, n3_128, n3_365, n3_366, n3_400, n3_100, n3_600, n3_700, n3_900, n3_1600, n3_2000, n3_3000, n3_3600, n3_5000, n3_86400, n3_m1, n3_m600, n3_m3600, n6_0, n6_1, n6_2, n6_3, n6_4, n6_7, n6_60, n6_100, n6_365, n6_366, n6_400, n6_900, n6_1461, n6_36524, n6_146097, iz_add, iz_sub, iz_mul, iz_neg, iz_div, iz_lt, iz_le, iz_eq, iz_l, lz_i, iz_nat, lz_add, lz_sub, lz_mul, lz_div, lz_lt, lz_le, lz_eq, lc_ge, lc_le, lc_eq, Option.bind_some, b01_z, b01_a, b01_1, iz_01, iz_11, pv_def, eq_self, not_true_eq_false, not_false_eq_true, if_true, if_false, if_pos, if_neg, pw_inz, pw_isz, pd_dom, pd_dom9]
    · refine Or.inr ⟨fun h => hm ⟨h.2.2.1, h.2.2.2.1⟩, ?_, ?_⟩
      · simp (disch := omega) only [n3_0, n3_1, n3_2, n3_3, n3_4, n3_5, n3_6, n3_7, n3_8, n3_9, n3_10, n3_11, n3_12, n3_20, n3_23, n3_24, n3_28, n3_29, n3_30, n3_31, n3_32, n3_40, n3_60, n3_120, n3_128, n3_365, n3_366, n3_400, n3_100, n3_600, n3_700, n3_900, n3_1600, n3_2000, n3_3000, n3_3600, n3_5000, n3_86400, n3_m1, n3_m600, n3_m3600, n6_0, n6_1, n6_2, n6_3, n6_4, n6_7, n6_60, n6_100, n6_365, n6_366, n6_400, n6_900, n6_1461, n6_36524, n6_146097, iz_add, iz_sub, iz_mul, iz_neg, iz_div, iz_lt, iz_le, iz_eq, iz_l, lz_i, iz_nat, lz_add, lz_sub, lz_mul, lz_div, lz_lt, lz_le, lz_eq, lc_ge, lc_le, lc_eq, Option.bind_some, b01_z, b01_a, b01_1, iz_01, iz_11, pv_def, eq_self, not_true_eq_false, not_false_eq_true, if_true, if_false, if_pos, if_neg, pw_inz, pw_isz, pd_dom, pd_dom9]
      · simp (disch := omega) only [n3_0, n3_1, n3_2, n3_3, n3_4, n3_5, n3_6, n3_7, n3_8, n3_9, n3_10, n3_11, n3_12, n3_20, n3_23, n3_24, n3_28, n3_29, n3_30, n3_31, n3_32, n3_40, n3_60, n3_120, n3_128, n3_365, n3_366, n3_400, n3_100, n3_600, n3_700, n3_900, n3_1600, n3_2000, n3_3000, n3_3600, n3_5000, n3_86400, n3_m1, n3_m600, n3_m3600, n6_0, n6_1, n6_2, n6_3, n6_4, n6_7, n6_60, n6_100, n6_365, n6_366, n6_400, n6_900, n6_1461, n6_36524, n6_146097, iz_add, iz_sub, iz_mul, iz_neg, iz_div, iz_lt, iz_le, iz_eq, iz_l, lz_i, iz_nat, lz_add, lz_sub, lz_mul, lz_div, lz_lt, lz_le, lz_eq, lc_ge, lc_le, lc_eq, Option.bind_some, b01_z, b01_a, b01_1, iz_01, iz_11, pv_def, eq_self, not_true_eq_false, not_false_eq_true, if_true, if_false, if_pos, if_neg, pw_inz, pw_isz, pd_dom, pd_dom9]
  · refine Or.inr ⟨fun h => hy ⟨h.1, h.2.1⟩, ?_, ?_⟩
    · simp (disch := omega) only [n3_0, n3_1, n3_2, n3_3, n3_4, n3_5, n3_6, n3_7, n3_8, n3_9, n3_10, n3_11, n3_12, n3_20, n3_23, n3_24, n3_28, n3_29, n3_30, n3_31, n3_32, n3_40, n3_60, n3_120, n3_128, n3_365, n3_366, n3_400, n3_100, n3_600, n3_700, n3_900, n3_1600, n3_2000, n3_3000, n3_3600, n3_5000, n3_86400, n3_m1, n3_m600, n3_m3600, n6_0, n6_1, n6_2, n6_3, n6_4, n6_7, n6_60, n6_100, n6_365, n6_366, n6_400, n6_900, n6_1461, n6_36524, n6_146097, iz_add, iz_sub, iz_mul, iz_neg, iz_div, iz_lt, iz_le, iz_eq, iz_l, lz_i, iz_nat, lz_add, lz_sub, lz_mul, lz_div, lz_lt, lz_le, lz_eq, lc_ge, lc_le, lc_eq, Option.bind_some, b01_z, b01_a, b01_1, iz_01, iz_11, pv_def, eq_self, not_true_eq_false, not_false_eq_true, if_true, if_false, if_pos, if_neg, pw_inz, pw_isz, pd_dom, pd_dom9]
    · simp (disch := omega) only [n3_0, n3_1, n3_2, n3_3, n3_4, n3_5, n3_6, n3_7, n3_8, n3_9, n3_10, n3_11, n3_12, n3_20, n3_23, n3_24, n3_28, n3_29, n3_30, n3_31, n3_32, n3_40, n3_60, n3_120, n3_128, n3_365, n3_366, n3_400, n3_100, n3_600, n3_700, n3_900, n3_1600, n3_2000, n3_3000, n3_3600, n3_5000, n3_86400, n3_m1, n3_m600, n3_m3600, n6_0, n6_1, n6_2, n6_3, n6_4, n6_7, n6_60, n6_100, n6_365, n6_366, n6_400, n6_900, n6_1461, n6_36524, n6_146097, iz_add, iz_sub, iz_mul, iz_neg, iz_div, iz_lt, iz_le, iz_eq, iz_l, lz_i, iz_nat, lz_add, lz_sub, lz_mul, lz_div, lz_lt, lz_le, lz_eq, lc_ge, lc_le, lc_eq, Option.bind_some, b01_z, b01_a, b01_1, iz_01, iz_11, pv_def, eq_self, not_true_eq_false, not_false_eq_true, if_true, if_false, if_pos, if_neg, pw_inz, pw_isz, pd_dom, pd_dom9]
theorem iz_ite (c : Prop) [Decidable c] (a b : Int) : (if c then lz a else lz b) = lz (if c then a else b) := by
  by_cases h : c
  · rw [if_pos h, if_pos h]
  · rw [if_neg h, if_neg h]
theorem pd_year {n : Int} (h1 : 1 ≤ n) (h2 : n ≤ 3000000) : ∃ y : Int, 1 ≤ y ∧ y ≤ 9000 ∧ dBef y < n ∧ n ≤ dBef (y + 1) ∧ X1_yearOf_f (lz n) = some (iz y, ()) := by
  obtain ⟨q, hq⟩ : ∃ q, q = (n - 1) / 146097 := ⟨_, rfl⟩
  obtain ⟨r, hr⟩ : ∃ r, r = (n - 1) % 146097 := ⟨_, rfl⟩
  obtain ⟨g, hg⟩ : ∃ g, g = (if r / 36524 < 3 then r / 36524 else 3) := ⟨_, rfl⟩
  have hg1 : 0 ≤ g ∧ g ≤ 3 ∧ 0 ≤ r - g * 36524 ∧ r - g * 36524 ≤ 36524 ∧ (g < 3 → r - g * 36524 < 36524) := by
    rw [hg]; split <;> omega
  obtain ⟨r2, hr2⟩ : ∃ r2, r2 = r - g * 36524 := ⟨_, rfl⟩
  obtain ⟨f, hf⟩ : ∃ f, f = r2 / 1461 := ⟨_, rfl⟩
  obtain ⟨r3, hr3⟩ : ∃ r3, r3 = r2 % 1461 := ⟨_, rfl⟩
  obtain ⟨w, hw⟩ : ∃ w, w = (if r3 / 365 < 3 then r3 / 365 else 3) := ⟨_, rfl⟩
  have hw1 : 0 ≤ w ∧ w ≤ 3 ∧ 0 ≤ r3 - w * 365 ∧ r3 - w * 365 ≤ 365 ∧ (w < 3 → r3 - w * 365 < 365) := by
    rw [hw]; split <;> omega
  have hf1 : 0 ≤ f ∧ f ≤ 24 := by omega
  have hq1 : 0 ≤ q ∧ q ≤ 21 := by omega
  refine ⟨400 * q + 100 * g + 4 * f + w + 1, by omega, by omega, ?_, ?_, ?_⟩
  · unfold dBef
    have e1 : (400 * q + 100 * g + 4 * f + w + 1 - 1) / 4 = 100 * q + 25 * g + f := by omega
    have e2 : (400 * q + 100 * g + 4 * f + w + 1 - 1) / 100 = 4 * q + g := by omega
    have e3 : (400 * q + 100 * g + 4 * f + w + 1 - 1) / 400 = q := by omega
    rw [e1, e2, e3]
    omega
  · rw [dBef_s, dBm_13]
    have e0 : dBef (400 * q + 100 * g + 4 * f + w + 1) = n - 1 - (r3 - w * 365) := by
      unfold dBef
      have e1 : (400 * q + 100 * g + 4 * f + w + 1 - 1) / 4 = 100 * q + 25 * g + f := by omega
      have e2 : (400 * q + 100 * g + 4 * f + w + 1 - 1) / 100 = 4 * q + g := by omega
      have e3 : (400 * q + 100 * g + 4 * f + w + 1 - 1) / 400 = q := by omega
      rw [e1, e2, e3]
      omega
    by_cases hl : dLeap (400 * q + 100 * g + 4 * f + w + 1) = true
    · rw [if_pos hl]; omega
    · rw [if_neg hl]
      rw [dLeap_t] at hl
      have : r3 - w * 365 < 365 := by
        by_cases w3 : w < 3
        · exact hw1.2.2.2.2 w3
        · have w3' : w = 3 := by omega
          have k1 : (400 * q + 100 * g + 4 * f + w + 1) % 4 = 0 := by omega
          have k2 : (400 * q + 100 * g + 4 * f + w + 1) % 100 = 0 ∧ (400 * q + 100 * g + 4 * f + w + 1) % 400 ≠ 0 := by
            constructor
            · apply Classical.byContradiction; intro h9; exact hl ⟨k1, Or.inl h9⟩
            · intro h9; exact hl ⟨k1, Or.inr h9⟩
          have f24 : f = 24 := by omega
          have g3 : g < 3 := by omega
          have := hg1.2.2.2.2 g3
          omega
      omega
  · unfold X1_yearOf_f
    have e_g : (if (n - 1) % 146097 / 36524 < 3 then lz ((n - 1) % 146097 / 36524) else lz 3) = lz g := by rw [hg, ← hr, iz_ite]
    have e_w : (if ((n - 1) % 146097 - g * 36524) % 1461 / 365 < 3 then lz (((n - 1) % 146097 - g * 36524) % 1461 / 365) else lz 3) = lz w := by rw [hw, hr3, hr2, hr, iz_ite]
    simp (disch := omega) only [n3_0, n3_1, n3_2, n3_3, n3_4, n3_5, n3_6, n3_7, n3_8, n3_9, n3_10, n3_11, n3_12, n3_20, n3_23, n3_24, n3_28, n3_29, n3_30, n3_31, n3_32, n3_40, n3_60, n3_120, n3_128, n3_365, n3_366, n3_400, n3_100, n3_600, n3_700, n3_900, n3_1600, n3_2000, n3_3000, n3_3600, n3_5000, n3_86400, n3_m1, n3_m600, n3_m3600, n6_0, n6_1, n6_2, n6_3, n6_4, n6_7, n6_60, n6_100, n6_365, n6_366, n6_400, n6_900, n6_1461, n6_36524, n6_146097, iz_add, iz_sub, iz_mul, iz_neg, iz_div, iz_lt, iz_le, iz_eq, iz_l, lz_i, iz_nat, lz_add, lz_sub, lz_mul, lz_div, lz_lt, lz_le, lz_eq, lc_ge, lc_le, lc_eq, Option.bind_some, b01_z, b01_a, b01_1, iz_01, iz_11, pv_def, eq_self, not_true_eq_false, not_false_eq_true, if_true, if_false, if_pos, if_neg]
    simp only [e_g]
    simp (disch := omega) only [n3_0, n3_1, n3_2, n3_3, n3_4, n3_5, n3_6, n3_7, n3_8, n3_9, n3_10, n3_11, n3_12, n3_20, n3_23, n3_24, n3_28, n3_29, n3_30, n3_31, n3_32, n3_40, n3_60, n3_120, n3_128, n3_365, n3_366, n3_400, n3_100, n3_600, n3_700, n3_900, n3_1600, n3_2000, n3_3000, n3_3600, n3_5000, n3_86400, n3_m1, n3_m600, n3_m3600, n6_0, n6_1, n6_2, n6_3, n6_4, n6_7, n6_60, n6_100, n6_365, n6_366, n6_400, n6_900, n6_1461, n6_36524, n6_146097, iz_add, iz_sub, iz_mul, iz_neg, iz_div, iz_lt, iz_le, iz_eq, iz_l, lz_i, iz_nat, lz_add, lz_sub, lz_mul, lz_div, lz_lt, lz_le, lz_eq, lc_ge, lc_le, lc_eq, Option.bind_some, b01_z, b01_a, b01_1, iz_01, iz_11, pv_def, eq_self, not_true_eq_false, not_false_eq_true, if_true, if_false, if_pos, if_neg]
    simp only [e_w]
    simp (disch := omega) only [n3_0, n3_1, n3_2, n3_3, n3_4, n3_5, n3_6, n3_7, n3_8, n3_9, n3_10, n3_11, n3_12, n3_20, n3_23, n3_24, n3_28, n3_29, n3_30, n3_31, n3_32, n3_40, n3_60, n3_120, n3_128, n3_365, n3_366, n3_400, n3_100, n3_600, n3_700, n3_900, n3_1600, n3_2000, n3_3000, n3_3600, n3_5000, n3_86400, n3_m1, n3_m600, n3_m3600, n6_0, n6_1, n6_2, n6_3, n6_4, n6_7, n6_60, n6_100, n6_365, n6_366, n6_400, n6_900, n6_1461, n6_36524, n6_146097, iz_add, iz_sub, iz_mul, iz_neg, iz_div, iz_lt, iz_le, iz_eq, iz_l, lz_i, iz_nat, lz_add, lz_sub, lz_mul, lz_div, lz_lt, lz_le, lz_eq, lc_ge, lc_le, lc_eq, Option.bind_some, b01_z, b01_a, b01_1, iz_01, iz_11, pv_def, eq_self, not_true_eq_false, not_false_eq_true, if_true, if_false, if_pos, if_neg]
    exact sm_i (by omega)
theorem pd_L17 {s d n y : Int} (hs : 0 ≤ s) (hs2 : s ≤ 2147483647) (hn : n = d + s / 86400) (hn1 : 1 ≤ n) (hn2 : n ≤ 3000000) (hy : y ≤ 9000) (hb : dBef y < n) (hb2 : n ≤ dBef (y + 1)) : ∀ (k : Nat) (v : Int), 1 ≤ v → v ≤ y → y - v < k → X9_year_L17 (iz s) (lz d) k (iz v) = some (iz y, ()) := by
  intro k
  induction k with
  | zero => intro v a b c; omega
  | succ k ih =>
    intro v a b c
    show X9_year_L17_body (iz s) (lz d) (X9_year_L17 (iz s) (lz d) k) (iz v) = _
    unfold X9_year_L17_body X9_today_f
    have hr := dBef_r (y := v + 1) (by omega) (by omega)
    simp (disch := omega) only [n3_0, n3_1, n3_2, n3_3, n3_4, n3_5, n3_6, n3_7, n3_8, n3_9, n3_10, n3_11, n3_12, n3_20, n3_23, n3_24, n3_28, n3_29, n3_30, n3_31, n3_32, n3_40, n3_60, n3_120, n3_128, n3_365, n3_366, n3_400, n3_100, n3_600, n3_700, n3_900, n3_1600, n3_2000, n3_3000, n3_3600, n3_5000, n3_86400, n3_m1, n3_m600, n3_m3600, n6_0, n6_1, n6_2, n6_3, n6_4, n6_7, n6_60, n6_100, n6_365, n6_366, n6_400, n6_900, n6_1461, n6_36524, n6_146097, iz_add, iz_sub, iz_mul, iz_neg, iz_div, iz_lt, iz_le, iz_eq, iz_l, lz_i, iz_nat, lz_add, lz_sub, lz_mul, lz_div, lz_lt, lz_le, lz_eq, lc_ge, lc_le, lc_eq, Option.bind_some, b01_z, b01_a, b01_1, iz_01, iz_11, pv_def, eq_self, not_true_eq_false, not_false_eq_true, if_true, if_false, if_pos, if_neg, pd_bef9]
    by_cases h : v = y
    · subst h
      rw [← hn, if_pos hb2]
    · have hm := dBef_m (a := v + 1) (b := y) (by omega)
      rw [← hn, if_neg (by omega)]
      exact ih _ (by omega) (by omega) (by omega)
theorem pd_year9 {N : Nat} (hN : 20000 ≤ N) {s d n y : Int} (hs : 0 ≤ s) (hs2 : s ≤ 2147483647) (hn : n = d + s / 86400) (hn1 : 1 ≤ n) (hn2 : n ≤ 3000000) (hy1 : 1 ≤ y) (hy : y ≤ 9000) (hb : dBef y < n) (hb2 : n ≤ dBef (y + 1)) : X9_year_f N (iz s) (lz d) = some (iz y, ()) := by
  unfold X9_year_f X9_today_f
  have key : n / 366 ≤ y := by
    have : dBef (y + 1) ≤ 366 * y := by unfold dBef; omega
    omega
  simp (disch := omega) only [n3_0, n3_1, n3_2, n3_3, n3_4, n3_5, n3_6, n3_7, n3_8, n3_9, n3_10, n3_11, n3_12, n3_20, n3_23, n3_24, n3_28, n3_29, n3_30, n3_31, n3_32, n3_40, n3_60, n3_120, n3_128, n3_365, n3_366, n3_400, n3_100, n3_600, n3_700, n3_900, n3_1600, n3_2000, n3_3000, n3_3600, n3_5000, n3_86400, n3_m1, n3_m600, n3_m3600, n6_0, n6_1, n6_2, n6_3, n6_4, n6_7, n6_60, n6_100, n6_365, n6_366, n6_400, n6_900, n6_1461, n6_36524, n6_146097, iz_add, iz_sub, iz_mul, iz_neg, iz_div, iz_lt, iz_le, iz_eq, iz_l, lz_i, iz_nat, lz_add, lz_sub, lz_mul, lz_div, lz_lt, lz_le, lz_eq, lc_ge, lc_le, lc_eq, Option.bind_some, b01_z, b01_a, b01_1, iz_01, iz_11, pv_def, eq_self, not_true_eq_false, not_false_eq_true, if_true, if_false, if_pos, if_neg]
  rw [← hn]
  by_cases h : 1 ≤ n / 366
  · rw [if_pos h]
    exact pd_L17 hs hs2 hn hn1 hn2 hy hb hb2 N _ h key (by omega)
  · rw [if_neg h]
    exact pd_L17 hs hs2 hn hn1 hn2 hy hb hb2 N 1 (by omega) hy1 (by omega)
theorem pd_L15 {y doy : Int} (h1 : 1 ≤ y) (h2 : y ≤ 9001) (h3 : -1000 ≤ doy) (h4 : doy ≤ 1000) : ∀ (k : Nat) (m : Int), 1 ≤ m → m ≤ 12 → 12 - m < k → ∃ u : Int, m ≤ u ∧ u ≤ 12 ∧ (u = 12 ∨ doy ≤ dBm y (u + 1)) ∧ (∀ j, m ≤ j → j < u → dBm y (j + 1) < doy) ∧ X1_monthOf_L15 k (iz y) (lz doy) (iz m) = some (iz u, ()) := by
  intro k
  induction k with
  | zero => intro m a b c; omega
  | succ k ih =>
    intro m a b c
    have e : ∀ u : Int, (X1_monthOf_L15 (k + 1) (iz y) (lz doy) (iz m) = some (iz u, ())) = (X1_monthOf_L15_body (X1_monthOf_L15 k) (iz y) (lz doy) (iz m) = some (iz u, ())) := fun _ => rfl
    by_cases h : 12 ≤ m
    · refine ⟨m, by omega, by omega, Or.inl (by omega), fun j a1 a2 => by omega, ?_⟩
      rw [e]
      unfold X1_monthOf_L15_body X1_monthOf_b42
      simp (disch := omega) only [n3_0, n3_1, n3_2, n3_3, n3_4, n3_5, n3_6, n3_7, n3_8, n3_9, n3_10, n3_11, n3_12, n3_20, n3_23, n3_24, n3_28, n3_29, n3_30, n3_31, n3_32, n3_40, n3_60, n3_120, n3_128, n3_365, n3_366, n3_400, n3_100, n3_600, n3_700, n3_900, n3_1600, n3_2000, n3_3000, n3_3600, n3_5000, n3_86400, n3_m1, n3_m600, n3_m3600, n6_0, n6_1, n6_2, n6_3, n6_4, n6_7, n6_60, n6_100, n6_365, n6_366, n6_400, n6_900, n6_1461, n6_36524, n6_146097, iz_add, iz_sub, iz_mul, iz_neg, iz_div, iz_lt, iz_le, iz_eq, iz_l, lz_i, iz_nat, lz_add, lz_sub, lz_mul, lz_div, lz_lt, lz_le, lz_eq, lc_ge, lc_le, lc_eq, Option.bind_some, b01_z, b01_a, b01_1, iz_01, iz_11, pv_def, eq_self, not_true_eq_false, not_false_eq_true, if_true, if_false, if_pos, if_neg]
    · have hr := dBm_r y (m + 1)
      by_cases h5 : doy ≤ dBm y (m + 1)
      · refine ⟨m, by omega, by omega, Or.inr h5, fun j a1 a2 => by omega, ?_⟩
        rw [e]
        unfold X1_monthOf_L15_body X1_monthOf_b42
        simp (disch := omega) only [n3_0, n3_1, n3_2, n3_3, n3_4, n3_5, n3_6, n3_7, n3_8, n3_9, n3_10, n3_11, n3_12, n3_20, n3_23, n3_24, n3_28, n3_29, n3_30, n3_31, n3_32, n3_40, n3_60, n3_120, n3_128, n3_365, n3_366, n3_400, n3_100, n3_600, n3_700, n3_900, n3_1600, n3_2000, n3_3000, n3_3600, n3_5000, n3_86400, n3_m1, n3_m600, n3_m3600, n6_0, n6_1, n6_2, n6_3, n6_4, n6_7, n6_60, n6_100, n6_365, n6_366, n6_400, n6_900, n6_1461, n6_36524, n6_146097, iz_add, iz_sub, iz_mul, iz_neg, iz_div, iz_lt, iz_le, iz_eq, iz_l, lz_i, iz_nat, lz_add, lz_sub, lz_mul, lz_div, lz_lt, lz_le, lz_eq, lc_ge, lc_le, lc_eq, Option.bind_some, b01_z, b01_a, b01_1, iz_01, iz_11, pv_def, eq_self, not_true_eq_false, not_false_eq_true, if_true, if_false, if_pos, if_neg, pd_dbm]
      · obtain ⟨u, b1, b2, b3, b4, b5⟩ := ih (m + 1) (by omega) (by omega) (by omega)
        refine ⟨u, by omega, b2, b3, ?_, ?_⟩
        · intro j a1 a2
          by_cases hj : j = m
          · subst hj; omega
          · exact b4 j (by omega) a2
        · rw [e]
          unfold X1_monthOf_L15_body X1_monthOf_b42
          simp (disch := omega) only [n3_0, n3_1, n3_2, n3_3, n3_4, n3_5, n3_6, n3_7, n3_8, n3_9, n3_10, n3_11, n3_12, n3_20, n3_23, n3_24, n3_28, n3_29, n3_30, n3_31, n3_32, n3_40, n3_60, n3_120, n3_128, n3_365, n3_366, n3_400, n3_100, n3_600, n3_700, n3_900, n3_1600, n3_2000, n3_3000, n3_3600, n3_5000, n3_86400, n3_m1, n3_m600, n3_m3600, n6_0, n6_1, n6_2, n6_3, n6_4, n6_7, n6_60, n6_100, n6_365, n6_366, n6_400, n6_900, n6_1461, n6_36524, n6_146097, iz_add, iz_sub, iz_mul, iz_neg, iz_div, iz_lt, iz_le, iz_eq, iz_l, lz_i, iz_nat, lz_add, lz_sub, lz_mul, lz_div, lz_lt, lz_le, lz_eq, lc_ge, lc_le, lc_eq, Option.bind_some, b01_z, b01_a, b01_1, iz_01, iz_11, pv_def, eq_self, not_true_eq_false, not_false_eq_true, if_true, if_false, if_pos, if_neg, pd_dbm]
          exact b5
theorem pd_L7 {N : Nat} (hN : 20 ≤ N) {s d n y u : Int} (hs : 0 ≤ s) (hs2 : s ≤ 2147483647) (hn : n = d + s / 86400) (hn1 : 1 ≤ n) (hn2 : n ≤ 3000000) (hy1 : 1 ≤ y) (hy : y ≤ 9000) (hb2 : n ≤ dBef (y + 1)) (hu : u ≤ 12) (hu2 : u = 12 ∨ n - dBef y ≤ dBm y (u + 1)) (hu3 : ∀ j, 1 ≤ j → j < u → dBm y (j + 1) < n - dBef y) : ∀ (k : Nat) (m : Int), 1 ≤ m → m ≤ u → u - m < k → X9_month_L7 N (iz s) (lz d) k (iz y) (iz m) = some (iz u, ()) := by
  intro k
  induction k with
  | zero => intro m a b c; omega
  | succ k ih =>
    intro m a b c
    show X9_month_L7_body N (iz s) (lz d) (X9_month_L7 N (iz s) (lz d) k) (iz y) (iz m) = _
    unfold X9_month_L7_body X9_today_f
    have hr := dDom_r y m
    have hr2 := dBm_r y m
    have hr3 := dBef_r (y := y) (by omega) (by omega)
    have hs9 := dBm_s (y := y) (m := m) a (by omega)
    simp (disch := omega) only [n3_0, n3_1, n3_2, n3_3, n3_4, n3_5, n3_6, n3_7, n3_8, n3_9, n3_10, n3_11, n3_12, n3_20, n3_23, n3_24, n3_28, n3_29, n3_30, n3_31, n3_32, n3_40, n3_60, n3_120, n3_128, n3_365, n3_366, n3_400, n3_100, n3_600, n3_700, n3_900, n3_1600, n3_2000, n3_3000, n3_3600, n3_5000, n3_86400, n3_m1, n3_m600, n3_m3600, n6_0, n6_1, n6_2, n6_3, n6_4, n6_7, n6_60, n6_100, n6_365, n6_366, n6_400, n6_900, n6_1461, n6_36524, n6_146097, iz_add, iz_sub, iz_mul, iz_neg, iz_div, iz_lt, iz_le, iz_eq, iz_l, lz_i, iz_nat, lz_add, lz_sub, lz_mul, lz_div, lz_lt, lz_le, lz_eq, lc_ge, lc_le, lc_eq, Option.bind_some, b01_z, b01_a, b01_1, iz_01, iz_11, pv_def, eq_self, not_true_eq_false, not_false_eq_true, if_true, if_false, if_pos, if_neg, pd_dom9, pd_num9]
    rw [← hn]
    by_cases h : m = u
    · have hc : n ≤ dBef y + dBm y m + dDom y m := by
        rcases hu2 with h9 | h9
        · rw [dBef_s] at hb2
          have h12 : m = 12 := by omega
          rw [h12] at hs9 ⊢
          rw [show (12 : Int) + 1 = 13 from rfl] at hs9
          omega
        · rw [← h] at h9
          omega
      rw [if_pos hc, h]
    · have := hu3 m a (by omega)
      rw [if_neg (by omega)]
      exact ih _ (by omega) (by omega) (by omega)
theorem pd_date {N : Nat} (hN : 20000 ≤ N) {s d : Int} (hs : 0 ≤ s) (hs2 : s ≤ 2147483647) (hn1 : 1 ≤ d + s / 86400) (hn2 : d + s / 86400 ≤ 3000000) : ∃ y m e : Int, X8_year_f (lz d) (iz s) = some (iz y, ()) ∧ X9_year_f N (iz s) (lz d) = some (iz y, ()) ∧ X8_month_f N (lz d) (iz s) = some (iz m, ()) ∧ X9_month_f N (iz s) (lz d) = some (iz m, ()) ∧ X8_day_f N (lz d) (iz s) = some (iz e, ()) ∧ X9_day_f N (iz s) (lz d) = some (iz e, ()) := by
  obtain ⟨y, hy1, hy2, hb1, hb2, ey⟩ := pd_year hn1 hn2
  have hbr := dBef_r (y := y) (by omega) (by omega)
  have hd : dBef (y + 1) ≤ dBef y + 366 := by
    rw [dBef_s]
    have := dBm_r y 13
    omega
  obtain ⟨u, b1, b2, b3, b4, b5⟩ := pd_L15 (y := y) (doy := d + s / 86400 - dBef y) hy1 (by omega) (by omega) (by omega) N 1 (by omega) (by omega) (by omega)
  have em : X1_monthOf_f N (lz (d + s / 86400)) = some (iz u, ()) := by
    unfold X1_monthOf_f
    simp (disch := omega) only [n3_0, n3_1, n3_2, n3_3, n3_4, n3_5, n3_6, n3_7, n3_8, n3_9, n3_10, n3_11, n3_12, n3_20, n3_23, n3_24, n3_28, n3_29, n3_30, n3_31, n3_32, n3_40, n3_60, n3_120, n3_128, n3_365, n3_366, n3_400, n3_100, n3_600, n3_700, n3_900, n3_1600, n3_2000, n3_3000, n3_3600, n3_5000, n3_86400, n3_m1, n3_m600, n3_m3600, n6_0, n6_1, n6_2, n6_3, n6_4, n6_7, n6_60, n6_100, n6_365, n6_366, n6_400, n6_900, n6_1461, n6_36524, n6_146097, iz_add, iz_sub, iz_mul, iz_neg, iz_div, iz_lt, iz_le, iz_eq, iz_l, lz_i, iz_nat, lz_add, lz_sub, lz_mul, lz_div, lz_lt, lz_le, lz_eq, lc_ge, lc_le, lc_eq, Option.bind_some, b01_z, b01_a, b01_1, iz_01, iz_11, pv_def, eq_self, not_true_eq_false, not_false_eq_true, if_true, if_false, if_pos, if_neg, ey, pd_bef]
    exact b5
  have ey9 := pd_year9 hN hs hs2 rfl hn1 hn2 hy1 hy2 hb1 hb2
  have em9 : X9_month_f N (iz s) (lz d) = some (iz u, ()) := by
    unfold X9_month_f
    simp (disch := omega) only [n3_0, n3_1, n3_2, n3_3, n3_4, n3_5, n3_6, n3_7, n3_8, n3_9, n3_10, n3_11, n3_12, n3_20, n3_23, n3_24, n3_28, n3_29, n3_30, n3_31, n3_32, n3_40, n3_60, n3_120, n3_128, n3_365, n3_366, n3_400, n3_100, n3_600, n3_700, n3_900, n3_1600, n3_2000, n3_3000, n3_3600, n3_5000, n3_86400, n3_m1, n3_m600, n3_m3600, n6_0, n6_1, n6_2, n6_3, n6_4, n6_7, n6_60, n6_100, n6_365, n6_366, n6_400, n6_900, n6_1461, n6_36524, n6_146097, iz_add, iz_sub, iz_mul, iz_neg, iz_div, iz_lt, iz_le, iz_eq, iz_l, lz_i, iz_nat, lz_add, lz_sub, lz_mul, lz_div, lz_lt, lz_le, lz_eq, lc_ge, lc_le, lc_eq, Option.bind_some, b01_z, b01_a, b01_1, iz_01, iz_11, pv_def, eq_self, not_true_eq_false, not_false_eq_true, if_true, if_false, if_pos, if_neg, ey9]
    exact pd_L7 (by omega) hs hs2 rfl hn1 hn2 hy1 hy2 hb2 b2 b3 (fun j a1 a2 => b4 j a1 a2) N 1 (by omega) b1 (by omega)
  have es : X8_dateShown_f (lz d) (iz s) = some (lz (d + s / 86400), ()) := by
    unfold X8_dateShown_f X8_wholeDaysShown_f X3_seconds_f
    simp (disch := omega) only [n3_0, n3_1, n3_2, n3_3, n3_4, n3_5, n3_6, n3_7, n3_8, n3_9, n3_10, n3_11, n3_12, n3_20, n3_23, n3_24, n3_28, n3_29, n3_30, n3_31, n3_32, n3_40, n3_60, n3_120, n3_128, n3_365, n3_366, n3_400, n3_100, n3_600, n3_700, n3_900, n3_1600, n3_2000, n3_3000, n3_3600, n3_5000, n3_86400, n3_m1, n3_m600, n3_m3600, n6_0, n6_1, n6_2, n6_3, n6_4, n6_7, n6_60, n6_100, n6_365, n6_366, n6_400, n6_900, n6_1461, n6_36524, n6_146097, iz_add, iz_sub, iz_mul, iz_neg, iz_div, iz_lt, iz_le, iz_eq, iz_l, lz_i, iz_nat, lz_add, lz_sub, lz_mul, lz_div, lz_lt, lz_le, lz_eq, lc_ge, lc_le, lc_eq, Option.bind_some, b01_z, b01_a, b01_1, iz_01, iz_11, pv_def, eq_self, not_true_eq_false, not_false_eq_true, if_true, if_false, if_pos, if_neg, pf_div]
  have hr := dBm_r y u
  refine ⟨y, u, d + s / 86400 - dBef y - dBm y u, ?_, ey9, ?_, em9, ?_, ?_⟩
  · unfold X8_year_f
    simp (disch := omega) only [n3_0, n3_1, n3_2, n3_3, n3_4, n3_5, n3_6, n3_7, n3_8, n3_9, n3_10, n3_11, n3_12, n3_20, n3_23, n3_24, n3_28, n3_29, n3_30, n3_31, n3_32, n3_40, n3_60, n3_120, n3_128, n3_365, n3_366, n3_400, n3_100, n3_600, n3_700, n3_900, n3_1600, n3_2000, n3_3000, n3_3600, n3_5000, n3_86400, n3_m1, n3_m600, n3_m3600, n6_0, n6_1, n6_2, n6_3, n6_4, n6_7, n6_60, n6_100, n6_365, n6_366, n6_400, n6_900, n6_1461, n6_36524, n6_146097, iz_add, iz_sub, iz_mul, iz_neg, iz_div, iz_lt, iz_le, iz_eq, iz_l, lz_i, iz_nat, lz_add, lz_sub, lz_mul, lz_div, lz_lt, lz_le, lz_eq, lc_ge, lc_le, lc_eq, Option.bind_some, b01_z, b01_a, b01_1, iz_01, iz_11, pv_def, eq_self, not_true_eq_false, not_false_eq_true, if_true, if_false, if_pos, if_neg, es, ey]
  · unfold X8_month_f
    simp (disch := omega) only [n3_0, n3_1, n3_2, n3_3, n3_4, n3_5, n3_6, n3_7, n3_8, n3_9, n3_10, n3_11, n3_12, n3_20, n3_23, n3_24, n3_28, n3_29, n3_30, n3_31, n3_32, n3_40, n3_60, n3_120, n3_128, n3_365, n3_366, n3_400, n3_100, n3_600, n3_700, n3_900, n3_1600, n3_2000, n3_3000, n3_3600, n3_5000, n3_86400, n3_m1, n3_m600, n3_m3600, n6_0, n6_1, n6_2, n6_3, n6_4, n6_7, n6_60, n6_100, n6_365, n6_366, n6_400, n6_900, n6_1461, n6_36524, n6_146097, iz_add, iz_sub, iz_mul, iz_neg, iz_div, iz_lt, iz_le, iz_eq, iz_l, lz_i, iz_nat, lz_add, lz_sub, lz_mul, lz_div, lz_lt, lz_le, lz_eq, lc_ge, lc_le, lc_eq, Option.bind_some, b01_z, b01_a, b01_1, iz_01, iz_11, pv_def, eq_self, not_true_eq_false, not_false_eq_true, if_true, if_false, if_pos, if_neg, es, em]
  · unfold X8_day_f X1_dayOf_f
    simp (disch := omega) only [n3_0, n3_1, n3_2, n3_3, n3_4, n3_5, n3_6, n3_7, n3_8, n3_9, n3_10, n3_11, n3_12, n3_20, n3_23, n3_24, n3_28, n3_29, n3_30, n3_31, n3_32, n3_40, n3_60, n3_120, n3_128, n3_365, n3_366, n3_400, n3_100, n3_600, n3_700, n3_900, n3_1600, n3_2000, n3_3000, n3_3600, n3_5000, n3_86400, n3_m1, n3_m600, n3_m3600, n6_0, n6_1, n6_2, n6_3, n6_4, n6_7, n6_60, n6_100, n6_365, n6_366, n6_400, n6_900, n6_1461, n6_36524, n6_146097, iz_add, iz_sub, iz_mul, iz_neg, iz_div, iz_lt, iz_le, iz_eq, iz_l, lz_i, iz_nat, lz_add, lz_sub, lz_mul, lz_div, lz_lt, lz_le, lz_eq, lc_ge, lc_le, lc_eq, Option.bind_some, b01_z, b01_a, b01_1, iz_01, iz_11, pv_def, eq_self, not_true_eq_false, not_false_eq_true, if_true, if_false, if_pos, if_neg, es, ey, em, pd_bef, pd_dbm]
  · unfold X9_day_f X9_today_f
    simp (disch := omega) only [n3_0, n3_1, n3_2, n3_3, n3_4, n3_5, n3_6, n3_7, n3_8, n3_9, n3_10, n3_11, n3_12, n3_20, n3_23, n3_24, n3_28, n3_29, n3_30, n3_31, n3_32, n3_40, n3_60, n3_120, n3_128, n3_365, n3_366, n3_400, n3_100, n3_600, n3_700, n3_900, n3_1600, n3_2000, n3_3000, n3_3600, n3_5000, n3_86400, n3_m1, n3_m600, n3_m3600, n6_0, n6_1, n6_2, n6_3, n6_4, n6_7, n6_60, n6_100, n6_365, n6_366, n6_400, n6_900, n6_1461, n6_36524, n6_146097, iz_add, iz_sub, iz_mul, iz_neg, iz_div, iz_lt, iz_le, iz_eq, iz_l, lz_i, iz_nat, lz_add, lz_sub, lz_mul, lz_div, lz_lt, lz_le, lz_eq, lc_ge, lc_le, lc_eq, Option.bind_some, b01_z, b01_a, b01_1, iz_01, iz_11, pv_def, eq_self, not_true_eq_false, not_false_eq_true, if_true, if_false, if_pos, if_neg, ey9, em9, pd_num9]
    exact sm_i (by omega)
theorem pd_wday {s d : Int} (hs : 0 ≤ s) (hs2 : s ≤ 2147483647) (hn1 : 1 ≤ d + s / 86400) (hn2 : d + s / 86400 ≤ 3000000) : X8_weekday_f (lz d) (iz s) = some (iz ((d + s / 86400 - 1) % 7), ()) ∧ X9_weekday_f (iz s) (lz d) = some (iz ((d + s / 86400 - 1) % 7), ()) := by
  have es : X8_dateShown_f (lz d) (iz s) = some (lz (d + s / 86400), ()) := by
    unfold X8_dateShown_f X8_wholeDaysShown_f X3_seconds_f
    simp (disch := omega) only [n3_0, n3_1, n3_2, n3_3, n3_4, n3_5, n3_6, n3_7, n3_8, n3_9, n3_10, n3_11, n3_12, n3_20, n3_23, n3_24, n3_28, n3_29, n3_30, n3_31, n3_32, n3_40, n3_60, n3_120, n3_128, n3_365, n3_366, n3_400, n3_100, n3_600, n3_700, n3_900, n3_1600, n3_2000, n3_3000, n3_3600, n3_5000, n3_86400, n3_m1, n3_m600, n3_m3600, n6_0, n6_1, n6_2, n6_3, n6_4, n6_7, n6_60, n6_100, n6_365, n6_366, n6_400, n6_900, n6_1461, n6_36524, n6_146097, iz_add, iz_sub, iz_mul, iz_neg, iz_div, iz_lt, iz_le, iz_eq, iz_l, lz_i, iz_nat, lz_add, lz_sub, lz_mul, lz_div, lz_lt, lz_le, lz_eq, lc_ge, lc_le, lc_eq, Option.bind_some, b01_z, b01_a, b01_1, iz_01, iz_11, pv_def, eq_self, not_true_eq_false, not_false_eq_true, if_true, if_false, if_pos, if_neg, pf_div]
  constructor
  · unfold X8_weekday_f X1_weekdayOf_f
    simp (disch := omega) only [n3_0, n3_1, n3_2, n3_3, n3_4, n3_5, n3_6, n3_7, n3_8, n3_9, n3_10, n3_11, n3_12, n3_20, n3_23, n3_24, n3_28, n3_29, n3_30, n3_31, n3_32, n3_40, n3_60, n3_120, n3_128, n3_365, n3_366, n3_400, n3_100, n3_600, n3_700, n3_900, n3_1600, n3_2000, n3_3000, n3_3600, n3_5000, n3_86400, n3_m1, n3_m600, n3_m3600, n6_0, n6_1, n6_2, n6_3, n6_4, n6_7, n6_60, n6_100, n6_365, n6_366, n6_400, n6_900, n6_1461, n6_36524, n6_146097, iz_add, iz_sub, iz_mul, iz_neg, iz_div, iz_lt, iz_le, iz_eq, iz_l, lz_i, iz_nat, lz_add, lz_sub, lz_mul, lz_div, lz_lt, lz_le, lz_eq, lc_ge, lc_le, lc_eq, Option.bind_some, b01_z, b01_a, b01_1, iz_01, iz_11, pv_def, eq_self, not_true_eq_false, not_false_eq_true, if_true, if_false, if_pos, if_neg, es, pf_lmod]
  · unfold X9_weekday_f X9_today_f
    simp (disch := omega) only [n3_0, n3_1, n3_2, n3_3, n3_4, n3_5, n3_6, n3_7, n3_8, n3_9, n3_10, n3_11, n3_12, n3_20, n3_23, n3_24, n3_28, n3_29, n3_30, n3_31, n3_32, n3_40, n3_60, n3_120, n3_128, n3_365, n3_366, n3_400, n3_100, n3_600, n3_700, n3_900, n3_1600, n3_2000, n3_3000, n3_3600, n3_5000, n3_86400, n3_m1, n3_m600, n3_m3600, n6_0, n6_1, n6_2, n6_3, n6_4, n6_7, n6_60, n6_100, n6_365, n6_366, n6_400, n6_900, n6_1461, n6_36524, n6_146097, iz_add, iz_sub, iz_mul, iz_neg, iz_div, iz_lt, iz_le, iz_eq, iz_l, lz_i, iz_nat, lz_add, lz_sub, lz_mul, lz_div, lz_lt, lz_le, lz_eq, lc_ge, lc_le, lc_eq, Option.bind_some, b01_z, b01_a, b01_1, iz_01, iz_11, pv_def, eq_self, not_true_eq_false, not_false_eq_true, if_true, if_false, if_pos, if_neg]
