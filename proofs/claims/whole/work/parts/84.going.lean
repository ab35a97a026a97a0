def sil (f t h : Int) : Bool := if t < f then decide (f ≤ h ∨ h < t) else decide (f ≤ h ∧ h < t)
theorem pg_sil {f t h : Int} (a1 : 0 ≤ f) (a2 : f ≤ 23) (b1 : 0 ≤ t) (b2 : t ≤ 23) (c1 : 0 ≤ h) (c2 : h ≤ 23) : X0_isSilent_f (iz f) (iz t) (iz h) = some (b01 (sil f t h = true), ()) ∧ X9_isSilent_f (iz f) (iz t) (iz h) = some (b01 (sil f t h = true), ()) := by
  unfold X0_isSilent_f X0_isSilent_b49 X0_isSilent_b31 X0_isSilent_b54 X0_isSilent_b32 X9_isSilent_f X9_isSilent_b51 X9_isSilent_b31 X9_isSilent_b56 sil
  by_cases h1 : t < f
  · by_cases h2 : f ≤ h
    · have e : b01 ((if t < f then decide (f ≤ h ∨ h < t) else decide (f ≤ h ∧ h < t)) = true) = iz 1 := by
        rw [if_pos h1]; exact b01_t (decide_eq_true (Or.inl h2))
      rw [e]
      constructor <;> simp (disch := omega) only [n3_0, n3_1, n3_2, n3_3, n3_4, n3_5, n3_6, n3_7, n3_8, n3_9, n3_10, n3_11, n3_12, n3_20, n3_23, n3_24, n3_28, n3_29, n3_30, n3_31, n3_32, n3_40, n3_60, n3_120, n3_128, n3_365, n3_366, n3_400, n3_100, n3_600, n3_700, n3_900, n3_1600, n3_2000, n3_3000, n3_3600, n3_5000, n3_86400, n3_m1, n3_m600, n3_m3600, n6_0, n6_1, n6_2, n6_3, n6_4, n6_7, n6_60, n6_100, n6_365, n6_366, n6_400, n6_900, n6_1461, n6_36524, n6_146097, iz_add, iz_sub, iz_mul, iz_neg, iz_div, iz_lt, iz_le, iz_eq, iz_l, lz_i, iz_nat, lz_add, lz_sub, lz_mul, lz_div, lz_lt, lz_le, lz_eq, lc_ge, lc_le, lc_eq, Option.bind_some, b01_z, b01_a, b01_1, iz_01, iz_11, pv_def, eq_self, Bool.false_eq_true, not_true_eq_false, not_false_eq_true, if_true, if_false, if_pos, if_neg]
    · by_cases h3 : h < t
      · have e : b01 ((if t < f then decide (f ≤ h ∨ h < t) else decide (f ≤ h ∧ h < t)) = true) = iz 1 := by
          rw [if_pos h1]; exact b01_t (decide_eq_true (Or.inr h3))
        rw [e]
        constructor <;> simp (disch := omega) only [n3_0, n3_1, n3_2, n3_3, n3_4, n3_5, n3_6, n3_7, n3_8, n3_9, n3_10, n3_11, n3_12, n3_20, n3_23, n3_24, n3_28, n3_29, n3_30, n3_31, n3_32, n3_40, n3_60, n3_120, n3_128, n3_365, n3_366, n3_400, n3_100, n3_600, n3_700, n3_900, n3_1600, n3_2000, n3_3000, n3_3600, n3_5000, n3_86400, n3_m1, n3_m600, n3_m3600, n6_0, n6_1, n6_2, n6_3, n6_4, n6_7, n6_60, n6_100, n6_365, n6_366, n6_400, n6_900, n6_1461, n6_36524, n6_146097, iz_add, iz_sub, iz_mul, iz_neg, iz_div, iz_lt, iz_le, iz_eq, iz_l, lz_i, iz_nat, lz_add, lz_sub, lz_mul, lz_div, lz_lt, lz_le, lz_eq, lc_ge, lc_le, lc_eq, Option.bind_some, b01_z, b01_a, b01_1, iz_01, iz_11, pv_def, eq_self, Bool.false_eq_true, not_true_eq_false, not_false_eq_true, if_true, if_false, if_pos, if_neg]
      · have e : b01 ((if t < f then decide (f ≤ h ∨ h < t) else decide (f ≤ h ∧ h < t)) = true) = iz 0 := by
          rw [if_pos h1]; exact b01_f (fun h9 => by have := of_decide_eq_true h9; omega)
        rw [e]
        constructor <;> simp (disch := omega) only [n3_0, n3_1, n3_2, n3_3, n3_4, n3_5, n3_6, n3_7, n3_8, n3_9, n3_10, n3_11, n3_12, n3_20, n3_23, n3_24, n3_28, n3_29, n3_30, n3_31, n3_32, n3_40, n3_60, n3_120, n3_128, n3_365, n3_366, n3_400, n3_100, n3_600, n3_700, n3_900, n3_1600, n3_2000, n3_3000, n3_3600, n3_5000, n3_86400, n3_m1, n3_m600, n3_m3600, n6_0, n6_1, n6_2, n6_3, n6_4, n6_7, n6_60, n6_100, n6_365, n6_366, n6_400, n6_900, n6_1461, n6_36524, n6_146097, iz_add, iz_sub, iz_mul, iz_neg, iz_div, iz_lt, iz_le, iz_eq, iz_l, lz_i, iz_nat, lz_add, lz_sub, lz_mul, lz_div, lz_lt, lz_le, lz_eq, lc_ge, lc_le, lc_eq, Option.bind_some, b01_z, b01_a, b01_1, iz_01, iz_11, pv_def, eq_self, Bool.false_eq_true, not_true_eq_false, not_false_eq_true, if_true, if_false, if_pos, if_neg]
  · by_cases h2 : f ≤ h ∧ h < t
    · have e : b01 ((if t < f then decide (f ≤ h ∨ h < t) else decide (f ≤ h ∧ h < t)) = true) = iz 1 := by
        rw [if_neg h1]; exact b01_t (decide_eq_true h2)
      rw [e]
      constructor <;> simp (disch := omega) only [n3_0, n3_1, n3_2, n3_3, n3_4, n3_5, n3_6, n3_7, n3_8, n3_9, n3_10, n3_11, n3_12, n3_20, n3_23, n3_24, n3_28, n3_29, n3_30, n3_31, n3_32, n3_40, n3_60, n3_120, n3_128, n3_365, n3_366, n3_400, n3_100, n3_600, n3_700, n3_900, n3_1600, n3_2000, n3_3000, n3_3600, n3_5000, n3_86400, n3_m1, n3_m600, n3_m3600, n6_0, n6_1, n6_2, n6_3, n6_4, n6_7, n6_60, n6_100, n6_365, n6_366, n6_400, n6_900, n6_1461, n6_36524, n6_146097, iz_add, iz_sub, iz_mul, iz_neg, iz_div, iz_lt, iz_le, iz_eq, iz_l, lz_i, iz_nat, lz_add, lz_sub, lz_mul, lz_div, lz_lt, lz_le, lz_eq, lc_ge, lc_le, lc_eq, Option.bind_some, b01_z, b01_a, b01_1, iz_01, iz_11, pv_def, eq_self, Bool.false_eq_true, not_true_eq_false, not_false_eq_true, if_true, if_false, if_pos, if_neg]
    · have e : b01 ((if t < f then decide (f ≤ h ∨ h < t) else decide (f ≤ h ∧ h < t)) = true) = iz 0 := by
        rw [if_neg h1]; exact b01_f (fun h9 => h2 (of_decide_eq_true h9))
      rw [e]
      by_cases h3 : f ≤ h
      · constructor <;> simp (disch := omega) only [n3_0, n3_1, n3_2, n3_3, n3_4, n3_5, n3_6, n3_7, n3_8, n3_9, n3_10, n3_11, n3_12, n3_20, n3_23, n3_24, n3_28, n3_29, n3_30, n3_31, n3_32, n3_40, n3_60, n3_120, n3_128, n3_365, n3_366, n3_400, n3_100, n3_600, n3_700, n3_900, n3_1600, n3_2000, n3_3000, n3_3600, n3_5000, n3_86400, n3_m1, n3_m600, n3_m3600, n6_0, n6_1, n6_2, n6_3, n6_4, n6_7, n6_60, n6_100, n6_365, n6_366, n6_400, n6_900, n6_1461, n6_36524, n6_146097, iz_add, iz_sub, iz_mul, iz_neg, iz_div, iz_lt, iz_le, iz_eq, iz_l, lz_i, iz_nat, lz_add, lz_sub, lz_mul, lz_div, lz_lt, lz_le, lz_eq, lc_ge, lc_le, lc_eq, Option.bind_some, b01_z, b01_a, b01_1, iz_01, iz_11, pv_def, eq_self, Bool.false_eq_true, not_true_eq_false, not_false_eq_true, if_true, if_false, if_pos, if_neg]
      · constructor <;> simp (disch := omega) only [n3_0, n3_1, n3_2, n3_3, n3_4, n3_5, n3_6, n3_7, n3_8, n3_9, n3_10, n3_11, n3_12, n3_20, n3_23, n3_24, n3_28, n3_29, n3_30, n3_31, n3_32, n3_40, n3_60, n3_120, n3_128, n3_365, n3_366, n3_400, n3_100, n3_600, n3_700, n3_900, n3_1600, n3_2000, n3_3000, n3_3600, n3_5000, n3_86400, n3_m1, n3_m600, n3_m3600, n6_0, n6_1, n6_2, n6_3, n6_4, n6_7, n6_60, n6_100, n6_365, n6_366, n6_400, n6_900, n6_1461, n6_36524, n6_146097, iz_add, iz_sub, iz_mul, iz_neg, iz_div, iz_lt, iz_le, iz_eq, iz_l, lz_i, iz_nat, lz_add, lz_sub, lz_mul, lz_div, lz_lt, lz_le, lz_eq, lc_ge, lc_le, lc_eq, Option.bind_some, b01_z, b01_a, b01_1, iz_01, iz_11, pv_def, eq_self, Bool.false_eq_true, not_true_eq_false, not_false_eq_true, if_true, if_false, if_pos, if_neg]
def soh (h : Int) : Int := if h % 12 = 0 then 12 else h % 12
theorem soh_r (h : Int) : 1 ≤ soh h ∧ soh h ≤ 12 := by
  unfold soh; split <;> omega
def due (sf st qr : Int) (tl : Nat → List Nat) (s : Int) : Int :=
  if sil sf st (s / 3600 % 24) = true then 0 else if 0 < s % 3600 / 900 then (if qr = 0 then 0 else s % 3600 / 900) else soh (s / 3600 % 24) + ((tl (s / 3600 % 24).toNat).length : Int)
def TLok (tl : Nat → List Nat) : Prop := ∀ h, (tl h).length ≤ 256 ∧ ∀ y ∈ tl h, 1 ≤ y ∧ y ≤ 8
theorem due_r (sf st qr : Int) {tl : Nat → List Nat} (ht : TLok tl) (s : Int) : 0 ≤ due sf st qr tl s ∧ due sf st qr tl s ≤ 268 := by
  have h1 := soh_r (s / 3600 % 24)
  have h2 := (ht (s / 3600 % 24).toNat).1
  unfold due
  split
  · omega
  · split
    · split <;> omega
    · omega
/-- the class's tunes -/
def BT (tl : Nat → List Nat) (tunes : Nat → Option Nat) (L : List Nat) (K : Nat → Nat) (ro : Nat → Nat) (pn : Nat → Int32) (rw : Nat → Nat → Int32) : Prop :=
  ∀ h, h < 24 → (tunes h = none ∧ tl h = []) ∨ ∃ a, tunes h = some a ∧ DK a L K ro ∧ pn a = iz (tl h).length ∧ pOut (rw (ro a)) 32 0 = tl h
/-- the reference's tunes -/
def RT (tl : Nat → List Nat) (mtune mpins : Nat → Int32) : Prop :=
  ∀ h, h < 24 → (mtune h = iz (-1) ∧ tl h = []) ∨ ∃ d : Nat, d < 4 ∧ mtune h = iz d ∧ pOut (fun s => mpins (32 * d + s)) 32 0 = tl h
theorem pg_soh {h : Int} (c1 : 0 ≤ h) (c2 : h ≤ 23) : X0_strokesOfHour_f (iz h) = some (iz (soh h), ()) := by
  unfold X0_strokesOfHour_f X0_strokesOfHour_b16 soh
  simp (disch := omega) only [n3_0, n3_1, n3_2, n3_3, n3_4, n3_5, n3_6, n3_7, n3_8, n3_9, n3_10, n3_11, n3_12, n3_20, n3_23, n3_24, n3_28, n3_29, n3_30, n3_31, n3_32, n3_40, n3_60, n3_120, n3_128, n3_365, n3_366, n3_400, n3_100, n3_600, n3_700, n3_900, n3_1600, n3_2000, n3_3000, n3_3600, n3_5000, n3_86400, n3_m1, n3_m600, n3_m3600, n6_0, n6_1, n6_2, n6_3, n6_4, n6_7, n6_60, n6_100, n6_365, n6_366, n6_400, n6_900, n6_1461, n6_36524, n6_146097, iz_add, iz_sub, iz_mul, iz_neg, iz_div, iz_lt, iz_le, iz_eq, iz_l, lz_i, iz_nat, lz_add, lz_sub, lz_mul, lz_div, lz_lt, lz_le, lz_eq, lc_ge, lc_le, lc_eq, Option.bind_some, b01_z, b01_a, b01_1, iz_01, iz_11, pv_def, eq_self, Bool.false_eq_true, not_true_eq_false, not_false_eq_true, if_true, if_false, if_pos, if_neg]
  by_cases h0 : h % 12 = 0
  · rw [if_pos h0, if_pos h0]
  · rw [if_neg h0, if_neg h0]
theorem pg_qof {s : Int} (h1 : 0 ≤ s) (h2 : s ≤ 2147483647) : X0_quarterOf_f (iz s) = some (iz (s % 3600 / 900), ()) := by
  unfold X0_quarterOf_f
  simp (disch := omega) only [n3_0, n3_1, n3_2, n3_3, n3_4, n3_5, n3_6, n3_7, n3_8, n3_9, n3_10, n3_11, n3_12, n3_20, n3_23, n3_24, n3_28, n3_29, n3_30, n3_31, n3_32, n3_40, n3_60, n3_120, n3_128, n3_365, n3_366, n3_400, n3_100, n3_600, n3_700, n3_900, n3_1600, n3_2000, n3_3000, n3_3600, n3_5000, n3_86400, n3_m1, n3_m600, n3_m3600, n6_0, n6_1, n6_2, n6_3, n6_4, n6_7, n6_60, n6_100, n6_365, n6_366, n6_400, n6_900, n6_1461, n6_36524, n6_146097, iz_add, iz_sub, iz_mul, iz_neg, iz_div, iz_lt, iz_le, iz_eq, iz_l, lz_i, iz_nat, lz_add, lz_sub, lz_mul, lz_div, lz_lt, lz_le, lz_eq, lc_ge, lc_le, lc_eq, Option.bind_some, b01_z, b01_a, b01_1, iz_01, iz_11, pv_def, eq_self, Bool.false_eq_true, not_true_eq_false, not_false_eq_true, if_true, if_false, if_pos, if_neg, pf_mod]
theorem pg_due {sf st qr : Int} (a1 : 0 ≤ sf) (a2 : sf ≤ 23) (b1 : 0 ≤ st) (b2 : st ≤ 23) (c1 : 0 ≤ qr) (c2 : qr ≤ 1) {tl : Nat → List Nat} {tunes : Nat → Option Nat} {L : List Nat} {K : Nat → Nat} {ro : Nat → Nat} {pn : Nat → Int32} {rw : Nat → Nat → Int32} (hT : BT tl tunes L K ro pn rw) {s : Int} (h1 : 0 ≤ s) (h2 : s ≤ 2147483647) : X0_strokesDue_f (iz sf) (iz st) (iz qr) tunes L K pn (iz s) = some (iz (due sf st qr tl s), ()) := by
  have es := (pg_sil a1 a2 b1 b2 (h := s / 3600 % 24) (by omega) (by omega)).1
  have eh := pw_hourOf h1 h2
  have eq := pg_qof h1 h2
  have eo := pg_soh (h := s / 3600 % 24) (by omega) (by omega)
  unfold X0_strokesDue_f X0_strokesDue_b36 X0_strokesDue_b62 X0_tuneOrNull_f X0_tuneOrNull_b22 X0_tuneOrNull_b23 due
  simp (disch := omega) only [n3_0, n3_1, n3_2, n3_3, n3_4, n3_5, n3_6, n3_7, n3_8, n3_9, n3_10, n3_11, n3_12, n3_20, n3_23, n3_24, n3_28, n3_29, n3_30, n3_31, n3_32, n3_40, n3_60, n3_120, n3_128, n3_365, n3_366, n3_400, n3_100, n3_600, n3_700, n3_900, n3_1600, n3_2000, n3_3000, n3_3600, n3_5000, n3_86400, n3_m1, n3_m600, n3_m3600, n6_0, n6_1, n6_2, n6_3, n6_4, n6_7, n6_60, n6_100, n6_365, n6_366, n6_400, n6_900, n6_1461, n6_36524, n6_146097, iz_add, iz_sub, iz_mul, iz_neg, iz_div, iz_lt, iz_le, iz_eq, iz_l, lz_i, iz_nat, lz_add, lz_sub, lz_mul, lz_div, lz_lt, lz_le, lz_eq, lc_ge, lc_le, lc_eq, Option.bind_some, b01_z, b01_a, b01_1, iz_01, iz_11, pv_def, eq_self, Bool.false_eq_true, not_true_eq_false, not_false_eq_true, if_true, if_false, if_pos, if_neg, eh, es, eq, eo]
  by_cases hs : sil sf st (s / 3600 % 24) = true
  · rw [if_neg (by simp [hs]), if_pos hs]
  · rw [if_pos hs, if_neg hs]
    by_cases hq : 0 < s % 3600 / 900
    · rw [if_neg (by omega), if_pos hq]
      by_cases hr : qr = 0
      · rw [if_pos hr, if_pos hr]
      · rw [if_neg hr, if_neg hr]
    · rw [if_pos (by omega), if_neg hq]
      rcases hT (s / 3600 % 24).toNat (by omega) with ⟨e1, e2⟩ | ⟨a, e1, e2, e3, e4⟩
      · rw [e1, e2]
        show some (iz (soh (s / 3600 % 24) + 0), ()) = some (iz (soh (s / 3600 % 24) + ((0 : Nat) : Int)), ())
        exact sm_i (by omega)
      · rw [e1]
        unfold optE X2_pinCount_f
        simp only [if_pos e2.1, Option.bind_some, e3, iz_add]
def hit (c : Int) (tl : Nat → List Nat) (s : Int) (f : Nat → Int32) : Nat → Int32 :=
  if 0 < s % 3600 / 900 then rg c f 1 (s % 3600 / 900) else (tl (s / 3600 % 24).toNat).foldl (fun g y => rg c g y 1) (rg c f 0 (soh (s / 3600 % 24)))
theorem pg_ring {N : Nat} (hN : 100 ≤ N) {tl : Nat → List Nat} {tunes : Nat → Option Nat} {L : List Nat} {K : Nat → Nat} {ro : Nat → Nat} {pn : Nat → Int32} {rw : Nat → Nat → Int32} (hT : BT tl tunes L K ro pn rw) {s : Int} (h1 : 0 ≤ s) (h2 : s ≤ 2147483647) (f : Nat → Int32) : X0_ring_f N tunes f L K ro rw (iz s) = some (hit 1 tl s f) := by
  have eh := pw_hourOf h1 h2
  have eq := pg_qof h1 h2
  have eo := pg_soh (h := s / 3600 % 24) (by omega) (by omega)
  unfold X0_ring_f X0_ring_b59 X0_tuneOrNull_f X0_tuneOrNull_b22 X0_tuneOrNull_b23 hit
  simp (disch := omega) only [n3_0, n3_1, n3_2, n3_3, n3_4, n3_5, n3_6, n3_7, n3_8, n3_9, n3_10, n3_11, n3_12, n3_20, n3_23, n3_24, n3_28, n3_29, n3_30, n3_31, n3_32, n3_40, n3_60, n3_120, n3_128, n3_365, n3_366, n3_400, n3_100, n3_600, n3_700, n3_900, n3_1600, n3_2000, n3_3000, n3_3600, n3_5000, n3_86400, n3_m1, n3_m600, n3_m3600, n6_0, n6_1, n6_2, n6_3, n6_4, n6_7, n6_60, n6_100, n6_365, n6_366, n6_400, n6_900, n6_1461, n6_36524, n6_146097, iz_add, iz_sub, iz_mul, iz_neg, iz_div, iz_lt, iz_le, iz_eq, iz_l, lz_i, iz_nat, lz_add, lz_sub, lz_mul, lz_div, lz_lt, lz_le, lz_eq, lc_ge, lc_le, lc_eq, Option.bind_some, b01_z, b01_a, b01_1, iz_01, iz_11, pv_def, eq_self, Bool.false_eq_true, not_true_eq_false, not_false_eq_true, if_true, if_false, if_pos, if_neg, eh, eq, eo]
  by_cases hq : 0 < s % 3600 / 900
  · rw [if_neg (by omega), if_pos hq, rg_1]
    rfl
  · rw [if_pos (by omega), if_neg hq, rg_1]
    rcases hT (s / 3600 % 24).toNat (by omega) with ⟨e1, e2⟩ | ⟨a, e1, e2, e3, e4⟩
    · rw [e1, e2]
      rfl
    · rw [e1, ← e4]
      unfold optE
      simp only [if_pos e2.1]
      rw [pb_play hN e2]
      rfl
theorem fold0 (l : List Nat) (f : Nat → Int32) : l.foldl (fun g y => rg 0 g y 1) f = f := by
  induction l with
  | nil => rfl
  | cons b l ih => rw [List.foldl_cons, rg_0]; exact ih
theorem pg_b97 {k c m n : Int} (hc : c = 0 ∨ c = 1) (hk : 0 ≤ k) (hk2 : k ≤ 2147483000) (lm ls g : Nat → Int32) : X9_strikes_b97 (iz k) (iz c) lm ls (iz m) (iz n) g = some (iz n, if c = 1 then (iz (k + 1), g, upd lm (k % 40).toNat (iz m), upd ls (k % 40).toNat (iz n)) else (iz k, g, lm, ls)) := by
  unfold X9_strikes_b97 X9_strikes_b141
  rcases hc with rfl | rfl
  · simp (disch := omega) only [n3_0, n3_1, n3_2, n3_3, n3_4, n3_5, n3_6, n3_7, n3_8, n3_9, n3_10, n3_11, n3_12, n3_20, n3_23, n3_24, n3_28, n3_29, n3_30, n3_31, n3_32, n3_40, n3_60, n3_120, n3_128, n3_365, n3_366, n3_400, n3_100, n3_600, n3_700, n3_900, n3_1600, n3_2000, n3_3000, n3_3600, n3_5000, n3_86400, n3_m1, n3_m600, n3_m3600, n6_0, n6_1, n6_2, n6_3, n6_4, n6_7, n6_60, n6_100, n6_365, n6_366, n6_400, n6_900, n6_1461, n6_36524, n6_146097, iz_add, iz_sub, iz_mul, iz_neg, iz_div, iz_lt, iz_le, iz_eq, iz_l, lz_i, iz_nat, lz_add, lz_sub, lz_mul, lz_div, lz_lt, lz_le, lz_eq, lc_ge, lc_le, lc_eq, Option.bind_some, b01_z, b01_a, b01_1, iz_01, iz_11, pv_def, eq_self, Bool.false_eq_true, not_true_eq_false, not_false_eq_true, if_true, if_false, if_pos, if_neg]
  · simp (disch := omega) only [n3_0, n3_1, n3_2, n3_3, n3_4, n3_5, n3_6, n3_7, n3_8, n3_9, n3_10, n3_11, n3_12, n3_20, n3_23, n3_24, n3_28, n3_29, n3_30, n3_31, n3_32, n3_40, n3_60, n3_120, n3_128, n3_365, n3_366, n3_400, n3_100, n3_600, n3_700, n3_900, n3_1600, n3_2000, n3_3000, n3_3600, n3_5000, n3_86400, n3_m1, n3_m600, n3_m3600, n6_0, n6_1, n6_2, n6_3, n6_4, n6_7, n6_60, n6_100, n6_365, n6_366, n6_400, n6_900, n6_1461, n6_36524, n6_146097, iz_add, iz_sub, iz_mul, iz_neg, iz_div, iz_lt, iz_le, iz_eq, iz_l, lz_i, iz_nat, lz_add, lz_sub, lz_mul, lz_div, lz_lt, lz_le, lz_eq, lc_ge, lc_le, lc_eq, Option.bind_some, b01_z, b01_a, b01_1, iz_01, iz_11, pv_def, eq_self, Bool.false_eq_true, not_true_eq_false, not_false_eq_true, if_true, if_false, if_pos, if_neg]
theorem pg_b68 {N : Nat} (hN : 100 ≤ N) {c : Int} (hc : c = 0 ∨ c = 1) {tl : Nat → List Nat} {mtune mpins : Nat → Int32} (hT : RT tl mtune mpins) {m k n : Int} (h1 : 0 ≤ m) (h2 : m ≤ 2400000) (hk : 0 ≤ k) (hk2 : k ≤ 2147483000) (f lm ls : Nat → Int32) : X9_strikes_b68 N (iz k) (iz c) mpins mtune f lm ls (iz m) (iz n) = some (iz (n + (tl (m / 4 % 24).toNat).length), if c = 1 then (iz (k + 1), (tl (m / 4 % 24).toNat).foldl (fun g y => rg c g y 1) (rg c f 0 n), upd lm (k % 40).toNat (iz m), upd ls (k % 40).toNat (iz (n + (tl (m / 4 % 24).toNat).length))) else (iz k, (tl (m / 4 % 24).toNat).foldl (fun g y => rg c g y 1) (rg c f 0 n), lm, ls)) := by
  have e1 : X9_rings_f (iz c) f (iz 0) (iz n) = some (iz n, rg c f 0 n) := pb_rings hc f (b := 0) (by omega) n
  unfold X9_strikes_b68
  rcases hT (m / 4 % 24).toNat (by omega) with ⟨e3, e4⟩ | ⟨d, e2, e3, e4⟩
  · simp (disch := omega) only [n3_0, n3_1, n3_2, n3_3, n3_4, n3_5, n3_6, n3_7, n3_8, n3_9, n3_10, n3_11, n3_12, n3_20, n3_23, n3_24, n3_28, n3_29, n3_30, n3_31, n3_32, n3_40, n3_60, n3_120, n3_128, n3_365, n3_366, n3_400, n3_100, n3_600, n3_700, n3_900, n3_1600, n3_2000, n3_3000, n3_3600, n3_5000, n3_86400, n3_m1, n3_m600, n3_m3600, n6_0, n6_1, n6_2, n6_3, n6_4, n6_7, n6_60, n6_100, n6_365, n6_366, n6_400, n6_900, n6_1461, n6_36524, n6_146097, iz_add, iz_sub, iz_mul, iz_neg, iz_div, iz_lt, iz_le, iz_eq, iz_l, lz_i, iz_nat, lz_add, lz_sub, lz_mul, lz_div, lz_lt, lz_le, lz_eq, lc_ge, lc_le, lc_eq, Option.bind_some, b01_z, b01_a, b01_1, iz_01, iz_11, pv_def, eq_self, Bool.false_eq_true, not_true_eq_false, not_false_eq_true, if_true, if_false, if_pos, if_neg, e1, e3]
    rw [pg_b97 hc hk hk2, e4]
    rw [show ((([] : List Nat).length : Nat) : Int) = 0 from rfl, Int.add_zero]
    rfl
  · have ep := pb_plays hN hc mpins e2 (rg c f 0 n)
    rw [e4] at ep
    simp (disch := omega) only [n3_0, n3_1, n3_2, n3_3, n3_4, n3_5, n3_6, n3_7, n3_8, n3_9, n3_10, n3_11, n3_12, n3_20, n3_23, n3_24, n3_28, n3_29, n3_30, n3_31, n3_32, n3_40, n3_60, n3_120, n3_128, n3_365, n3_366, n3_400, n3_100, n3_600, n3_700, n3_900, n3_1600, n3_2000, n3_3000, n3_3600, n3_5000, n3_86400, n3_m1, n3_m600, n3_m3600, n6_0, n6_1, n6_2, n6_3, n6_4, n6_7, n6_60, n6_100, n6_365, n6_366, n6_400, n6_900, n6_1461, n6_36524, n6_146097, iz_add, iz_sub, iz_mul, iz_neg, iz_div, iz_lt, iz_le, iz_eq, iz_l, lz_i, iz_nat, lz_add, lz_sub, lz_mul, lz_div, lz_lt, lz_le, lz_eq, lc_ge, lc_le, lc_eq, Option.bind_some, b01_z, b01_a, b01_1, iz_01, iz_11, pv_def, eq_self, Bool.false_eq_true, not_true_eq_false, not_false_eq_true, if_true, if_false, if_pos, if_neg, e1, e3, ep]
    rw [pg_b97 hc hk hk2]
theorem pg_str9 {N : Nat} (hN : 100 ≤ N) {sf st qr c : Int} (a1 : 0 ≤ sf) (a2 : sf ≤ 23) (b1 : 0 ≤ st) (b2 : st ≤ 23) (c1 : 0 ≤ qr) (c2 : qr ≤ 1) (hc : c = 0 ∨ c = 1) {tl : Nat → List Nat} {mtune mpins : Nat → Int32} (hT : RT tl mtune mpins) {s m k : Int} (hs : s = 900 * m) (h1 : 0 ≤ m) (h2 : s ≤ 2147483647) (hk : 0 ≤ k) (hk2 : k ≤ 2147483000) (f lm ls : Nat → Int32) : X9_strikes_f N (iz k) (iz sf) (iz st) (iz qr) (iz c) mpins mtune f lm ls (iz m) = some (iz (due sf st qr tl s), if c = 1 ∧ 0 < due sf st qr tl s then (iz (k + 1), hit 1 tl s f, upd lm (k % 40).toNat (iz m), upd ls (k % 40).toNat (iz (due sf st qr tl s))) else (iz k, f, lm, ls)) := by
  have es := (pg_sil a1 a2 b1 b2 (h := m / 4 % 24) (by omega) (by omega)).2
  have e34 : s / 3600 % 24 = m / 4 % 24 := by omega
  have e9 : s % 3600 / 900 = m % 4 := by omega
  have er := soh_r (m / 4 % 24)
  have hm : m ≤ 2400000 := by omega
  unfold X9_strikes_f X9_strikes_b33 X9_strikes_b35
  by_cases hsl : sil sf st (m / 4 % 24) = true
  · have ed : due sf st qr tl s = 0 := by unfold due; rw [e34, if_pos hsl]
    rw [ed, if_neg (by omega : ¬ (c = 1 ∧ (0 : Int) < 0))]
    simp (disch := omega) only [n3_0, n3_1, n3_2, n3_3, n3_4, n3_5, n3_6, n3_7, n3_8, n3_9, n3_10, n3_11, n3_12, n3_20, n3_23, n3_24, n3_28, n3_29, n3_30, n3_31, n3_32, n3_40, n3_60, n3_120, n3_128, n3_365, n3_366, n3_400, n3_100, n3_600, n3_700, n3_900, n3_1600, n3_2000, n3_3000, n3_3600, n3_5000, n3_86400, n3_m1, n3_m600, n3_m3600, n6_0, n6_1, n6_2, n6_3, n6_4, n6_7, n6_60, n6_100, n6_365, n6_366, n6_400, n6_900, n6_1461, n6_36524, n6_146097, iz_add, iz_sub, iz_mul, iz_neg, iz_div, iz_lt, iz_le, iz_eq, iz_l, lz_i, iz_nat, lz_add, lz_sub, lz_mul, lz_div, lz_lt, lz_le, lz_eq, lc_ge, lc_le, lc_eq, Option.bind_some, b01_z, b01_a, b01_1, iz_01, iz_11, pv_def, eq_self, Bool.false_eq_true, not_true_eq_false, not_false_eq_true, if_true, if_false, if_pos, if_neg, es, hsl]
  · by_cases hq : 0 < m % 4
    · by_cases hr : qr = 0
      · have ed : due sf st qr tl s = 0 := by unfold due; rw [e34, e9, if_neg hsl, if_pos hq, if_pos hr]
        rw [ed, if_neg (by omega : ¬ (c = 1 ∧ (0 : Int) < 0))]
        simp (disch := omega) only [n3_0, n3_1, n3_2, n3_3, n3_4, n3_5, n3_6, n3_7, n3_8, n3_9, n3_10, n3_11, n3_12, n3_20, n3_23, n3_24, n3_28, n3_29, n3_30, n3_31, n3_32, n3_40, n3_60, n3_120, n3_128, n3_365, n3_366, n3_400, n3_100, n3_600, n3_700, n3_900, n3_1600, n3_2000, n3_3000, n3_3600, n3_5000, n3_86400, n3_m1, n3_m600, n3_m3600, n6_0, n6_1, n6_2, n6_3, n6_4, n6_7, n6_60, n6_100, n6_365, n6_366, n6_400, n6_900, n6_1461, n6_36524, n6_146097, iz_add, iz_sub, iz_mul, iz_neg, iz_div, iz_lt, iz_le, iz_eq, iz_l, lz_i, iz_nat, lz_add, lz_sub, lz_mul, lz_div, lz_lt, lz_le, lz_eq, lc_ge, lc_le, lc_eq, Option.bind_some, b01_z, b01_a, b01_1, iz_01, iz_11, pv_def, eq_self, Bool.false_eq_true, not_true_eq_false, not_false_eq_true, if_true, if_false, if_pos, if_neg, es, hsl]
      · have ed : due sf st qr tl s = m % 4 := by unfold due; rw [e34, e9, if_neg hsl, if_pos hq, if_neg hr]
        have eh : hit 1 tl s f = rg 1 f 1 (m % 4) := by unfold hit; rw [e9, if_pos hq]
        have e1 : X9_rings_f (iz c) f (iz 1) (iz (m % 4)) = some (iz (m % 4), rg c f 1 (m % 4)) := pb_rings hc f (b := 1) (by omega) (m % 4)
        have e2 := pg_b97 (m := m) (n := m % 4) hc hk hk2 lm ls (rg c f 1 (m % 4))
        rw [ed, eh]
        rcases hc with rfl | rfl
        · rw [if_neg (by omega : ¬ ((0 : Int) = 1))] at e2
          rw [if_neg (by omega : ¬ ((0 : Int) = 1 ∧ 0 < m % 4))]
          rw [rg_0] at e1 e2
          simp (disch := omega) only [n3_0, n3_1, n3_2, n3_3, n3_4, n3_5, n3_6, n3_7, n3_8, n3_9, n3_10, n3_11, n3_12, n3_20, n3_23, n3_24, n3_28, n3_29, n3_30, n3_31, n3_32, n3_40, n3_60, n3_120, n3_128, n3_365, n3_366, n3_400, n3_100, n3_600, n3_700, n3_900, n3_1600, n3_2000, n3_3000, n3_3600, n3_5000, n3_86400, n3_m1, n3_m600, n3_m3600, n6_0, n6_1, n6_2, n6_3, n6_4, n6_7, n6_60, n6_100, n6_365, n6_366, n6_400, n6_900, n6_1461, n6_36524, n6_146097, iz_add, iz_sub, iz_mul, iz_neg, iz_div, iz_lt, iz_le, iz_eq, iz_l, lz_i, iz_nat, lz_add, lz_sub, lz_mul, lz_div, lz_lt, lz_le, lz_eq, lc_ge, lc_le, lc_eq, Option.bind_some, b01_z, b01_a, b01_1, iz_01, iz_11, pv_def, eq_self, Bool.false_eq_true, not_true_eq_false, not_false_eq_true, if_true, if_false, if_pos, if_neg, es, hsl, e1, e2]
        · rw [if_pos rfl] at e2
          rw [if_pos (by omega : (1 : Int) = 1 ∧ 0 < m % 4)]
          simp (disch := omega) only [n3_0, n3_1, n3_2, n3_3, n3_4, n3_5, n3_6, n3_7, n3_8, n3_9, n3_10, n3_11, n3_12, n3_20, n3_23, n3_24, n3_28, n3_29, n3_30, n3_31, n3_32, n3_40, n3_60, n3_120, n3_128, n3_365, n3_366, n3_400, n3_100, n3_600, n3_700, n3_900, n3_1600, n3_2000, n3_3000, n3_3600, n3_5000, n3_86400, n3_m1, n3_m600, n3_m3600, n6_0, n6_1, n6_2, n6_3, n6_4, n6_7, n6_60, n6_100, n6_365, n6_366, n6_400, n6_900, n6_1461, n6_36524, n6_146097, iz_add, iz_sub, iz_mul, iz_neg, iz_div, iz_lt, iz_le, iz_eq, iz_l, lz_i, iz_nat, lz_add, lz_sub, lz_mul, lz_div, lz_lt, lz_le, lz_eq, lc_ge, lc_le, lc_eq, Option.bind_some, b01_z, b01_a, b01_1, iz_01, iz_11, pv_def, eq_self, Bool.false_eq_true, not_true_eq_false, not_false_eq_true, if_true, if_false, if_pos, if_neg, es, hsl, e1, e2]
    · have ed : due sf st qr tl s = soh (m / 4 % 24) + ((tl (m / 4 % 24).toNat).length : Int) := by unfold due; rw [e34, e9, if_neg hsl, if_neg hq]
      have eh : hit 1 tl s f = (tl (m / 4 % 24).toNat).foldl (fun g y => rg 1 g y 1) (rg 1 f 0 (soh (m / 4 % 24))) := by unfold hit; rw [e34, e9, if_neg hq]
      rw [ed, eh]
      have hk0 : soh (m / 4 % 24) = 12 ∧ m / 4 % 24 % 12 = 0 ∨ soh (m / 4 % 24) = m / 4 % 24 % 12 ∧ ¬ (m / 4 % 24 % 12 = 0) := by
        unfold soh
        by_cases h0 : m / 4 % 24 % 12 = 0
        · left; exact ⟨if_pos h0, h0⟩
        · right; exact ⟨if_neg h0, h0⟩
      have e2 := pg_b68 hN hc hT h1 hm hk hk2 f lm ls (n := soh (m / 4 % 24))
      have hpos : 0 < soh (m / 4 % 24) + ((tl (m / 4 % 24).toNat).length : Int) := by omega
      have e3 : (if c = 1 then (iz (k + 1), (tl (m / 4 % 24).toNat).foldl (fun g y => rg c g y 1) (rg c f 0 (soh (m / 4 % 24))), upd lm (k % 40).toNat (iz m), upd ls (k % 40).toNat (iz (soh (m / 4 % 24) + (tl (m / 4 % 24).toNat).length))) else (iz k, (tl (m / 4 % 24).toNat).foldl (fun g y => rg c g y 1) (rg c f 0 (soh (m / 4 % 24))), lm, ls)) = (if c = 1 ∧ 0 < soh (m / 4 % 24) + ((tl (m / 4 % 24).toNat).length : Int) then (iz (k + 1), (tl (m / 4 % 24).toNat).foldl (fun g y => rg 1 g y 1) (rg 1 f 0 (soh (m / 4 % 24))), upd lm (k % 40).toNat (iz m), upd ls (k % 40).toNat (iz (soh (m / 4 % 24) + (tl (m / 4 % 24).toNat).length))) else (iz k, f, lm, ls)) := by
        rcases hc with rfl | rfl
        · rw [if_neg (by omega : ¬ ((0 : Int) = 1)), if_neg (by omega), rg_0, fold0]
        · rw [if_pos rfl, if_pos (show (1 : Int) = 1 ∧ _ from ⟨rfl, hpos⟩)]
      rw [e3] at e2
      rw [← e2]
      clear e2 e3
      rcases hk0 with ⟨h7, h8⟩ | ⟨h7, h8⟩
      · rw [h7]
        simp (disch := omega) only [n3_0, n3_1, n3_2, n3_3, n3_4, n3_5, n3_6, n3_7, n3_8, n3_9, n3_10, n3_11, n3_12, n3_20, n3_23, n3_24, n3_28, n3_29, n3_30, n3_31, n3_32, n3_40, n3_60, n3_120, n3_128, n3_365, n3_366, n3_400, n3_100, n3_600, n3_700, n3_900, n3_1600, n3_2000, n3_3000, n3_3600, n3_5000, n3_86400, n3_m1, n3_m600, n3_m3600, n6_0, n6_1, n6_2, n6_3, n6_4, n6_7, n6_60, n6_100, n6_365, n6_366, n6_400, n6_900, n6_1461, n6_36524, n6_146097, iz_add, iz_sub, iz_mul, iz_neg, iz_div, iz_lt, iz_le, iz_eq, iz_l, lz_i, iz_nat, lz_add, lz_sub, lz_mul, lz_div, lz_lt, lz_le, lz_eq, lc_ge, lc_le, lc_eq, Option.bind_some, b01_z, b01_a, b01_1, iz_01, iz_11, pv_def, eq_self, Bool.false_eq_true, not_true_eq_false, not_false_eq_true, if_true, if_false, if_pos, if_neg, es, hsl]
      · rw [h7]
        simp (disch := omega) only [n3_0, n3_1, n3_2, n3_3, n3_4, n3_5, n3_6, n3_7, n3_8, n3_9, n3_10, n3_11, n3_12, n3_20, n3_23, n3_24, n3_28, n3_29, n3_30, n3_31, n3_32, n3_40, n3_60, n3_120, n3_128, n3_365, n3_366, n3_400, n3_100, n3_600, n3_700, n3_900, n3_1600, n3_2000, n3_3000, n3_3600, n3_5000, n3_86400, n3_m1, n3_m600, n3_m3600, n6_0, n6_1, n6_2, n6_3, n6_4, n6_7, n6_60, n6_100, n6_365, n6_366, n6_400, n6_900, n6_1461, n6_36524, n6_146097, iz_add, iz_sub, iz_mul, iz_neg, iz_div, iz_lt, iz_le, iz_eq, iz_l, lz_i, iz_nat, lz_add, lz_sub, lz_mul, lz_div, lz_lt, lz_le, lz_eq, lc_ge, lc_le, lc_eq, Option.bind_some, b01_z, b01_a, b01_1, iz_01, iz_11, pv_def, eq_self, Bool.false_eq_true, not_true_eq_false, not_false_eq_true, if_true, if_false, if_pos, if_neg, es, hsl]
def cor (B o : Int) : Int := if B < o then B else if o < -B then -B else o
theorem cor_r {B : Int} (h1 : 0 ≤ B) (h2 : B ≤ 30) (o : Int) : -30 ≤ cor B o ∧ cor B o ≤ 30 := by
  unfold cor; split
  · omega
  · split <;> omega
theorem cor_o {B o : Int} (h1 : 0 ≤ B) (h2 : -3600 ≤ o) (h3 : o ≤ 3600) : -3600 ≤ o - cor B o ∧ o - cor B o ≤ 3600 := by
  unfold cor; split
  · omega
  · split <;> omega
theorem pg_cor {B s o : Int} (h1 : 0 ≤ B) (h2 : B ≤ 30) (h3 : -3600 ≤ o) (h4 : o ≤ 3600) : X3_correct_f (iz s) (iz o) (iz B) = some (iz (s + cor B o), iz (o - cor B o)) := by
  have e : (if -iz B < (if iz o < iz B then iz o else iz B) then (if iz o < iz B then iz o else iz B) else -iz B) = iz (cor B o) := by
    rw [iz_neg]
    by_cases a : o < B
    · have a' : iz o < iz B := by rw [iz_lt (by omega) (by omega) (by omega) (by omega)]; exact a
      rw [if_pos a']
      by_cases b : -B < o
      · have b' : iz (-B) < iz o := by rw [iz_lt (by omega) (by omega) (by omega) (by omega)]; exact b
        rw [if_pos b']
        congr 1
        unfold cor
        repeat' split
        all_goals omega
      · have b' : ¬ iz (-B) < iz o := by rw [iz_lt (by omega) (by omega) (by omega) (by omega)]; exact b
        rw [if_neg b']
        congr 1
        unfold cor
        repeat' split
        all_goals omega
    · have a' : ¬ iz o < iz B := by rw [iz_lt (by omega) (by omega) (by omega) (by omega)]; exact a
      rw [if_neg a']
      by_cases b : -B < B
      · have b' : iz (-B) < iz B := by rw [iz_lt (by omega) (by omega) (by omega) (by omega)]; exact b
        rw [if_pos b']
        congr 1
        unfold cor
        repeat' split
        all_goals omega
      · have b' : ¬ iz (-B) < iz B := by rw [iz_lt (by omega) (by omega) (by omega) (by omega)]; exact b
        rw [if_neg b']
        congr 1
        unfold cor
        repeat' split
        all_goals omega
  unfold X3_correct_f
  rw [e, Option.bind_some, iz_add, iz_sub]
/-- a mark is reached at s -/
def rch (s r : Int) : Bool := decide (s % 900 = 0 ∧ r < s / 900)
theorem rch_t {s r : Int} : rch s r = true ↔ (s % 900 = 0 ∧ r < s / 900) := decide_eq_true_iff
def nr (s r : Int) : Int := if rch s r = true then s / 900 else r
theorem pg_reach {s r : Int} (h1 : 0 ≤ s) (h2 : s ≤ 2147483647) (h3 : 0 ≤ r) (h4 : r ≤ 2147483647) : X3_reachMark_f (iz s) (iz r) = some (b01 (rch s r = true), iz (nr s r)) := by
  unfold X3_reachMark_f X3_reachMark_b26 nr
  simp (disch := omega) only [n3_0, n3_1, n3_2, n3_3, n3_4, n3_5, n3_6, n3_7, n3_8, n3_9, n3_10, n3_11, n3_12, n3_20, n3_23, n3_24, n3_28, n3_29, n3_30, n3_31, n3_32, n3_40, n3_60, n3_120, n3_128, n3_365, n3_366, n3_400, n3_100, n3_600, n3_700, n3_900, n3_1600, n3_2000, n3_3000, n3_3600, n3_5000, n3_86400, n3_m1, n3_m600, n3_m3600, n6_0, n6_1, n6_2, n6_3, n6_4, n6_7, n6_60, n6_100, n6_365, n6_366, n6_400, n6_900, n6_1461, n6_36524, n6_146097, iz_add, iz_sub, iz_mul, iz_neg, iz_div, iz_lt, iz_le, iz_eq, iz_l, lz_i, iz_nat, lz_add, lz_sub, lz_mul, lz_div, lz_lt, lz_le, lz_eq, lc_ge, lc_le, lc_eq, Option.bind_some, b01_z, b01_a, b01_1, iz_01, iz_11, pv_def, eq_self, Bool.false_eq_true, not_true_eq_false, not_false_eq_true, if_true, if_false, if_pos, if_neg]
  by_cases a : s % 900 = 0
  · rw [if_pos a]
    by_cases b : r < s / 900
    · rw [if_pos b, b01_t (rch_t.mpr ⟨a, b⟩), if_pos (rch_t.mpr ⟨a, b⟩)]
    · rw [if_neg b, b01_f (fun h => b (rch_t.mp h).2), if_neg (fun h => b (rch_t.mp h).2)]
  · rw [if_neg a, b01_f (fun h => a (rch_t.mp h).1), if_neg (fun h => a (rch_t.mp h).1)]
/-- seconds: what is shown, owed, reached, and the strokes -/
def inc (du : Int → Int) (s r : Int) : Int := if rch s r = true then du s else 0
def com (B : Int) (du : Int → Int) (s o r n : Int) : Int × Int × Int × Int := (s + cor B o, o - cor B o, nr s r, n + inc du s r)
def sec (B : Int) (du : Int → Int) (x : Int × Int × Int × Int) : Int × Int × Int × Int :=
  if (x.1 + 1) % 60 = 0 then com B du (x.1 + 1) x.2.1 x.2.2.1 x.2.2.2 else (x.1 + 1, x.2.1, x.2.2.1, x.2.2.2)
def secs (B : Int) (du : Int → Int) : Nat → Int × Int × Int × Int → Int × Int × Int × Int
  | 0, x => x
  | n + 1, x => secs B du n (sec B du x)
theorem secs_s (B : Int) (du : Int → Int) (n : Nat) (x : Int × Int × Int × Int) : secs B du (n + 1) x = secs B du n (sec B du x) := rfl
theorem secs_add (B : Int) (du : Int → Int) : ∀ (a b : Nat) (x : Int × Int × Int × Int), secs B du (a + b) x = secs B du b (secs B du a x) := by
  intro a
  induction a with
  | zero => intro b x; rw [Nat.zero_add]; rfl
  | succ a ih => intro b x; rw [show a + 1 + b = (a + b) + 1 from by omega, secs_s, secs_s, ih]
theorem secs_wait (B : Int) (du : Int → Int) : ∀ (j : Nat) (s o r n : Int), s % 60 + j < 60 → secs B du j (s, o, r, n) = (s + j, o, r, n) := by
  intro j
  induction j with
  | zero => intro s o r n _; show (s, o, r, n) = (s + ((0 : Nat) : Int), o, r, n); rw [show s + ((0 : Nat) : Int) = s from by omega]
  | succ j ih =>
    intro s o r n h
    rw [secs_s]
    have e : sec B du (s, o, r, n) = (s + 1, o, r, n) := if_neg (by show ¬ (s + 1) % 60 = 0; omega)
    rw [e, ih (s + 1) o r n (by omega), show s + 1 + (j : Int) = s + ((j + 1 : Nat) : Int) from by omega]
theorem secs_leap (B : Int) (du : Int → Int) {j : Nat} {s o r n : Int} (h : s % 60 + j = 60) (h1 : s % 60 < 60) : secs B du j (s, o, r, n) = com B du (s + j) o r n := by
  obtain ⟨i, rfl⟩ : ∃ i, j = i + 1 := ⟨j - 1, by omega⟩
  rw [secs_add, secs_wait B du i s o r n (by omega)]
  show sec B du (s + i, o, r, n) = _
  have e : sec B du (s + i, o, r, n) = com B du (s + i + 1) o r n := if_pos (by show (s + i + 1) % 60 = 0; omega)
  rw [e, show s + (i : Int) + 1 = s + ((i + 1 : Nat) : Int) from by omega]
