theorem pg_toF {s : Int} (h1 : 0 ≤ s) (h2 : s ≤ 2147483647) : X3_secondsToFullMinute_f (iz s) = some (iz (60 - s % 60), ()) := by
  unfold X3_secondsToFullMinute_f
  simp (disch := omega) only [n3_0, n3_1, n3_2, n3_3, n3_4, n3_5, n3_6, n3_7, n3_8, n3_9, n3_10, n3_11, n3_12, n3_20, n3_23, n3_24, n3_28, n3_29, n3_30, n3_31, n3_32, n3_40, n3_60, n3_120, n3_128, n3_365, n3_366, n3_400, n3_100, n3_600, n3_700, n3_900, n3_1600, n3_2000, n3_3000, n3_3600, n3_5000, n3_86400, n3_m1, n3_m600, n3_m3600, n6_0, n6_1, n6_2, n6_3, n6_4, n6_7, n6_60, n6_100, n6_365, n6_366, n6_400, n6_900, n6_1461, n6_36524, n6_146097, iz_add, iz_sub, iz_mul, iz_neg, iz_div, iz_lt, iz_le, iz_eq, iz_l, lz_i, iz_nat, lz_add, lz_sub, lz_mul, lz_div, lz_lt, lz_le, lz_eq, lc_ge, lc_le, lc_eq, Option.bind_some, b01_z, b01_a, b01_1, iz_01, iz_11, pv_def, eq_self, Bool.false_eq_true, not_true_eq_false, not_false_eq_true, if_true, if_false, if_pos, if_neg, pf_mod]
theorem pg_full {s : Int} (h1 : 0 ≤ s) (h2 : s ≤ 2147483647) : X3_isFullMinute_f (iz s) = some (b01 (s % 60 = 0), ()) := by
  unfold X3_isFullMinute_f X3_isFullMinute_b15
  simp (disch := omega) only [n3_0, n3_1, n3_2, n3_3, n3_4, n3_5, n3_6, n3_7, n3_8, n3_9, n3_10, n3_11, n3_12, n3_20, n3_23, n3_24, n3_28, n3_29, n3_30, n3_31, n3_32, n3_40, n3_60, n3_120, n3_128, n3_365, n3_366, n3_400, n3_100, n3_600, n3_700, n3_900, n3_1600, n3_2000, n3_3000, n3_3600, n3_5000, n3_86400, n3_m1, n3_m600, n3_m3600, n6_0, n6_1, n6_2, n6_3, n6_4, n6_7, n6_60, n6_100, n6_365, n6_366, n6_400, n6_900, n6_1461, n6_36524, n6_146097, iz_add, iz_sub, iz_mul, iz_neg, iz_div, iz_lt, iz_le, iz_eq, iz_l, lz_i, iz_nat, lz_add, lz_sub, lz_mul, lz_div, lz_lt, lz_le, lz_eq, lc_ge, lc_le, lc_eq, Option.bind_some, b01_z, b01_a, b01_1, iz_01, iz_11, pv_def, eq_self, Bool.false_eq_true, not_true_eq_false, not_false_eq_true, if_true, if_false, if_pos, if_neg]
  by_cases h : s % 60 = 0
  · rw [if_pos h, b01_t h]
  · rw [if_neg h, b01_f h]
theorem mx1 {a : Int} (h : 1 ≤ a) : (if 1 < a then iz a else iz 1) = iz a := by
  by_cases h1 : 1 < a
  · rw [if_pos h1]
  · rw [if_neg h1, show a = 1 from by omega]
theorem mnl {a b : Int} (h : a ≤ b) : (if a < b then iz a else iz b) = iz a := by
  by_cases h1 : a < b
  · rw [if_pos h1]
  · rw [if_neg h1, show a = b from by omega]
theorem inc_r {du : Int → Int} (h : ∀ s, 0 ≤ du s ∧ du s ≤ 268) (s r : Int) : 0 ≤ inc du s r ∧ inc du s r ≤ 268 := by
  have := h s
  unfold inc; split <;> omega
theorem nr_r {s r : Int} (h : 0 ≤ s) (h2 : 0 ≤ r) : 0 ≤ nr s r ∧ r ≤ nr s r ∧ (nr s r ≤ r ∨ 900 * nr s r ≤ s) := by
  unfold nr
  by_cases h9 : rch s r = true
  · rw [if_pos h9]; rw [rch_t] at h9; omega
  · rw [if_neg h9]; omega
theorem pg_comT {sf st qr : Int} (a1 : 0 ≤ sf) (a2 : sf ≤ 23) (b1 : 0 ≤ st) (b2 : st ≤ 23) (c1 : 0 ≤ qr) (c2 : qr ≤ 1) {tl : Nat → List Nat} {tunes : Nat → Option Nat} {L : List Nat} {K : Nat → Nat} {ro : Nat → Nat} {pn : Nat → Int32} {rw : Nat → Nat → Int32} (hT : BT tl tunes L K ro pn rw) {B s o r : Int} (hB : 0 ≤ B) (hB2 : B ≤ 30) (hs : 0 ≤ s) (hs2 : s ≤ 2147483000) (ho : -3600 ≤ o) (ho2 : o ≤ 3600) (hr : 0 ≤ r) (hr2 : r ≤ 2147483000) : X8_comeTrial_f (iz sf) (iz st) (iz qr) tunes (iz s) (iz o) (iz B) (iz r) L K pn = some (iz (inc (due sf st qr tl) s r), (iz (s + cor B o), iz (o - cor B o), iz (nr s r))) := by
  have e1 := pg_reach hs (by omega) hr (by omega)
  have e2 := pg_cor (s := s) hB hB2 ho ho2
  have e3 := pg_due a1 a2 b1 b2 c1 c2 hT hs (by omega)
  unfold X8_comeTrial_f X8_comeTrial_b32 X8_comeTrial_b33 X3_seconds_f inc
  simp (disch := omega) only [n3_0, n3_1, n3_2, n3_3, n3_4, n3_5, n3_6, n3_7, n3_8, n3_9, n3_10, n3_11, n3_12, n3_20, n3_23, n3_24, n3_28, n3_29, n3_30, n3_31, n3_32, n3_40, n3_60, n3_120, n3_128, n3_365, n3_366, n3_400, n3_100, n3_600, n3_700, n3_900, n3_1600, n3_2000, n3_3000, n3_3600, n3_5000, n3_86400, n3_m1, n3_m600, n3_m3600, n6_0, n6_1, n6_2, n6_3, n6_4, n6_7, n6_60, n6_100, n6_365, n6_366, n6_400, n6_900, n6_1461, n6_36524, n6_146097, iz_add, iz_sub, iz_mul, iz_neg, iz_div, iz_lt, iz_le, iz_eq, iz_l, lz_i, iz_nat, lz_add, lz_sub, lz_mul, lz_div, lz_lt, lz_le, lz_eq, lc_ge, lc_le, lc_eq, Option.bind_some, b01_z, b01_a, b01_1, iz_01, iz_11, pv_def, eq_self, Bool.false_eq_true, not_true_eq_false, not_false_eq_true, if_true, if_false, if_pos, if_neg, e1, e2, e3]
  by_cases h : rch s r = true
  · rw [if_neg (by simp [h]), if_pos h]
  · rw [if_pos h, if_neg h]
theorem pg_goT {sf st qr : Int} (a1 : 0 ≤ sf) (a2 : sf ≤ 23) (b1 : 0 ≤ st) (b2 : st ≤ 23) (c1 : 0 ≤ qr) (c2 : qr ≤ 1) {tl : Nat → List Nat} {tunes : Nat → Option Nat} {L : List Nat} {K : Nat → Nat} {ro : Nat → Nat} {pn : Nat → Int32} {rw : Nat → Nat → Int32} (hT : BT tl tunes L K ro pn rw) {B : Int} (hB : 0 ≤ B) (hB2 : B ≤ 30) : ∀ (n left : Nat) (s o r many : Int), left < n → 0 ≤ s → s + 31 * left ≤ 2000000000 → -3600 ≤ o → o ≤ 3600 → 0 ≤ r → r ≤ 2147483000 → X8_goTrial_L6 (iz sf) (iz st) (iz qr) tunes (iz B) L K pn n (iz many) (iz left) (iz s) (iz o) (iz r) = some (iz (secs B (due sf st qr tl) left (s, o, r, many)).2.2.2, (iz (secs B (due sf st qr tl) left (s, o, r, many)).1, iz (secs B (due sf st qr tl) left (s, o, r, many)).2.1, iz (secs B (due sf st qr tl) left (s, o, r, many)).2.2.1)) := by
  intro n
  induction n with
  | zero => intro left s o r many a; omega
  | succ n ih =>
    intro left s o r many h1 h2 h3 h4 h5 h6 h7
    show X8_goTrial_L6_body (iz sf) (iz st) (iz qr) tunes (iz B) L K pn (X8_goTrial_L6 (iz sf) (iz st) (iz qr) tunes (iz B) L K pn n) (iz many) (iz left) (iz s) (iz o) (iz r) = _
    unfold X8_goTrial_L6_body X8_goTrial_b51 X3_addSeconds_f
    by_cases h0 : left = 0
    · subst h0
      simp (disch := omega) only [n3_0, n3_1, n3_2, n3_3, n3_4, n3_5, n3_6, n3_7, n3_8, n3_9, n3_10, n3_11, n3_12, n3_20, n3_23, n3_24, n3_28, n3_29, n3_30, n3_31, n3_32, n3_40, n3_60, n3_120, n3_128, n3_365, n3_366, n3_400, n3_100, n3_600, n3_700, n3_900, n3_1600, n3_2000, n3_3000, n3_3600, n3_5000, n3_86400, n3_m1, n3_m600, n3_m3600, n6_0, n6_1, n6_2, n6_3, n6_4, n6_7, n6_60, n6_100, n6_365, n6_366, n6_400, n6_900, n6_1461, n6_36524, n6_146097, iz_add, iz_sub, iz_mul, iz_neg, iz_div, iz_lt, iz_le, iz_eq, iz_l, lz_i, iz_nat, lz_add, lz_sub, lz_mul, lz_div, lz_lt, lz_le, lz_eq, lc_ge, lc_le, lc_eq, Option.bind_some, b01_z, b01_a, b01_1, iz_01, iz_11, pv_def, eq_self, Bool.false_eq_true, not_true_eq_false, not_false_eq_true, if_true, if_false, if_pos, if_neg]
      rfl
    · obtain ⟨l, hl⟩ : ∃ l : Nat, (l : Int) = 60 - s % 60 := ⟨(60 - s % 60).toNat, by omega⟩
      by_cases hlt : (left : Int) < l
      · have e := ih 0 (s + left) o r many (by omega) (by omega) (by omega) h4 h5 h6 h7
        simp (disch := omega) only [n3_0, n3_1, n3_2, n3_3, n3_4, n3_5, n3_6, n3_7, n3_8, n3_9, n3_10, n3_11, n3_12, n3_20, n3_23, n3_24, n3_28, n3_29, n3_30, n3_31, n3_32, n3_40, n3_60, n3_120, n3_128, n3_365, n3_366, n3_400, n3_100, n3_600, n3_700, n3_900, n3_1600, n3_2000, n3_3000, n3_3600, n3_5000, n3_86400, n3_m1, n3_m600, n3_m3600, n6_0, n6_1, n6_2, n6_3, n6_4, n6_7, n6_60, n6_100, n6_365, n6_366, n6_400, n6_900, n6_1461, n6_36524, n6_146097, iz_add, iz_sub, iz_mul, iz_neg, iz_div, iz_lt, iz_le, iz_eq, iz_l, lz_i, iz_nat, lz_add, lz_sub, lz_mul, lz_div, lz_lt, lz_le, lz_eq, lc_ge, lc_le, lc_eq, Option.bind_some, b01_z, b01_a, b01_1, iz_01, iz_11, pv_def, eq_self, Bool.false_eq_true, not_true_eq_false, not_false_eq_true, if_true, if_false, if_pos, if_neg, pg_toF, pg_full, mx1]
        rw [show many + 0 = many from by omega, show (left : Int) - left = ((0 : Nat) : Int) from by omega, secs_wait B _ left s o r many (by omega)]
        exact e
      · have ec := pg_comT a1 a2 b1 b2 c1 c2 hT hB hB2 (s := s + (60 - s % 60)) (o := o) (r := r) (by omega) (by omega) h4 h5 h6 h7
        have k1 := cor_r hB hB2 o
        have k2 := cor_o hB h4 h5
        have k3 := nr_r (s := s + (60 - s % 60)) (r := r) (by omega) h6
        have e := ih (left - l) (s + (60 - s % 60) + cor B o) (o - cor B o) (nr (s + (60 - s % 60)) r) (many + inc (due sf st qr tl) (s + (60 - s % 60)) r) (by omega) (by omega) (by omega) k2.1 k2.2 (by omega) (by omega)
        have es : secs B (due sf st qr tl) left (s, o, r, many) = secs B (due sf st qr tl) (left - l) (s + (60 - s % 60) + cor B o, o - cor B o, nr (s + (60 - s % 60)) r, many + inc (due sf st qr tl) (s + (60 - s % 60)) r) := by
          have e9 := secs_leap B (due sf st qr tl) (j := l) (s := s) (o := o) (r := r) (n := many) (by omega) (by omega)
          rw [show left = l + (left - l) from by omega, secs_add, e9, show l + (left - l) - l = left - l from by omega, hl]
          rfl
        rw [es]
        simp (disch := omega) only [n3_0, n3_1, n3_2, n3_3, n3_4, n3_5, n3_6, n3_7, n3_8, n3_9, n3_10, n3_11, n3_12, n3_20, n3_23, n3_24, n3_28, n3_29, n3_30, n3_31, n3_32, n3_40, n3_60, n3_120, n3_128, n3_365, n3_366, n3_400, n3_100, n3_600, n3_700, n3_900, n3_1600, n3_2000, n3_3000, n3_3600, n3_5000, n3_86400, n3_m1, n3_m600, n3_m3600, n6_0, n6_1, n6_2, n6_3, n6_4, n6_7, n6_60, n6_100, n6_365, n6_366, n6_400, n6_900, n6_1461, n6_36524, n6_146097, iz_add, iz_sub, iz_mul, iz_neg, iz_div, iz_lt, iz_le, iz_eq, iz_l, lz_i, iz_nat, lz_add, lz_sub, lz_mul, lz_div, lz_lt, lz_le, lz_eq, lc_ge, lc_le, lc_eq, Option.bind_some, b01_z, b01_a, b01_1, iz_01, iz_11, pv_def, eq_self, Bool.false_eq_true, not_true_eq_false, not_false_eq_true, if_true, if_false, if_pos, if_neg, pg_toF, pg_full, mnl, mx1, ec]
        rw [show (left : Int) - (60 - s % 60) = ((left - l : Nat) : Int) from by omega]
        exact e
theorem pg_cbm {N : Nat} (hN : 150000 ≤ N) {sf st qr : Int} (a1 : 0 ≤ sf) (a2 : sf ≤ 23) (b1 : 0 ≤ st) (b2 : st ≤ 23) (c1 : 0 ≤ qr) (c2 : qr ≤ 1) {tl : Nat → List Nat} {tunes : Nat → Option Nat} {L : List Nat} {K : Nat → Nat} {ro : Nat → Nat} {pn : Nat → Int32} {rw : Nat → Nat → Int32} (hT : BT tl tunes L K ro pn rw) {B s o r nu de rs b : Int} (hB : 0 ≤ B) (hB2 : B ≤ 30) (hs : 0 ≤ s) (hs2 : s ≤ 1900000000) (ho : -3600 ≤ o) (ho2 : o ≤ 3600) (hr : 0 ≤ r) (hr2 : r ≤ 2147483000) (hn : 0 ≤ nu) (hn2 : nu ≤ 20) (hd : 1 ≤ de) (hd2 : de ≤ 20) (hrs : 0 ≤ rs) (hrs2 : rs ≤ 20) (hb : 0 ≤ b) (hb2 : b ≤ 5000) : ∃ w : Int32 × Int32 × Int32 × Int32, X8_countByMinutes_f N (iz nu) (iz de) (iz rs) (iz s) (iz o) (iz B) (iz r) (iz sf) (iz st) (iz qr) tunes L K pn (iz b) = some (iz (secs B (due sf st qr tl) ((rs + nu * b) / de).toNat (s, o, r, 0)).2.2.2, w) := by
  have e0 : 0 ≤ nu * b := Int.mul_nonneg hn hb
  have e1 : nu * b ≤ 20 * 5000 := Int.mul_le_mul hn2 hb2 hb (by omega)
  have e2 : 0 ≤ (rs + nu * b) / de := Int.ediv_nonneg (by omega) (by omega)
  have e3 : (rs + nu * b) / de ≤ rs + nu * b := Int.ediv_le_self _ (by omega)
  have e4 : (((rs + nu * b) / de).toNat : Int) = (rs + nu * b) / de := Int.toNat_of_nonneg e2
  have es := pw_secs hn hn2 hd hd2 hrs hrs2 hb hb2
  have eg := pg_goT a1 a2 b1 b2 c1 c2 hT hB hB2 N ((rs + nu * b) / de).toNat s o r 0 (by omega) hs (by omega) ho ho2 hr hr2
  rw [e4] at eg
  have eg' : X8_goTrial_f N (iz sf) (iz st) (iz qr) tunes (iz s) (iz o) (iz B) (iz r) L K pn (iz ((rs + nu * b) / de)) = _ := eg
  unfold X8_countByMinutes_f X3_copyFrom_f
  simp only [Option.bind_some, es, eg']
  exact ⟨_, rfl⟩
theorem pg_L44 {sf st qr : Int} (a1 : 0 ≤ sf) (a2 : sf ≤ 23) (b1 : 0 ≤ st) (b2 : st ≤ 23) (c1 : 0 ≤ qr) (c2 : qr ≤ 1) {tl : Nat → List Nat} {tunes : Nat → Option Nat} {L : List Nat} {K : Nat → Nat} {ro : Nat → Nat} {pn : Nat → Int32} {rw : Nat → Nat → Int32} (hT : BT tl tunes L K ro pn rw) {B : Int} (hB : 0 ≤ B) (hB2 : B ≤ 30) (k26 : Int32 → Int32 → Int32 → Int32 → Int32 → Int32 → Int32 → Int32 → Int32 → Option (Int32 × (Int32 × Int32 × Int32 × Int32 × Int32 × Int32 × Int32))) {bt S : Int} (hS : S ≤ 1000) (x1 x2 x3 : Int32) : ∀ (n j : Nat) (i s o r many : Int), 0 ≤ i → i + j = S → j < n → 0 ≤ s → s + 31 * j ≤ 2000000000 → -3600 ≤ o → o ≤ 3600 → 0 ≤ r → r ≤ 2147483000 → X8_countBySeconds_L44 (iz sf) (iz st) (iz qr) tunes L K pn k26 n (iz many) (iz bt) (iz S) (iz i) x1 x2 x3 (iz s) (iz o) (iz B) (iz r) = k26 (iz (secs B (due sf st qr tl) j (s, o, r, many)).2.2.2) (iz (bt + 1)) x1 x2 x3 (iz (secs B (due sf st qr tl) j (s, o, r, many)).1) (iz (secs B (due sf st qr tl) j (s, o, r, many)).2.1) (iz B) (iz (secs B (due sf st qr tl) j (s, o, r, many)).2.2.1) := by
  intro n
  induction n with
  | zero => intro j i s o r many _ _ a; omega
  | succ n ih =>
    intro j i s o r many h0 h1 hj h2 h3 h4 h5 h6 h7
    show X8_countBySeconds_L44_body (iz sf) (iz st) (iz qr) tunes L K pn k26 (X8_countBySeconds_L44 (iz sf) (iz st) (iz qr) tunes L K pn k26 n) (iz many) (iz bt) (iz S) (iz i) x1 x2 x3 (iz s) (iz o) (iz B) (iz r) = _
    unfold X8_countBySeconds_L44_body X8_countBySeconds_b83 X3_addSeconds_f
    cases j with
    | zero =>
      simp (disch := omega) only [n3_0, n3_1, n3_2, n3_3, n3_4, n3_5, n3_6, n3_7, n3_8, n3_9, n3_10, n3_11, n3_12, n3_20, n3_23, n3_24, n3_28, n3_29, n3_30, n3_31, n3_32, n3_40, n3_60, n3_120, n3_128, n3_365, n3_366, n3_400, n3_100, n3_600, n3_700, n3_900, n3_1600, n3_2000, n3_3000, n3_3600, n3_5000, n3_86400, n3_m1, n3_m600, n3_m3600, n6_0, n6_1, n6_2, n6_3, n6_4, n6_7, n6_60, n6_100, n6_365, n6_366, n6_400, n6_900, n6_1461, n6_36524, n6_146097, iz_add, iz_sub, iz_mul, iz_neg, iz_div, iz_lt, iz_le, iz_eq, iz_l, lz_i, iz_nat, lz_add, lz_sub, lz_mul, lz_div, lz_lt, lz_le, lz_eq, lc_ge, lc_le, lc_eq, Option.bind_some, b01_z, b01_a, b01_1, iz_01, iz_11, pv_def, eq_self, Bool.false_eq_true, not_true_eq_false, not_false_eq_true, if_true, if_false, if_pos, if_neg]
      rfl
    | succ j =>
      have ec := pg_comT a1 a2 b1 b2 c1 c2 hT hB hB2 (s := s + 1) (o := o) (r := r) (by omega) (by omega) h4 h5 h6 h7
      have k1 := cor_r hB hB2 o
      have k2 := cor_o hB h4 h5
      have k3 := nr_r (s := s + 1) (r := r) (by omega) h6
      rw [secs_s]
      by_cases hm : (s + 1) % 60 = 0
      · have e := ih j (i + 1) (s + 1 + cor B o) (o - cor B o) (nr (s + 1) r) (many + inc (due sf st qr tl) (s + 1) r) (by omega) (by omega) (by omega) (by omega) (by omega) k2.1 k2.2 (by omega) (by omega)
        have es : sec B (due sf st qr tl) (s, o, r, many) = (s + 1 + cor B o, o - cor B o, nr (s + 1) r, many + inc (due sf st qr tl) (s + 1) r) := if_pos hm
        rw [es]
        simp (disch := omega) only [n3_0, n3_1, n3_2, n3_3, n3_4, n3_5, n3_6, n3_7, n3_8, n3_9, n3_10, n3_11, n3_12, n3_20, n3_23, n3_24, n3_28, n3_29, n3_30, n3_31, n3_32, n3_40, n3_60, n3_120, n3_128, n3_365, n3_366, n3_400, n3_100, n3_600, n3_700, n3_900, n3_1600, n3_2000, n3_3000, n3_3600, n3_5000, n3_86400, n3_m1, n3_m600, n3_m3600, n6_0, n6_1, n6_2, n6_3, n6_4, n6_7, n6_60, n6_100, n6_365, n6_366, n6_400, n6_900, n6_1461, n6_36524, n6_146097, iz_add, iz_sub, iz_mul, iz_neg, iz_div, iz_lt, iz_le, iz_eq, iz_l, lz_i, iz_nat, lz_add, lz_sub, lz_mul, lz_div, lz_lt, lz_le, lz_eq, lc_ge, lc_le, lc_eq, Option.bind_some, b01_z, b01_a, b01_1, iz_01, iz_11, pv_def, eq_self, Bool.false_eq_true, not_true_eq_false, not_false_eq_true, if_true, if_false, if_pos, if_neg, pg_full, ec]
        exact e
      · have e := ih j (i + 1) (s + 1) o r many (by omega) (by omega) (by omega) (by omega) (by omega) h4 h5 h6 h7
        have es : sec B (due sf st qr tl) (s, o, r, many) = (s + 1, o, r, many) := if_neg hm
        rw [es]
        simp (disch := omega) only [n3_0, n3_1, n3_2, n3_3, n3_4, n3_5, n3_6, n3_7, n3_8, n3_9, n3_10, n3_11, n3_12, n3_20, n3_23, n3_24, n3_28, n3_29, n3_30, n3_31, n3_32, n3_40, n3_60, n3_120, n3_128, n3_365, n3_366, n3_400, n3_100, n3_600, n3_700, n3_900, n3_1600, n3_2000, n3_3000, n3_3600, n3_5000, n3_86400, n3_m1, n3_m600, n3_m3600, n6_0, n6_1, n6_2, n6_3, n6_4, n6_7, n6_60, n6_100, n6_365, n6_366, n6_400, n6_900, n6_1461, n6_36524, n6_146097, iz_add, iz_sub, iz_mul, iz_neg, iz_div, iz_lt, iz_le, iz_eq, iz_l, lz_i, iz_nat, lz_add, lz_sub, lz_mul, lz_div, lz_lt, lz_le, lz_eq, lc_ge, lc_le, lc_eq, Option.bind_some, b01_z, b01_a, b01_1, iz_01, iz_11, pv_def, eq_self, Bool.false_eq_true, not_true_eq_false, not_false_eq_true, if_true, if_false, if_pos, if_neg, pg_full]
        rw [show many + 0 = many from by omega]
        exact e
theorem secs_inv {B : Int} (hB : 0 ≤ B) (hB2 : B ≤ 30) (du : Int → Int) : ∀ (j : Nat) (s o r n : Int), 0 ≤ s → s + 31 * j ≤ 2000000000 → -3600 ≤ o → o ≤ 3600 → 0 ≤ r → r ≤ 2147483000 → 0 ≤ (secs B du j (s, o, r, n)).1 ∧ (secs B du j (s, o, r, n)).1 ≤ s + 31 * j ∧ -3600 ≤ (secs B du j (s, o, r, n)).2.1 ∧ (secs B du j (s, o, r, n)).2.1 ≤ 3600 ∧ 0 ≤ (secs B du j (s, o, r, n)).2.2.1 ∧ (secs B du j (s, o, r, n)).2.2.1 ≤ 2147483000 := by
  intro j
  induction j with
  | zero =>
    intro s o r n h1 h2 h3 h4 h5 h6
    show 0 ≤ s ∧ s ≤ s + 31 * ((0 : Nat) : Int) ∧ -3600 ≤ o ∧ o ≤ 3600 ∧ 0 ≤ r ∧ r ≤ 2147483000
    omega
  | succ j ih =>
    intro s o r n h1 h2 h3 h4 h5 h6
    rw [secs_s]
    have k1 := cor_r hB hB2 o
    have k2 := cor_o hB h3 h4
    have k3 := nr_r (s := s + 1) (r := r) (by omega) h5
    by_cases hm : (s + 1) % 60 = 0
    · have es : sec B du (s, o, r, n) = (s + 1 + cor B o, o - cor B o, nr (s + 1) r, n + inc du (s + 1) r) := if_pos hm
      rw [es]
      have := ih (s + 1 + cor B o) (o - cor B o) (nr (s + 1) r) (n + inc du (s + 1) r) (by omega) (by omega) k2.1 k2.2 (by omega) (by omega)
      omega
    · have es : sec B du (s, o, r, n) = (s + 1, o, r, n) := if_neg hm
      rw [es]
      have := ih (s + 1) o r n (by omega) (by omega) h3 h4 h5 h6
      omega
theorem pw_pass {nu de rs b : Int} (hn : 0 ≤ nu) (hn2 : nu ≤ 20) (hd : 1 ≤ de) (hd2 : de ≤ 20) (hr : 0 ≤ rs) (hr2 : rs ≤ 20) (hb : 0 ≤ b) (hb2 : b ≤ 5000) : X4_letPass_f (iz nu) (iz de) (iz rs) (iz b) = some (iz ((rs + nu * b) / de), iz ((rs + nu * b) % de)) := by
  have es := pw_secs hn hn2 hd hd2 hr hr2 hb hb2
  have ee := Int.emod_add_mul_ediv (rs + nu * b) de
  have em := Int.mul_comm ((rs + nu * b) / de) de
  unfold X4_letPass_f
  rw [es, Option.bind_some, iz_mul, iz_mul, iz_sub, iz_add]
  rw [show rs + (nu * b - (rs + nu * b) / de * de) = (rs + nu * b) % de from by omega]
theorem pg_L26 {N : Nat} (hN : 150000 ≤ N) {sf st qr : Int} (a1 : 0 ≤ sf) (a2 : sf ≤ 23) (b1 : 0 ≤ st) (b2 : st ≤ 23) (c1 : 0 ≤ qr) (c2 : qr ≤ 1) {tl : Nat → List Nat} {tunes : Nat → Option Nat} {L : List Nat} {K : Nat → Nat} {ro : Nat → Nat} {pn : Nat → Int32} {rw : Nat → Nat → Int32} (hT : BT tl tunes L K ro pn rw) {B : Int} (hB : 0 ≤ B) (hB2 : B ≤ 30) {nu de b : Int} (hn : 0 ≤ nu) (hn2 : nu ≤ 20) (hd : 1 ≤ de) (hd2 : de ≤ 20) (hb2 : b ≤ 5000) : ∀ (n k : Nat) (bt rs s o r many : Int), 0 ≤ bt → bt + k = b → k < n → 0 ≤ rs → rs < de → 0 ≤ s → s + 31 * ((rs + nu * k) / de) ≤ 2000000000 → -3600 ≤ o → o ≤ 3600 → 0 ≤ r → r ≤ 2147483000 → ∃ w : Int32 × Int32 × Int32 × Int32 × Int32 × Int32 × Int32, X8_countBySeconds_L26 N (iz sf) (iz st) (iz qr) tunes L K pn (iz b) n (iz many) (iz bt) (iz nu) (iz de) (iz rs) (iz s) (iz o) (iz B) (iz r) = some (iz (secs B (due sf st qr tl) ((rs + nu * k) / de).toNat (s, o, r, many)).2.2.2, w) := by
  intro n
  induction n with
  | zero => intro k bt rs s o r many _ _ a; omega
  | succ n ih =>
    intro k bt rs s o r many h0 h1 hk hr0 hr1 h2 h3 h4 h5 h6 h7
    have eb : ∀ w, (X8_countBySeconds_L26 N (iz sf) (iz st) (iz qr) tunes L K pn (iz b) (n + 1) (iz many) (iz bt) (iz nu) (iz de) (iz rs) (iz s) (iz o) (iz B) (iz r) = w) = (X8_countBySeconds_L26_body N (iz sf) (iz st) (iz qr) tunes L K pn (iz b) (X8_countBySeconds_L26 N (iz sf) (iz st) (iz qr) tunes L K pn (iz b) n) (iz many) (iz bt) (iz nu) (iz de) (iz rs) (iz s) (iz o) (iz B) (iz r) = w) := fun _ => rfl
    cases k with
    | zero =>
      have ez : (rs + nu * ((0 : Nat) : Int)) / de = 0 := by
        rw [show ((0 : Nat) : Int) = 0 from rfl, Int.mul_zero, Int.add_zero]
        exact Int.ediv_eq_zero_of_lt hr0 hr1
      rw [ez]
      refine ⟨(iz nu, iz de, iz rs, iz s, iz o, iz B, iz r), ?_⟩
      rw [eb]
      unfold X8_countBySeconds_L26_body
      simp (disch := omega) only [n3_0, n3_1, n3_2, n3_3, n3_4, n3_5, n3_6, n3_7, n3_8, n3_9, n3_10, n3_11, n3_12, n3_20, n3_23, n3_24, n3_28, n3_29, n3_30, n3_31, n3_32, n3_40, n3_60, n3_120, n3_128, n3_365, n3_366, n3_400, n3_100, n3_600, n3_700, n3_900, n3_1600, n3_2000, n3_3000, n3_3600, n3_5000, n3_86400, n3_m1, n3_m600, n3_m3600, n6_0, n6_1, n6_2, n6_3, n6_4, n6_7, n6_60, n6_100, n6_365, n6_366, n6_400, n6_900, n6_1461, n6_36524, n6_146097, iz_add, iz_sub, iz_mul, iz_neg, iz_div, iz_lt, iz_le, iz_eq, iz_l, lz_i, iz_nat, lz_add, lz_sub, lz_mul, lz_div, lz_lt, lz_le, lz_eq, lc_ge, lc_le, lc_eq, Option.bind_some, b01_z, b01_a, b01_1, iz_01, iz_11, pv_def, eq_self, Bool.false_eq_true, not_true_eq_false, not_false_eq_true, if_true, if_false, if_pos, if_neg]
      rfl
    | succ k =>
      have ek : nu * ((k + 1 : Nat) : Int) = nu + nu * k := by
        rw [show ((k + 1 : Nat) : Int) = 1 + (k : Int) from by omega, Int.mul_add, Int.mul_one]
      have m0 : 0 ≤ nu * (k : Int) := Int.mul_nonneg hn (by omega)
      have esh := (ediv_shift (rs + nu) (nu * k) de (by omega)).1
      have eT : (rs + nu * ((k + 1 : Nat) : Int)) / de = (rs + nu) / de + ((rs + nu) % de + nu * k) / de := by
        rw [ek, esh, show rs + (nu + nu * (k : Int)) = rs + nu + nu * k from by omega]
        omega
      have q0 : 0 ≤ (rs + nu) / de := Int.ediv_nonneg (by omega) (by omega)
      have q1 : (rs + nu) / de ≤ rs + nu := Int.ediv_le_self _ (by omega)
      have r0 : 0 ≤ (rs + nu) % de := Int.emod_nonneg _ (by omega)
      have r1 : (rs + nu) % de < de := Int.emod_lt_of_pos _ (by omega)
      have t0 : 0 ≤ ((rs + nu) % de + nu * k) / de := Int.ediv_nonneg (by omega) (by omega)
      have eq0 : (((rs + nu) / de).toNat : Int) = (rs + nu) / de := Int.toNat_of_nonneg q0
      have ep := pw_pass (b := 1) hn hn2 hd hd2 hr0 (by omega) (by omega) (by omega)
      rw [Int.mul_one] at ep
      rw [eT] at h3 ⊢
      rw [show ((rs + nu) / de + ((rs + nu) % de + nu * k) / de).toNat = ((rs + nu) / de).toNat + (((rs + nu) % de + nu * k) / de).toNat from by omega, secs_add]
      have iv := secs_inv hB hB2 (due sf st qr tl) ((rs + nu) / de).toNat s o r many h2 (by omega) h4 h5 h6 h7
      have e44 := pg_L44 a1 a2 b1 b2 c1 c2 hT hB hB2 (X8_countBySeconds_L26 N (iz sf) (iz st) (iz qr) tunes L K pn (iz b) n) (bt := bt) (S := (rs + nu) / de) (by omega) (iz nu) (iz de) (iz ((rs + nu) % de)) N ((rs + nu) / de).toNat 0 s o r many (by omega) (by omega) (by omega) h2 (by omega) h4 h5 h6 h7
      obtain ⟨w, ew⟩ := ih k (bt + 1) ((rs + nu) % de) (secs B (due sf st qr tl) ((rs + nu) / de).toNat (s, o, r, many)).1 (secs B (due sf st qr tl) ((rs + nu) / de).toNat (s, o, r, many)).2.1 (secs B (due sf st qr tl) ((rs + nu) / de).toNat (s, o, r, many)).2.2.1 (secs B (due sf st qr tl) ((rs + nu) / de).toNat (s, o, r, many)).2.2.2 (by omega) (by omega) (by omega) r0 r1 iv.1 (by omega) iv.2.2.1 iv.2.2.2.1 iv.2.2.2.2.1 iv.2.2.2.2.2
      refine ⟨w, ?_⟩
      rw [eb]
      unfold X8_countBySeconds_L26_body
      simp (disch := omega) only [n3_0, n3_1, n3_2, n3_3, n3_4, n3_5, n3_6, n3_7, n3_8, n3_9, n3_10, n3_11, n3_12, n3_20, n3_23, n3_24, n3_28, n3_29, n3_30, n3_31, n3_32, n3_40, n3_60, n3_120, n3_128, n3_365, n3_366, n3_400, n3_100, n3_600, n3_700, n3_900, n3_1600, n3_2000, n3_3000, n3_3600, n3_5000, n3_86400, n3_m1, n3_m600, n3_m3600, n6_0, n6_1, n6_2, n6_3, n6_4, n6_7, n6_60, n6_100, n6_365, n6_366, n6_400, n6_900, n6_1461, n6_36524, n6_146097, iz_add, iz_sub, iz_mul, iz_neg, iz_div, iz_lt, iz_le, iz_eq, iz_l, lz_i, iz_nat, lz_add, lz_sub, lz_mul, lz_div, lz_lt, lz_le, lz_eq, lc_ge, lc_le, lc_eq, Option.bind_some, b01_z, b01_a, b01_1, iz_01, iz_11, pv_def, eq_self, Bool.false_eq_true, not_true_eq_false, not_false_eq_true, if_true, if_false, if_pos, if_neg, ep]
      rw [e44]
      exact ew
theorem pg_cbs {N : Nat} (hN : 150000 ≤ N) {sf st qr : Int} (a1 : 0 ≤ sf) (a2 : sf ≤ 23) (b1 : 0 ≤ st) (b2 : st ≤ 23) (c1 : 0 ≤ qr) (c2 : qr ≤ 1) {tl : Nat → List Nat} {tunes : Nat → Option Nat} {L : List Nat} {K : Nat → Nat} {ro : Nat → Nat} {pn : Nat → Int32} {rw : Nat → Nat → Int32} (hT : BT tl tunes L K ro pn rw) {B s o r nu de rs b : Int} (hB : 0 ≤ B) (hB2 : B ≤ 30) (hs : 0 ≤ s) (hs2 : s ≤ 1900000000) (ho : -3600 ≤ o) (ho2 : o ≤ 3600) (hr : 0 ≤ r) (hr2 : r ≤ 2147483000) (hn : 0 ≤ nu) (hn2 : nu ≤ 20) (hd : 1 ≤ de) (hd2 : de ≤ 20) (hrs : 0 ≤ rs) (hrs2 : rs < de) (hb : 0 ≤ b) (hb2 : b ≤ 5000) : ∃ w : Int32 × Int32 × Int32 × Int32 × Int32 × Int32 × Int32, X8_countBySeconds_f N (iz nu) (iz de) (iz rs) (iz s) (iz o) (iz B) (iz r) (iz sf) (iz st) (iz qr) tunes L K pn (iz b) = some (iz (secs B (due sf st qr tl) ((rs + nu * b) / de).toNat (s, o, r, 0)).2.2.2, w) := by
  have e0 : 0 ≤ nu * b := Int.mul_nonneg hn hb
  have e1 : nu * b ≤ 20 * 5000 := Int.mul_le_mul hn2 hb2 hb (by omega)
  have e3 : (rs + nu * b) / de ≤ rs + nu * b := Int.ediv_le_self _ (by omega)
  have eb : ((b.toNat : Nat) : Int) = b := Int.toNat_of_nonneg hb
  obtain ⟨w, ew⟩ := pg_L26 hN a1 a2 b1 b2 c1 c2 hT hB hB2 hn hn2 hd hd2 hb2 N b.toNat 0 rs s o r 0 (by omega) (by omega) (by omega) hrs hrs2 hs (by rw [eb]; omega) ho ho2 hr hr2
  rw [eb] at ew
  exact ⟨w, ew⟩
