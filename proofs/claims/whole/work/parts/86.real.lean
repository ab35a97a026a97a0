def logR (c : Int) (tl : Nat → List Nat) (du : Int → Int) (s r : Int) (y : Int × Int × (Nat → Int32) × (Nat → Int32) × (Nat → Int32)) : Int × Int × (Nat → Int32) × (Nat → Int32) × (Nat → Int32) :=
  if rch s r = true ∧ c = 1 ∧ 0 < du s then (y.1 + 1, y.2.1 + du s, hit 1 tl s y.2.2.1, upd y.2.2.2.1 (y.1 % 40).toNat (iz (s / 900)), upd y.2.2.2.2 (y.1 % 40).toNat (iz (du s))) else y
def secr (c : Int) (tl : Nat → List Nat) (B : Int) (du : Int → Int) (z : (Int × Int × Int × Int) × (Int × Int × (Nat → Int32) × (Nat → Int32) × (Nat → Int32))) : (Int × Int × Int × Int) × (Int × Int × (Nat → Int32) × (Nat → Int32) × (Nat → Int32)) :=
  (sec B du z.1, if (z.1.1 + 1) % 60 = 0 then logR c tl du (z.1.1 + 1) z.1.2.2.1 z.2 else z.2)
def secsr (c : Int) (tl : Nat → List Nat) (B : Int) (du : Int → Int) : Nat → (Int × Int × Int × Int) × (Int × Int × (Nat → Int32) × (Nat → Int32) × (Nat → Int32)) → (Int × Int × Int × Int) × (Int × Int × (Nat → Int32) × (Nat → Int32) × (Nat → Int32))
  | 0, z => z
  | n + 1, z => secsr c tl B du n (secr c tl B du z)
theorem secsr_s (c : Int) (tl : Nat → List Nat) (B : Int) (du : Int → Int) (n : Nat) (z : (Int × Int × Int × Int) × (Int × Int × (Nat → Int32) × (Nat → Int32) × (Nat → Int32))) : secsr c tl B du (n + 1) z = secsr c tl B du n (secr c tl B du z) := rfl
theorem secsr_add (c : Int) (tl : Nat → List Nat) (B : Int) (du : Int → Int) : ∀ (a b : Nat) (z : (Int × Int × Int × Int) × (Int × Int × (Nat → Int32) × (Nat → Int32) × (Nat → Int32))), secsr c tl B du (a + b) z = secsr c tl B du b (secsr c tl B du a z) := by
  intro a
  induction a with
  | zero => intro b z; rw [Nat.zero_add]; rfl
  | succ a ih => intro b z; rw [show a + 1 + b = (a + b) + 1 from by omega, secsr_s, secsr_s, ih]
theorem secsr_fst (c : Int) (tl : Nat → List Nat) (B : Int) (du : Int → Int) : ∀ (n : Nat) (z : (Int × Int × Int × Int) × (Int × Int × (Nat → Int32) × (Nat → Int32) × (Nat → Int32))), (secsr c tl B du n z).1 = secs B du n z.1 := by
  intro n
  induction n with
  | zero => intro z; rfl
  | succ n ih => intro z; rw [secsr_s, ih]; rfl
theorem secsr_0 (tl : Nat → List Nat) (B : Int) (du : Int → Int) : ∀ (n : Nat) (z : (Int × Int × Int × Int) × (Int × Int × (Nat → Int32) × (Nat → Int32) × (Nat → Int32))), (secsr 0 tl B du n z).2 = z.2 := by
  intro n
  induction n with
  | zero => intro z; rfl
  | succ n ih =>
    intro z
    rw [secsr_s, ih]
    show (if (z.1.1 + 1) % 60 = 0 then logR 0 tl du (z.1.1 + 1) z.1.2.2.1 z.2 else z.2) = z.2
    have e : logR 0 tl du (z.1.1 + 1) z.1.2.2.1 z.2 = z.2 := by
      unfold logR
      exact if_neg (fun h => by have := h.2.1; omega)
    rw [e]
    split <;> rfl
theorem secsr_wait (c : Int) (tl : Nat → List Nat) (B : Int) (du : Int → Int) : ∀ (j : Nat) (s o r n : Int) (y : (Int × Int × (Nat → Int32) × (Nat → Int32) × (Nat → Int32))), s % 60 + j < 60 → secsr c tl B du j ((s, o, r, n), y) = ((s + j, o, r, n), y) := by
  intro j
  induction j with
  | zero => intro s o r n y _; show ((s, o, r, n), y) = ((s + ((0 : Nat) : Int), o, r, n), y); rw [show s + ((0 : Nat) : Int) = s from by omega]
  | succ j ih =>
    intro s o r n y h
    rw [secsr_s]
    have e : secr c tl B du ((s, o, r, n), y) = ((s + 1, o, r, n), y) := by
      have h9 : ¬ (s + 1) % 60 = 0 := by omega
      show (sec B du (s, o, r, n), if (s + 1) % 60 = 0 then logR c tl du (s + 1) r y else y) = _
      rw [if_neg h9, show sec B du (s, o, r, n) = (s + 1, o, r, n) from if_neg h9]
    rw [e, ih (s + 1) o r n y (by omega), show s + 1 + (j : Int) = s + ((j + 1 : Nat) : Int) from by omega]
theorem secsr_leap (c : Int) (tl : Nat → List Nat) (B : Int) (du : Int → Int) {j : Nat} {s o r n : Int} (y : (Int × Int × (Nat → Int32) × (Nat → Int32) × (Nat → Int32))) (h : s % 60 + j = 60) : secsr c tl B du j ((s, o, r, n), y) = (com B du (s + j) o r n, logR c tl du (s + j) r y) := by
  obtain ⟨i, rfl⟩ : ∃ i, j = i + 1 := ⟨j - 1, by omega⟩
  rw [secsr_add, secsr_wait c tl B du i s o r n y (by omega)]
  have h9 : (s + i + 1) % 60 = 0 := by omega
  show (sec B du (s + i, o, r, n), if (s + i + 1) % 60 = 0 then logR c tl du (s + i + 1) r y else y) = _
  rw [if_pos h9, show sec B du (s + i, o, r, n) = com B du (s + i + 1) o r n from if_pos h9, show s + (i : Int) + 1 = s + ((i + 1 : Nat) : Int) from by omega]
theorem pg_b115 {B s o : Int} (hB : 0 ≤ B) (hB2 : B ≤ 30) (ho : -3600 ≤ o) (ho2 : o ≤ 3600) (k5 : Int32 → Int64 → Int32 → Int32 → Int32 → Int32 → (Nat → Int32) → (Nat → Int32) → (Nat → Int32) → Option (Int32 × (Int32 × Int32 × Int32 × Int32 × (Nat → Int32) × (Nat → Int32) × (Nat → Int32)))) (x1 : Int32) (x2 : Int64) (x5 x6 : Int32) (f1 f2 f3 : Nat → Int32) : X9_goes_b115 (iz B) k5 x1 x2 (iz s) (iz o) x5 x6 f1 f2 f3 = k5 x1 x2 (iz (s + cor B o)) (iz (o - cor B o)) x5 x6 f1 f2 f3 := by
  unfold X9_goes_b115 X9_goes_b157 cor
  by_cases h1 : B < o
  · rw [if_pos h1]
    simp (disch := omega) only [n3_0, n3_1, n3_2, n3_3, n3_4, n3_5, n3_6, n3_7, n3_8, n3_9, n3_10, n3_11, n3_12, n3_20, n3_23, n3_24, n3_28, n3_29, n3_30, n3_31, n3_32, n3_40, n3_60, n3_120, n3_128, n3_365, n3_366, n3_400, n3_100, n3_600, n3_700, n3_900, n3_1600, n3_2000, n3_3000, n3_3600, n3_5000, n3_86400, n3_m1, n3_m600, n3_m3600, n6_0, n6_1, n6_2, n6_3, n6_4, n6_7, n6_60, n6_100, n6_365, n6_366, n6_400, n6_900, n6_1461, n6_36524, n6_146097, iz_add, iz_sub, iz_mul, iz_neg, iz_div, iz_lt, iz_le, iz_eq, iz_l, lz_i, iz_nat, lz_add, lz_sub, lz_mul, lz_div, lz_lt, lz_le, lz_eq, lc_ge, lc_le, lc_eq, Option.bind_some, b01_z, b01_a, b01_1, iz_01, iz_11, pv_def, eq_self, Bool.false_eq_true, not_true_eq_false, not_false_eq_true, if_true, if_false, if_pos, if_neg]
  · rw [if_neg h1]
    by_cases h2 : o < -B
    · rw [if_pos h2]
      simp (disch := omega) only [n3_0, n3_1, n3_2, n3_3, n3_4, n3_5, n3_6, n3_7, n3_8, n3_9, n3_10, n3_11, n3_12, n3_20, n3_23, n3_24, n3_28, n3_29, n3_30, n3_31, n3_32, n3_40, n3_60, n3_120, n3_128, n3_365, n3_366, n3_400, n3_100, n3_600, n3_700, n3_900, n3_1600, n3_2000, n3_3000, n3_3600, n3_5000, n3_86400, n3_m1, n3_m600, n3_m3600, n6_0, n6_1, n6_2, n6_3, n6_4, n6_7, n6_60, n6_100, n6_365, n6_366, n6_400, n6_900, n6_1461, n6_36524, n6_146097, iz_add, iz_sub, iz_mul, iz_neg, iz_div, iz_lt, iz_le, iz_eq, iz_l, lz_i, iz_nat, lz_add, lz_sub, lz_mul, lz_div, lz_lt, lz_le, lz_eq, lc_ge, lc_le, lc_eq, Option.bind_some, b01_z, b01_a, b01_1, iz_01, iz_11, pv_def, eq_self, Bool.false_eq_true, not_true_eq_false, not_false_eq_true, if_true, if_false, if_pos, if_neg]
    · rw [if_neg h2]
      simp (disch := omega) only [n3_0, n3_1, n3_2, n3_3, n3_4, n3_5, n3_6, n3_7, n3_8, n3_9, n3_10, n3_11, n3_12, n3_20, n3_23, n3_24, n3_28, n3_29, n3_30, n3_31, n3_32, n3_40, n3_60, n3_120, n3_128, n3_365, n3_366, n3_400, n3_100, n3_600, n3_700, n3_900, n3_1600, n3_2000, n3_3000, n3_3600, n3_5000, n3_86400, n3_m1, n3_m600, n3_m3600, n6_0, n6_1, n6_2, n6_3, n6_4, n6_7, n6_60, n6_100, n6_365, n6_366, n6_400, n6_900, n6_1461, n6_36524, n6_146097, iz_add, iz_sub, iz_mul, iz_neg, iz_div, iz_lt, iz_le, iz_eq, iz_l, lz_i, iz_nat, lz_add, lz_sub, lz_mul, lz_div, lz_lt, lz_le, lz_eq, lc_ge, lc_le, lc_eq, Option.bind_some, b01_z, b01_a, b01_1, iz_01, iz_11, pv_def, eq_self, Bool.false_eq_true, not_true_eq_false, not_false_eq_true, if_true, if_false, if_pos, if_neg]
theorem logR_k {c : Int} {tl : Nat → List Nat} {du : Int → Int} {s r : Int} {y : (Int × Int × (Nat → Int32) × (Nat → Int32) × (Nat → Int32))} (h1 : 0 ≤ y.1) (h2 : y.1 ≤ r) : 0 ≤ (logR c tl du s r y).1 ∧ (logR c tl du s r y).1 ≤ nr s r := by
  unfold logR nr
  by_cases h : rch s r = true
  · rw [if_pos h]
    have h9 := rch_t.mp h
    split
    · show 0 ≤ y.1 + 1 ∧ y.1 + 1 ≤ s / 900; omega
    · omega
  · rw [if_neg h, if_neg (fun h9 => h h9.1)]
    omega
theorem pg_goR {N : Nat} (hN : 100 ≤ N) {c : Int} (hc : c = 0 ∨ c = 1) {sf st qr : Int} (a1 : 0 ≤ sf) (a2 : sf ≤ 23) (b1 : 0 ≤ st) (b2 : st ≤ 23) (c1 : 0 ≤ qr) (c2 : qr ≤ 1) {tl : Nat → List Nat} {mtune mpins : Nat → Int32} (hT : RT tl mtune mpins) {B : Int} (hB : 0 ≤ B) (hB2 : B ≤ 30) : ∀ (n left : Nat) (s o r many : Int) (y : (Int × Int × (Nat → Int32) × (Nat → Int32) × (Nat → Int32))), left < n → 0 ≤ s → s + 31 * left ≤ 2000000000 → -3600 ≤ o → o ≤ 3600 → 0 ≤ r → r ≤ 2147483000 → 0 ≤ y.1 → y.1 ≤ r → X9_goes_L5 N (iz B) (iz sf) (iz st) (iz qr) (iz c) mpins mtune n (iz many) (lz left) (iz s) (iz o) (iz r) (iz y.1) y.2.2.1 y.2.2.2.1 y.2.2.2.2 = some (iz (secsr c tl B (due sf st qr tl) left ((s, o, r, many), y)).1.2.2.2, (iz (secsr c tl B (due sf st qr tl) left ((s, o, r, many), y)).1.1, iz (secsr c tl B (due sf st qr tl) left ((s, o, r, many), y)).1.2.1, iz (secsr c tl B (due sf st qr tl) left ((s, o, r, many), y)).1.2.2.1, iz (secsr c tl B (due sf st qr tl) left ((s, o, r, many), y)).2.1, (secsr c tl B (due sf st qr tl) left ((s, o, r, many), y)).2.2.2.1, (secsr c tl B (due sf st qr tl) left ((s, o, r, many), y)).2.2.2.2.1, (secsr c tl B (due sf st qr tl) left ((s, o, r, many), y)).2.2.2.2.2)) := by
  intro n
  induction n with
  | zero => intro left s o r many y a; omega
  | succ n ih =>
    intro left s o r many y h1 h2 h3 h4 h5 h6 h7 h8 h9
    show X9_goes_L5_body N (iz B) (iz sf) (iz st) (iz qr) (iz c) mpins mtune (X9_goes_L5 N (iz B) (iz sf) (iz st) (iz qr) (iz c) mpins mtune n) (iz many) (lz left) (iz s) (iz o) (iz r) (iz y.1) y.2.2.1 y.2.2.2.1 y.2.2.2.2 = _
    unfold X9_goes_L5_body
    by_cases h0 : left = 0
    · subst h0
      simp (disch := omega) only [n3_0, n3_1, n3_2, n3_3, n3_4, n3_5, n3_6, n3_7, n3_8, n3_9, n3_10, n3_11, n3_12, n3_20, n3_23, n3_24, n3_28, n3_29, n3_30, n3_31, n3_32, n3_40, n3_60, n3_120, n3_128, n3_365, n3_366, n3_400, n3_100, n3_600, n3_700, n3_900, n3_1600, n3_2000, n3_3000, n3_3600, n3_5000, n3_86400, n3_m1, n3_m600, n3_m3600, n6_0, n6_1, n6_2, n6_3, n6_4, n6_7, n6_60, n6_100, n6_365, n6_366, n6_400, n6_900, n6_1461, n6_36524, n6_146097, iz_add, iz_sub, iz_mul, iz_neg, iz_div, iz_lt, iz_le, iz_eq, iz_l, lz_i, iz_nat, lz_add, lz_sub, lz_mul, lz_div, lz_lt, lz_le, lz_eq, lc_ge, lc_le, lc_eq, Option.bind_some, b01_z, b01_a, b01_1, iz_01, iz_11, pv_def, eq_self, Bool.false_eq_true, not_true_eq_false, not_false_eq_true, if_true, if_false, if_pos, if_neg]
      rfl
    · obtain ⟨l, hl⟩ : ∃ l : Nat, (l : Int) = 60 - s % 60 := ⟨(60 - s % 60).toNat, by omega⟩
      by_cases hlt : (left : Int) < l
      · rw [secsr_wait c tl B _ left s o r many y (by omega)]
        simp (disch := omega) only [n3_0, n3_1, n3_2, n3_3, n3_4, n3_5, n3_6, n3_7, n3_8, n3_9, n3_10, n3_11, n3_12, n3_20, n3_23, n3_24, n3_28, n3_29, n3_30, n3_31, n3_32, n3_40, n3_60, n3_120, n3_128, n3_365, n3_366, n3_400, n3_100, n3_600, n3_700, n3_900, n3_1600, n3_2000, n3_3000, n3_3600, n3_5000, n3_86400, n3_m1, n3_m600, n3_m3600, n6_0, n6_1, n6_2, n6_3, n6_4, n6_7, n6_60, n6_100, n6_365, n6_366, n6_400, n6_900, n6_1461, n6_36524, n6_146097, iz_add, iz_sub, iz_mul, iz_neg, iz_div, iz_lt, iz_le, iz_eq, iz_l, lz_i, iz_nat, lz_add, lz_sub, lz_mul, lz_div, lz_lt, lz_le, lz_eq, lc_ge, lc_le, lc_eq, Option.bind_some, b01_z, b01_a, b01_1, iz_01, iz_11, pv_def, eq_self, Bool.false_eq_true, not_true_eq_false, not_false_eq_true, if_true, if_false, if_pos, if_neg]
      · obtain ⟨S, hS⟩ : ∃ S : Int, S = s + (60 - s % 60) := ⟨_, rfl⟩
        have k1 := cor_r hB hB2 o
        have k2 := cor_o hB h4 h5
        have k3 := nr_r (s := S) (r := r) (by omega) h6
        have k4 := logR_k (c := c) (tl := tl) (du := (due sf st qr tl)) (s := S) h8 h9
        have e := ih (left - l) (S + cor B o) (o - cor B o) (nr S r) (many + inc (due sf st qr tl) S r) (logR c tl (due sf st qr tl) S r y) (by omega) (by omega) (by omega) k2.1 k2.2 (by omega) (by omega) k4.1 k4.2
        have es : secsr c tl B (due sf st qr tl) left ((s, o, r, many), y) = secsr c tl B (due sf st qr tl) (left - l) ((S + cor B o, o - cor B o, nr S r, many + inc (due sf st qr tl) S r), logR c tl (due sf st qr tl) S r y) := by
          have e9 := secsr_leap c tl B (due sf st qr tl) (j := l) (s := s) (o := o) (r := r) (n := many) y (by omega)
          rw [show left = l + (left - l) from by omega, secsr_add, e9, show l + (left - l) - l = left - l from by omega, hl, ← hS]
          rfl
        rw [es, ← e]
        simp (disch := omega) only [n3_0, n3_1, n3_2, n3_3, n3_4, n3_5, n3_6, n3_7, n3_8, n3_9, n3_10, n3_11, n3_12, n3_20, n3_23, n3_24, n3_28, n3_29, n3_30, n3_31, n3_32, n3_40, n3_60, n3_120, n3_128, n3_365, n3_366, n3_400, n3_100, n3_600, n3_700, n3_900, n3_1600, n3_2000, n3_3000, n3_3600, n3_5000, n3_86400, n3_m1, n3_m600, n3_m3600, n6_0, n6_1, n6_2, n6_3, n6_4, n6_7, n6_60, n6_100, n6_365, n6_366, n6_400, n6_900, n6_1461, n6_36524, n6_146097, iz_add, iz_sub, iz_mul, iz_neg, iz_div, iz_lt, iz_le, iz_eq, iz_l, lz_i, iz_nat, lz_add, lz_sub, lz_mul, lz_div, lz_lt, lz_le, lz_eq, lc_ge, lc_le, lc_eq, Option.bind_some, b01_z, b01_a, b01_1, iz_01, iz_11, pv_def, eq_self, Bool.false_eq_true, not_true_eq_false, not_false_eq_true, if_true, if_false, if_pos, if_neg]
        rw [← hS, show (left : Int) - (60 - s % 60) = ((left - l : Nat) : Int) from by omega]
        by_cases hr : rch S r = true
        · have hr9 := rch_t.mp hr
          have e8 := pg_str9 hN a1 a2 b1 b2 c1 c2 hc hT (s := S) (m := S / 900) (k := y.1) (by omega) (by omega) (by omega) h8 (by omega) y.2.2.1 y.2.2.2.1 y.2.2.2.2
          rw [if_pos hr9.1, if_neg (by omega), e8, Option.bind_some, iz_add]
          unfold inc nr logR
          rw [if_pos hr, if_pos hr]
          by_cases hd : c = 1 ∧ 0 < due sf st qr tl S
          · rw [if_pos hd, if_pos ⟨hr, hd.1, hd.2⟩]
            exact pg_b115 hB hB2 h4 h5 _ _ _ _ _ _ _ _
          · rw [if_neg hd, if_neg (fun h => hd ⟨h.2.1, h.2.2⟩)]
            exact pg_b115 hB hB2 h4 h5 _ _ _ _ _ _ _ _
        · have hr9 : ¬ (S % 900 = 0 ∧ r < S / 900) := fun h => hr (rch_t.mpr h)
          have el : logR c tl (due sf st qr tl) S r y = y := by unfold logR; exact if_neg (fun h => hr h.1)
          have ei : inc (due sf st qr tl) S r = 0 := if_neg hr
          have en : nr S r = r := if_neg hr
          rw [el, ei, en, show many + 0 = many from by omega]
          by_cases h900 : S % 900 = 0
          · rw [if_pos h900, if_pos (by omega)]
            exact pg_b115 hB hB2 h4 h5 _ _ _ _ _ _ _ _
          · rw [if_neg h900]
            exact pg_b115 hB hB2 h4 h5 _ _ _ _ _ _ _ _
theorem pg_keep {k A m n : Int} (hk : 0 ≤ k) (hk2 : k ≤ 2147483000) (hn : 0 ≤ n) (hn2 : n ≤ 1000) (lm ls : Nat → Int32) : X5_keep_f (iz k) (lz A) lm ls (iz m) (iz n) = some (iz (k + 1), lz (A + n), upd lm (k % 40).toNat (iz m), upd ls (k % 40).toNat (iz n)) := by
  have e : X5_slotOf_f (iz (k + 1)) (iz 0) = some (iz (k % 40), ()) := by
    unfold X5_slotOf_f
    simp (disch := omega) only [n3_0, n3_1, n3_2, n3_3, n3_4, n3_5, n3_6, n3_7, n3_8, n3_9, n3_10, n3_11, n3_12, n3_20, n3_23, n3_24, n3_28, n3_29, n3_30, n3_31, n3_32, n3_40, n3_60, n3_120, n3_128, n3_365, n3_366, n3_400, n3_100, n3_600, n3_700, n3_900, n3_1600, n3_2000, n3_3000, n3_3600, n3_5000, n3_86400, n3_m1, n3_m600, n3_m3600, n6_0, n6_1, n6_2, n6_3, n6_4, n6_7, n6_60, n6_100, n6_365, n6_366, n6_400, n6_900, n6_1461, n6_36524, n6_146097, iz_add, iz_sub, iz_mul, iz_neg, iz_div, iz_lt, iz_le, iz_eq, iz_l, lz_i, iz_nat, lz_add, lz_sub, lz_mul, lz_div, lz_lt, lz_le, lz_eq, lc_ge, lc_le, lc_eq, Option.bind_some, b01_z, b01_a, b01_1, iz_01, iz_11, pv_def, eq_self, Bool.false_eq_true, not_true_eq_false, not_false_eq_true, if_true, if_false, if_pos, if_neg, pf_mod]
    rw [show k + 1 - 1 - 0 = k from by omega]
  unfold X5_keep_f
  simp (disch := omega) only [n3_0, n3_1, n3_2, n3_3, n3_4, n3_5, n3_6, n3_7, n3_8, n3_9, n3_10, n3_11, n3_12, n3_20, n3_23, n3_24, n3_28, n3_29, n3_30, n3_31, n3_32, n3_40, n3_60, n3_120, n3_128, n3_365, n3_366, n3_400, n3_100, n3_600, n3_700, n3_900, n3_1600, n3_2000, n3_3000, n3_3600, n3_5000, n3_86400, n3_m1, n3_m600, n3_m3600, n6_0, n6_1, n6_2, n6_3, n6_4, n6_7, n6_60, n6_100, n6_365, n6_366, n6_400, n6_900, n6_1461, n6_36524, n6_146097, iz_add, iz_sub, iz_mul, iz_neg, iz_div, iz_lt, iz_le, iz_eq, iz_l, lz_i, iz_nat, lz_add, lz_sub, lz_mul, lz_div, lz_lt, lz_le, lz_eq, lc_ge, lc_le, lc_eq, Option.bind_some, b01_z, b01_a, b01_1, iz_01, iz_11, pv_def, eq_self, Bool.false_eq_true, not_true_eq_false, not_false_eq_true, if_true, if_false, if_pos, if_neg, e]
theorem pg_comR {N : Nat} (hN : 100 ≤ N) {sf st qr : Int} (a1 : 0 ≤ sf) (a2 : sf ≤ 23) (b1 : 0 ≤ st) (b2 : st ≤ 23) (c1 : 0 ≤ qr) (c2 : qr ≤ 1) {tl : Nat → List Nat} {tunes : Nat → Option Nat} {L : List Nat} {K : Nat → Nat} {ro : Nat → Nat} {pn : Nat → Int32} {rw : Nat → Nat → Int32} (hT : BT tl tunes L K ro pn rw) (hL : TLok tl) {B s o r : Int} (hB : 0 ≤ B) (hB2 : B ≤ 30) (hs : 0 ≤ s) (hs2 : s ≤ 2147483000) (ho : -3600 ≤ o) (ho2 : o ≤ 3600) (hr : 0 ≤ r) (hr2 : r ≤ 2147483000) (y : (Int × Int × (Nat → Int32) × (Nat → Int32) × (Nat → Int32))) (h8 : 0 ≤ y.1) (h9 : y.1 ≤ r) : X8_comeReal_f N (iz s) (iz o) (iz B) (iz r) (iz sf) (iz st) (iz qr) tunes y.2.2.1 (iz y.1) (lz y.2.1) y.2.2.2.1 y.2.2.2.2 L K ro pn rw = some (iz (inc (due sf st qr tl) s r), (iz (s + cor B o), iz (o - cor B o), iz (nr s r), (logR 1 tl (due sf st qr tl) s r y).2.2.1, iz (logR 1 tl (due sf st qr tl) s r y).1, lz (logR 1 tl (due sf st qr tl) s r y).2.1, (logR 1 tl (due sf st qr tl) s r y).2.2.2.1, (logR 1 tl (due sf st qr tl) s r y).2.2.2.2)) := by
  have e1 := pg_reach hs (by omega) hr (by omega)
  have e2 := pg_cor (s := s) hB hB2 ho ho2
  have e3 := pg_due a1 a2 b1 b2 c1 c2 hT hs (by omega)
  have e4 := pg_ring hN hT hs (by omega) y.2.2.1
  have e6 := due_r sf st qr hL s
  have e5 := pg_keep (k := y.1) (A := y.2.1) (m := nr s r) (n := due sf st qr tl s) h8 (by omega) e6.1 (by omega) y.2.2.2.1 y.2.2.2.2
  unfold X8_comeReal_f X8_comeReal_b32 X8_comeReal_b33 X8_strike_f X8_strike_b39 X3_seconds_f X3_greatestMark_f
  simp (disch := omega) only [n3_0, n3_1, n3_2, n3_3, n3_4, n3_5, n3_6, n3_7, n3_8, n3_9, n3_10, n3_11, n3_12, n3_20, n3_23, n3_24, n3_28, n3_29, n3_30, n3_31, n3_32, n3_40, n3_60, n3_120, n3_128, n3_365, n3_366, n3_400, n3_100, n3_600, n3_700, n3_900, n3_1600, n3_2000, n3_3000, n3_3600, n3_5000, n3_86400, n3_m1, n3_m600, n3_m3600, n6_0, n6_1, n6_2, n6_3, n6_4, n6_7, n6_60, n6_100, n6_365, n6_366, n6_400, n6_900, n6_1461, n6_36524, n6_146097, iz_add, iz_sub, iz_mul, iz_neg, iz_div, iz_lt, iz_le, iz_eq, iz_l, lz_i, iz_nat, lz_add, lz_sub, lz_mul, lz_div, lz_lt, lz_le, lz_eq, lc_ge, lc_le, lc_eq, Option.bind_some, b01_z, b01_a, b01_1, iz_01, iz_11, pv_def, eq_self, Bool.false_eq_true, not_true_eq_false, not_false_eq_true, if_true, if_false, if_pos, if_neg, e1, e2, e3, e4, e5]
  by_cases h : rch s r = true
  · rw [if_neg (by simp [h])]
    have hn : nr s r = s / 900 := if_pos h
    unfold inc logR
    rw [if_pos h]
    by_cases hd : 0 < due sf st qr tl s
    · rw [if_neg (by omega), if_pos ⟨h, rfl, hd⟩, hn]
      rfl
    · rw [if_pos (by omega), if_neg (fun h7 => hd h7.2.2)]
      rfl
  · rw [if_pos h]
    unfold inc logR
    rw [if_neg h, if_neg (fun h7 => h h7.1)]
theorem pg_goC {N : Nat} (hN : 100 ≤ N) {sf st qr : Int} (a1 : 0 ≤ sf) (a2 : sf ≤ 23) (b1 : 0 ≤ st) (b2 : st ≤ 23) (c1 : 0 ≤ qr) (c2 : qr ≤ 1) {tl : Nat → List Nat} {tunes : Nat → Option Nat} {L : List Nat} {K : Nat → Nat} {ro : Nat → Nat} {pn : Nat → Int32} {rw : Nat → Nat → Int32} (hT : BT tl tunes L K ro pn rw) (hL : TLok tl) {B : Int} (hB : 0 ≤ B) (hB2 : B ≤ 30) : ∀ (n left : Nat) (s o r many : Int) (y : (Int × Int × (Nat → Int32) × (Nat → Int32) × (Nat → Int32))), left < n → 0 ≤ s → s + 31 * left ≤ 2000000000 → -3600 ≤ o → o ≤ 3600 → 0 ≤ r → r ≤ 2147483000 → 0 ≤ y.1 → y.1 ≤ r → X8_goReal_L6 N (iz B) (iz sf) (iz st) (iz qr) tunes L K ro pn rw n (iz many) (iz left) (iz s) (iz o) (iz r) y.2.2.1 (iz y.1) (lz y.2.1) y.2.2.2.1 y.2.2.2.2 = some (iz (secsr 1 tl B (due sf st qr tl) left ((s, o, r, many), y)).1.2.2.2, (iz (secsr 1 tl B (due sf st qr tl) left ((s, o, r, many), y)).1.1, iz (secsr 1 tl B (due sf st qr tl) left ((s, o, r, many), y)).1.2.1, iz (secsr 1 tl B (due sf st qr tl) left ((s, o, r, many), y)).1.2.2.1, (secsr 1 tl B (due sf st qr tl) left ((s, o, r, many), y)).2.2.2.1, iz (secsr 1 tl B (due sf st qr tl) left ((s, o, r, many), y)).2.1, lz (secsr 1 tl B (due sf st qr tl) left ((s, o, r, many), y)).2.2.1, (secsr 1 tl B (due sf st qr tl) left ((s, o, r, many), y)).2.2.2.2.1, (secsr 1 tl B (due sf st qr tl) left ((s, o, r, many), y)).2.2.2.2.2)) := by
  intro n
  induction n with
  | zero => intro left s o r many y a; omega
  | succ n ih =>
    intro left s o r many y h1 h2 h3 h4 h5 h6 h7 h8 h9
    show X8_goReal_L6_body N (iz B) (iz sf) (iz st) (iz qr) tunes L K ro pn rw (X8_goReal_L6 N (iz B) (iz sf) (iz st) (iz qr) tunes L K ro pn rw n) (iz many) (iz left) (iz s) (iz o) (iz r) y.2.2.1 (iz y.1) (lz y.2.1) y.2.2.2.1 y.2.2.2.2 = _
    unfold X8_goReal_L6_body X8_goReal_b51 X3_addSeconds_f
    by_cases h0 : left = 0
    · subst h0
      simp (disch := omega) only [n3_0, n3_1, n3_2, n3_3, n3_4, n3_5, n3_6, n3_7, n3_8, n3_9, n3_10, n3_11, n3_12, n3_20, n3_23, n3_24, n3_28, n3_29, n3_30, n3_31, n3_32, n3_40, n3_60, n3_120, n3_128, n3_365, n3_366, n3_400, n3_100, n3_600, n3_700, n3_900, n3_1600, n3_2000, n3_3000, n3_3600, n3_5000, n3_86400, n3_m1, n3_m600, n3_m3600, n6_0, n6_1, n6_2, n6_3, n6_4, n6_7, n6_60, n6_100, n6_365, n6_366, n6_400, n6_900, n6_1461, n6_36524, n6_146097, iz_add, iz_sub, iz_mul, iz_neg, iz_div, iz_lt, iz_le, iz_eq, iz_l, lz_i, iz_nat, lz_add, lz_sub, lz_mul, lz_div, lz_lt, lz_le, lz_eq, lc_ge, lc_le, lc_eq, Option.bind_some, b01_z, b01_a, b01_1, iz_01, iz_11, pv_def, eq_self, Bool.false_eq_true, not_true_eq_false, not_false_eq_true, if_true, if_false, if_pos, if_neg]
      rfl
    · obtain ⟨l, hl⟩ : ∃ l : Nat, (l : Int) = 60 - s % 60 := ⟨(60 - s % 60).toNat, by omega⟩
      by_cases hlt : (left : Int) < l
      · have e := ih 0 (s + left) o r many y (by omega) (by omega) (by omega) h4 h5 h6 h7 h8 h9
        rw [secsr_wait 1 tl B _ left s o r many y (by omega)]
        simp (disch := omega) only [n3_0, n3_1, n3_2, n3_3, n3_4, n3_5, n3_6, n3_7, n3_8, n3_9, n3_10, n3_11, n3_12, n3_20, n3_23, n3_24, n3_28, n3_29, n3_30, n3_31, n3_32, n3_40, n3_60, n3_120, n3_128, n3_365, n3_366, n3_400, n3_100, n3_600, n3_700, n3_900, n3_1600, n3_2000, n3_3000, n3_3600, n3_5000, n3_86400, n3_m1, n3_m600, n3_m3600, n6_0, n6_1, n6_2, n6_3, n6_4, n6_7, n6_60, n6_100, n6_365, n6_366, n6_400, n6_900, n6_1461, n6_36524, n6_146097, iz_add, iz_sub, iz_mul, iz_neg, iz_div, iz_lt, iz_le, iz_eq, iz_l, lz_i, iz_nat, lz_add, lz_sub, lz_mul, lz_div, lz_lt, lz_le, lz_eq, lc_ge, lc_le, lc_eq, Option.bind_some, b01_z, b01_a, b01_1, iz_01, iz_11, pv_def, eq_self, Bool.false_eq_true, not_true_eq_false, not_false_eq_true, if_true, if_false, if_pos, if_neg, pg_toF, pg_full, mx1]
        rw [show many + 0 = many from by omega, show (left : Int) - left = ((0 : Nat) : Int) from by omega]
        exact e
      · have ec := pg_comR hN a1 a2 b1 b2 c1 c2 hT hL hB hB2 (s := s + (60 - s % 60)) (o := o) (r := r) (by omega) (by omega) h4 h5 h6 h7 y h8 h9
        have k1 := cor_r hB hB2 o
        have k2 := cor_o hB h4 h5
        have k3 := nr_r (s := s + (60 - s % 60)) (r := r) (by omega) h6
        have k4 := logR_k (c := 1) (tl := tl) (du := (due sf st qr tl)) (s := s + (60 - s % 60)) h8 h9
        have e := ih (left - l) (s + (60 - s % 60) + cor B o) (o - cor B o) (nr (s + (60 - s % 60)) r) (many + inc (due sf st qr tl) (s + (60 - s % 60)) r) (logR 1 tl (due sf st qr tl) (s + (60 - s % 60)) r y) (by omega) (by omega) (by omega) k2.1 k2.2 (by omega) (by omega) k4.1 k4.2
        have es : secsr 1 tl B (due sf st qr tl) left ((s, o, r, many), y) = secsr 1 tl B (due sf st qr tl) (left - l) ((s + (60 - s % 60) + cor B o, o - cor B o, nr (s + (60 - s % 60)) r, many + inc (due sf st qr tl) (s + (60 - s % 60)) r), logR 1 tl (due sf st qr tl) (s + (60 - s % 60)) r y) := by
          have e9 := secsr_leap 1 tl B (due sf st qr tl) (j := l) (s := s) (o := o) (r := r) (n := many) y (by omega)
          rw [show left = l + (left - l) from by omega, secsr_add, e9, show l + (left - l) - l = left - l from by omega, hl]
          rfl
        rw [es]
        simp (disch := omega) only [n3_0, n3_1, n3_2, n3_3, n3_4, n3_5, n3_6, n3_7, n3_8, n3_9, n3_10, n3_11, n3_12, n3_20, n3_23, n3_24, n3_28, n3_29, n3_30, n3_31, n3_32, n3_40, n3_60, n3_120, n3_128, n3_365, n3_366, n3_400, n3_100, n3_600, n3_700, n3_900, n3_1600, n3_2000, n3_3000, n3_3600, n3_5000, n3_86400, n3_m1, n3_m600, n3_m3600, n6_0, n6_1, n6_2, n6_3, n6_4, n6_7, n6_60, n6_100, n6_365, n6_366, n6_400, n6_900, n6_1461, n6_36524, n6_146097, iz_add, iz_sub, iz_mul, iz_neg, iz_div, iz_lt, iz_le, iz_eq, iz_l, lz_i, iz_nat, lz_add, lz_sub, lz_mul, lz_div, lz_lt, lz_le, lz_eq, lc_ge, lc_le, lc_eq, Option.bind_some, b01_z, b01_a, b01_1, iz_01, iz_11, pv_def, eq_self, Bool.false_eq_true, not_true_eq_false, not_false_eq_true, if_true, if_false, if_pos, if_neg, pg_toF, pg_full, mnl, mx1, ec]
        rw [show (left : Int) - (60 - s % 60) = ((left - l : Nat) : Int) from by omega]
        exact e
