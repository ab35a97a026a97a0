def LG (k r : Int) (lm : Nat → Int32) : Prop := (∀ t t' : Int, 0 ≤ t → k - 40 ≤ t → t < t' → t' < k → (lm (t % 40).toNat).toInt < (lm (t' % 40).toNat).toInt) ∧ (∀ t : Int, 0 ≤ t → k - 40 ≤ t → t < k → 0 < (lm (t % 40).toNat).toInt ∧ (lm (t % 40).toNat).toInt ≤ r)
def s9 (f : Nat → Int32) : Int := (f 0).toInt + (f 1).toInt + (f 2).toInt + (f 3).toInt + (f 4).toInt + (f 5).toInt + (f 6).toInt + (f 7).toInt + (f 8).toInt
def SB (f : Nat → Int32) (A : Int) : Prop := (∀ b, b < 9 → 0 ≤ (f b).toInt) ∧ s9 f = A
theorem up3_self (f : Nat → Int32) (k : Nat) (v : Int32) : upd f k v k = v := if_pos rfl
theorem up3_ne (f : Nat → Int32) {k j : Nat} (v : Int32) (h : j ≠ k) : upd f k v j = f j := if_neg h
theorem SB_le {f : Nat → Int32} {A : Int} (h : SB f A) {b : Nat} (hb : b < 9) : (f b).toInt ≤ A := by
  obtain ⟨h1, h2⟩ := h
  have g0 := h1 0 (by omega)
  have g1 := h1 1 (by omega)
  have g2 := h1 2 (by omega)
  have g3 := h1 3 (by omega)
  have g4 := h1 4 (by omega)
  have g5 := h1 5 (by omega)
  have g6 := h1 6 (by omega)
  have g7 := h1 7 (by omega)
  have g8 := h1 8 (by omega)
  unfold s9 at h2
  have e : b = 0 ∨ b = 1 ∨ b = 2 ∨ b = 3 ∨ b = 4 ∨ b = 5 ∨ b = 6 ∨ b = 7 ∨ b = 8 := by omega
  rcases e with rfl | rfl | rfl | rfl | rfl | rfl | rfl | rfl | rfl <;> omega
theorem SB_up {f : Nat → Int32} {A : Int} {b : Nat} {n : Int} (h : SB f A) (hb : b < 9) (hn : 0 ≤ n) (hA : A + n ≤ 2147483647) : SB (upd f b (f b + iz n)) (A + n) := by
  have hle := SB_le h hb
  obtain ⟨h1, h2⟩ := h
  have h0 := h1 b hb
  obtain ⟨z, ez, z1, z2⟩ := iz_of (f b)
  have ev : (f b + iz n).toInt = (f b).toInt + n := by
    rw [ez, iz_toInt z1 z2] at h0 hle
    rw [ez, iz_add, iz_toInt (by omega) (by omega), iz_toInt z1 z2]
  constructor
  · intro j hj
    by_cases hjb : j = b
    · rw [hjb, up3_self, ev]; omega
    · rw [up3_ne _ _ hjb]; exact h1 j hj
  · generalize f b + iz n = v at ev
    unfold s9 at h2 ⊢
    have e : b = 0 ∨ b = 1 ∨ b = 2 ∨ b = 3 ∨ b = 4 ∨ b = 5 ∨ b = 6 ∨ b = 7 ∨ b = 8 := by omega
    rcases e with rfl | rfl | rfl | rfl | rfl | rfl | rfl | rfl | rfl <;> (simp [upd]; omega)
theorem SB_fold : ∀ (l : List Nat) (f : Nat → Int32) (A : Int), SB f A → (∀ y ∈ l, 1 ≤ y ∧ y ≤ 8) → A + l.length ≤ 2147483647 → SB (l.foldl (fun g y => rg 1 g y 1) f) (A + l.length) := by
  intro l
  induction l with
  | nil =>
    intro f A h _ _
    show SB f (A + ((0 : Nat) : Int))
    rw [show A + ((0 : Nat) : Int) = A from by omega]
    exact h
  | cons b l ih =>
    intro f A h h1 h2
    rw [List.length_cons] at h2 ⊢
    have hb := h1 b List.mem_cons_self
    rw [List.foldl_cons, rg_1, show A + ((l.length + 1 : Nat) : Int) = A + 1 + (l.length : Int) from by omega]
    exact ih _ _ (SB_up h (by omega) (by omega) (by omega)) (fun y hy => h1 y (List.mem_cons_of_mem _ hy)) (by omega)
theorem SB_hit {sf st qr : Int} {tl : Nat → List Nat} (hL : TLok tl) {s : Int} {f : Nat → Int32} {A : Int} (h : SB f A) (hd : 0 < due sf st qr tl s) (hA : A + due sf st qr tl s ≤ 2147483647) : SB (hit 1 tl s f) (A + due sf st qr tl s) := by
  have hs := soh_r (s / 3600 % 24)
  have hl := hL (s / 3600 % 24).toNat
  unfold due at hd hA ⊢
  unfold hit
  by_cases h1 : sil sf st (s / 3600 % 24) = true
  · rw [if_pos h1] at hd; omega
  · rw [if_neg h1] at hd hA ⊢
    by_cases h2 : 0 < s % 3600 / 900
    · rw [if_pos h2] at hd hA ⊢
      rw [if_pos h2]
      by_cases h3 : qr = 0
      · rw [if_pos h3] at hd; omega
      · rw [if_neg h3] at hd hA ⊢
        rw [rg_1]
        exact SB_up h (by omega) (by omega) hA
    · rw [if_neg h2] at hd hA ⊢
      rw [if_neg h2, rg_1, show A + (soh (s / 3600 % 24) + ((tl (s / 3600 % 24).toNat).length : Int)) = A + soh (s / 3600 % 24) + ((tl (s / 3600 % 24).toNat).length : Int) from by omega]
      exact SB_fold _ _ _ (SB_up h (by omega) (by omega) (by omega)) hl.2 (by omega)
theorem LG_up {k r r' : Int} {lm : Nat → Int32} (h : LG k r lm) (hr : r ≤ r') : LG k r' lm :=
  ⟨h.1, fun t a b c => ⟨(h.2 t a b c).1, Int.le_trans (h.2 t a b c).2 hr⟩⟩
theorem LG_push {k r r' : Int} {lm : Nat → Int32} (h : LG k r lm) (hk : 0 ≤ k) (hr0 : 0 ≤ r) (hr : r < r') (hr2 : r' ≤ 2147483647) : LG (k + 1) r' (upd lm (k % 40).toNat (iz r')) := by
  have ev : (iz r').toInt = r' := iz_toInt (by omega) hr2
  have hne : ∀ t : Int, 0 ≤ t → k + 1 - 40 ≤ t → t < k → (t % 40).toNat ≠ (k % 40).toNat := by
    intro t a b c; omega
  constructor
  · intro t t' a b c d
    by_cases hk' : t' = k
    · rw [hk', up3_self, ev, up3_ne _ _ (hne t a b (by omega))]
      have := (h.2 t a (by omega) (by omega)).2
      omega
    · rw [up3_ne _ _ (hne t a b (by omega)), up3_ne _ _ (hne t' (by omega) (by omega) (by omega))]
      exact h.1 t t' a (by omega) c (by omega)
  · intro t a b c
    by_cases hk' : t = k
    · rw [hk', up3_self, ev]; omega
    · rw [up3_ne _ _ (hne t a b (by omega))]
      have := h.2 t a (by omega) (by omega)
      omega
def ZI (r : Int) (y : (Int × Int × (Nat → Int32) × (Nat → Int32) × (Nat → Int32))) : Prop := 0 ≤ y.1 ∧ y.1 ≤ r ∧ 0 ≤ y.2.1 ∧ y.2.1 ≤ 268 * y.1 ∧ SB y.2.2.1 y.2.1 ∧ LG y.1 r y.2.2.2.1
theorem ZI_step {sf st qr : Int} {tl : Nat → List Nat} (hL : TLok tl) {s r : Int} {y : (Int × Int × (Nat → Int32) × (Nat → Int32) × (Nat → Int32))} (hs : 0 ≤ s) (hs2 : s ≤ 2000000000) (hr : 0 ≤ r) (hr2 : 900 * r ≤ 2000000000) (h : ZI r y) : ZI (nr s r) (logR 1 tl (due sf st qr tl) s r y) := by
  obtain ⟨h1, h2, h3, h4, h5, h6⟩ := h
  have hd := due_r sf st qr hL s
  have hn := nr_r hs hr
  unfold logR
  by_cases hc : rch s r = true ∧ (1 : Int) = 1 ∧ 0 < due sf st qr tl s
  · rw [if_pos hc]
    have h9 := rch_t.mp hc.1
    have en : nr s r = s / 900 := if_pos hc.1
    rw [en]
    refine ⟨?_, ?_, ?_, ?_, ?_, ?_⟩
    · show 0 ≤ y.1 + 1; omega
    · show y.1 + 1 ≤ s / 900; omega
    · show 0 ≤ y.2.1 + due sf st qr tl s; omega
    · show y.2.1 + due sf st qr tl s ≤ 268 * (y.1 + 1); omega
    · exact SB_hit hL h5 hc.2.2 (by omega)
    · exact LG_push h6 h1 hr h9.2 (by omega)
  · rw [if_neg hc]
    exact ⟨h1, by omega, h3, h4, h5, LG_up h6 hn.2.1⟩
theorem secsr_ZI {sf st qr : Int} {tl : Nat → List Nat} (hL : TLok tl) {B M : Int} (hB : 0 ≤ B) (hB2 : B ≤ 30) (hM : M ≤ 2000000000) : ∀ (j : Nat) (s o r n : Int) (y : (Int × Int × (Nat → Int32) × (Nat → Int32) × (Nat → Int32))), 0 ≤ s → s + 31 * j ≤ M → -3600 ≤ o → o ≤ 3600 → 0 ≤ r → 900 * r ≤ M → ZI r y → ZI (secsr 1 tl B (due sf st qr tl) j ((s, o, r, n), y)).1.2.2.1 (secsr 1 tl B (due sf st qr tl) j ((s, o, r, n), y)).2 ∧ 900 * (secsr 1 tl B (due sf st qr tl) j ((s, o, r, n), y)).1.2.2.1 ≤ M := by
  intro j
  induction j with
  | zero => intro s o r n y h1 h2 h3 h4 h5 h6 h7; exact ⟨h7, h6⟩
  | succ j ih =>
    intro s o r n y h1 h2 h3 h4 h5 h6 h7
    rw [secsr_s]
    have k1 := cor_r hB hB2 o
    have k2 := cor_o hB h3 h4
    have k3 := nr_r (s := s + 1) (r := r) (by omega) h5
    by_cases hm : (s + 1) % 60 = 0
    · have es : secr 1 tl B (due sf st qr tl) ((s, o, r, n), y) = ((s + 1 + cor B o, o - cor B o, nr (s + 1) r, n + inc (due sf st qr tl) (s + 1) r), logR 1 tl (due sf st qr tl) (s + 1) r y) := by
        show (sec B (due sf st qr tl) (s, o, r, n), if (s + 1) % 60 = 0 then logR 1 tl (due sf st qr tl) (s + 1) r y else y) = _
        rw [if_pos hm, show sec B (due sf st qr tl) (s, o, r, n) = com B (due sf st qr tl) (s + 1) o r n from if_pos hm]
        rfl
      rw [es]
      exact ih _ _ _ _ _ (by omega) (by omega) k2.1 k2.2 (by omega) (by omega) (ZI_step hL (by omega) (by omega) h5 (by omega) h7)
    · have es : secr 1 tl B (due sf st qr tl) ((s, o, r, n), y) = ((s + 1, o, r, n), y) := by
        show (sec B (due sf st qr tl) (s, o, r, n), if (s + 1) % 60 = 0 then logR 1 tl (due sf st qr tl) (s + 1) r y else y) = _
        rw [if_neg hm, show sec B (due sf st qr tl) (s, o, r, n) = (s + 1, o, r, n) from if_neg hm]
      rw [es]
      exact ih _ _ _ _ _ (by omega) (by omega) h3 h4 h5 h6 h7
/-- the log, read -/
def kep (k : Int) : Int := if 40 ≤ k then 40 else k
theorem kep_r {k : Int} (h : 0 ≤ k) : 0 ≤ kep k ∧ kep k ≤ 40 ∧ kep k ≤ k ∧ (kep k = k ∨ kep k = 40) := by
  unfold kep; split <;> omega
theorem pl_kept {k : Int} (h1 : 0 ≤ k) (h2 : k ≤ 2147483000) : X5_keptMarks_f (iz k) = some (iz (kep k), ()) ∧ X9_kept_f (iz k) = some (iz (kep k), ()) := by
  unfold X5_keptMarks_f X9_kept_f X9_kept_b18 kep
  constructor
  · simp (disch := omega) only [n3_0, n3_1, n3_2, n3_3, n3_4, n3_5, n3_6, n3_7, n3_8, n3_9, n3_10, n3_11, n3_12, n3_20, n3_23, n3_24, n3_28, n3_29, n3_30, n3_31, n3_32, n3_40, n3_60, n3_120, n3_128, n3_365, n3_366, n3_400, n3_100, n3_600, n3_700, n3_900, n3_1600, n3_2000, n3_3000, n3_3600, n3_5000, n3_86400, n3_m1, n3_m600, n3_m3600, n6_0, n6_1, n6_2, n6_3, n6_4, n6_7, n6_60, n6_100, n6_365, n6_366, n6_400, n6_900, n6_1461, n6_36524, n6_146097, iz_add, iz_sub, iz_mul, iz_neg, iz_div, iz_lt, iz_le, iz_eq, iz_l, lz_i, iz_nat, lz_add, lz_sub, lz_mul, lz_div, lz_lt, lz_le, lz_eq, lc_ge, lc_le, lc_eq, Option.bind_some, b01_z, b01_a, b01_1, iz_01, iz_11, pv_def, eq_self, Bool.false_eq_true, not_true_eq_false, not_false_eq_true, if_true, if_false, if_pos, if_neg]
    by_cases h : 40 < k
    · rw [if_pos h, if_pos (by omega)]
    · rw [if_neg h]
      by_cases h9 : 40 ≤ k
      · rw [if_pos h9, show k = 40 from by omega]
      · rw [if_neg h9]
  · simp (disch := omega) only [n3_0, n3_1, n3_2, n3_3, n3_4, n3_5, n3_6, n3_7, n3_8, n3_9, n3_10, n3_11, n3_12, n3_20, n3_23, n3_24, n3_28, n3_29, n3_30, n3_31, n3_32, n3_40, n3_60, n3_120, n3_128, n3_365, n3_366, n3_400, n3_100, n3_600, n3_700, n3_900, n3_1600, n3_2000, n3_3000, n3_3600, n3_5000, n3_86400, n3_m1, n3_m600, n3_m3600, n6_0, n6_1, n6_2, n6_3, n6_4, n6_7, n6_60, n6_100, n6_365, n6_366, n6_400, n6_900, n6_1461, n6_36524, n6_146097, iz_add, iz_sub, iz_mul, iz_neg, iz_div, iz_lt, iz_le, iz_eq, iz_l, lz_i, iz_nat, lz_add, lz_sub, lz_mul, lz_div, lz_lt, lz_le, lz_eq, lc_ge, lc_le, lc_eq, Option.bind_some, b01_z, b01_a, b01_1, iz_01, iz_11, pv_def, eq_self, Bool.false_eq_true, not_true_eq_false, not_false_eq_true, if_true, if_false, if_pos, if_neg]
    by_cases h : 40 ≤ k
    · rw [if_pos h, if_pos h]
    · rw [if_neg h, if_neg h]
theorem pl_rank {k p : Int} (h1 : 0 ≤ k) (h2 : k ≤ 2147483000) (hp : 0 ≤ p) (hp2 : p < kep k) (lm : Nat → Int32) : X5_markOfRank_f (iz k) lm (iz p) = some (lm ((k - 1 - p) % 40).toNat, ()) := by
  have hk := kep_r h1
  unfold X5_markOfRank_f X5_slotOf_f
  simp (disch := omega) only [n3_0, n3_1, n3_2, n3_3, n3_4, n3_5, n3_6, n3_7, n3_8, n3_9, n3_10, n3_11, n3_12, n3_20, n3_23, n3_24, n3_28, n3_29, n3_30, n3_31, n3_32, n3_40, n3_60, n3_120, n3_128, n3_365, n3_366, n3_400, n3_100, n3_600, n3_700, n3_900, n3_1600, n3_2000, n3_3000, n3_3600, n3_5000, n3_86400, n3_m1, n3_m600, n3_m3600, n6_0, n6_1, n6_2, n6_3, n6_4, n6_7, n6_60, n6_100, n6_365, n6_366, n6_400, n6_900, n6_1461, n6_36524, n6_146097, iz_add, iz_sub, iz_mul, iz_neg, iz_div, iz_lt, iz_le, iz_eq, iz_l, lz_i, iz_nat, lz_add, lz_sub, lz_mul, lz_div, lz_lt, lz_le, lz_eq, lc_ge, lc_le, lc_eq, Option.bind_some, b01_z, b01_a, b01_1, iz_01, iz_11, pv_def, eq_self, Bool.false_eq_true, not_true_eq_false, not_false_eq_true, if_true, if_false, if_pos, if_neg, pf_mod]
theorem pl_ranks {k p : Int} (h1 : 0 ≤ k) (h2 : k ≤ 2147483000) (hp : 0 ≤ p) (hp2 : p < kep k) (ls : Nat → Int32) : X5_strokesOfRank_f (iz k) ls (iz p) = some (ls ((k - 1 - p) % 40).toNat, ()) := by
  have hk := kep_r h1
  unfold X5_strokesOfRank_f X5_slotOf_f
  simp (disch := omega) only [n3_0, n3_1, n3_2, n3_3, n3_4, n3_5, n3_6, n3_7, n3_8, n3_9, n3_10, n3_11, n3_12, n3_20, n3_23, n3_24, n3_28, n3_29, n3_30, n3_31, n3_32, n3_40, n3_60, n3_120, n3_128, n3_365, n3_366, n3_400, n3_100, n3_600, n3_700, n3_900, n3_1600, n3_2000, n3_3000, n3_3600, n3_5000, n3_86400, n3_m1, n3_m600, n3_m3600, n6_0, n6_1, n6_2, n6_3, n6_4, n6_7, n6_60, n6_100, n6_365, n6_366, n6_400, n6_900, n6_1461, n6_36524, n6_146097, iz_add, iz_sub, iz_mul, iz_neg, iz_div, iz_lt, iz_le, iz_eq, iz_l, lz_i, iz_nat, lz_add, lz_sub, lz_mul, lz_div, lz_lt, lz_le, lz_eq, lc_ge, lc_le, lc_eq, Option.bind_some, b01_z, b01_a, b01_1, iz_01, iz_11, pv_def, eq_self, Bool.false_eq_true, not_true_eq_false, not_false_eq_true, if_true, if_false, if_pos, if_neg, pf_mod]
theorem pl_mark {k p : Int} (h1 : 0 ≤ k) (h2 : k ≤ 2147483000) (hp : -2147483648 ≤ p) (hp2 : p ≤ 2147483647) (lm : Nat → Int32) : (∃ v, X8_markAt_f (iz k) lm (iz p) = some (Sum.inl (v, ())) ∧ X9_markAt_f (iz k) lm (iz p) = some (v, iz 0)) ∨ (X8_markAt_f (iz k) lm (iz p) = some (Sum.inr "java/util/NoSuchElementException") ∧ ∃ v, X9_markAt_f (iz k) lm (iz p) = some (v, iz 1)) := by
  have hk := kep_r h1
  obtain ⟨e1, e2⟩ := pl_kept h1 h2
  unfold X8_markAt_f X9_markAt_f X9_fail_f
  by_cases h : 0 ≤ p ∧ p ≤ kep k - 1
  · refine Or.inl ⟨lm ((k - 1 - p) % 40).toNat, ?_, ?_⟩
    · have e3 := pl_rank h1 h2 h.1 (by omega) lm
      simp (disch := omega) only [n3_0, n3_1, n3_2, n3_3, n3_4, n3_5, n3_6, n3_7, n3_8, n3_9, n3_10, n3_11, n3_12, n3_20, n3_23, n3_24, n3_28, n3_29, n3_30, n3_31, n3_32, n3_40, n3_60, n3_120, n3_128, n3_365, n3_366, n3_400, n3_100, n3_600, n3_700, n3_900, n3_1600, n3_2000, n3_3000, n3_3600, n3_5000, n3_86400, n3_m1, n3_m600, n3_m3600, n6_0, n6_1, n6_2, n6_3, n6_4, n6_7, n6_60, n6_100, n6_365, n6_366, n6_400, n6_900, n6_1461, n6_36524, n6_146097, iz_add, iz_sub, iz_mul, iz_neg, iz_div, iz_lt, iz_le, iz_eq, iz_l, lz_i, iz_nat, lz_add, lz_sub, lz_mul, lz_div, lz_lt, lz_le, lz_eq, lc_ge, lc_le, lc_eq, Option.bind_some, b01_z, b01_a, b01_1, iz_01, iz_11, pv_def, eq_self, Bool.false_eq_true, not_true_eq_false, not_false_eq_true, if_true, if_false, if_pos, if_neg, e1, pw_inz, e3]
    · simp (disch := omega) only [n3_0, n3_1, n3_2, n3_3, n3_4, n3_5, n3_6, n3_7, n3_8, n3_9, n3_10, n3_11, n3_12, n3_20, n3_23, n3_24, n3_28, n3_29, n3_30, n3_31, n3_32, n3_40, n3_60, n3_120, n3_128, n3_365, n3_366, n3_400, n3_100, n3_600, n3_700, n3_900, n3_1600, n3_2000, n3_3000, n3_3600, n3_5000, n3_86400, n3_m1, n3_m600, n3_m3600, n6_0, n6_1, n6_2, n6_3, n6_4, n6_7, n6_60, n6_100, n6_365, n6_366, n6_400, n6_900, n6_1461, n6_36524, n6_146097, iz_add, iz_sub, iz_mul, iz_neg, iz_div, iz_lt, iz_le, iz_eq, iz_l, lz_i, iz_nat, lz_add, lz_sub, lz_mul, lz_div, lz_lt, lz_le, lz_eq, lc_ge, lc_le, lc_eq, Option.bind_some, b01_z, b01_a, b01_1, iz_01, iz_11, pv_def, eq_self, Bool.false_eq_true, not_true_eq_false, not_false_eq_true, if_true, if_false, if_pos, if_neg, e2, pw_isz]
  · refine Or.inr ⟨?_, ?_⟩
    · simp (disch := omega) only [n3_0, n3_1, n3_2, n3_3, n3_4, n3_5, n3_6, n3_7, n3_8, n3_9, n3_10, n3_11, n3_12, n3_20, n3_23, n3_24, n3_28, n3_29, n3_30, n3_31, n3_32, n3_40, n3_60, n3_120, n3_128, n3_365, n3_366, n3_400, n3_100, n3_600, n3_700, n3_900, n3_1600, n3_2000, n3_3000, n3_3600, n3_5000, n3_86400, n3_m1, n3_m600, n3_m3600, n6_0, n6_1, n6_2, n6_3, n6_4, n6_7, n6_60, n6_100, n6_365, n6_366, n6_400, n6_900, n6_1461, n6_36524, n6_146097, iz_add, iz_sub, iz_mul, iz_neg, iz_div, iz_lt, iz_le, iz_eq, iz_l, lz_i, iz_nat, lz_add, lz_sub, lz_mul, lz_div, lz_lt, lz_le, lz_eq, lc_ge, lc_le, lc_eq, Option.bind_some, b01_z, b01_a, b01_1, iz_01, iz_11, pv_def, eq_self, Bool.false_eq_true, not_true_eq_false, not_false_eq_true, if_true, if_false, if_pos, if_neg, e1, pw_inz]
    · refine ⟨iz 0, ?_⟩
      simp (disch := omega) only [n3_0, n3_1, n3_2, n3_3, n3_4, n3_5, n3_6, n3_7, n3_8, n3_9, n3_10, n3_11, n3_12, n3_20, n3_23, n3_24, n3_28, n3_29, n3_30, n3_31, n3_32, n3_40, n3_60, n3_120, n3_128, n3_365, n3_366, n3_400, n3_100, n3_600, n3_700, n3_900, n3_1600, n3_2000, n3_3000, n3_3600, n3_5000, n3_86400, n3_m1, n3_m600, n3_m3600, n6_0, n6_1, n6_2, n6_3, n6_4, n6_7, n6_60, n6_100, n6_365, n6_366, n6_400, n6_900, n6_1461, n6_36524, n6_146097, iz_add, iz_sub, iz_mul, iz_neg, iz_div, iz_lt, iz_le, iz_eq, iz_l, lz_i, iz_nat, lz_add, lz_sub, lz_mul, lz_div, lz_lt, lz_le, lz_eq, lc_ge, lc_le, lc_eq, Option.bind_some, b01_z, b01_a, b01_1, iz_01, iz_11, pv_def, eq_self, Bool.false_eq_true, not_true_eq_false, not_false_eq_true, if_true, if_false, if_pos, if_neg, e2, pw_isz]
theorem LG_inj {k r : Int} {lm : Nat → Int32} (h : LG k r lm) {t t' : Int} (a1 : 0 ≤ t) (a2 : k - 40 ≤ t) (a3 : t < k) (b1 : 0 ≤ t') (b2 : k - 40 ≤ t') (b3 : t' < k) (e : lm (t % 40).toNat = lm (t' % 40).toNat) : t = t' := by
  apply Classical.byContradiction
  intro hne
  by_cases hlt : t < t'
  · have := h.1 t t' a1 a2 hlt b3
    rw [e] at this; omega
  · have := h.1 t' t b1 b2 (by omega) a3
    rw [e] at this; omega
theorem pl_rf {k r : Int} {lm : Nat → Int32} (h : LG k r lm) (h1 : 0 ≤ k) (h2 : k ≤ 2147483000) {p : Int32} {t : Int} (a1 : 0 ≤ t) (a2 : k - 40 ≤ t) (a3 : t < k) (e : lm (t % 40).toNat = p) : ∀ (n : Nat) (j : Int), 0 ≤ j → j ≤ k - 1 - t → k - 1 - t - j < n → X5_rankOfMark_L2 (iz k) lm p n (iz j) = some (iz (k - 1 - t), ()) := by
  have hk := kep_r h1
  obtain ⟨e1, e2⟩ := pl_kept h1 h2
  intro n
  induction n with
  | zero => intro j b1 b2 b3; omega
  | succ n ih =>
    intro j b1 b2 b3
    show X5_rankOfMark_L2_body (iz k) lm p (X5_rankOfMark_L2 (iz k) lm p n) (iz j) = _
    unfold X5_rankOfMark_L2_body
    have hjk : j < kep k := by omega
    have e3 := pl_rank h1 h2 b1 hjk lm
    simp (disch := omega) only [n3_0, n3_1, n3_2, n3_3, n3_4, n3_5, n3_6, n3_7, n3_8, n3_9, n3_10, n3_11, n3_12, n3_20, n3_23, n3_24, n3_28, n3_29, n3_30, n3_31, n3_32, n3_40, n3_60, n3_120, n3_128, n3_365, n3_366, n3_400, n3_100, n3_600, n3_700, n3_900, n3_1600, n3_2000, n3_3000, n3_3600, n3_5000, n3_86400, n3_m1, n3_m600, n3_m3600, n6_0, n6_1, n6_2, n6_3, n6_4, n6_7, n6_60, n6_100, n6_365, n6_366, n6_400, n6_900, n6_1461, n6_36524, n6_146097, iz_add, iz_sub, iz_mul, iz_neg, iz_div, iz_lt, iz_le, iz_eq, iz_l, lz_i, iz_nat, lz_add, lz_sub, lz_mul, lz_div, lz_lt, lz_le, lz_eq, lc_ge, lc_le, lc_eq, Option.bind_some, b01_z, b01_a, b01_1, iz_01, iz_11, pv_def, eq_self, Bool.false_eq_true, not_true_eq_false, not_false_eq_true, if_true, if_false, if_pos, if_neg, e1, e3]
    by_cases hj : j = k - 1 - t
    · rw [if_pos (by rw [hj, show k - 1 - (k - 1 - t) = t from by omega]; exact e), hj]
    · rw [if_neg (fun h9 => by
        have := LG_inj h (t := k - 1 - j) (t' := t) (by omega) (by omega) (by omega) a1 a2 a3 (h9.trans e.symm)
        omega)]
      exact ih (j + 1) (by omega) (by omega) (by omega)
theorem pl_rn {k : Int} {lm : Nat → Int32} (h1 : 0 ≤ k) (h2 : k ≤ 2147483000) {p : Int32} (hno : ∀ t : Int, 0 ≤ t → k - 40 ≤ t → t < k → lm (t % 40).toNat ≠ p) : ∀ (n : Nat) (j : Int), 0 ≤ j → j ≤ kep k → kep k - j < n → X5_rankOfMark_L2 (iz k) lm p n (iz j) = some (iz (-1), ()) := by
  have hk := kep_r h1
  obtain ⟨e1, e2⟩ := pl_kept h1 h2
  intro n
  induction n with
  | zero => intro j b1 b2 b3; omega
  | succ n ih =>
    intro j b1 b2 b3
    show X5_rankOfMark_L2_body (iz k) lm p (X5_rankOfMark_L2 (iz k) lm p n) (iz j) = _
    unfold X5_rankOfMark_L2_body
    by_cases hj : j = kep k
    · simp (disch := omega) only [n3_0, n3_1, n3_2, n3_3, n3_4, n3_5, n3_6, n3_7, n3_8, n3_9, n3_10, n3_11, n3_12, n3_20, n3_23, n3_24, n3_28, n3_29, n3_30, n3_31, n3_32, n3_40, n3_60, n3_120, n3_128, n3_365, n3_366, n3_400, n3_100, n3_600, n3_700, n3_900, n3_1600, n3_2000, n3_3000, n3_3600, n3_5000, n3_86400, n3_m1, n3_m600, n3_m3600, n6_0, n6_1, n6_2, n6_3, n6_4, n6_7, n6_60, n6_100, n6_365, n6_366, n6_400, n6_900, n6_1461, n6_36524, n6_146097, iz_add, iz_sub, iz_mul, iz_neg, iz_div, iz_lt, iz_le, iz_eq, iz_l, lz_i, iz_nat, lz_add, lz_sub, lz_mul, lz_div, lz_lt, lz_le, lz_eq, lc_ge, lc_le, lc_eq, Option.bind_some, b01_z, b01_a, b01_1, iz_01, iz_11, pv_def, eq_self, Bool.false_eq_true, not_true_eq_false, not_false_eq_true, if_true, if_false, if_pos, if_neg, e1]
    · have e3 := pl_rank h1 h2 b1 (by omega) lm
      simp (disch := omega) only [n3_0, n3_1, n3_2, n3_3, n3_4, n3_5, n3_6, n3_7, n3_8, n3_9, n3_10, n3_11, n3_12, n3_20, n3_23, n3_24, n3_28, n3_29, n3_30, n3_31, n3_32, n3_40, n3_60, n3_120, n3_128, n3_365, n3_366, n3_400, n3_100, n3_600, n3_700, n3_900, n3_1600, n3_2000, n3_3000, n3_3600, n3_5000, n3_86400, n3_m1, n3_m600, n3_m3600, n6_0, n6_1, n6_2, n6_3, n6_4, n6_7, n6_60, n6_100, n6_365, n6_366, n6_400, n6_900, n6_1461, n6_36524, n6_146097, iz_add, iz_sub, iz_mul, iz_neg, iz_div, iz_lt, iz_le, iz_eq, iz_l, lz_i, iz_nat, lz_add, lz_sub, lz_mul, lz_div, lz_lt, lz_le, lz_eq, lc_ge, lc_le, lc_eq, Option.bind_some, b01_z, b01_a, b01_1, iz_01, iz_11, pv_def, eq_self, Bool.false_eq_true, not_true_eq_false, not_false_eq_true, if_true, if_false, if_pos, if_neg, e1, e3]
      rw [if_neg (hno (k - 1 - j) (by omega) (by omega) (by omega))]
      exact ih (j + 1) (by omega) (by omega) (by omega)
theorem pl_sf {k r : Int} {lm : Nat → Int32} (h : LG k r lm) (h1 : 0 ≤ k) (h2 : k ≤ 2147483000) (ls : Nat → Int32) {p : Int32} {t : Int} (a1 : 0 ≤ t) (a2 : k - 40 ≤ t) (a3 : t < k) (e : lm (t % 40).toNat = p) : ∀ (n : Nat) (i : Int), 0 ≤ i → i ≤ t % 40 → t % 40 - i < n → X9_strokesAt_L7 (iz k) lm ls p n (iz i) = some (ls (t % 40).toNat, iz 0) := by
  have hk := kep_r h1
  obtain ⟨e1, e2⟩ := pl_kept h1 h2
  intro n
  induction n with
  | zero => intro j b1 b2 b3; omega
  | succ n ih =>
    intro i b1 b2 b3
    show X9_strokesAt_L7_body (iz k) lm ls p (X9_strokesAt_L7 (iz k) lm ls p n) (iz i) = _
    unfold X9_strokesAt_L7_body
    have hik : i < kep k := by omega
    simp (disch := omega) only [n3_0, n3_1, n3_2, n3_3, n3_4, n3_5, n3_6, n3_7, n3_8, n3_9, n3_10, n3_11, n3_12, n3_20, n3_23, n3_24, n3_28, n3_29, n3_30, n3_31, n3_32, n3_40, n3_60, n3_120, n3_128, n3_365, n3_366, n3_400, n3_100, n3_600, n3_700, n3_900, n3_1600, n3_2000, n3_3000, n3_3600, n3_5000, n3_86400, n3_m1, n3_m600, n3_m3600, n6_0, n6_1, n6_2, n6_3, n6_4, n6_7, n6_60, n6_100, n6_365, n6_366, n6_400, n6_900, n6_1461, n6_36524, n6_146097, iz_add, iz_sub, iz_mul, iz_neg, iz_div, iz_lt, iz_le, iz_eq, iz_l, lz_i, iz_nat, lz_add, lz_sub, lz_mul, lz_div, lz_lt, lz_le, lz_eq, lc_ge, lc_le, lc_eq, Option.bind_some, b01_z, b01_a, b01_1, iz_01, iz_11, pv_def, eq_self, Bool.false_eq_true, not_true_eq_false, not_false_eq_true, if_true, if_false, if_pos, if_neg, e2]
    by_cases hj : i = t % 40
    · rw [hj, if_pos e]
    · rw [if_neg (fun h9 => by
        have e8 : (k - 1 - (k - 1 - i) % 40) % 40 = i := by omega
        have := LG_inj h (t := k - 1 - (k - 1 - i) % 40) (t' := t) (by omega) (by omega) (by omega) a1 a2 a3 (by rw [e8]; exact h9.trans e.symm)
        omega)]
      exact ih (i + 1) (by omega) (by omega) (by omega)
theorem pl_sn {k : Int} {lm : Nat → Int32} (h1 : 0 ≤ k) (h2 : k ≤ 2147483000) (ls : Nat → Int32) {p : Int32} (hno : ∀ t : Int, 0 ≤ t → k - 40 ≤ t → t < k → lm (t % 40).toNat ≠ p) : ∀ (n : Nat) (i : Int), 0 ≤ i → i ≤ kep k → kep k - i < n → X9_strokesAt_L7 (iz k) lm ls p n (iz i) = some (iz 0, iz 1) := by
  have hk := kep_r h1
  obtain ⟨e1, e2⟩ := pl_kept h1 h2
  intro n
  induction n with
  | zero => intro j b1 b2 b3; omega
  | succ n ih =>
    intro i b1 b2 b3
    show X9_strokesAt_L7_body (iz k) lm ls p (X9_strokesAt_L7 (iz k) lm ls p n) (iz i) = _
    unfold X9_strokesAt_L7_body X9_fail_f
    by_cases hj : i = kep k
    · simp (disch := omega) only [n3_0, n3_1, n3_2, n3_3, n3_4, n3_5, n3_6, n3_7, n3_8, n3_9, n3_10, n3_11, n3_12, n3_20, n3_23, n3_24, n3_28, n3_29, n3_30, n3_31, n3_32, n3_40, n3_60, n3_120, n3_128, n3_365, n3_366, n3_400, n3_100, n3_600, n3_700, n3_900, n3_1600, n3_2000, n3_3000, n3_3600, n3_5000, n3_86400, n3_m1, n3_m600, n3_m3600, n6_0, n6_1, n6_2, n6_3, n6_4, n6_7, n6_60, n6_100, n6_365, n6_366, n6_400, n6_900, n6_1461, n6_36524, n6_146097, iz_add, iz_sub, iz_mul, iz_neg, iz_div, iz_lt, iz_le, iz_eq, iz_l, lz_i, iz_nat, lz_add, lz_sub, lz_mul, lz_div, lz_lt, lz_le, lz_eq, lc_ge, lc_le, lc_eq, Option.bind_some, b01_z, b01_a, b01_1, iz_01, iz_11, pv_def, eq_self, Bool.false_eq_true, not_true_eq_false, not_false_eq_true, if_true, if_false, if_pos, if_neg, e2]
    · simp (disch := omega) only [n3_0, n3_1, n3_2, n3_3, n3_4, n3_5, n3_6, n3_7, n3_8, n3_9, n3_10, n3_11, n3_12, n3_20, n3_23, n3_24, n3_28, n3_29, n3_30, n3_31, n3_32, n3_40, n3_60, n3_120, n3_128, n3_365, n3_366, n3_400, n3_100, n3_600, n3_700, n3_900, n3_1600, n3_2000, n3_3000, n3_3600, n3_5000, n3_86400, n3_m1, n3_m600, n3_m3600, n6_0, n6_1, n6_2, n6_3, n6_4, n6_7, n6_60, n6_100, n6_365, n6_366, n6_400, n6_900, n6_1461, n6_36524, n6_146097, iz_add, iz_sub, iz_mul, iz_neg, iz_div, iz_lt, iz_le, iz_eq, iz_l, lz_i, iz_nat, lz_add, lz_sub, lz_mul, lz_div, lz_lt, lz_le, lz_eq, lc_ge, lc_le, lc_eq, Option.bind_some, b01_z, b01_a, b01_1, iz_01, iz_11, pv_def, eq_self, Bool.false_eq_true, not_true_eq_false, not_false_eq_true, if_true, if_false, if_pos, if_neg, e2]
      rw [if_neg (fun h9 => by
        have e8 : (k - 1 - (k - 1 - i) % 40) % 40 = i := by omega
        exact hno (k - 1 - (k - 1 - i) % 40) (by omega) (by omega) (by omega) (by rw [e8]; exact h9))]
      exact ih (i + 1) (by omega) (by omega) (by omega)
theorem pl_at {N : Nat} (hN : 100 ≤ N) {k r : Int} {lm : Nat → Int32} (h : LG k r lm) (h1 : 0 ≤ k) (h2 : k ≤ 2147483000) (ls : Nat → Int32) (p : Int32) : (∃ v, X8_strokesAt_f N (iz k) lm ls p = some (Sum.inl (v, ())) ∧ X9_strokesAt_f N (iz k) lm ls p = some (v, iz 0)) ∨ (X8_strokesAt_f N (iz k) lm ls p = some (Sum.inr "java/util/NoSuchElementException") ∧ ∃ v, X9_strokesAt_f N (iz k) lm ls p = some (v, iz 1)) := by
  have hk := kep_r h1
  by_cases hex : ∃ t : Int, 0 ≤ t ∧ k - 40 ≤ t ∧ t < k ∧ lm (t % 40).toNat = p
  · obtain ⟨t, t1, t2, t3, t4⟩ := hex
    have e1 : X5_rankOfMark_f N (iz k) lm p = some (iz (k - 1 - t), ()) := pl_rf h h1 h2 t1 t2 t3 t4 N 0 (by omega) (by omega) (by omega)
    have e2 := pl_ranks h1 h2 (p := k - 1 - t) (by omega) (by omega) ls
    refine Or.inl ⟨ls (t % 40).toNat, ?_, pl_sf h h1 h2 ls t1 t2 t3 t4 N 0 (by omega) (by omega) (by omega)⟩
    unfold X8_strokesAt_f
    simp (disch := omega) only [n3_0, n3_1, n3_2, n3_3, n3_4, n3_5, n3_6, n3_7, n3_8, n3_9, n3_10, n3_11, n3_12, n3_20, n3_23, n3_24, n3_28, n3_29, n3_30, n3_31, n3_32, n3_40, n3_60, n3_120, n3_128, n3_365, n3_366, n3_400, n3_100, n3_600, n3_700, n3_900, n3_1600, n3_2000, n3_3000, n3_3600, n3_5000, n3_86400, n3_m1, n3_m600, n3_m3600, n6_0, n6_1, n6_2, n6_3, n6_4, n6_7, n6_60, n6_100, n6_365, n6_366, n6_400, n6_900, n6_1461, n6_36524, n6_146097, iz_add, iz_sub, iz_mul, iz_neg, iz_div, iz_lt, iz_le, iz_eq, iz_l, lz_i, iz_nat, lz_add, lz_sub, lz_mul, lz_div, lz_lt, lz_le, lz_eq, lc_ge, lc_le, lc_eq, Option.bind_some, b01_z, b01_a, b01_1, iz_01, iz_11, pv_def, eq_self, Bool.false_eq_true, not_true_eq_false, not_false_eq_true, if_true, if_false, if_pos, if_neg, e1, e2]
    rw [show k - 1 - (k - 1 - t) = t from by omega]
  · have hno : ∀ t : Int, 0 ≤ t → k - 40 ≤ t → t < k → lm (t % 40).toNat ≠ p := fun t a b c d => hex ⟨t, a, b, c, d⟩
    have e1 : X5_rankOfMark_f N (iz k) lm p = some (iz (-1), ()) := pl_rn h1 h2 hno N 0 (by omega) (by omega) (by omega)
    refine Or.inr ⟨?_, iz 0, pl_sn h1 h2 ls hno N 0 (by omega) (by omega) (by omega)⟩
    unfold X8_strokesAt_f
    simp (disch := omega) only [n3_0, n3_1, n3_2, n3_3, n3_4, n3_5, n3_6, n3_7, n3_8, n3_9, n3_10, n3_11, n3_12, n3_20, n3_23, n3_24, n3_28, n3_29, n3_30, n3_31, n3_32, n3_40, n3_60, n3_120, n3_128, n3_365, n3_366, n3_400, n3_100, n3_600, n3_700, n3_900, n3_1600, n3_2000, n3_3000, n3_3600, n3_5000, n3_86400, n3_m1, n3_m600, n3_m3600, n6_0, n6_1, n6_2, n6_3, n6_4, n6_7, n6_60, n6_100, n6_365, n6_366, n6_400, n6_900, n6_1461, n6_36524, n6_146097, iz_add, iz_sub, iz_mul, iz_neg, iz_div, iz_lt, iz_le, iz_eq, iz_l, lz_i, iz_nat, lz_add, lz_sub, lz_mul, lz_div, lz_lt, lz_le, lz_eq, lc_ge, lc_le, lc_eq, Option.bind_some, b01_z, b01_a, b01_1, iz_01, iz_11, pv_def, eq_self, Bool.false_eq_true, not_true_eq_false, not_false_eq_true, if_true, if_false, if_pos, if_neg, e1]
theorem pl_fall {k r : Int} {lm : Nat → Int32} (h : LG k r lm) (h1 : 0 ≤ k) (h2 : k ≤ 2147483000) : ∀ (n : Nat) (j : Int), 1 ≤ j → j ≤ 41 → 41 - j < n → X5_isFalling_L2 (iz k) lm n (iz j) = some (iz 1, ()) := by
  have hk := kep_r h1
  obtain ⟨e1, e2⟩ := pl_kept h1 h2
  intro n
  induction n with
  | zero => intro j b1 b2 b3; omega
  | succ n ih =>
    intro j b1 b2 b3
    show X5_isFalling_L2_body (iz k) lm (X5_isFalling_L2 (iz k) lm n) (iz j) = _
    unfold X5_isFalling_L2_body
    by_cases hj : kep k ≤ j
    · simp (disch := omega) only [n3_0, n3_1, n3_2, n3_3, n3_4, n3_5, n3_6, n3_7, n3_8, n3_9, n3_10, n3_11, n3_12, n3_20, n3_23, n3_24, n3_28, n3_29, n3_30, n3_31, n3_32, n3_40, n3_60, n3_120, n3_128, n3_365, n3_366, n3_400, n3_100, n3_600, n3_700, n3_900, n3_1600, n3_2000, n3_3000, n3_3600, n3_5000, n3_86400, n3_m1, n3_m600, n3_m3600, n6_0, n6_1, n6_2, n6_3, n6_4, n6_7, n6_60, n6_100, n6_365, n6_366, n6_400, n6_900, n6_1461, n6_36524, n6_146097, iz_add, iz_sub, iz_mul, iz_neg, iz_div, iz_lt, iz_le, iz_eq, iz_l, lz_i, iz_nat, lz_add, lz_sub, lz_mul, lz_div, lz_lt, lz_le, lz_eq, lc_ge, lc_le, lc_eq, Option.bind_some, b01_z, b01_a, b01_1, iz_01, iz_11, pv_def, eq_self, Bool.false_eq_true, not_true_eq_false, not_false_eq_true, if_true, if_false, if_pos, if_neg, e1]
    · have e3 := pl_rank h1 h2 (p := j) (by omega) (by omega) lm
      have e4 := pl_rank h1 h2 (p := j - 1) (by omega) (by omega) lm
      simp (disch := omega) only [n3_0, n3_1, n3_2, n3_3, n3_4, n3_5, n3_6, n3_7, n3_8, n3_9, n3_10, n3_11, n3_12, n3_20, n3_23, n3_24, n3_28, n3_29, n3_30, n3_31, n3_32, n3_40, n3_60, n3_120, n3_128, n3_365, n3_366, n3_400, n3_100, n3_600, n3_700, n3_900, n3_1600, n3_2000, n3_3000, n3_3600, n3_5000, n3_86400, n3_m1, n3_m600, n3_m3600, n6_0, n6_1, n6_2, n6_3, n6_4, n6_7, n6_60, n6_100, n6_365, n6_366, n6_400, n6_900, n6_1461, n6_36524, n6_146097, iz_add, iz_sub, iz_mul, iz_neg, iz_div, iz_lt, iz_le, iz_eq, iz_l, lz_i, iz_nat, lz_add, lz_sub, lz_mul, lz_div, lz_lt, lz_le, lz_eq, lc_ge, lc_le, lc_eq, Option.bind_some, b01_z, b01_a, b01_1, iz_01, iz_11, pv_def, eq_self, Bool.false_eq_true, not_true_eq_false, not_false_eq_true, if_true, if_false, if_pos, if_neg, e1, e3, e4]
      have hlt : lm ((k - 1 - j) % 40).toNat < lm ((k - 1 - (j - 1)) % 40).toNat := by
        rw [Int32.lt_iff_toInt_lt]
        exact h.1 (k - 1 - j) (k - 1 - (j - 1)) (by omega) (by omega) (by omega) (by omega)
      rw [if_pos hlt]
      exact ih (j + 1) (by omega) (by omega) (by omega)
theorem pl_falls {N : Nat} (hN : 100 ≤ N) {k r : Int} {lm : Nat → Int32} (h : LG k r lm) (h1 : 0 ≤ k) (h2 : k ≤ 2147483000) : X5_isFalling_f N (iz k) lm = some (iz 1, ()) :=
  pl_fall h h1 h2 N 1 (by omega) (by omega) (by omega)
def sumF (f : Nat → Int32) : Nat → Nat → Int
  | 0, _ => 0
  | n + 1, b => (f b).toInt + sumF f n (b + 1)
theorem pl_sum (f : Nat → Int32) : ∀ (n t b : Nat) (acc : Int), b + t = 9 → t < n → X0_strokesOfAllBells_L4 f n (lz acc) (iz b) = some (lz (acc + sumF f t b), ()) := by
  intro n
  induction n with
  | zero => intro t b acc a1 a2; omega
  | succ n ih =>
    intro t b acc a1 a2
    show X0_strokesOfAllBells_L4_body f (X0_strokesOfAllBells_L4 f n) (lz acc) (iz b) = _
    unfold X0_strokesOfAllBells_L4_body
    cases t with
    | zero =>
      simp (disch := omega) only [n3_0, n3_1, n3_2, n3_3, n3_4, n3_5, n3_6, n3_7, n3_8, n3_9, n3_10, n3_11, n3_12, n3_20, n3_23, n3_24, n3_28, n3_29, n3_30, n3_31, n3_32, n3_40, n3_60, n3_120, n3_128, n3_365, n3_366, n3_400, n3_100, n3_600, n3_700, n3_900, n3_1600, n3_2000, n3_3000, n3_3600, n3_5000, n3_86400, n3_m1, n3_m600, n3_m3600, n6_0, n6_1, n6_2, n6_3, n6_4, n6_7, n6_60, n6_100, n6_365, n6_366, n6_400, n6_900, n6_1461, n6_36524, n6_146097, iz_add, iz_sub, iz_mul, iz_neg, iz_div, iz_lt, iz_le, iz_eq, iz_l, lz_i, iz_nat, lz_add, lz_sub, lz_mul, lz_div, lz_lt, lz_le, lz_eq, lc_ge, lc_le, lc_eq, Option.bind_some, b01_z, b01_a, b01_1, iz_01, iz_11, pv_def, eq_self, Bool.false_eq_true, not_true_eq_false, not_false_eq_true, if_true, if_false, if_pos, if_neg]
      show some (lz acc, ()) = some (lz (acc + 0), ())
      exact sm_l (by omega)
    | succ t =>
      simp (disch := omega) only [n3_0, n3_1, n3_2, n3_3, n3_4, n3_5, n3_6, n3_7, n3_8, n3_9, n3_10, n3_11, n3_12, n3_20, n3_23, n3_24, n3_28, n3_29, n3_30, n3_31, n3_32, n3_40, n3_60, n3_120, n3_128, n3_365, n3_366, n3_400, n3_100, n3_600, n3_700, n3_900, n3_1600, n3_2000, n3_3000, n3_3600, n3_5000, n3_86400, n3_m1, n3_m600, n3_m3600, n6_0, n6_1, n6_2, n6_3, n6_4, n6_7, n6_60, n6_100, n6_365, n6_366, n6_400, n6_900, n6_1461, n6_36524, n6_146097, iz_add, iz_sub, iz_mul, iz_neg, iz_div, iz_lt, iz_le, iz_eq, iz_l, lz_i, iz_nat, lz_add, lz_sub, lz_mul, lz_div, lz_lt, lz_le, lz_eq, lc_ge, lc_le, lc_eq, Option.bind_some, b01_z, b01_a, b01_1, iz_01, iz_11, pv_def, eq_self, Bool.false_eq_true, not_true_eq_false, not_false_eq_true, if_true, if_false, if_pos, if_neg, Int.toNat_natCast]
      obtain ⟨z, ez, z1, z2⟩ := iz_of (f b)
      rw [ez, iz_l z1 z2, lz_add]
      refine (ih t (b + 1) _ (by omega) (by omega)).trans ?_
      rw [show sumF f (t + 1) b = (f b).toInt + sumF f t (b + 1) from rfl, ez, iz_toInt z1 z2]
      exact sm_l (by omega)
theorem pl_all {N : Nat} (hN : 100 ≤ N) {f : Nat → Int32} {A : Int} (h : SB f A) : X0_strokesOfAllBells_f N f = some (lz A, ()) := by
  refine (pl_sum f N 9 0 0 (by omega) (by omega)).trans (sm_l ?_)
  have h2 := h.2
  unfold s9 at h2
  show 0 + ((f 0).toInt + ((f 1).toInt + ((f 2).toInt + ((f 3).toInt + ((f 4).toInt + ((f 5).toInt + ((f 6).toInt + ((f 7).toInt + ((f 8).toInt + 0))))))))) = A
  omega
