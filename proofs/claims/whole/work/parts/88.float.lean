theorem fa_tails64 : FP.Core.b64.tails = 4503599627370496 := by decide
theorem fa_exps64 : FP.Core.b64.exps = 2048 := by decide
theorem fa_qmax64 : FP.Core.b64.qmax = 971 := by decide
theorem fa_qmin64 : FP.Core.b64.qmin = -1074 := by decide
theorem fa_p64 : 2 ^ FP.Core.b64.p = 9007199254740992 := by decide
/-- a result of rounding -/
def fOk64 (d : FP.Core.Datum) : Prop := (∃ s, d = .inf s) ∨ ∃ s c q, d = .fin s c q ∧ c < 9007199254740992 ∧ q ≤ 971
theorem fa_settle64 (s : Bool) (c : Nat) (q : Int) : fOk64 (FP.Core.settle FP.Core.b64 s c q) := by
  unfold FP.Core.settle FP.Core.bound
  rw [fa_qmax64, fa_p64, fa_tails64]
  by_cases h1 : c < 9007199254740992
  · rw [if_pos h1]
    by_cases h2 : q ≤ 971
    · rw [if_pos h2]; exact Or.inr ⟨s, c, q, rfl, h1, h2⟩
    · rw [if_neg h2]; exact Or.inl ⟨s, rfl⟩
  · rw [if_neg h1]
    by_cases h2 : q + 1 ≤ 971
    · rw [if_pos h2]; exact Or.inr ⟨s, _, _, rfl, by decide, h2⟩
    · rw [if_neg h2]; exact Or.inl ⟨s, rfl⟩
theorem fa_ratio64 (s : Bool) (A B : Nat) (e : Int) : fOk64 (FP.Core.roundRatio FP.Core.b64 s A B e) := by
  unfold FP.Core.roundRatio
  by_cases h : A = 0
  · rw [if_pos h, fa_qmin64]; exact Or.inr ⟨s, 0, _, rfl, by decide, by decide⟩
  · rw [if_neg h]; exact fa_settle64 s _ _
theorem fa_round64 {d : FP.Core.Datum} (h : d ≠ .nan) : fOk64 (FP.Core.round FP.Core.b64 d) := by
  cases d with
  | nan => exact absurd rfl h
  | inf s => exact Or.inl ⟨s, rfl⟩
  | fin s c q => exact fa_ratio64 s c 1 q
theorem fa_quot64 {d : FP.Core.Datum} (h : d ≠ .nan) {t : Bool} {c : Nat} {r : Int} (hc : c ≠ 0) : fOk64 (FP.Core.quotient FP.Core.b64 d (.fin t c r)) := by
  cases d with
  | nan => exact absurd rfl h
  | inf s => exact Or.inl ⟨_, rfl⟩
  | fin s x q =>
    show fOk64 (if c = 0 then (if x = 0 then .nan else .inf (s != t)) else FP.Core.roundRatio FP.Core.b64 (s != t) x c (q - r))
    rw [if_neg hc]
    exact fa_ratio64 _ _ _ _
theorem fa_enc64 {d : FP.Core.Datum} (h : fOk64 d) : FP.Core.encode FP.Core.b64 d % 9223372036854775808 ≤ 9218868437227405312 ∧ FP.Core.encode FP.Core.b64 d < 18446744073709551616 := by
  rcases h with ⟨s, rfl⟩ | ⟨s, c, q, rfl, h1, h2⟩
  · show FP.Core.assemble FP.Core.b64 s (FP.Core.b64.exps - 1) 0 % 9223372036854775808 ≤ 9218868437227405312 ∧ FP.Core.assemble FP.Core.b64 s (FP.Core.b64.exps - 1) 0 < 18446744073709551616
    unfold FP.Core.assemble
    rw [fa_exps64, fa_tails64]
    cases s <;> decide
  · show (if c < FP.Core.b64.tails then FP.Core.assemble FP.Core.b64 s 0 c else FP.Core.assemble FP.Core.b64 s ((q - FP.Core.b64.qmin).toNat + 1) (c - FP.Core.b64.tails)) % 9223372036854775808 ≤ 9218868437227405312 ∧ (if c < FP.Core.b64.tails then FP.Core.assemble FP.Core.b64 s 0 c else FP.Core.assemble FP.Core.b64 s ((q - FP.Core.b64.qmin).toNat + 1) (c - FP.Core.b64.tails)) < 18446744073709551616
    unfold FP.Core.assemble
    rw [fa_exps64, fa_tails64, fa_qmin64]
    by_cases h3 : c < 4503599627370496
    · rw [if_pos h3]
      cases s
      · show ((0 * 2048 + 0) * 4503599627370496 + c) % 9223372036854775808 ≤ 9218868437227405312 ∧ ((0 * 2048 + 0) * 4503599627370496 + c) < 18446744073709551616
        omega
      · show ((1 * 2048 + 0) * 4503599627370496 + c) % 9223372036854775808 ≤ 9218868437227405312 ∧ ((1 * 2048 + 0) * 4503599627370496 + c) < 18446744073709551616
        omega
    · rw [if_neg h3]
      cases s
      · show ((0 * 2048 + ((q - -1074).toNat + 1)) * 4503599627370496 + (c - 4503599627370496)) % 9223372036854775808 ≤ 9218868437227405312 ∧ ((0 * 2048 + ((q - -1074).toNat + 1)) * 4503599627370496 + (c - 4503599627370496)) < 18446744073709551616
        omega
      · show ((1 * 2048 + ((q - -1074).toNat + 1)) * 4503599627370496 + (c - 4503599627370496)) % 9223372036854775808 ≤ 9218868437227405312 ∧ ((1 * 2048 + ((q - -1074).toNat + 1)) * 4503599627370496 + (c - 4503599627370496)) < 18446744073709551616
        omega
theorem fa_bits64 {d : FP.Core.Datum} (h : fOk64 d) : (UInt64.ofNat (FP.Core.encode FP.Core.b64 d)).toNat = FP.Core.encode FP.Core.b64 d := by
  have := (fa_enc64 h).2
  rw [UInt64.toNat_ofNat']
  exact Nat.mod_eq_of_lt (by omega)
theorem fa_guard64 {x : UInt64} (h : x.toNat % 9223372036854775808 ≤ 9218868437227405312) : x &&& 0x7fffffffffffffff ≤ 0x7ff0000000000000 := by
  rw [UInt64.le_iff_toNat_le, UInt64.toNat_and]
  show x.toNat &&& 9223372036854775807 ≤ 9218868437227405312
  rw [show (9223372036854775807 : Nat) = 2 ^ 63 - 1 from rfl, Nat.and_two_pow_sub_one_eq_mod]
  exact h
theorem fa_dec64 {n : Nat} (h : n % 9223372036854775808 ≤ 9218868437227405312) : FP.Core.decode FP.Core.b64 n ≠ .nan := by
  unfold FP.Core.decode FP.Core.fieldE FP.Core.fieldT
  rw [fa_exps64, fa_tails64]
  by_cases h1 : n / 4503599627370496 % 2048 = 2048 - 1
  · rw [if_pos h1, if_pos (by omega)]
    exact FP.Core.Datum.noConfusion
  · rw [if_neg h1]
    by_cases h2 : n / 4503599627370496 % 2048 = 0
    · rw [if_pos h2]; exact FP.Core.Datum.noConfusion
    · rw [if_neg h2]; exact FP.Core.Datum.noConfusion
theorem fa_self64 {d : FP.Core.Datum} (h : d ≠ .nan) : FP.Core.order d d = some .eq := by
  cases d with
  | nan => exact absurd rfl h
  | inf s =>
    show some (compare (FP.Core.signed s 1) (FP.Core.signed s 1)) = some .eq
    rw [show compare (FP.Core.signed s 1) (FP.Core.signed s 1) = .eq from by simp]
  | fin s c q =>
    show some (compare (FP.Core.signed s (FP.Core.inUnits c q (min q q))) (FP.Core.signed s (FP.Core.inUnits c q (min q q)))) = some .eq
    rw [show compare (FP.Core.signed s (FP.Core.inUnits c q (min q q))) (FP.Core.signed s (FP.Core.inUnits c q (min q q))) = .eq from by simp]
theorem fa_tails32 : FP.Core.b32.tails = 8388608 := by decide
theorem fa_exps32 : FP.Core.b32.exps = 256 := by decide
theorem fa_qmax32 : FP.Core.b32.qmax = 104 := by decide
theorem fa_qmin32 : FP.Core.b32.qmin = -149 := by decide
theorem fa_p32 : 2 ^ FP.Core.b32.p = 16777216 := by decide
/-- a result of rounding -/
def fOk32 (d : FP.Core.Datum) : Prop := (∃ s, d = .inf s) ∨ ∃ s c q, d = .fin s c q ∧ c < 16777216 ∧ q ≤ 104
theorem fa_settle32 (s : Bool) (c : Nat) (q : Int) : fOk32 (FP.Core.settle FP.Core.b32 s c q) := by
  unfold FP.Core.settle FP.Core.bound
  rw [fa_qmax32, fa_p32, fa_tails32]
  by_cases h1 : c < 16777216
  · rw [if_pos h1]
    by_cases h2 : q ≤ 104
    · rw [if_pos h2]; exact Or.inr ⟨s, c, q, rfl, h1, h2⟩
    · rw [if_neg h2]; exact Or.inl ⟨s, rfl⟩
  · rw [if_neg h1]
    by_cases h2 : q + 1 ≤ 104
    · rw [if_pos h2]; exact Or.inr ⟨s, _, _, rfl, by decide, h2⟩
    · rw [if_neg h2]; exact Or.inl ⟨s, rfl⟩
theorem fa_ratio32 (s : Bool) (A B : Nat) (e : Int) : fOk32 (FP.Core.roundRatio FP.Core.b32 s A B e) := by
  unfold FP.Core.roundRatio
  by_cases h : A = 0
  · rw [if_pos h, fa_qmin32]; exact Or.inr ⟨s, 0, _, rfl, by decide, by decide⟩
  · rw [if_neg h]; exact fa_settle32 s _ _
theorem fa_round32 {d : FP.Core.Datum} (h : d ≠ .nan) : fOk32 (FP.Core.round FP.Core.b32 d) := by
  cases d with
  | nan => exact absurd rfl h
  | inf s => exact Or.inl ⟨s, rfl⟩
  | fin s c q => exact fa_ratio32 s c 1 q
theorem fa_quot32 {d : FP.Core.Datum} (h : d ≠ .nan) {t : Bool} {c : Nat} {r : Int} (hc : c ≠ 0) : fOk32 (FP.Core.quotient FP.Core.b32 d (.fin t c r)) := by
  cases d with
  | nan => exact absurd rfl h
  | inf s => exact Or.inl ⟨_, rfl⟩
  | fin s x q =>
    show fOk32 (if c = 0 then (if x = 0 then .nan else .inf (s != t)) else FP.Core.roundRatio FP.Core.b32 (s != t) x c (q - r))
    rw [if_neg hc]
    exact fa_ratio32 _ _ _ _
theorem fa_enc32 {d : FP.Core.Datum} (h : fOk32 d) : FP.Core.encode FP.Core.b32 d % 2147483648 ≤ 2139095040 ∧ FP.Core.encode FP.Core.b32 d < 4294967296 := by
  rcases h with ⟨s, rfl⟩ | ⟨s, c, q, rfl, h1, h2⟩
  · show FP.Core.assemble FP.Core.b32 s (FP.Core.b32.exps - 1) 0 % 2147483648 ≤ 2139095040 ∧ FP.Core.assemble FP.Core.b32 s (FP.Core.b32.exps - 1) 0 < 4294967296
    unfold FP.Core.assemble
    rw [fa_exps32, fa_tails32]
    cases s <;> decide
  · show (if c < FP.Core.b32.tails then FP.Core.assemble FP.Core.b32 s 0 c else FP.Core.assemble FP.Core.b32 s ((q - FP.Core.b32.qmin).toNat + 1) (c - FP.Core.b32.tails)) % 2147483648 ≤ 2139095040 ∧ (if c < FP.Core.b32.tails then FP.Core.assemble FP.Core.b32 s 0 c else FP.Core.assemble FP.Core.b32 s ((q - FP.Core.b32.qmin).toNat + 1) (c - FP.Core.b32.tails)) < 4294967296
    unfold FP.Core.assemble
    rw [fa_exps32, fa_tails32, fa_qmin32]
    by_cases h3 : c < 8388608
    · rw [if_pos h3]
      cases s
      · show ((0 * 256 + 0) * 8388608 + c) % 2147483648 ≤ 2139095040 ∧ ((0 * 256 + 0) * 8388608 + c) < 4294967296
        omega
      · show ((1 * 256 + 0) * 8388608 + c) % 2147483648 ≤ 2139095040 ∧ ((1 * 256 + 0) * 8388608 + c) < 4294967296
        omega
    · rw [if_neg h3]
      cases s
      · show ((0 * 256 + ((q - -149).toNat + 1)) * 8388608 + (c - 8388608)) % 2147483648 ≤ 2139095040 ∧ ((0 * 256 + ((q - -149).toNat + 1)) * 8388608 + (c - 8388608)) < 4294967296
        omega
      · show ((1 * 256 + ((q - -149).toNat + 1)) * 8388608 + (c - 8388608)) % 2147483648 ≤ 2139095040 ∧ ((1 * 256 + ((q - -149).toNat + 1)) * 8388608 + (c - 8388608)) < 4294967296
        omega
theorem fa_bits32 {d : FP.Core.Datum} (h : fOk32 d) : (UInt32.ofNat (FP.Core.encode FP.Core.b32 d)).toNat = FP.Core.encode FP.Core.b32 d := by
  have := (fa_enc32 h).2
  rw [UInt32.toNat_ofNat']
  exact Nat.mod_eq_of_lt (by omega)
theorem fa_guard32 {x : UInt32} (h : x.toNat % 2147483648 ≤ 2139095040) : x &&& 0x7fffffff ≤ 0x7f800000 := by
  rw [UInt32.le_iff_toNat_le, UInt32.toNat_and]
  show x.toNat &&& 2147483647 ≤ 2139095040
  rw [show (2147483647 : Nat) = 2 ^ 31 - 1 from rfl, Nat.and_two_pow_sub_one_eq_mod]
  exact h
theorem fa_dec32 {n : Nat} (h : n % 2147483648 ≤ 2139095040) : FP.Core.decode FP.Core.b32 n ≠ .nan := by
  unfold FP.Core.decode FP.Core.fieldE FP.Core.fieldT
  rw [fa_exps32, fa_tails32]
  by_cases h1 : n / 8388608 % 256 = 256 - 1
  · rw [if_pos h1, if_pos (by omega)]
    exact FP.Core.Datum.noConfusion
  · rw [if_neg h1]
    by_cases h2 : n / 8388608 % 256 = 0
    · rw [if_pos h2]; exact FP.Core.Datum.noConfusion
    · rw [if_neg h2]; exact FP.Core.Datum.noConfusion
theorem fa_self32 {d : FP.Core.Datum} (h : d ≠ .nan) : FP.Core.order d d = some .eq := by
  cases d with
  | nan => exact absurd rfl h
  | inf s =>
    show some (compare (FP.Core.signed s 1) (FP.Core.signed s 1)) = some .eq
    rw [show compare (FP.Core.signed s 1) (FP.Core.signed s 1) = .eq from by simp]
  | fin s c q =>
    show some (compare (FP.Core.signed s (FP.Core.inUnits c q (min q q))) (FP.Core.signed s (FP.Core.inUnits c q (min q q)))) = some .eq
    rw [show compare (FP.Core.signed s (FP.Core.inUnits c q (min q q))) (FP.Core.signed s (FP.Core.inUnits c q (min q q))) = .eq from by simp]
/-- a double that is a number -/
def fN (x : UInt64) : Prop := x.toNat % 9223372036854775808 ≤ 9218868437227405312
def fNZ (d : FP.Core.Datum) : Bool := match d with
  | .fin _ c _ => decide (c ≠ 0)
  | _ => false
theorem fNZ_e {d : FP.Core.Datum} (h : fNZ d = true) : ∃ s c q, d = .fin s c q ∧ c ≠ 0 := by
  cases d with
  | nan => exact absurd h (by decide)
  | inf s => exact absurd h (by simp [fNZ])
  | fin s c q => exact ⟨s, c, q, rfl, of_decide_eq_true h⟩
theorem fa_i2d : ∀ t : Nat, t < 121 → 1 ≤ t → fNZ (FP.Core.decode FP.Core.b64 (FP.i2d (iz t)).toNat) = true := by decide +kernel
theorem fa_mul {x : UInt64} (h : fN x) {t : Int} (h1 : 1 ≤ t) (h2 : t ≤ 120) : fN (FP.dmul x (FP.i2d (iz t))) := by
  obtain ⟨s, c, q, e, hc⟩ := fNZ_e (fa_i2d t.toNat (by omega) (by omega))
  rw [Int.toNat_of_nonneg (by omega)] at e
  have hx := fa_dec64 h
  have ok : fOk64 (FP.Core.round FP.Core.b64 (FP.Core.exactProduct (FP.Core.decode FP.Core.b64 x.toNat) (FP.Core.decode FP.Core.b64 (FP.i2d (iz t)).toNat))) := by
    apply fa_round64
    rw [e]
    cases hd : FP.Core.decode FP.Core.b64 x.toNat with
    | nan => exact absurd hd hx
    | inf s2 =>
      show (if c = 0 then FP.Core.Datum.nan else .inf (s2 != s)) ≠ .nan
      rw [if_neg hc]; exact FP.Core.Datum.noConfusion
    | fin s2 c2 q2 => exact FP.Core.Datum.noConfusion
  show (UInt64.ofNat (FP.Core.encode FP.Core.b64 _)).toNat % 9223372036854775808 ≤ 9218868437227405312
  rw [fa_bits64 ok]
  exact (fa_enc64 ok).1
theorem fa_div {x : UInt64} (h : fN x) {t : Int} (h1 : 1 ≤ t) (h2 : t ≤ 120) : fN (FP.ddiv x (FP.i2d (iz t))) := by
  obtain ⟨s, c, q, e, hc⟩ := fNZ_e (fa_i2d t.toNat (by omega) (by omega))
  rw [Int.toNat_of_nonneg (by omega)] at e
  have hx := fa_dec64 h
  have ok : fOk64 (FP.Core.quotient FP.Core.b64 (FP.Core.decode FP.Core.b64 x.toNat) (FP.Core.decode FP.Core.b64 (FP.i2d (iz t)).toNat)) := by
    rw [e]
    exact fa_quot64 hx hc
  show (UInt64.ofNat (FP.Core.encode FP.Core.b64 _)).toNat % 9223372036854775808 ≤ 9218868437227405312
  rw [fa_bits64 ok]
  exact (fa_enc64 ok).1
theorem fa_cmp {x : UInt64} (h : fN x) : Op.cmpValue (FP.dcmp x x) .l = 0 := by
  have e : FP.dcmp x x = some .eq := fa_self64 (fa_dec64 h)
  rw [e]
  rfl
theorem fa_lead {n : Nat} (h : n < 16777216) : FP.Core.leading n 1 ≤ 23 := by
  have h1 : n.log2 ≤ 23 := by
    by_cases h0 : n = 0
    · rw [h0]; decide
    · have := (Nat.log2_lt h0 (k := 24)).mpr (by omega)
      omega
  unfold FP.Core.leading
  rw [show Nat.log2 1 = 0 from by decide]
  show (if _ then (n.log2 : Int) - ((0 : Nat) : Int) else (n.log2 : Int) - ((0 : Nat) : Int) - 1) ≤ 23
  have h2 : (n.log2 : Int) - ((0 : Nat) : Int) ≤ 23 := by omega
  split
  · exact h2
  · exact Int.le_trans (Int.sub_le_self _ (by decide)) h2
theorem fa_i2f {r : Int} (h1 : 1 ≤ r) (h2 : r < 16777216) : ∃ s c q, FP.Core.decode FP.Core.b32 (FP.i2f (iz r)).toNat = .fin s c q ∧ c ≠ 0 := by
  have et : (iz r).toInt = r := iz_toInt (by omega) (by omega)
  obtain ⟨n, rfl⟩ : ∃ n : Nat, r = n := ⟨r.toNat, by omega⟩
  have hl := fa_lead (n := n) (by omega)
  obtain ⟨q, hq⟩ : ∃ q, q = FP.Core.quantum FP.Core.b32 n 1 0 := ⟨_, rfl⟩
  have hq0 : q ≤ 0 ∧ -149 ≤ q := by
    rw [hq]
    unfold FP.Core.quantum
    rw [fa_qmin32, show ((FP.Core.b32.p : Int)) = 24 from by decide]
    omega
  have er : FP.Core.round FP.Core.b32 (FP.Core.ofInt (n : Int)) = FP.Core.settle FP.Core.b32 false (n * 2 ^ (0 - q).toNat) q := by
    show FP.Core.roundRatio FP.Core.b32 (decide ((n : Int) < 0)) (n : Int).natAbs 1 0 = _
    unfold FP.Core.roundRatio FP.Core.roundAt
    rw [show (n : Int).natAbs = n from rfl, if_neg (by omega), ← hq, show decide ((n : Int) < 0) = false from decide_eq_false (by omega)]
    unfold FP.Core.unitsNum FP.Core.unitsDen FP.Core.nearest
    rw [show (q - 0).toNat = 0 from by omega]
    rw [show (1 : Nat) * 2 ^ 0 = 1 from rfl, Nat.mod_one, if_pos (by decide), Nat.div_one]
  have hp : 0 < n * 2 ^ (0 - q).toNat := Nat.mul_pos (by omega) (Nat.two_pow_pos _)
  have key : ∃ c z, FP.Core.settle FP.Core.b32 false (n * 2 ^ (0 - q).toNat) q = .fin false c z ∧ 0 < c ∧ c < 16777216 ∧ -149 ≤ z ∧ z ≤ 1 := by
    unfold FP.Core.settle FP.Core.bound
    rw [fa_qmax32, fa_p32, fa_tails32]
    by_cases h3 : n * 2 ^ (0 - q).toNat < 16777216
    · rw [if_pos h3, if_pos (by omega)]; exact ⟨_, _, rfl, hp, h3, by omega, by omega⟩
    · rw [if_neg h3, if_pos (by omega)]; exact ⟨_, _, rfl, by decide, by decide, by omega, by omega⟩
  obtain ⟨c, z, ek, c1, c2, z1, z2⟩ := key
  have eb : (FP.i2f (iz (n : Int))).toNat = FP.Core.encode FP.Core.b32 (.fin false c z) := by
    show (UInt32.ofNat (FP.Core.encode FP.Core.b32 (FP.Core.round FP.Core.b32 (FP.Core.ofInt (iz (n : Int)).toInt)))).toNat = _
    rw [et, er, ek]
    exact fa_bits32 (Or.inr ⟨false, c, z, rfl, c2, by omega⟩)
  rw [eb]
  have ee : FP.Core.encode FP.Core.b32 (.fin false c z) = if c < 8388608 then c else ((z - -149).toNat + 1) * 8388608 + (c - 8388608) := by
    show (if c < FP.Core.b32.tails then FP.Core.assemble FP.Core.b32 false 0 c else FP.Core.assemble FP.Core.b32 false ((z - FP.Core.b32.qmin).toNat + 1) (c - FP.Core.b32.tails)) = _
    unfold FP.Core.assemble
    rw [fa_exps32, fa_tails32, fa_qmin32]
    by_cases h3 : c < 8388608
    · rw [if_pos h3, if_pos h3]
      show (0 * 256 + 0) * 8388608 + c = c
      omega
    · rw [if_neg h3, if_neg h3]
      show (0 * 256 + ((z - -149).toNat + 1)) * 8388608 + (c - 8388608) = _
      omega
  rw [ee]
  unfold FP.Core.decode FP.Core.fieldE FP.Core.fieldT
  rw [fa_exps32, fa_tails32]
  by_cases h3 : c < 8388608
  · rw [if_pos h3, if_neg (by omega), if_pos (by omega)]
    exact ⟨_, _, _, rfl, by omega⟩
  · rw [if_neg h3, if_neg (by omega), if_neg (by omega)]
    exact ⟨_, _, _, rfl, by omega⟩
theorem fa_i2fn (v : Int32) : FP.Core.decode FP.Core.b32 (FP.i2f v).toNat ≠ .nan := by
  have ok : fOk32 (FP.Core.round FP.Core.b32 (FP.Core.ofInt v.toInt)) := fa_round32 FP.Core.Datum.noConfusion
  show FP.Core.decode FP.Core.b32 (UInt32.ofNat (FP.Core.encode FP.Core.b32 _)).toNat ≠ .nan
  rw [fa_bits32 ok]
  exact fa_dec32 (fa_enc32 ok).1
theorem fa_share (k : Int32) {r : Int} (h1 : 1 ≤ r) (h2 : r < 16777216) : FP.fdiv (FP.i2f k) (FP.i2f (iz r)) &&& 0x7fffffff ≤ 0x7f800000 ∧ fN (FP.f2d (FP.fdiv (FP.i2f k) (FP.i2f (iz r)))) := by
  obtain ⟨s, c, q, e, hc⟩ := fa_i2f h1 h2
  have ok : fOk32 (FP.Core.quotient FP.Core.b32 (FP.Core.decode FP.Core.b32 (FP.i2f k).toNat) (FP.Core.decode FP.Core.b32 (FP.i2f (iz r)).toNat)) := by
    rw [e]; exact fa_quot32 (fa_i2fn k) hc
  have eb : (FP.fdiv (FP.i2f k) (FP.i2f (iz r))).toNat % 2147483648 ≤ 2139095040 := by
    show (UInt32.ofNat (FP.Core.encode FP.Core.b32 _)).toNat % 2147483648 ≤ 2139095040
    rw [fa_bits32 ok]
    exact (fa_enc32 ok).1
  refine ⟨fa_guard32 eb, ?_⟩
  have hd := fa_dec32 eb
  have hn : FP.Core.fIsNaN (FP.fdiv (FP.i2f k) (FP.i2f (iz r))) = false := decide_eq_false hd
  have ef : FP.f2d (FP.fdiv (FP.i2f k) (FP.i2f (iz r))) = FP.Core.f2d (FP.fdiv (FP.i2f k) (FP.i2f (iz r))) := by
    unfold FP.f2d
    rw [hn]
    rfl
  rw [ef]
  have ok2 : fOk64 (FP.Core.round FP.Core.b64 (FP.Core.decode FP.Core.b32 (FP.fdiv (FP.i2f k) (FP.i2f (iz r))).toNat)) := fa_round64 hd
  show (UInt64.ofNat (FP.Core.encode FP.Core.b64 _)).toNat % 9223372036854775808 ≤ 9218868437227405312
  rw [fa_bits64 ok2]
  exact (fa_enc64 ok2).1
