def pBit (x : Int32) (b : Nat) : Bool := decide (((x >>> (iz b &&& iz 31)) &&& iz 1) = iz 1)
theorem pBit_e (x : Int32) (b : Nat) : (((x >>> (iz b &&& iz 31)) &&& iz 1) = iz 1) = (pBit x b = true) := propext decide_eq_true_iff.symm
def pIn (x : Int32) : Nat → Nat → List Nat
  | 0, _ => []
  | n + 1, b => if pBit x b = true then b :: pIn x n (b + 1) else pIn x n (b + 1)
def pOut (f : Nat → Int32) : Nat → Nat → List Nat
  | 0, _ => []
  | n + 1, k => pIn (f k) 8 1 ++ pOut f n (k + 1)
theorem pIn_s (x : Int32) (n b : Nat) : pIn x (n + 1) b = if pBit x b = true then b :: pIn x n (b + 1) else pIn x n (b + 1) := rfl
theorem pOut_s (f : Nat → Int32) (n k : Nat) : pOut f (n + 1) k = pIn (f k) 8 1 ++ pOut f n (k + 1) := rfl
theorem pOut_c {f g : Nat → Int32} : ∀ (n k : Nat), (∀ s, k ≤ s → s < k + n → f s = g s) → pOut f n k = pOut g n k := by
  intro n
  induction n with
  | zero => intro k _; rfl
  | succ n ih =>
    intro k h
    rw [pOut_s, pOut_s, h k (by omega) (by omega), ih (k + 1) (fun s a b => h s (by omega) (by omega))]
theorem pIn_len (x : Int32) : ∀ (n b : Nat), (pIn x n b).length ≤ n := by
  intro n
  induction n with
  | zero => intro b; exact Nat.le_refl 0
  | succ n ih =>
    intro b
    have := ih (b + 1)
    rw [pIn_s]
    split
    · rw [List.length_cons]; omega
    · omega
theorem pOut_len (f : Nat → Int32) : ∀ (n k : Nat), (pOut f n k).length ≤ 8 * n := by
  intro n
  induction n with
  | zero => intro b; exact Nat.le_refl 0
  | succ n ih =>
    intro k
    have := ih (k + 1)
    have := pIn_len (f k) 8 1
    rw [pOut_s, List.length_append]
    omega
theorem pIn_b (x : Int32) : ∀ (n b : Nat), ∀ y ∈ pIn x n b, b ≤ y ∧ y < b + n := by
  intro n
  induction n with
  | zero => intro b y hy; cases hy
  | succ n ih =>
    intro b y hy
    rw [pIn_s] at hy
    split at hy
    · rcases List.mem_cons.mp hy with rfl | h
      · omega
      · have := ih (b + 1) y h; omega
    · have := ih (b + 1) y hy; omega
theorem pOut_b (f : Nat → Int32) : ∀ (n k : Nat), ∀ y ∈ pOut f n k, 1 ≤ y ∧ y ≤ 8 := by
  intro n
  induction n with
  | zero => intro b y hy; cases hy
  | succ n ih =>
    intro k y hy
    rw [pOut_s] at hy
    rcases List.mem_append.mp hy with h | h
    · have := pIn_b (f k) 8 1 y h; omega
    · exact ih (k + 1) y h
def rg (c : Int) (f : Nat → Int32) (b : Nat) (n : Int) : Nat → Int32 := if c = 0 then f else upd f b (f b + iz n)
theorem rg_0 (f : Nat → Int32) (b : Nat) (n : Int) : rg 0 f b n = f := if_pos rfl
theorem rg_1 (f : Nat → Int32) (b : Nat) (n : Int) : rg 1 f b n = upd f b (f b + iz n) := if_neg (by decide)
theorem pb_rings {c : Int} (hc : c = 0 ∨ c = 1) (f : Nat → Int32) {b : Nat} (hb : b < 9) (n : Int) : X9_rings_f (iz c) f (iz b) (iz n) = some (iz n, rg c f b n) := by
  unfold X9_rings_f X9_rings_b17
  rcases hc with rfl | rfl
  · simp (disch := omega) only [n3_0, n3_1, n3_2, n3_3, n3_4, n3_5, n3_6, n3_7, n3_8, n3_9, n3_10, n3_11, n3_12, n3_20, n3_23, n3_24, n3_28, n3_29, n3_30, n3_31, n3_32, n3_40, n3_60, n3_120, n3_128, n3_365, n3_366, n3_400, n3_100, n3_600, n3_700, n3_900, n3_1600, n3_2000, n3_3000, n3_3600, n3_5000, n3_86400, n3_m1, n3_m600, n3_m3600, n6_0, n6_1, n6_2, n6_3, n6_4, n6_7, n6_60, n6_100, n6_365, n6_366, n6_400, n6_900, n6_1461, n6_36524, n6_146097, iz_add, iz_sub, iz_mul, iz_neg, iz_div, iz_lt, iz_le, iz_eq, iz_l, lz_i, iz_nat, lz_add, lz_sub, lz_mul, lz_div, lz_lt, lz_le, lz_eq, lc_ge, lc_le, lc_eq, Option.bind_some, b01_z, b01_a, b01_1, iz_01, iz_11, pv_def, eq_self, not_true_eq_false, not_false_eq_true, if_true, if_false, if_pos, if_neg, rg_0]
  · simp (disch := omega) only [n3_0, n3_1, n3_2, n3_3, n3_4, n3_5, n3_6, n3_7, n3_8, n3_9, n3_10, n3_11, n3_12, n3_20, n3_23, n3_24, n3_28, n3_29, n3_30, n3_31, n3_32, n3_40, n3_60, n3_120, n3_128, n3_365, n3_366, n3_400, n3_100, n3_600, n3_700, n3_900, n3_1600, n3_2000, n3_3000, n3_3600, n3_5000, n3_86400, n3_m1, n3_m600, n3_m3600, n6_0, n6_1, n6_2, n6_3, n6_4, n6_7, n6_60, n6_100, n6_365, n6_366, n6_400, n6_900, n6_1461, n6_36524, n6_146097, iz_add, iz_sub, iz_mul, iz_neg, iz_div, iz_lt, iz_le, iz_eq, iz_l, lz_i, iz_nat, lz_add, lz_sub, lz_mul, lz_div, lz_lt, lz_le, lz_eq, lc_ge, lc_le, lc_eq, Option.bind_some, b01_z, b01_a, b01_1, iz_01, iz_11, pv_def, eq_self, not_true_eq_false, not_false_eq_true, if_true, if_false, if_pos, if_neg, rg_1, Int.toNat_natCast]
theorem pb_L13 {c : Int} (hc : c = 0 ∨ c = 1) (pins : Nat → Int32) {d s : Nat} (hd : d < 4) (hs : s < 32) (k4 : Int32 → Int32 → (Nat → Int32) → Option (Int32 × (Nat → Int32))) : ∀ (n j b : Nat) (acc : Int) (f : Nat → Int32), 1 ≤ b → b + j = 9 → j < n → X9_plays_L13 (iz c) pins (iz d) k4 n (iz acc) (iz s) (iz b) f = k4 (iz (acc + (pIn (pins (32 * d + s)) j b).length)) (iz ((s : Int) + 1)) ((pIn (pins (32 * d + s)) j b).foldl (fun g y => rg c g y 1) f) := by
  intro n
  induction n with
  | zero => intro j b acc f a1 a2 a3; omega
  | succ n ih =>
    intro j b acc f a1 a2 a3
    show X9_plays_L13_body (iz c) pins (iz d) k4 (X9_plays_L13 (iz c) pins (iz d) k4 n) (iz acc) (iz s) (iz b) f = _
    unfold X9_plays_L13_body X9_plays_b50
    have e1 : (32 * (d : Int) + (s : Int)).toNat = 32 * d + s := by omega
    cases j with
    | zero =>
      simp (disch := omega) only [n3_0, n3_1, n3_2, n3_3, n3_4, n3_5, n3_6, n3_7, n3_8, n3_9, n3_10, n3_11, n3_12, n3_20, n3_23, n3_24, n3_28, n3_29, n3_30, n3_31, n3_32, n3_40, n3_60, n3_120, n3_128, n3_365, n3_366, n3_400, n3_100, n3_600, n3_700, n3_900, n3_1600, n3_2000, n3_3000, n3_3600, n3_5000, n3_86400, n3_m1, n3_m600, n3_m3600, n6_0, n6_1, n6_2, n6_3, n6_4, n6_7, n6_60, n6_100, n6_365, n6_366, n6_400, n6_900, n6_1461, n6_36524, n6_146097, iz_add, iz_sub, iz_mul, iz_neg, iz_div, iz_lt, iz_le, iz_eq, iz_l, lz_i, iz_nat, lz_add, lz_sub, lz_mul, lz_div, lz_lt, lz_le, lz_eq, lc_ge, lc_le, lc_eq, Option.bind_some, b01_z, b01_a, b01_1, iz_01, iz_11, pv_def, eq_self, not_true_eq_false, not_false_eq_true, if_true, if_false, if_pos, if_neg]
      rw [show pIn (pins (32 * d + s)) 0 b = [] from rfl]
      simp
    | succ j =>
      have er := pb_rings hc f (b := b) (by omega) 1
      simp (disch := omega) only [n3_0, n3_1, n3_2, n3_3, n3_4, n3_5, n3_6, n3_7, n3_8, n3_9, n3_10, n3_11, n3_12, n3_20, n3_23, n3_24, n3_28, n3_29, n3_30, n3_31, n3_32, n3_40, n3_60, n3_120, n3_128, n3_365, n3_366, n3_400, n3_100, n3_600, n3_700, n3_900, n3_1600, n3_2000, n3_3000, n3_3600, n3_5000, n3_86400, n3_m1, n3_m600, n3_m3600, n6_0, n6_1, n6_2, n6_3, n6_4, n6_7, n6_60, n6_100, n6_365, n6_366, n6_400, n6_900, n6_1461, n6_36524, n6_146097, iz_add, iz_sub, iz_mul, iz_neg, iz_div, iz_lt, iz_le, iz_eq, iz_l, lz_i, iz_nat, lz_add, lz_sub, lz_mul, lz_div, lz_lt, lz_le, lz_eq, lc_ge, lc_le, lc_eq, Option.bind_some, b01_z, b01_a, b01_1, iz_01, iz_11, pv_def, eq_self, not_true_eq_false, not_false_eq_true, if_true, if_false, if_pos, if_neg, e1, pBit_e, er]
      rw [pIn_s]
      by_cases hp : pBit (pins (32 * d + s)) b = true
      · rw [if_pos hp, if_pos hp]
        refine (ih j (b + 1) (acc + 1) _ (by omega) (by omega) (by omega)).trans ?_
        rw [List.length_cons, List.foldl_cons]
        congr 2
        omega
      · rw [if_neg hp, if_neg hp]
        exact ih j (b + 1) acc f (by omega) (by omega) (by omega)
theorem pb_L4 {N : Nat} (hN : 20 ≤ N) {c : Int} (hc : c = 0 ∨ c = 1) (pins : Nat → Int32) {d : Nat} (hd : d < 4) : ∀ (n t s : Nat) (acc : Int) (f : Nat → Int32), s + t = 32 → t < n → X9_plays_L4 N (iz c) pins (iz d) n (iz acc) (iz s) f = some (iz (acc + (pOut (fun s => pins (32 * d + s)) t s).length), (pOut (fun s => pins (32 * d + s)) t s).foldl (fun g y => rg c g y 1) f) := by
  intro n
  induction n with
  | zero => intro t s acc f a1 a2; omega
  | succ n ih =>
    intro t s acc f a1 a2
    show X9_plays_L4_body N (iz c) pins (iz d) (X9_plays_L4 N (iz c) pins (iz d) n) (iz acc) (iz s) f = _
    unfold X9_plays_L4_body
    cases t with
    | zero =>
      simp (disch := omega) only [n3_0, n3_1, n3_2, n3_3, n3_4, n3_5, n3_6, n3_7, n3_8, n3_9, n3_10, n3_11, n3_12, n3_20, n3_23, n3_24, n3_28, n3_29, n3_30, n3_31, n3_32, n3_40, n3_60, n3_120, n3_128, n3_365, n3_366, n3_400, n3_100, n3_600, n3_700, n3_900, n3_1600, n3_2000, n3_3000, n3_3600, n3_5000, n3_86400, n3_m1, n3_m600, n3_m3600, n6_0, n6_1, n6_2, n6_3, n6_4, n6_7, n6_60, n6_100, n6_365, n6_366, n6_400, n6_900, n6_1461, n6_36524, n6_146097, iz_add, iz_sub, iz_mul, iz_neg, iz_div, iz_lt, iz_le, iz_eq, iz_l, lz_i, iz_nat, lz_add, lz_sub, lz_mul, lz_div, lz_lt, lz_le, lz_eq, lc_ge, lc_le, lc_eq, Option.bind_some, b01_z, b01_a, b01_1, iz_01, iz_11, pv_def, eq_self, not_true_eq_false, not_false_eq_true, if_true, if_false, if_pos, if_neg]
      rw [show pOut (fun s => pins (32 * d + s)) 0 s = [] from rfl]
      simp
    | succ t =>
      simp (disch := omega) only [n3_0, n3_1, n3_2, n3_3, n3_4, n3_5, n3_6, n3_7, n3_8, n3_9, n3_10, n3_11, n3_12, n3_20, n3_23, n3_24, n3_28, n3_29, n3_30, n3_31, n3_32, n3_40, n3_60, n3_120, n3_128, n3_365, n3_366, n3_400, n3_100, n3_600, n3_700, n3_900, n3_1600, n3_2000, n3_3000, n3_3600, n3_5000, n3_86400, n3_m1, n3_m600, n3_m3600, n6_0, n6_1, n6_2, n6_3, n6_4, n6_7, n6_60, n6_100, n6_365, n6_366, n6_400, n6_900, n6_1461, n6_36524, n6_146097, iz_add, iz_sub, iz_mul, iz_neg, iz_div, iz_lt, iz_le, iz_eq, iz_l, lz_i, iz_nat, lz_add, lz_sub, lz_mul, lz_div, lz_lt, lz_le, lz_eq, lc_ge, lc_le, lc_eq, Option.bind_some, b01_z, b01_a, b01_1, iz_01, iz_11, pv_def, eq_self, not_true_eq_false, not_false_eq_true, if_true, if_false, if_pos, if_neg]
      refine (pb_L13 hc pins hd (by omega) _ N 8 1 acc f (by omega) (by omega) (by omega)).trans ?_
      refine (ih t (s + 1) _ _ (by omega) (by omega)).trans ?_
      rw [pOut_s, List.length_append, List.foldl_append]
      congr 3
      omega
theorem pb_plays {N : Nat} (hN : 100 ≤ N) {c : Int} (hc : c = 0 ∨ c = 1) (pins : Nat → Int32) {d : Nat} (hd : d < 4) (f : Nat → Int32) : X9_plays_f N (iz c) pins f (iz d) = some (iz (pOut (fun s => pins (32 * d + s)) 32 0).length, (pOut (fun s => pins (32 * d + s)) 32 0).foldl (fun g y => rg c g y 1) f) := by
  unfold X9_plays_f
  refine (pb_L4 (by omega) hc pins hd N 32 0 0 f (by omega) (by omega)).trans ?_
  rw [Int.zero_add]
/-- the class's drum -/
def DK (a : Nat) (L : List Nat) (K : Nat → Nat) (ro : Nat → Nat) : Prop := (a ∈ L ∧ K a = 1) ∧ (ro a ∈ L ∧ K (ro a) = 2)
theorem pb_has {a : Nat} {L : List Nat} {K : Nat → Nat} {ro : Nat → Nat} (h : DK a L K ro) (rw : Nat → Nat → Int32) {s b : Nat} (hs : s < 32) (hb : b ≤ 8) : X2_hasPin_f a L K ro rw (iz s) (iz b) = some (b01 (pBit (rw (ro a) s) b = true), ()) := by
  unfold X2_hasPin_f X2_hasPin_b31 X2_hasPin_b32
  have h1 := h.1
  have h2 := h.2
  simp (disch := omega) only [n3_0, n3_1, n3_2, n3_3, n3_4, n3_5, n3_6, n3_7, n3_8, n3_9, n3_10, n3_11, n3_12, n3_20, n3_23, n3_24, n3_28, n3_29, n3_30, n3_31, n3_32, n3_40, n3_60, n3_120, n3_128, n3_365, n3_366, n3_400, n3_100, n3_600, n3_700, n3_900, n3_1600, n3_2000, n3_3000, n3_3600, n3_5000, n3_86400, n3_m1, n3_m600, n3_m3600, n6_0, n6_1, n6_2, n6_3, n6_4, n6_7, n6_60, n6_100, n6_365, n6_366, n6_400, n6_900, n6_1461, n6_36524, n6_146097, iz_add, iz_sub, iz_mul, iz_neg, iz_div, iz_lt, iz_le, iz_eq, iz_l, lz_i, iz_nat, lz_add, lz_sub, lz_mul, lz_div, lz_lt, lz_le, lz_eq, lc_ge, lc_le, lc_eq, Option.bind_some, b01_z, b01_a, b01_1, iz_01, iz_11, pv_def, eq_self, not_true_eq_false, not_false_eq_true, if_true, if_false, if_pos, if_neg, pBit_e, Int.toNat_natCast]
  by_cases hp : pBit (rw (ro a) s) b = true
  · rw [if_pos hp, b01_t hp]
  · rw [if_neg hp, b01_f hp]
theorem pb_L10 {a : Nat} {L : List Nat} {K : Nat → Nat} {ro : Nat → Nat} (h : DK a L K ro) (rw : Nat → Nat → Int32) {s : Nat} (hs : s < 32) (k2 : Int32 → (Nat → Int32) → Option (Nat → Int32)) : ∀ (n j b : Nat) (f : Nat → Int32), 1 ≤ b → b + j = 9 → j < n → X2_play_L10 a L K ro rw k2 n (iz s) (iz b) f = k2 (iz ((s : Int) + 1)) ((pIn (rw (ro a) s) j b).foldl (fun g y => rg 1 g y 1) f) := by
  intro n
  induction n with
  | zero => intro j b f a1 a2 a3; omega
  | succ n ih =>
    intro j b f a1 a2 a3
    show X2_play_L10_body a L K ro rw k2 (X2_play_L10 a L K ro rw k2 n) (iz s) (iz b) f = _
    unfold X2_play_L10_body X2_play_b38 X2_play_b44
    cases j with
    | zero =>
      simp (disch := omega) only [n3_0, n3_1, n3_2, n3_3, n3_4, n3_5, n3_6, n3_7, n3_8, n3_9, n3_10, n3_11, n3_12, n3_20, n3_23, n3_24, n3_28, n3_29, n3_30, n3_31, n3_32, n3_40, n3_60, n3_120, n3_128, n3_365, n3_366, n3_400, n3_100, n3_600, n3_700, n3_900, n3_1600, n3_2000, n3_3000, n3_3600, n3_5000, n3_86400, n3_m1, n3_m600, n3_m3600, n6_0, n6_1, n6_2, n6_3, n6_4, n6_7, n6_60, n6_100, n6_365, n6_366, n6_400, n6_900, n6_1461, n6_36524, n6_146097, iz_add, iz_sub, iz_mul, iz_neg, iz_div, iz_lt, iz_le, iz_eq, iz_l, lz_i, iz_nat, lz_add, lz_sub, lz_mul, lz_div, lz_lt, lz_le, lz_eq, lc_ge, lc_le, lc_eq, Option.bind_some, b01_z, b01_a, b01_1, iz_01, iz_11, pv_def, eq_self, not_true_eq_false, not_false_eq_true, if_true, if_false, if_pos, if_neg]
      rw [show pIn (rw (ro a) s) 0 b = [] from rfl]
      simp
    | succ j =>
      have eh := pb_has h rw hs (b := b) (by omega)
      have h1 := h.1
      simp (disch := omega) only [n3_0, n3_1, n3_2, n3_3, n3_4, n3_5, n3_6, n3_7, n3_8, n3_9, n3_10, n3_11, n3_12, n3_20, n3_23, n3_24, n3_28, n3_29, n3_30, n3_31, n3_32, n3_40, n3_60, n3_120, n3_128, n3_365, n3_366, n3_400, n3_100, n3_600, n3_700, n3_900, n3_1600, n3_2000, n3_3000, n3_3600, n3_5000, n3_86400, n3_m1, n3_m600, n3_m3600, n6_0, n6_1, n6_2, n6_3, n6_4, n6_7, n6_60, n6_100, n6_365, n6_366, n6_400, n6_900, n6_1461, n6_36524, n6_146097, iz_add, iz_sub, iz_mul, iz_neg, iz_div, iz_lt, iz_le, iz_eq, iz_l, lz_i, iz_nat, lz_add, lz_sub, lz_mul, lz_div, lz_lt, lz_le, lz_eq, lc_ge, lc_le, lc_eq, Option.bind_some, b01_z, b01_a, b01_1, iz_01, iz_11, pv_def, eq_self, not_true_eq_false, not_false_eq_true, if_true, if_false, if_pos, if_neg, eh, Int.toNat_natCast]
      rw [pIn_s]
      by_cases hp : pBit (rw (ro a) s) b = true
      · rw [if_neg (by simp [hp]), if_pos hp, List.foldl_cons, rg_1]
        exact ih j (b + 1) _ (by omega) (by omega) (by omega)
      · rw [if_pos hp, if_neg hp]
        exact ih j (b + 1) f (by omega) (by omega) (by omega)
theorem pb_L2 {N : Nat} (hN : 20 ≤ N) {a : Nat} {L : List Nat} {K : Nat → Nat} {ro : Nat → Nat} (h : DK a L K ro) (rw : Nat → Nat → Int32) : ∀ (n t s : Nat) (f : Nat → Int32), s + t = 32 → t < n → X2_play_L2 N a L K ro rw n (iz s) f = some ((pOut (rw (ro a)) t s).foldl (fun g y => rg 1 g y 1) f) := by
  intro n
  induction n with
  | zero => intro t s f a1 a2; omega
  | succ n ih =>
    intro t s f a1 a2
    show X2_play_L2_body N a L K ro rw (X2_play_L2 N a L K ro rw n) (iz s) f = _
    unfold X2_play_L2_body
    cases t with
    | zero =>
      simp (disch := omega) only [n3_0, n3_1, n3_2, n3_3, n3_4, n3_5, n3_6, n3_7, n3_8, n3_9, n3_10, n3_11, n3_12, n3_20, n3_23, n3_24, n3_28, n3_29, n3_30, n3_31, n3_32, n3_40, n3_60, n3_120, n3_128, n3_365, n3_366, n3_400, n3_100, n3_600, n3_700, n3_900, n3_1600, n3_2000, n3_3000, n3_3600, n3_5000, n3_86400, n3_m1, n3_m600, n3_m3600, n6_0, n6_1, n6_2, n6_3, n6_4, n6_7, n6_60, n6_100, n6_365, n6_366, n6_400, n6_900, n6_1461, n6_36524, n6_146097, iz_add, iz_sub, iz_mul, iz_neg, iz_div, iz_lt, iz_le, iz_eq, iz_l, lz_i, iz_nat, lz_add, lz_sub, lz_mul, lz_div, lz_lt, lz_le, lz_eq, lc_ge, lc_le, lc_eq, Option.bind_some, b01_z, b01_a, b01_1, iz_01, iz_11, pv_def, eq_self, not_true_eq_false, not_false_eq_true, if_true, if_false, if_pos, if_neg]
      rw [show pOut (rw (ro a)) 0 s = [] from rfl]
      simp
    | succ t =>
      simp (disch := omega) only [n3_0, n3_1, n3_2, n3_3, n3_4, n3_5, n3_6, n3_7, n3_8, n3_9, n3_10, n3_11, n3_12, n3_20, n3_23, n3_24, n3_28, n3_29, n3_30, n3_31, n3_32, n3_40, n3_60, n3_120, n3_128, n3_365, n3_366, n3_400, n3_100, n3_600, n3_700, n3_900, n3_1600, n3_2000, n3_3000, n3_3600, n3_5000, n3_86400, n3_m1, n3_m600, n3_m3600, n6_0, n6_1, n6_2, n6_3, n6_4, n6_7, n6_60, n6_100, n6_365, n6_366, n6_400, n6_900, n6_1461, n6_36524, n6_146097, iz_add, iz_sub, iz_mul, iz_neg, iz_div, iz_lt, iz_le, iz_eq, iz_l, lz_i, iz_nat, lz_add, lz_sub, lz_mul, lz_div, lz_lt, lz_le, lz_eq, lc_ge, lc_le, lc_eq, Option.bind_some, b01_z, b01_a, b01_1, iz_01, iz_11, pv_def, eq_self, not_true_eq_false, not_false_eq_true, if_true, if_false, if_pos, if_neg]
      refine (pb_L10 h rw (by omega) _ N 8 1 f (by omega) (by omega) (by omega)).trans ?_
      refine (ih t (s + 1) _ (by omega) (by omega)).trans ?_
      rw [pOut_s, List.foldl_append]
theorem pb_play {N : Nat} (hN : 100 ≤ N) {a : Nat} {L : List Nat} {K : Nat → Nat} {ro : Nat → Nat} (h : DK a L K ro) (rw : Nat → Nat → Int32) (f : Nat → Int32) : X2_play_f N a f L K ro rw = some ((pOut (rw (ro a)) 32 0).foldl (fun g y => rg 1 g y 1) f) := by
  unfold X2_play_f
  exact pb_L2 (by omega) h rw N 32 0 f (by omega) (by omega)
/-- the pin of an index -/
def pick : List Nat → Int → Option Nat
  | [], _ => none
  | b :: l, q => if q = 0 then some b else pick l (q - 1)
theorem pick_c (b : Nat) (l : List Nat) (q : Int) : pick (b :: l) q = if q = 0 then some b else pick l (q - 1) := rfl
theorem pick_neg : ∀ (l : List Nat) (q : Int), q < 0 → pick l q = none := by
  intro l
  induction l with
  | nil => intro q _; rfl
  | cons b l ih => intro q h; rw [pick_c, if_neg (by omega)]; exact ih _ (by omega)
theorem pick_some : ∀ (l : List Nat) (q : Int), 0 ≤ q → q < l.length → ∃ b, pick l q = some b := by
  intro l
  induction l with
  | nil => intro q a b; simp at b; omega
  | cons b l ih =>
    intro q h1 h2
    rw [List.length_cons] at h2
    rw [pick_c]
    by_cases h : q = 0
    · exact ⟨b, if_pos h⟩
    · rw [if_neg h]
      exact ih _ (by omega) (by omega)
theorem pick_none : ∀ (l : List Nat) (q : Int), l.length ≤ q → pick l q = none := by
  intro l
  induction l with
  | nil => intro q _; rfl
  | cons b l ih =>
    intro q h
    rw [List.length_cons] at h
    rw [pick_c, if_neg (by omega)]
    exact ih _ (by omega)
theorem pick_app : ∀ (l m : List Nat) (q : Int), pick (l ++ m) q = (pick l q).elim (pick m (q - l.length)) some := by
  intro l
  induction l with
  | nil =>
    intro m q
    show pick m q = pick m (q - ((0 : Nat) : Int))
    congr 1
    omega
  | cons b l ih =>
    intro m q
    rw [List.cons_append, pick_c, pick_c, List.length_cons]
    by_cases h : q = 0
    · rw [if_pos h, if_pos h]; rfl
    · rw [if_neg h, if_neg h, ih]
      congr 2
      omega
theorem pb_L25 (pins : Nat → Int32) {d s : Nat} (hd : d < 4) (hs : s < 32) {q : Int} (hq : -2147483648 ≤ q) (hq2 : q ≤ 2147483647) (k15 : Int32 → Int32 → Int32 → Option (Int32 × Int32)) (th : Int32) : ∀ (n j b : Nat) (c : Int), 1 ≤ b → b + j = 9 → j < n → 0 ≤ c → c + j ≤ 1000 → X9_bellAt_L25 pins (iz d) (iz q) k15 n (iz c) (iz s) (iz b) th = (pick (pIn (pins (32 * d + s)) j b) (q - c)).elim (k15 (iz (c + (pIn (pins (32 * d + s)) j b).length)) (iz ((s : Int) + 1)) th) (fun y => some (iz y, th)) := by
  intro n
  induction n with
  | zero => intro j b c a1 a2 a3; omega
  | succ n ih =>
    intro j b c a1 a2 a3 a4 a5
    show X9_bellAt_L25_body pins (iz d) (iz q) k15 (X9_bellAt_L25 pins (iz d) (iz q) k15 n) (iz c) (iz s) (iz b) th = _
    unfold X9_bellAt_L25_body X9_bellAt_b64
    have e1 : (32 * (d : Int) + (s : Int)).toNat = 32 * d + s := by omega
    cases j with
    | zero =>
      simp (disch := omega) only [n3_0, n3_1, n3_2, n3_3, n3_4, n3_5, n3_6, n3_7, n3_8, n3_9, n3_10, n3_11, n3_12, n3_20, n3_23, n3_24, n3_28, n3_29, n3_30, n3_31, n3_32, n3_40, n3_60, n3_120, n3_128, n3_365, n3_366, n3_400, n3_100, n3_600, n3_700, n3_900, n3_1600, n3_2000, n3_3000, n3_3600, n3_5000, n3_86400, n3_m1, n3_m600, n3_m3600, n6_0, n6_1, n6_2, n6_3, n6_4, n6_7, n6_60, n6_100, n6_365, n6_366, n6_400, n6_900, n6_1461, n6_36524, n6_146097, iz_add, iz_sub, iz_mul, iz_neg, iz_div, iz_lt, iz_le, iz_eq, iz_l, lz_i, iz_nat, lz_add, lz_sub, lz_mul, lz_div, lz_lt, lz_le, lz_eq, lc_ge, lc_le, lc_eq, Option.bind_some, b01_z, b01_a, b01_1, iz_01, iz_11, pv_def, eq_self, not_true_eq_false, not_false_eq_true, if_true, if_false, if_pos, if_neg]
      show _ = k15 (iz (c + ((0 : Nat) : Int))) _ _
      rw [show c + ((0 : Nat) : Int) = c from by omega]
    | succ j =>
      simp (disch := omega) only [n3_0, n3_1, n3_2, n3_3, n3_4, n3_5, n3_6, n3_7, n3_8, n3_9, n3_10, n3_11, n3_12, n3_20, n3_23, n3_24, n3_28, n3_29, n3_30, n3_31, n3_32, n3_40, n3_60, n3_120, n3_128, n3_365, n3_366, n3_400, n3_100, n3_600, n3_700, n3_900, n3_1600, n3_2000, n3_3000, n3_3600, n3_5000, n3_86400, n3_m1, n3_m600, n3_m3600, n6_0, n6_1, n6_2, n6_3, n6_4, n6_7, n6_60, n6_100, n6_365, n6_366, n6_400, n6_900, n6_1461, n6_36524, n6_146097, iz_add, iz_sub, iz_mul, iz_neg, iz_div, iz_lt, iz_le, iz_eq, iz_l, lz_i, iz_nat, lz_add, lz_sub, lz_mul, lz_div, lz_lt, lz_le, lz_eq, lc_ge, lc_le, lc_eq, Option.bind_some, b01_z, b01_a, b01_1, iz_01, iz_11, pv_def, eq_self, not_true_eq_false, not_false_eq_true, if_true, if_false, if_pos, if_neg, e1, pBit_e]
      rw [pIn_s]
      by_cases hp : pBit (pins (32 * d + s)) b = true
      · rw [if_pos hp, if_pos hp, pick_c]
        by_cases hcq : c = q
        · rw [if_pos hcq, if_pos (by omega)]; rfl
        · rw [if_neg hcq, if_neg (by omega)]
          refine (ih j (b + 1) (c + 1) (by omega) (by omega) (by omega) (by omega) (by omega)).trans ?_
          rw [List.length_cons, show q - (c + 1) = q - c - 1 from by omega, show c + 1 + ((pIn (pins (32 * d + s)) j (b + 1)).length : Int) = c + (((pIn (pins (32 * d + s)) j (b + 1)).length + 1 : Nat) : Int) from by omega]
      · rw [if_neg hp, if_neg hp]
        exact ih j (b + 1) c (by omega) (by omega) (by omega) a4 (by omega)
theorem pb_L15 {N : Nat} (hN : 20 ≤ N) (pins : Nat → Int32) {d : Nat} (hd : d < 4) {q : Int} (hq : -2147483648 ≤ q) (hq2 : q ≤ 2147483647) (th : Int32) : ∀ (n t s : Nat) (c : Int), s + t = 32 → t < n → 0 ≤ c → c + 8 * t ≤ 900 → X9_bellAt_L15 N pins (iz d) (iz q) n (iz c) (iz s) th = some ((pick (pOut (fun s => pins (32 * d + s)) t s) (q - c)).elim (iz 0, iz 2) (fun y => (iz y, th))) := by
  intro n
  induction n with
  | zero => intro t s c a1 a2; omega
  | succ n ih =>
    intro t s c a1 a2 a3 a4
    show X9_bellAt_L15_body N pins (iz d) (iz q) (X9_bellAt_L15 N pins (iz d) (iz q) n) (iz c) (iz s) th = _
    unfold X9_bellAt_L15_body X9_fail_f
    cases t with
    | zero =>
      simp (disch := omega) only [n3_0, n3_1, n3_2, n3_3, n3_4, n3_5, n3_6, n3_7, n3_8, n3_9, n3_10, n3_11, n3_12, n3_20, n3_23, n3_24, n3_28, n3_29, n3_30, n3_31, n3_32, n3_40, n3_60, n3_120, n3_128, n3_365, n3_366, n3_400, n3_100, n3_600, n3_700, n3_900, n3_1600, n3_2000, n3_3000, n3_3600, n3_5000, n3_86400, n3_m1, n3_m600, n3_m3600, n6_0, n6_1, n6_2, n6_3, n6_4, n6_7, n6_60, n6_100, n6_365, n6_366, n6_400, n6_900, n6_1461, n6_36524, n6_146097, iz_add, iz_sub, iz_mul, iz_neg, iz_div, iz_lt, iz_le, iz_eq, iz_l, lz_i, iz_nat, lz_add, lz_sub, lz_mul, lz_div, lz_lt, lz_le, lz_eq, lc_ge, lc_le, lc_eq, Option.bind_some, b01_z, b01_a, b01_1, iz_01, iz_11, pv_def, eq_self, not_true_eq_false, not_false_eq_true, if_true, if_false, if_pos, if_neg]
      rfl
    | succ t =>
      simp (disch := omega) only [n3_0, n3_1, n3_2, n3_3, n3_4, n3_5, n3_6, n3_7, n3_8, n3_9, n3_10, n3_11, n3_12, n3_20, n3_23, n3_24, n3_28, n3_29, n3_30, n3_31, n3_32, n3_40, n3_60, n3_120, n3_128, n3_365, n3_366, n3_400, n3_100, n3_600, n3_700, n3_900, n3_1600, n3_2000, n3_3000, n3_3600, n3_5000, n3_86400, n3_m1, n3_m600, n3_m3600, n6_0, n6_1, n6_2, n6_3, n6_4, n6_7, n6_60, n6_100, n6_365, n6_366, n6_400, n6_900, n6_1461, n6_36524, n6_146097, iz_add, iz_sub, iz_mul, iz_neg, iz_div, iz_lt, iz_le, iz_eq, iz_l, lz_i, iz_nat, lz_add, lz_sub, lz_mul, lz_div, lz_lt, lz_le, lz_eq, lc_ge, lc_le, lc_eq, Option.bind_some, b01_z, b01_a, b01_1, iz_01, iz_11, pv_def, eq_self, not_true_eq_false, not_false_eq_true, if_true, if_false, if_pos, if_neg]
      have hl := pIn_len (pins (32 * d + s)) 8 1
      refine (pb_L25 pins hd (by omega) hq hq2 _ th N 8 1 c (by omega) (by omega) (by omega) a3 (by omega)).trans ?_
      rw [pOut_s, pick_app]
      have e := ih t (s + 1) (c + (pIn (pins (32 * d + s)) 8 1).length) (by omega) (by omega) (by omega) (by omega)
      cases hp : pick (pIn (pins (32 * d + s)) 8 1) (q - c) with
      | some y => rfl
      | none =>
        show X9_bellAt_L15 N pins (iz d) (iz q) n (iz (c + ((pIn (pins (32 * d + s)) 8 1).length : Int))) (iz ((s : Int) + 1)) th = some ((pick (pOut (fun s => pins (32 * d + s)) t (s + 1)) (q - c - ((pIn (pins (32 * d + s)) 8 1).length : Int))).elim (iz 0, iz 2) (fun y => (iz y, th)))
        rw [show q - c - ((pIn (pins (32 * d + s)) 8 1).length : Int) = q - (c + ((pIn (pins (32 * d + s)) 8 1).length : Int)) from by omega]
        exact e
theorem pb_L13b {a : Nat} {L : List Nat} {K : Nat → Nat} {ro : Nat → Nat} (h : DK a L K ro) (rw : Nat → Nat → Int32) {s : Nat} (hs : s < 32) (k4 : Int32 → Int32 → Option (Int32 × Unit)) : ∀ (n j b : Nat) (q : Int), 1 ≤ b → b + j = 9 → j < n → -2147483000 + j ≤ q → q ≤ 2147483647 → X2_bellOfPin_L13 a L K ro rw k4 n (iz q) (iz s) (iz b) = (pick (pIn (rw (ro a) s) j b) q).elim (k4 (iz (q - (pIn (rw (ro a) s) j b).length)) (iz ((s : Int) + 1))) (fun y => some (iz y, ())) := by
  intro n
  induction n with
  | zero => intro j b q a1 a2 a3; omega
  | succ n ih =>
    intro j b q a1 a2 a3 a4 a5
    show X2_bellOfPin_L13_body a L K ro rw k4 (X2_bellOfPin_L13 a L K ro rw k4 n) (iz q) (iz s) (iz b) = _
    unfold X2_bellOfPin_L13_body X2_bellOfPin_b40
    cases j with
    | zero =>
      simp (disch := omega) only [n3_0, n3_1, n3_2, n3_3, n3_4, n3_5, n3_6, n3_7, n3_8, n3_9, n3_10, n3_11, n3_12, n3_20, n3_23, n3_24, n3_28, n3_29, n3_30, n3_31, n3_32, n3_40, n3_60, n3_120, n3_128, n3_365, n3_366, n3_400, n3_100, n3_600, n3_700, n3_900, n3_1600, n3_2000, n3_3000, n3_3600, n3_5000, n3_86400, n3_m1, n3_m600, n3_m3600, n6_0, n6_1, n6_2, n6_3, n6_4, n6_7, n6_60, n6_100, n6_365, n6_366, n6_400, n6_900, n6_1461, n6_36524, n6_146097, iz_add, iz_sub, iz_mul, iz_neg, iz_div, iz_lt, iz_le, iz_eq, iz_l, lz_i, iz_nat, lz_add, lz_sub, lz_mul, lz_div, lz_lt, lz_le, lz_eq, lc_ge, lc_le, lc_eq, Option.bind_some, b01_z, b01_a, b01_1, iz_01, iz_11, pv_def, eq_self, not_true_eq_false, not_false_eq_true, if_true, if_false, if_pos, if_neg]
      show _ = k4 (iz (q - ((0 : Nat) : Int))) _
      rw [show q - ((0 : Nat) : Int) = q from by omega]
    | succ j =>
      have eh := pb_has h rw hs (b := b) (by omega)
      have h1 := h.1
      simp (disch := omega) only [n3_0, n3_1, n3_2, n3_3, n3_4, n3_5, n3_6, n3_7, n3_8, n3_9, n3_10, n3_11, n3_12, n3_20, n3_23, n3_24, n3_28, n3_29, n3_30, n3_31, n3_32, n3_40, n3_60, n3_120, n3_128, n3_365, n3_366, n3_400, n3_100, n3_600, n3_700, n3_900, n3_1600, n3_2000, n3_3000, n3_3600, n3_5000, n3_86400, n3_m1, n3_m600, n3_m3600, n6_0, n6_1, n6_2, n6_3, n6_4, n6_7, n6_60, n6_100, n6_365, n6_366, n6_400, n6_900, n6_1461, n6_36524, n6_146097, iz_add, iz_sub, iz_mul, iz_neg, iz_div, iz_lt, iz_le, iz_eq, iz_l, lz_i, iz_nat, lz_add, lz_sub, lz_mul, lz_div, lz_lt, lz_le, lz_eq, lc_ge, lc_le, lc_eq, Option.bind_some, b01_z, b01_a, b01_1, iz_01, iz_11, pv_def, eq_self, not_true_eq_false, not_false_eq_true, if_true, if_false, if_pos, if_neg, eh]
      rw [pIn_s]
      by_cases hp : pBit (rw (ro a) s) b = true
      · rw [if_neg (by simp [hp]), if_pos hp, pick_c]
        by_cases hcq : q = 0
        · rw [if_pos hcq, if_pos hcq]; rfl
        · rw [if_neg hcq, if_neg hcq]
          refine (ih j (b + 1) (q + -1) (by omega) (by omega) (by omega) (by omega) (by omega)).trans ?_
          rw [List.length_cons, show q + -1 = q - 1 from by omega, show q - 1 - ((pIn (rw (ro a) s) j (b + 1)).length : Int) = q - (((pIn (rw (ro a) s) j (b + 1)).length + 1 : Nat) : Int) from by omega]
      · rw [if_pos hp, if_neg hp]
        exact ih j (b + 1) q (by omega) (by omega) (by omega) (by omega) a5
theorem pb_L4b {N : Nat} (hN : 20 ≤ N) {a : Nat} {L : List Nat} {K : Nat → Nat} {ro : Nat → Nat} (h : DK a L K ro) (rw : Nat → Nat → Int32) : ∀ (n t s : Nat) (q : Int), s + t = 32 → t < n → -2147483000 + 8 * t ≤ q → q ≤ 2147483647 → X2_bellOfPin_L4 N a L K ro rw n (iz q) (iz s) = some (iz ((pick (pOut (rw (ro a)) t s) q).elim 0 (fun y => (y : Int))), ()) := by
  intro n
  induction n with
  | zero => intro t s q a1 a2; omega
  | succ n ih =>
    intro t s q a1 a2 a3 a4
    show X2_bellOfPin_L4_body N a L K ro rw (X2_bellOfPin_L4 N a L K ro rw n) (iz q) (iz s) = _
    unfold X2_bellOfPin_L4_body
    cases t with
    | zero =>
      simp (disch := omega) only [n3_0, n3_1, n3_2, n3_3, n3_4, n3_5, n3_6, n3_7, n3_8, n3_9, n3_10, n3_11, n3_12, n3_20, n3_23, n3_24, n3_28, n3_29, n3_30, n3_31, n3_32, n3_40, n3_60, n3_120, n3_128, n3_365, n3_366, n3_400, n3_100, n3_600, n3_700, n3_900, n3_1600, n3_2000, n3_3000, n3_3600, n3_5000, n3_86400, n3_m1, n3_m600, n3_m3600, n6_0, n6_1, n6_2, n6_3, n6_4, n6_7, n6_60, n6_100, n6_365, n6_366, n6_400, n6_900, n6_1461, n6_36524, n6_146097, iz_add, iz_sub, iz_mul, iz_neg, iz_div, iz_lt, iz_le, iz_eq, iz_l, lz_i, iz_nat, lz_add, lz_sub, lz_mul, lz_div, lz_lt, lz_le, lz_eq, lc_ge, lc_le, lc_eq, Option.bind_some, b01_z, b01_a, b01_1, iz_01, iz_11, pv_def, eq_self, not_true_eq_false, not_false_eq_true, if_true, if_false, if_pos, if_neg]
      rfl
    | succ t =>
      simp (disch := omega) only [n3_0, n3_1, n3_2, n3_3, n3_4, n3_5, n3_6, n3_7, n3_8, n3_9, n3_10, n3_11, n3_12, n3_20, n3_23, n3_24, n3_28, n3_29, n3_30, n3_31, n3_32, n3_40, n3_60, n3_120, n3_128, n3_365, n3_366, n3_400, n3_100, n3_600, n3_700, n3_900, n3_1600, n3_2000, n3_3000, n3_3600, n3_5000, n3_86400, n3_m1, n3_m600, n3_m3600, n6_0, n6_1, n6_2, n6_3, n6_4, n6_7, n6_60, n6_100, n6_365, n6_366, n6_400, n6_900, n6_1461, n6_36524, n6_146097, iz_add, iz_sub, iz_mul, iz_neg, iz_div, iz_lt, iz_le, iz_eq, iz_l, lz_i, iz_nat, lz_add, lz_sub, lz_mul, lz_div, lz_lt, lz_le, lz_eq, lc_ge, lc_le, lc_eq, Option.bind_some, b01_z, b01_a, b01_1, iz_01, iz_11, pv_def, eq_self, not_true_eq_false, not_false_eq_true, if_true, if_false, if_pos, if_neg]
      have hl := pIn_len (rw (ro a) s) 8 1
      refine (pb_L13b h rw (by omega) _ N 8 1 q (by omega) (by omega) (by omega) (by omega) a4).trans ?_
      rw [pOut_s, pick_app]
      have e := ih t (s + 1) (q - (pIn (rw (ro a) s) 8 1).length) (by omega) (by omega) (by omega) (by omega)
      cases hp : pick (pIn (rw (ro a) s) 8 1) q with
      | some y => rfl
      | none => exact e
theorem pb_bell {N : Nat} (hN : 100 ≤ N) {a : Nat} {L : List Nat} {K : Nat → Nat} {ro : Nat → Nat} (h : DK a L K ro) (rw : Nat → Nat → Int32) {q : Int} (hq : 0 ≤ q) (hq2 : q ≤ 2147483647) : X2_bellOfPin_f N a L K ro rw (iz q) = some (iz ((pick (pOut (rw (ro a)) 32 0) q).elim 0 (fun y => (y : Int))), ()) := by
  unfold X2_bellOfPin_f
  exact pb_L4b (by omega) h rw N 32 0 q (by omega) (by omega) (by omega) hq2
theorem pb_bc : ∀ z : Nat, z < 256 → J6_bitCount_0f7a4_f (iz (2 * (z : Int))) = some (iz (pIn (iz (2 * (z : Int))) 8 1).length, ()) := by decide +kernel
def pTg (z b : Nat) : Int32 := iz (2 * (z : Int)) ^^^ (iz 1 <<< (iz b &&& iz 31))
theorem pb_tg : ∀ z : Nat, z < 256 → ∀ b : Nat, b < 9 → 1 ≤ b → pTg z b = iz (2 * (((pTg z b).toNatClampNeg / 2 : Nat) : Int)) ∧ (pTg z b).toNatClampNeg / 2 < 256 ∧ (pIn (pTg z b) 8 1).length + (if pBit (iz (2 * (z : Int))) b = true then 1 else 0) = (pIn (iz (2 * (z : Int))) 8 1).length + (if pBit (iz (2 * (z : Int))) b = true then 0 else 1) := by decide +kernel
theorem pb_L14 (pins : Nat → Int32) {d : Nat} (hd : d < 4) (hz : ∀ s, s < 32 → ∃ z : Nat, z < 256 ∧ pins (32 * d + s) = iz (2 * (z : Int))) (th : Int32) : ∀ (n t s : Nat) (c : Int), s + t = 32 → t < n → X9_pins_L14 pins (iz d) n (iz c) (iz s) th = some (iz (c + (pOut (fun s => pins (32 * d + s)) t s).length), th) := by
  intro n
  induction n with
  | zero => intro t s c a1 a2; omega
  | succ n ih =>
    intro t s c a1 a2
    show X9_pins_L14_body pins (iz d) (X9_pins_L14 pins (iz d) n) (iz c) (iz s) th = _
    unfold X9_pins_L14_body
    have e1 : (32 * (d : Int) + (s : Int)).toNat = 32 * d + s := by omega
    cases t with
    | zero =>
      simp (disch := omega) only [n3_0, n3_1, n3_2, n3_3, n3_4, n3_5, n3_6, n3_7, n3_8, n3_9, n3_10, n3_11, n3_12, n3_20, n3_23, n3_24, n3_28, n3_29, n3_30, n3_31, n3_32, n3_40, n3_60, n3_120, n3_128, n3_365, n3_366, n3_400, n3_100, n3_600, n3_700, n3_900, n3_1600, n3_2000, n3_3000, n3_3600, n3_5000, n3_86400, n3_m1, n3_m600, n3_m3600, n6_0, n6_1, n6_2, n6_3, n6_4, n6_7, n6_60, n6_100, n6_365, n6_366, n6_400, n6_900, n6_1461, n6_36524, n6_146097, iz_add, iz_sub, iz_mul, iz_neg, iz_div, iz_lt, iz_le, iz_eq, iz_l, lz_i, iz_nat, lz_add, lz_sub, lz_mul, lz_div, lz_lt, lz_le, lz_eq, lc_ge, lc_le, lc_eq, Option.bind_some, b01_z, b01_a, b01_1, iz_01, iz_11, pv_def, eq_self, not_true_eq_false, not_false_eq_true, if_true, if_false, if_pos, if_neg]
      rw [show pOut (fun s => pins (32 * d + s)) 0 s = [] from rfl]
      simp
    | succ t =>
      obtain ⟨z, hz1, hz2⟩ := hz s (by omega)
      have eb := pb_bc z hz1
      simp (disch := omega) only [n3_0, n3_1, n3_2, n3_3, n3_4, n3_5, n3_6, n3_7, n3_8, n3_9, n3_10, n3_11, n3_12, n3_20, n3_23, n3_24, n3_28, n3_29, n3_30, n3_31, n3_32, n3_40, n3_60, n3_120, n3_128, n3_365, n3_366, n3_400, n3_100, n3_600, n3_700, n3_900, n3_1600, n3_2000, n3_3000, n3_3600, n3_5000, n3_86400, n3_m1, n3_m600, n3_m3600, n6_0, n6_1, n6_2, n6_3, n6_4, n6_7, n6_60, n6_100, n6_365, n6_366, n6_400, n6_900, n6_1461, n6_36524, n6_146097, iz_add, iz_sub, iz_mul, iz_neg, iz_div, iz_lt, iz_le, iz_eq, iz_l, lz_i, iz_nat, lz_add, lz_sub, lz_mul, lz_div, lz_lt, lz_le, lz_eq, lc_ge, lc_le, lc_eq, Option.bind_some, b01_z, b01_a, b01_1, iz_01, iz_11, pv_def, eq_self, not_true_eq_false, not_false_eq_true, if_true, if_false, if_pos, if_neg, e1, hz2, eb]
      refine (ih t (s + 1) _ (by omega) (by omega)).trans ?_
      rw [pOut_s, hz2, List.length_append]
      congr 3
      omega
