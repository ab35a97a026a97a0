theorem zf_b {v : Int32} (h : v &&& 1 = v) : fits .boolean (.int v) = true := by
  have e := pk_and v (m := 1) 1 (by decide)
  rw [h, show 2 ^ 1 = 2 from rfl] at e
  rcases Nat.mod_two_eq_zero_or_one v.toBitVec.toNat with q | q
  · rw [q] at e; rw [e]; rfl
  · rw [q] at e; rw [e]; rfl
