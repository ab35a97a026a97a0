/-! one list of words for all methods: the tables' good words -/
def lw_all : List Cond := lw_tbl.filter goodWord
theorem lw_all_in {w : Cond} (h : w ∈ lw_tbl) (g : goodWord w = true) : w ∈ lw_all := List.mem_filter.mpr ⟨h, g⟩
theorem lw_all_tbl {w : Cond} (h : w ∈ lw_all) : w ∈ lw_tbl := (List.mem_filter.mp h).1
theorem lw_all_good : GoodIn lw_all lw_all := fun _ h => ⟨h, good_of_word (List.mem_filter.mp h).2⟩
abbrev ws_ (y : MethodName) (b : ByteArray) (n : Nat) (r : Option FieldType) : List Cond := .code y b n r :: lw_all
theorem lw_g {w : Cond} (h : w ∈ lw_all) : w ∈ lw_all ∧ ((w.onTables && w.keeps) = true ∨ ∃ ty, w = .arrayClass ty) := lw_all_good w h
theorem lw_gd {y : MethodName} {b : ByteArray} {n : Nat} {r : Option FieldType} (h : Cond.code y b n r ∈ lw_all) : GoodIn lw_all (ws_ y b n r) := fun w hw => (List.mem_cons.mp hw).elim (fun e => by rw [e]; exact lw_g h) (fun h => lw_g h)
theorem lw_gV {own C : String} {idx : Nat} {y : MethodName} {b : ByteArray} {n : Nat} {r : Option FieldType} (h1 : Cond.methodLink own idx y ∈ lw_all) (h2 : Cond.instanceMethod y ∈ lw_all) (h3 : Cond.selects C y y ∈ lw_all) (h4 : Cond.initialized C ∈ lw_all) (h : Cond.code y b n r ∈ lw_all) : GoodIn lw_all (wsV own idx C y (ws_ y b n r)) := by
  intro w hw
  rcases List.mem_append.mp hw with h' | h'
  · simp only [List.mem_cons, List.not_mem_nil, or_false] at h'
    rcases h' with rfl | rfl | rfl | rfl <;> apply lw_g <;> assumption
  · exact lw_gd h w h'
theorem lw_gS {own : String} {idx : Nat} {y : MethodName} {b : ByteArray} {n : Nat} {r : Option FieldType} (h1 : Cond.methodLink own idx y ∈ lw_all) (h2 : Cond.static y ∈ lw_all) (h4 : Cond.initialized y.cls ∈ lw_all) (h : Cond.code y b n r ∈ lw_all) : GoodIn lw_all (va_wsS own idx y (ws_ y b n r)) := by
  intro w hw
  rcases List.mem_append.mp hw with h' | h'
  · simp only [List.mem_cons, List.not_mem_nil, or_false] at h'
    rcases h' with rfl | rfl | rfl <;> apply lw_g <;> assumption
  · exact lw_gd h w h'
