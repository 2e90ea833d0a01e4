/-- the words that every method has -/
def mm_W0 : List Cond := lw_tbl.filter goodWord
theorem mm_w (i : Nat) {w : Cond} (h : lw_tbl[i]? = some w) (g : goodWord w = true) : w ∈ mm_W0 := List.mem_filter.mpr ⟨List.mem_of_getElem? h, g⟩
theorem mm_good {w : Cond} (h : w ∈ mm_W0) : GoodIn mm_W0 (w :: mm_W0) := by
  intro x hx
  have hm : x ∈ mm_W0 := by
    rcases List.mem_cons.mp hx with rfl | hx
    · exact h
    · exact hx
  exact ⟨hm, good_of_word (List.mem_filter.mp hm).2⟩
