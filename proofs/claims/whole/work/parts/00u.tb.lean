/-! the tables' words that move -/
def en_tb : List Cond := lw_tbl.filter goodWord
theorem en_tbi {w : Cond} (h : w ∈ lw_tbl) (hg : goodWord w = true) : w ∈ en_tb := List.mem_filter.mpr ⟨h, hg⟩
theorem en_tbg : ∀ w ∈ en_tb, (w.onTables && w.keeps) = true ∨ ∃ ty, w = .arrayClass ty := fun _ h => good_of_word (List.mem_filter.mp h).2
