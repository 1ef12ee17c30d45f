theorem eg_W10_in : ∀ w ∈ eg_W10, w ∈ lw_tbl := sorry
