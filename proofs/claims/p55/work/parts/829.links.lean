/-! Links of two classes more. Written by program (wip/whole/gen/m829.py). -/
theorem wl_J8_194 : Cond.methodLink RJ8 194 yJ9_max_7cf53 ∈ ab_big := ab_big_mem 871 (by decide +kernel) (by decide)
theorem lk_J8_194 : ab_lkS RJ8 194 yJ9_max_7cf53 cJ9_max_7cf53 2 (some .int) 2 := ⟨List.forall_mem_cons.mpr ⟨wl_J8_194, List.forall_mem_cons.mpr ⟨ws_J9_max_7cf53, List.forall_mem_cons.mpr ⟨wn_J9_max_7cf53, List.forall_mem_cons.mpr ⟨wc_J9_max_7cf53, List.forall_mem_nil _⟩⟩⟩⟩, nk_J9_max_7cf53⟩
