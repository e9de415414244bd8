/-! Links of two classes more. Written by program (wip/p55/gen/m829.py). -/
theorem wl_J8_194 : Cond.methodLink RJ8 194 yJ9_max_7cf53 ∈ ab_big := ab_big_mem 520 (by decide +kernel) (by decide)
theorem lk_J8_194 : ab_lkS RJ8 194 yJ9_max_7cf53 cJ9_max_7cf53 2 (some .int) 2 := ⟨List.forall_mem_cons.mpr ⟨wl_J8_194, List.forall_mem_cons.mpr ⟨ws_J9_max_7cf53, List.forall_mem_cons.mpr ⟨wn_J9_max_7cf53, List.forall_mem_cons.mpr ⟨wc_J9_max_7cf53, List.forall_mem_nil _⟩⟩⟩⟩, nk_J9_max_7cf53⟩
theorem wc_J8_hugeLength_7cf53 : Cond.code yJ8_hugeLength_7cf53 cJ8_hugeLength_7cf53 3 (some .int) ∈ ab_big := ab_big_mem 526 (by decide +kernel) (by decide)
theorem ws_J8_hugeLength_7cf53 : Cond.static yJ8_hugeLength_7cf53 ∈ ab_big := ab_big_mem 525 (by decide +kernel) (by decide)
theorem wn_J8_hugeLength_7cf53 : Cond.initialized yJ8_hugeLength_7cf53.cls ∈ ab_big := ab_big_mem 48 (by decide +kernel) (by decide)
theorem nk_J8_hugeLength_7cf53 : ab_nmok yJ8_hugeLength_7cf53 2 := ⟨by decide +kernel, by decide +kernel, by decide +kernel, by decide +kernel⟩
theorem wl_J8_201 : Cond.methodLink RJ8 201 yJ8_hugeLength_7cf53 ∈ ab_big := ab_big_mem 524 (by decide +kernel) (by decide)
theorem lk_J8_201 : ab_lkS RJ8 201 yJ8_hugeLength_7cf53 cJ8_hugeLength_7cf53 3 (some .int) 2 := ⟨List.forall_mem_cons.mpr ⟨wl_J8_201, List.forall_mem_cons.mpr ⟨ws_J8_hugeLength_7cf53, List.forall_mem_cons.mpr ⟨wn_J8_hugeLength_7cf53, List.forall_mem_cons.mpr ⟨wc_J8_hugeLength_7cf53, List.forall_mem_nil _⟩⟩⟩⟩, nk_J8_hugeLength_7cf53⟩
