set_option maxRecDepth 20000 in
theorem wsL_law_in17c : ∀ w ∈ ([Cond.constantDouble RL 89 (4643774165772402688)] : List Cond), w ∈ lw_tbl := fun w h => (goodIn_p _ [] (by decide +kernel) (by decide +kernel) w h).1
set_option maxRecDepth 20000 in
theorem wsL_law_in17b : ∀ w ∈ ([Cond.code yL_isWell cL_isWell 19 (some .boolean)] : List Cond), w ∈ lw_tbl := fun w h => by
  rw [List.mem_singleton.mp h]
  exact List.mem_of_getElem? (i := 507) rfl
theorem wsL_law_in17 : ∀ w ∈ wsL_law_r17, w ∈ lw_tbl := List.forall_mem_append.mpr ⟨wsL_law_in17a, List.forall_mem_append.mpr ⟨wsL_law_in17b, wsL_law_in17c⟩⟩
set_option maxRecDepth 100000 in
theorem wsL_lawX5_in : ∀ w ∈ wsX50, w ∈ lw_tbl := by decide +kernel
