/-! WORDS OF THE TABLES -/
theorem jNF_in : ∀ q ∈ jNF, Cond.fieldLinkNest q.1 q.2.1 q.2.2.1 q.2.2.2.1 q.2.2.2.2 "ModuleLinker" ∈ lw_tbl := by decide +kernel
theorem jNM_in : ∀ q ∈ jNM, Cond.methodLinkNest q.1 q.2.1 q.2.2 "ModuleLinker" ∈ lw_tbl := by decide +kernel
theorem jEX_in : ∀ E ∈ jEX, Cond.castable E E ∈ lw_tbl := by decide +kernel
theorem jDX_in : ∀ x ∈ jDX, Cond.declares x ∈ lw_tbl := by decide +kernel
theorem jAO_in : Cond.arrayOver (.object "ModuleLinker$Unit") ∈ lw_tbl ∧ Cond.arrayOver (.object "ModuleLinker$Item") ∈ lw_tbl := by decide +kernel
theorem jST_in : Cond.laysStatic Bundle.tN "UNASSIGNED_STACK" Bundle.steD ∈ lw_tbl ∧ Cond.laysStatic Bundle.tN "SUPPRESSED_SENTINEL" Bundle.listD ∈ lw_tbl ∧ Cond.initialized Bundle.tN ∈ lw_tbl := by decide +kernel
