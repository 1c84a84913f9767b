set_option maxRecDepth 100000 in
theorem pu_next3a : ∀ a, a < 4096 → a ≠ 0 → fX3_nextFact_15 0 (nI a) 0 = some (nI (hiB a)) := by decide +kernel
set_option maxRecDepth 100000 in
theorem pu_next3b : ∀ a, a < 4096 → a ≠ 0 → fX3_nextFact_15 0 (nI a) 1 = some (nI (loB a)) := by decide +kernel
