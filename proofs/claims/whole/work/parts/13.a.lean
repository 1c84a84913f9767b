/-! PURE ROWS: sets of FACTS as numbers below 4096 -/
def pcN (a : Nat) : Nat → Nat | 0 => 0 | k + 1 => pcN a k + (if a.testBit k then 1 else 0)
/-- how many bits, of twelve -/
def pc (a : Nat) : Nat := pcN a 12
set_option maxRecDepth 100000 in
theorem pu_bitCount0 : ∀ a, a < 4096 → fJ6_bitCount_0f7a4 0 (nI a) = some (nI (pc a)) := by decide +kernel
