/-! p1: packed, hope, odds: closed runs -/
theorem q_packed : ∀ j : Nat, j < 99 → chk 2000 76 172 [.int (nI (j + 1))] = true := by decide +kernel
