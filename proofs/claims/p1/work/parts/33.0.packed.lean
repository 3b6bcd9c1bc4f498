/-! p1: closed runs: packed -/
theorem q_packed_0 : ∀ j : Nat, j < 25 → chk 2000 76 172 [.int (nI ((0 + j) + 1))] = true := by decide +kernel
theorem q_packed_1 : ∀ j : Nat, j < 25 → chk 2000 76 172 [.int (nI ((25 + j) + 1))] = true := by decide +kernel
theorem q_packed_2 : ∀ j : Nat, j < 25 → chk 2000 76 172 [.int (nI ((50 + j) + 1))] = true := by decide +kernel
theorem q_packed_3 : ∀ j : Nat, j < 24 → chk 2000 76 172 [.int (nI ((75 + j) + 1))] = true := by decide +kernel
theorem q_packed : ∀ j : Nat, j < 99 → chk 2000 76 172 [.int (nI (j + 1))] = true := by
  intro j hj
  by_cases b0 : j < 25
  · have e : 0 + (j - 0) = j := by omega
    have q := q_packed_0 (j - 0) (by omega)
    rw [e] at q
    exact q
  by_cases b1 : j < 50
  · have e : 25 + (j - 25) = j := by omega
    have q := q_packed_1 (j - 25) (by omega)
    rw [e] at q
    exact q
  by_cases b2 : j < 75
  · have e : 50 + (j - 50) = j := by omega
    have q := q_packed_2 (j - 50) (by omega)
    rw [e] at q
    exact q
  have e : 75 + (j - 75) = j := by omega
  have q := q_packed_3 (j - 75) (by omega)
  rw [e] at q
  exact q
