/-! p1: closed runs: hope -/
theorem q_hope_0 : ∀ j : Nat, j < 10 → ∀ i0 : Nat, i0 < 2 → chk 3000 79 178 [.int (nI (0 + j)), .int (nI i0)] = true := by decide +kernel
theorem q_hope_1 : ∀ j : Nat, j < 10 → ∀ i0 : Nat, i0 < 2 → chk 3000 79 178 [.int (nI (10 + j)), .int (nI i0)] = true := by decide +kernel
theorem q_hope_2 : ∀ j : Nat, j < 10 → ∀ i0 : Nat, i0 < 2 → chk 3000 79 178 [.int (nI (20 + j)), .int (nI i0)] = true := by decide +kernel
theorem q_hope_3 : ∀ j : Nat, j < 10 → ∀ i0 : Nat, i0 < 2 → chk 3000 79 178 [.int (nI (30 + j)), .int (nI i0)] = true := by decide +kernel
theorem q_hope_4 : ∀ j : Nat, j < 10 → ∀ i0 : Nat, i0 < 2 → chk 3000 79 178 [.int (nI (40 + j)), .int (nI i0)] = true := by decide +kernel
theorem q_hope_5 : ∀ j : Nat, j < 10 → ∀ i0 : Nat, i0 < 2 → chk 3000 79 178 [.int (nI (50 + j)), .int (nI i0)] = true := by decide +kernel
theorem q_hope_6 : ∀ j : Nat, j < 10 → ∀ i0 : Nat, i0 < 2 → chk 3000 79 178 [.int (nI (60 + j)), .int (nI i0)] = true := by decide +kernel
theorem q_hope_7 : ∀ j : Nat, j < 10 → ∀ i0 : Nat, i0 < 2 → chk 3000 79 178 [.int (nI (70 + j)), .int (nI i0)] = true := by decide +kernel
theorem q_hope_8 : ∀ j : Nat, j < 10 → ∀ i0 : Nat, i0 < 2 → chk 3000 79 178 [.int (nI (80 + j)), .int (nI i0)] = true := by decide +kernel
theorem q_hope_9 : ∀ j : Nat, j < 10 → ∀ i0 : Nat, i0 < 2 → chk 3000 79 178 [.int (nI (90 + j)), .int (nI i0)] = true := by decide +kernel
theorem q_hope : ∀ j : Nat, j < 100 → ∀ i0 : Nat, i0 < 2 → chk 3000 79 178 [.int (nI j), .int (nI i0)] = true := by
  intro j hj i0 h0
  by_cases b0 : j < 10
  · have e : 0 + (j - 0) = j := by omega
    have q := q_hope_0 (j - 0) (by omega)
    rw [e] at q
    exact q i0 h0
  by_cases b1 : j < 20
  · have e : 10 + (j - 10) = j := by omega
    have q := q_hope_1 (j - 10) (by omega)
    rw [e] at q
    exact q i0 h0
  by_cases b2 : j < 30
  · have e : 20 + (j - 20) = j := by omega
    have q := q_hope_2 (j - 20) (by omega)
    rw [e] at q
    exact q i0 h0
  by_cases b3 : j < 40
  · have e : 30 + (j - 30) = j := by omega
    have q := q_hope_3 (j - 30) (by omega)
    rw [e] at q
    exact q i0 h0
  by_cases b4 : j < 50
  · have e : 40 + (j - 40) = j := by omega
    have q := q_hope_4 (j - 40) (by omega)
    rw [e] at q
    exact q i0 h0
  by_cases b5 : j < 60
  · have e : 50 + (j - 50) = j := by omega
    have q := q_hope_5 (j - 50) (by omega)
    rw [e] at q
    exact q i0 h0
  by_cases b6 : j < 70
  · have e : 60 + (j - 60) = j := by omega
    have q := q_hope_6 (j - 60) (by omega)
    rw [e] at q
    exact q i0 h0
  by_cases b7 : j < 80
  · have e : 70 + (j - 70) = j := by omega
    have q := q_hope_7 (j - 70) (by omega)
    rw [e] at q
    exact q i0 h0
  by_cases b8 : j < 90
  · have e : 80 + (j - 80) = j := by omega
    have q := q_hope_8 (j - 80) (by omega)
    rw [e] at q
    exact q i0 h0
  have e : 90 + (j - 90) = j := by omega
  have q := q_hope_9 (j - 90) (by omega)
  rw [e] at q
  exact q i0 h0
