/-! p1: closed runs: odds -/
theorem q_odds_0 : ∀ j : Nat, j < 1 → ∀ i0 : Nat, i0 < (0 + j) + 1 → ∀ i1 : Nat, i1 < 2 → chk 3000 78 177 [.int (nI (0 + j)), .int (nI i0), .int (nI i1)] = true := by decide +kernel
theorem q_odds_1 : ∀ j : Nat, j < 1 → ∀ i0 : Nat, i0 < (1 + j) + 1 → ∀ i1 : Nat, i1 < 2 → chk 3000 78 177 [.int (nI (1 + j)), .int (nI i0), .int (nI i1)] = true := by decide +kernel
theorem q_odds_2 : ∀ j : Nat, j < 1 → ∀ i0 : Nat, i0 < (2 + j) + 1 → ∀ i1 : Nat, i1 < 2 → chk 3000 78 177 [.int (nI (2 + j)), .int (nI i0), .int (nI i1)] = true := by decide +kernel
theorem q_odds_3 : ∀ j : Nat, j < 1 → ∀ i0 : Nat, i0 < (3 + j) + 1 → ∀ i1 : Nat, i1 < 2 → chk 3000 78 177 [.int (nI (3 + j)), .int (nI i0), .int (nI i1)] = true := by decide +kernel
theorem q_odds_4 : ∀ j : Nat, j < 1 → ∀ i0 : Nat, i0 < (4 + j) + 1 → ∀ i1 : Nat, i1 < 2 → chk 3000 78 177 [.int (nI (4 + j)), .int (nI i0), .int (nI i1)] = true := by decide +kernel
theorem q_odds_5 : ∀ j : Nat, j < 1 → ∀ i0 : Nat, i0 < (5 + j) + 1 → ∀ i1 : Nat, i1 < 2 → chk 3000 78 177 [.int (nI (5 + j)), .int (nI i0), .int (nI i1)] = true := by decide +kernel
theorem q_odds_6 : ∀ j : Nat, j < 1 → ∀ i0 : Nat, i0 < (6 + j) + 1 → ∀ i1 : Nat, i1 < 2 → chk 3000 78 177 [.int (nI (6 + j)), .int (nI i0), .int (nI i1)] = true := by decide +kernel
theorem q_odds_7 : ∀ j : Nat, j < 1 → ∀ i0 : Nat, i0 < (7 + j) + 1 → ∀ i1 : Nat, i1 < 2 → chk 3000 78 177 [.int (nI (7 + j)), .int (nI i0), .int (nI i1)] = true := by decide +kernel
theorem q_odds_8 : ∀ j : Nat, j < 1 → ∀ i0 : Nat, i0 < (8 + j) + 1 → ∀ i1 : Nat, i1 < 2 → chk 3000 78 177 [.int (nI (8 + j)), .int (nI i0), .int (nI i1)] = true := by decide +kernel
theorem q_odds : ∀ j : Nat, j < 9 → ∀ i0 : Nat, i0 < j + 1 → ∀ i1 : Nat, i1 < 2 → chk 3000 78 177 [.int (nI j), .int (nI i0), .int (nI i1)] = true := by
  intro j hj i0 h0 i1 h1
  by_cases b0 : j < 1
  · have e : 0 + (j - 0) = j := by omega
    have q := q_odds_0 (j - 0) (by omega)
    rw [e] at q
    exact q i0 h0 i1 h1
  by_cases b1 : j < 2
  · have e : 1 + (j - 1) = j := by omega
    have q := q_odds_1 (j - 1) (by omega)
    rw [e] at q
    exact q i0 h0 i1 h1
  by_cases b2 : j < 3
  · have e : 2 + (j - 2) = j := by omega
    have q := q_odds_2 (j - 2) (by omega)
    rw [e] at q
    exact q i0 h0 i1 h1
  by_cases b3 : j < 4
  · have e : 3 + (j - 3) = j := by omega
    have q := q_odds_3 (j - 3) (by omega)
    rw [e] at q
    exact q i0 h0 i1 h1
  by_cases b4 : j < 5
  · have e : 4 + (j - 4) = j := by omega
    have q := q_odds_4 (j - 4) (by omega)
    rw [e] at q
    exact q i0 h0 i1 h1
  by_cases b5 : j < 6
  · have e : 5 + (j - 5) = j := by omega
    have q := q_odds_5 (j - 5) (by omega)
    rw [e] at q
    exact q i0 h0 i1 h1
  by_cases b6 : j < 7
  · have e : 6 + (j - 6) = j := by omega
    have q := q_odds_6 (j - 6) (by omega)
    rw [e] at q
    exact q i0 h0 i1 h1
  by_cases b7 : j < 8
  · have e : 7 + (j - 7) = j := by omega
    have q := q_odds_7 (j - 7) (by omega)
    rw [e] at q
    exact q i0 h0 i1 h1
  have e : 8 + (j - 8) = j := by omega
  have q := q_odds_8 (j - 8) (by omega)
  rw [e] at q
  exact q i0 h0 i1 h1
