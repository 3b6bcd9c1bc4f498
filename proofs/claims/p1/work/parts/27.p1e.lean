/-! p1: from 1 on -/
theorem en1 {x : Int32} {n : Nat} (hn : n < 2 ^ 31) (h : wi x 1 (nI n) = true) : ∃ j : Nat, j < n ∧ x = nI (j + 1) := by
  have h1 : wi x 0 (nI n) = true := by
    simp only [wi, Bool.and_eq_true, decide_eq_true_eq] at h ⊢
    exact ⟨Int32.le_trans (by decide) h.1, h.2⟩
  obtain ⟨j, hj, rfl⟩ := en hn h1
  cases j with
  | zero =>
    simp only [wi, Bool.and_eq_true, decide_eq_true_eq] at h
    exact absurd h.1 (by decide)
  | succ j => exact ⟨j, by omega, rfl⟩
