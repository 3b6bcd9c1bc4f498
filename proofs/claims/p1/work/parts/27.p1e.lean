/-! p1: packed, hope, odds: closed runs -/
theorem en1 {x : Int32} {n : Nat} (hn : n < 2 ^ 31) (h : wi x 1 (nI n) = true) : ∃ j : Nat, j < n ∧ x = nI (j + 1) := by
  have h1 : wi x 0 (nI n) = true := by
    simp only [wi, Bool.and_eq_true, decide_eq_true_eq] at h ⊢
    exact ⟨Int32.le_trans (by decide) h.1, h.2⟩
  obtain ⟨j, hj, rfl⟩ := en hn h1
  cases j with
  | zero =>
    simp only [wi, Bool.and_eq_true, decide_eq_true_eq] at h
    exact absurd h.1 (by decide)
  | succ j => exact ⟨j, by omega, rfl⟩
theorem B_packed (x : Int32) : Bth 76 172 [.int x] := by
  rcases tf (wi x 1 99) with h | h
  · obtain ⟨j, hj, rfl⟩ := en1 (n := 99) (by decide) h
    exact Bth.of_chk (q_packed j hj)
  · exact b_packed_out h
theorem B_hope (n pt : Int32) : Bth 79 178 [.int n, .int pt] := by
  rcases tf (wi n 0 99 && wi pt 0 1) with h | h
  · rw [Bool.and_eq_true] at h
    obtain ⟨j, hj, rfl⟩ := en (n := 99) (by decide) h.1
    obtain ⟨i, hi, rfl⟩ := en (n := 1) (by decide) h.2
    exact Bth.of_chk (q_hope j (by omega) i (by omega))
  · exact b_hope_out h
theorem B_odds (n k pt : Int32) : Bth 78 177 [.int n, .int k, .int pt] := by
  rcases tf (wi n 0 8 && (wi k 0 n && wi pt 0 1)) with h | h
  · rw [Bool.and_eq_true, Bool.and_eq_true] at h
    obtain ⟨j, hj, rfl⟩ := en (n := 8) (by decide) h.1
    obtain ⟨q, hq, rfl⟩ := en (n := j) (by omega) h.2.1
    obtain ⟨i, hi, rfl⟩ := en (n := 1) (by decide) h.2.2
    exact Bth.of_chk (q_odds j (by omega) q (by omega) i (by omega))
  · exact b_odds_out h
