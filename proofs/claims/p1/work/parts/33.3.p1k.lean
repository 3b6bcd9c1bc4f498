/-! p1: packed, hope, odds -/
theorem B_packed (x : Int32) : Bth 76 172 [.int x] := by
  rcases tf (wi x 1 99) with h | h
  · obtain ⟨j, hj, rfl⟩ := en1 (n := 99) (by decide) h
    exact Bth.of_chk (q_packed j hj)
  · exact b_packed_out h
theorem B_hope (n pt : Int32) : Bth 79 178 [.int n, .int pt] := by
  rcases tf (wi n 0 99 && wi pt 0 1) with h | h
  · rw [Bool.and_eq_true] at h
    obtain ⟨j, hj, rfl⟩ := en (n := 99) (by decide) h.1
    obtain ⟨i, hi, rfl⟩ := en (n := 1) (by decide) h.2
    exact Bth.of_chk (q_hope j (by omega) i (by omega))
  · exact b_hope_out h
theorem B_odds (n k pt : Int32) : Bth 78 177 [.int n, .int k, .int pt] := by
  rcases tf (wi n 0 8 && (wi k 0 n && wi pt 0 1)) with h | h
  · rw [Bool.and_eq_true, Bool.and_eq_true] at h
    obtain ⟨j, hj, rfl⟩ := en (n := 8) (by decide) h.1
    obtain ⟨q, hq, rfl⟩ := en (n := j) (by omega) h.2.1
    obtain ⟨i, hi, rfl⟩ := en (n := 1) (by decide) h.2.2
    exact Bth.of_chk (q_odds j (by omega) q (by omega) i (by omega))
  · exact b_odds_out h
