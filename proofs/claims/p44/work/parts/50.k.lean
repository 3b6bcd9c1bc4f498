/-! feed -/
theorem rx200 {j : Nat} (h : j < 200) : rx 200 (nI j) = some j := rx_n h (by decide)
theorem c_take_l {t : TT} {x : Int64} {m n : Nat} (hn : n ≤ 8) (hmn : m + n ≤ 200) : ∀ (d j f : Nat) (s : SS), j + d = n → d < f → s 28 7 = nI m → ∃ s' : SS, l_X4_take_17 f (x, nI n, nI j, s, t) = some (1, s', t) ∧ (∀ c : Nat, c ≠ 28 → c ≠ 29 → s' c = s c) ∧ (∀ i : Nat, s' 28 i = if i = 7 then nI (m + n) else s 28 i) ∧ (∀ i : Nat, j ≤ i → i < n → s' 29 (m + i) = nI (byt x i)) ∧ (∀ i : Nat, i < m + j → s' 29 i = s 29 i)
  | 0, j, f + 1, s, hj, _, h7 => by
    have e : j = n := by omega
    subst e
    refine ⟨up2 s 28 7 (nI (m + j)), ?_, fun c h1 h2 => up2_o h1, fun i => ?_, fun i h1 h2 => by omega, fun i hi => by rw [up2_o (by omega)]⟩
    · show b_X4_take_17 (l_X4_take_17 f) x (nI j) (nI j) s t = _
      simp only [b_X4_take_17, nI_le (Nat.le_refl j) (show j < 2 ^ 31 by omega), if_true, wr_e, h7, nI_add]
    · rw [up2_r]
      by_cases e : i = 7 <;> simp [e]
  | d + 1, j, f + 1, s, hj, hf, h7 => by
    obtain ⟨s', e, g1, g2, g3, g4⟩ := c_take_l (t := t) (x := x) hn hmn d (j + 1) f (up2 s 29 (m + j) (nI (byt x j))) (by omega) (by omega) (by rw [up2_o (by omega)]; exact h7)
    refine ⟨s', ?_, fun c h1 h2 => by rw [g1 c h1 h2, up2_o h2], fun i => by rw [g2 i, up2_o (show 28 ≠ 29 by decide)], fun i h1 h2 => ?_, fun i hi => by rw [g4 i (by omega), up2_r, if_neg (by omega)]⟩
    · show b_X4_take_17 (l_X4_take_17 f) x (nI n) (nI j) s t = _
      simp only [b_X4_take_17, nI_ge (show j < n by omega) (show n < 2 ^ 31 by omega), if_false, h7, nI_add, rx200 (show m + j < 200 by omega), bs, wr_e, byt_u x j (by omega), nI_1]
      exact e
    · by_cases c : i = j
      · subst c; rw [g4 _ (by omega), up2_r, if_pos ⟨rfl, rfl⟩]
      · exact g3 i (by omega) h2
theorem m_feed_l {t : TT} {x : Int64} {m n : Nat} (hn : n ≤ 8) (hmn : m + n ≤ 200) : ∀ (d j f : Nat) (s : SS), j + d = n → d < f → s 51 7 = nI (m + j) → ∃ s' : SS, l_X6_feed_30 f (x, nI n, nI j, s, t) = some (nI (m + n), s', t) ∧ (∀ c : Nat, c ≠ 51 → c ≠ 56 → s' c = s c) ∧ (∀ i : Nat, s' 51 i = if i = 7 then nI (m + n) else s 51 i) ∧ (∀ i : Nat, j ≤ i → i < n → s' 56 (m + i) = nI (byt x i)) ∧ (∀ i : Nat, i < m + j → s' 56 i = s 56 i)
  | 0, j, f + 1, s, hj, _, h7 => by
    have e : j = n := by omega
    subst e
    refine ⟨s, ?_, fun c h1 h2 => rfl, fun i => ?_, fun i h1 h2 => by omega, fun i hi => rfl⟩
    · show b_X6_feed_30 (l_X6_feed_30 f) x (nI j) (nI j) s t = _
      simp only [b_X6_feed_30, nI_le (Nat.le_refl j) (show j < 2 ^ 31 by omega), if_true, h7]
    · by_cases e : i = 7
      · subst e; rw [if_pos rfl]; exact h7
      · rw [if_neg e]
  | d + 1, j, f + 1, s, hj, hf, h7 => by
    obtain ⟨s', e, g1, g2, g3, g4⟩ := m_feed_l (t := t) (x := x) hn hmn d (j + 1) f (up2 (up2 s 56 (m + j) (nI (byt x j))) 51 7 (nI (m + j + 1))) (by omega) (by omega) (by rw [up2_r, if_pos ⟨rfl, rfl⟩]; rfl)
    refine ⟨s', ?_, fun c h1 h2 => by rw [g1 c h1 h2, up2_o h1, up2_o h2], fun i => ?_, fun i h1 h2 => ?_, fun i hi => by rw [g4 i (by omega), up2_o (by omega), up2_r, if_neg (by omega)]⟩
    · show b_X6_feed_30 (l_X6_feed_30 f) x (nI n) (nI j) s t = _
      simp only [b_X6_feed_30, nI_ge (show j < n by omega) (show n < 2 ^ 31 by omega), if_false, h7, rx200 (show m + j < 200 by omega), bs, wr_e, byt_s x j (by omega), up2_o (show 51 ≠ 56 by decide), nI_1]
      exact e
    · rw [g2 i]
      by_cases e : i = 7
      · rw [if_pos e, if_pos e]
      · rw [if_neg e, if_neg e, up2_r, if_neg (fun z => e z.2), up2_o (by omega)]
    · by_cases c : i = j
      · subst c; rw [g4 _ (by omega), up2_o (by omega), up2_r, if_pos ⟨rfl, rfl⟩]
      · exact g3 i (by omega) h2
theorem s_feed {s : SS} {t : TT} {W : Nat} (x : Int64) (y : Int32) (h : Rel s t W) : Sim (f_X5_feed x y) (f_X6_feed x y) s t W := by
  obtain ⟨-, -, ⟨m, hm, h28, h51, htp⟩, -⟩ := id h
  cases hb : wi y 1 8 with
  | false => exact Sim.of h (-1) (by simp only [f_X5_feed, c_isWithin, bs, b2_z, hb, if_true]) (by simp only [f_X6_feed, m_in, bs, b2_z, hb, if_true])
  | true =>
  obtain ⟨n, hn1, hn, rfl⟩ := wi_fr1 (n := 8) (by decide) hb
  have e1 : (200 : Int32) - nI m = nI (200 - m) := nI_sub (a := 200) hm
  by_cases c : m + n ≤ 200
  · have c1 : nI n ≤ nI (200 - m) := nI_le (by omega) (by omega)
    have c2 : nI (m + n) ≤ 200 := nI_le (b := 200) c (by decide)
    obtain ⟨s1, d1, g1, g2, g3, g4⟩ := c_take_l (t := t) (x := x) hn c n 0 300 s (by omega) (by omega) h28
    have k51 : s1 51 = s 51 := g1 51 (by decide) (by decide)
    obtain ⟨s2, d2, k1, k2, k3, k4⟩ := m_feed_l (t := t) (x := x) hn c n 0 300 s1 (by omega) (by omega) (by rw [k51]; exact h51)
    have o : ∀ c : Nat, c ≠ 28 → c ≠ 29 → c ≠ 51 → c ≠ 56 → s2 c = s c := fun c a1 a2 a3 a4 => (k1 c a3 a4).trans (g1 c a1 a2)
    have x28 : ∀ i : Nat, s2 28 i = if i = 7 then nI (m + n) else s 28 i := fun i => by rw [k1 28 (by decide) (by decide)]; exact g2 i
    have x51 : ∀ i : Nat, s2 51 i = if i = 7 then nI (m + n) else s 51 i := fun i => by rw [k2 i, k51]
    have d3 : f_X4_take x (nI n) s t = some (1, s1, t) := by
      simp only [f_X4_take, h28, e1, c1, if_true]
      exact d1
    refine ⟨nI (m + n), s1, s2, t, t, ?_, ?_, Rel.more (W := W) (Rel.ex [28, 29, 51, 56] h (fun c hc => ?_) (Or.inl (by decide)) (Or.inl ⟨by decide, by rw [o 0 (by decide) (by decide) (by decide) (by decide)], by rw [x51]; rfl, o 54 (by decide) (by decide) (by decide) (by decide)⟩) (Or.inr ⟨m + n, c, by rw [x28]; rfl, by rw [x51]; rfl, fun i hi => ?_⟩) (Or.inl ⟨by rw [o 0 (by decide) (by decide) (by decide) (by decide)], by rw [x51]; rfl, o 49 (by decide) (by decide) (by decide) (by decide), o 58 (by decide) (by decide) (by decide) (by decide)⟩) (Or.inl ⟨by decide, o 60 (by decide) (by decide) (by decide) (by decide), o 61 (by decide) (by decide) (by decide) (by decide), rfl⟩) (Or.inl ⟨by decide, o 63 (by decide) (by decide) (by decide) (by decide), o 64 (by decide) (by decide) (by decide) (by decide), o 65 (by decide) (by decide) (by decide) (by decide)⟩) (Or.inl ⟨by rw [o 33 (by decide) (by decide) (by decide) (by decide)], by rw [x51]; rfl, o 34 (by decide) (by decide) (by decide) (by decide), o 66 (by decide) (by decide) (by decide) (by decide)⟩) (by rw [x51]; rfl)) (by omega)⟩
    · have x7 : s1 28 7 = nI (m + n) := by rw [g2 7]; rfl
      simp only [f_X5_feed, c_isWithin, bs, b2_z, hb, Bool.true_eq_false, if_false, d3, show ¬ (1 : Int32) = 0 by decide, x7]
    · simp only [f_X6_feed, m_in, bs, b2_z, hb, Bool.true_eq_false, if_false, k51, h51, nI_add, c2, if_true]
      exact d2
    · simp only [List.mem_cons, List.not_mem_nil, or_false, not_or] at hc
      exact o c hc.1 hc.2.1 hc.2.2.1 hc.2.2.2
    · rw [k1 29 (by decide) (by decide)]
      by_cases z : i < m
      · rw [g4 i (by omega), k4 i (by omega), g1 56 (by decide) (by decide)]
        exact htp i z
      · have e3 := g3 (i - m) (by omega) (by omega)
        have e4 := k3 (i - m) (by omega) (by omega)
        rw [show m + (i - m) = i by omega] at e3 e4
        rw [e3, e4]
        exact ⟨rfl, bd_n (by unfold byt; omega)⟩
  · have c1 : ¬ nI n ≤ nI (200 - m) := nI_ge (by omega) (by omega)
    have c2 : ¬ nI (m + n) ≤ 200 := nI_ge (a := 200) (by omega) (by omega)
    exact Sim.of h (-2) (by simp only [f_X5_feed, f_X4_take, c_isWithin, bs, b2_z, hb, Bool.true_eq_false, if_false, h28, e1, c1, if_true]) (by simp only [f_X6_feed, m_in, bs, b2_z, hb, Bool.true_eq_false, if_false, h51, nI_add, c2])
