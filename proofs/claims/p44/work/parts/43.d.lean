/-! keep, again, many; sheets and shelves -/
theorem Rel.ex {s s' : SS} {t t' : TT} {W : Nat} (L : List Nat) (h : Rel s t W) (e : ∀ c : Nat, c ∉ L → s' c = s c) (h1 : (∀ c : Nat, c ∈ L → c = 0 ∨ 19 ≤ c ∧ c ≠ 52) ∨ P_off s' W) (h2 : (∀ c : Nat, c ∈ L → c < 10 ∨ 18 < c) ∧ s' 0 10 = s 0 10 ∧ s' 51 4 = s 51 4 ∧ s' 54 = s 54 ∨ P_kept s' W) (h3 : s' 28 7 = s 28 7 ∧ s' 51 7 = s 51 7 ∧ s' 29 = s 29 ∧ s' 56 = s 56 ∨ P_tape s') (h4 : s' 0 9 = s 0 9 ∧ s' 51 17 = s 51 17 ∧ s' 49 = s 49 ∧ s' 58 = s 58 ∨ P_rows s') (h5 : (∀ c : Nat, c ∈ L → c < 37 ∨ 48 < c) ∧ s' 60 = s 60 ∧ s' 61 = s 61 ∧ t' = t ∨ P_sheet s' t') (h6 : (∀ c : Nat, c ∈ L → c < 37 ∨ 48 < c) ∧ s' 63 = s 63 ∧ s' 64 = s 64 ∧ s' 65 = s 65 ∨ P_shelf s') (h7 : s' 33 1 = s 33 1 ∧ s' 51 28 = s 51 28 ∧ s' 34 = s 34 ∧ s' 66 = s 66 ∨ P_trace s') (h8 : s' 51 5 = s 51 5) : Rel s' t' W := by
  obtain ⟨g1, g2, g3, g4, g5, g6, g7, g8⟩ := h
  refine ⟨?_, ?_, ?_, ?_, ?_, ?_, ?_, h8.trans g8⟩
  · rcases h1 with h1 | h1
    · exact g1.fr (fun c c1 c2 => e c (fun z => by have := h1 c z; omega)) (fun k _ => by rw [e 52 (fun z => by have := h1 52 z; omega)])
    · exact h1
  · rcases h2 with ⟨h2, a, b, c⟩ | h2
    · exact g2.fr a b (fun c c1 c2 => e c (fun z => by have := h2 c z; omega)) c
    · exact h2
  · rcases h3 with ⟨a, b, c, d⟩ | h3
    · exact g3.fr a b c d
    · exact h3
  · rcases h4 with ⟨a, b, c, d⟩ | h4
    · exact g4.fr a b c d
    · exact h4
  · rcases h5 with ⟨h5, a, b, c⟩ | h5
    · rw [c]; exact g5.fr (fun c c1 c2 => e c (fun z => by have := h5 c z; omega)) a b
    · exact h5
  · rcases h6 with ⟨h6, a, b, c⟩ | h6
    · exact g6.fr (fun c c1 c2 => e c (fun z => by have := h6 c z; omega)) a b c
    · exact h6
  · rcases h7 with ⟨a, b, c, d⟩ | h7
    · exact g7.fr a b c d
    · exact h7
theorem s_keep {s : SS} {t : TT} {W : Nat} (h : Rel s t W) : Sim f_X5_keep f_X6_keep s t W := by
  obtain ⟨⟨n, hw, hr⟩, -⟩ := id h
  obtain ⟨s1, e1, f1, r1⟩ := c_become_10_1 s t
  have hr1 := r1 _ _ hr
  obtain ⟨s2, hs2⟩ : ∃ s2 : SS, s2 = up2 (cp2 (up2 s1 0 10 1) 54 (mv (up2 s1 0 10 1 52) (up2 s1 0 10 1 54))) 51 4 1 := ⟨_, rfl⟩
  have o : ∀ c : Nat, c ∉ [0, 10, 11, 12, 13, 14, 15, 16, 17, 18, 51, 54] → s2 c = s c := fun c hc => by
    simp only [List.mem_cons, List.not_mem_nil, or_false, not_or] at hc
    rw [hs2, up2_o (by omega), cp2_n (by omega), up2_o (by omega)]
    exact f1 c (by omega)
  have oK : ∀ c : Nat, 10 ≤ c → c ≤ 18 → s2 c = s1 c := fun c h1 h2 => by rw [hs2, up2_o (by omega), cp2_n (by omega), up2_o (by omega)]
  have h52 : up2 s1 0 10 1 52 = s 52 := by rw [up2_o (by omega)]; exact f1 52 (by omega)
  have o0 : ∀ k : Nat, s2 0 k = if k = 10 then 1 else s 0 k := fun k => by
    rw [hs2, up2_o (by omega), cp2_n (by omega), up2_r, f1 0 (by omega)]
    by_cases e : k = 10 <;> simp [e]
  have o51 : ∀ k : Nat, s2 51 k = if k = 4 then 1 else s 51 k := fun k => by
    rw [hs2, up2_r, cp2_n (by omega), up2_o (by omega), f1 51 (by omega)]
    by_cases e : k = 4 <;> simp [e]
  have o54 : ∀ k : Nat, k < 56 → s2 54 k = s 52 k := fun k hk => by rw [hs2, up2_o (by omega), cp2_s, mv_at hk, h52]
  refine ⟨1, up2 s1 0 10 1, s2, t, t, by simp only [f_X5_keep, e1, bs, wr_e], by rw [hs2]; simp only [f_X6_keep, m_moveAll (show 52 ≠ 54 by decide), bs, wr_e], ?_⟩
  refine Rel.more (W := W) (Rel.ex [0, 10, 11, 12, 13, 14, 15, 16, 17, 18, 51, 54] h o (Or.inr ⟨n, ?_, ?_⟩) (Or.inr (Or.inr ⟨?_, ?_, n, ?_, ?_⟩)) (Or.inl ⟨by rw [o 28 (by decide)], by rw [o51]; rfl, o 29 (by decide), o 56 (by decide)⟩) (Or.inl ⟨by rw [o0]; rfl, by rw [o51]; rfl, o 49 (by decide), o 58 (by decide)⟩) (Or.inl ⟨by decide, o 60 (by decide), o 61 (by decide), rfl⟩) (Or.inl ⟨by decide, o 63 (by decide), o 64 (by decide), o 65 (by decide)⟩) (Or.inl ⟨by rw [o 33 (by decide)], by rw [o51]; rfl, o 34 (by decide), o 66 (by decide)⟩) (by rw [o51]; rfl)) (by omega)
  · rw [o 52 (by decide)]; exact hw
  · rw [o 52 (by decide)]; exact hr.fr (fun c h1 h2 => o c (by simp only [List.mem_cons, List.not_mem_nil, or_false, not_or]; omega))
  · rw [o0]; rfl
  · rw [o51]; rfl
  · exact hw.cg o54
  · exact (hr1.fr oK).cg hw.1 o54
theorem s_again {s : SS} {t : TT} {W : Nat} (h : Rel s t W) : Sim f_X5_again f_X6_again s t W := by
  obtain ⟨-, hk, -⟩ := id h
  rcases hk with ⟨k1, k2⟩ | ⟨k1, k2, n, hw, hr⟩
  · exact Sim.of h (-3) (by simp only [f_X5_again, k1, if_true]) (by simp only [f_X6_again, k2, if_true])
  · obtain ⟨s1, e1, f1, r1⟩ := c_become_1_10 s t
    have h54 : s1 54 = s 54 := f1 54 (by omega)
    have h51 : s1 51 = s 51 := f1 51 (by omega)
    have e : ∀ k : Nat, k < 56 → mv (s1 54) (s1 52) k = s 54 k := fun k hk => by rw [mv_at hk, h54]
    have hr2 : RW s1 1 (mv (s1 54) (s1 52)) n := (r1 _ _ hr).cg hw.1 e
    refine Sim.wr (w := mv (s1 54) (s1 52)) (W' := W) h (nI n) (s1 := s1) ?_ f1 ?_ (hw.cg e) hr2 (Nat.le_refl _) (by omega)
    · simp only [f_X5_again, k1, show ¬ (1 : Int32) = 0 by decide, if_false, e1, bs, hr2.1]
    · simp only [f_X6_again, h51, k2, show ¬ (1 : Int32) = 0 by decide, if_false, m_moveAll (show 54 ≠ 52 by decide), bs, rx56_6, cp2_s, hr2.2.1]
/-- how many are in a set -/
def pc (k : Nat) : Nat := k % 2 + k / 2 % 2 + k / 4 % 2 + k / 8 % 2 + k / 16 % 2 + k / 32 % 2 + k / 64 % 2 + k / 128 % 2
def onl : Nat → Int32 → Int32 → Option Int32
  | 0, _, _ => none
  | f + 1, x, y => if y = 0 then some x else onl f (x + 1) (y &&& (y - 1))
theorem m_ones_l {s : SS} {t : TT} : ∀ (f : Nat) (x y r : Int32), onl f x y = some r → l_X6_ones_4 f (x, y, s, t) = some (r, s, t)
  | 0, x, y, r, h => by cases h
  | f + 1, x, y, r, h => by
    show b_X6_ones_4 (l_X6_ones_4 f) x y s t = _
    unfold b_X6_ones_4
    unfold onl at h
    by_cases c : y = 0
    · rw [if_pos c] at h ⊢; cases h; rfl
    · rw [if_neg c] at h ⊢; exact m_ones_l f _ _ r h
theorem onl_pc : ∀ k : Nat, k < 256 → onl 300 0 (nI k) = some (nI (pc k)) := by decide +kernel
theorem m_ones {s : SS} {t : TT} {k : Nat} (hk : k < 256) : f_X6_ones (nI k) s t = some (nI (pc k), s, t) := m_ones_l 300 0 (nI k) _ (onl_pc k hk)
theorem bit_pc : ∀ k : Nat, k < 256 → (f_bitCount (nI k) (fun _ _ => 0) (fun _ _ => 0)).map (fun q => q.1) = some (nI (pc k)) := by decide +kernel
theorem c_bitCount {s : SS} {t : TT} {k : Nat} (hk : k < 256) : f_bitCount (nI k) s t = some (nI (pc k), s, t) := by
  have h := bit_pc k hk
  unfold f_bitCount at h ⊢
  simp only [Option.map_some, Option.some.injEq] at h
  rw [h]
theorem or_bit : ∀ m : Nat, m < 8 → ∀ k : Nat, k < 2 ^ m → nI k ||| ((1 : Int32) <<< (nI m &&& 31)) = nI (k + 2 ^ m) := by decide +kernel
theorem R_rs_n {w : RR} : ∀ m : Nat, m ≤ 8 → ∃ k : Nat, k < 2 ^ m ∧ R_rs w m = nI k
  | 0, _ => ⟨0, by decide, rfl⟩
  | m + 1, hm => by
    obtain ⟨k, hk, e⟩ := R_rs_n (w := w) m (by omega)
    unfold R_rs
    split
    · exact ⟨k, by rw [Nat.pow_succ]; omega, e⟩
    · exact ⟨k + 2 ^ m, by rw [Nat.pow_succ]; omega, by rw [e]; exact or_bit m (by omega) k hk⟩
theorem s_many {s : SS} {t : TT} {W : Nat} (x : Int32) (h : Rel s t W) : Sim (f_X5_many x) (f_X6_many x) s t W := by
  obtain ⟨⟨n, hw, hr⟩, -, ⟨m, hm, t1, t2, -⟩, ⟨r, hr10, r1, r2, -⟩, -, -, ⟨b, hb, b1, b2', -⟩, -⟩ := id h
  have h6 := hw.2.1
  by_cases e0 : x = 0
  · exact Sim.of h (nI n) (by simp only [f_X5_many, e0, if_true]; exact congrArg (fun z => some (z, s, t)) hr.1) (by simp only [f_X6_many, e0, if_true, rx56_6, bs, h6])
  · by_cases e1 : x = 1
    · have c := c_countOf (t := t) (o := 1) (r := 6) (j := 3) hw.1 hr.1 (fun p hp => (hr.2.2.2.2.2.2 p hp).2.2.2.1)
      have m : f_X6_manyWith 3 s t = some (R_cnt (s 52) 3 n, s, t) := m_manyWith 3 (by omega) hw.1 h6
      exact Sim.of h (R_cnt (s 52) 3 n) (by simp only [f_X5_many, e1, if_false, if_true, c, bs, show ¬ (1 : Int32) = 0 by decide]) (by simp only [f_X6_many, e1, if_false, if_true, m, bs, show ¬ (1 : Int32) = 0 by decide])
    · by_cases e2 : x = 2
      · have c := c_countOf (t := t) (o := 1) (r := 7) (j := 4) hw.1 hr.1 (fun p hp => (hr.2.2.2.2.2.2 p hp).2.2.2.2.1)
        have m : f_X6_manyWith 4 s t = some (R_cnt (s 52) 4 n, s, t) := m_manyWith 4 (by omega) hw.1 h6
        exact Sim.of h (R_cnt (s 52) 4 n) (by simp only [f_X5_many, e2, if_false, if_true, c, bs, show ¬ (2 : Int32) = 0 by decide, show ¬ (2 : Int32) = 1 by decide]) (by simp only [f_X6_many, e2, if_false, if_true, m, bs, show ¬ (2 : Int32) = 0 by decide, show ¬ (2 : Int32) = 1 by decide])
      · by_cases e3 : x = 3
        · have c := c_readySet (t := t) hr hw
          have m := m_readySet (t := t) hw.1 h6
          obtain ⟨k, hk, ek⟩ := R_rs_n (w := s 52) n hw.1
          have hk2 : k < 256 := Nat.lt_of_lt_of_le hk (Nat.pow_le_pow_right (by omega) hw.1)
          rw [ek] at c m
          exact Sim.of h (nI (pc k)) (by simp only [f_X5_many, e3, if_false, if_true, c, bs, c_bitCount hk2, show ¬ (3 : Int32) = 0 by decide, show ¬ (3 : Int32) = 1 by decide, show ¬ (3 : Int32) = 2 by decide]) (by simp only [f_X6_many, e3, if_false, if_true, m, bs, m_ones hk2, show ¬ (3 : Int32) = 0 by decide, show ¬ (3 : Int32) = 1 by decide, show ¬ (3 : Int32) = 2 by decide])
        · by_cases e4 : x = 4
          · exact Sim.of h (nI r) (by simp only [f_X5_many, e4, if_false, if_true, r1, show ¬ (4 : Int32) = 0 by decide, show ¬ (4 : Int32) = 1 by decide, show ¬ (4 : Int32) = 2 by decide, show ¬ (4 : Int32) = 3 by decide]) (by simp only [f_X6_many, e4, if_false, if_true, r2, show ¬ (4 : Int32) = 0 by decide, show ¬ (4 : Int32) = 1 by decide, show ¬ (4 : Int32) = 2 by decide, show ¬ (4 : Int32) = 3 by decide])
          · by_cases e5 : x = 5
            · exact Sim.of h (nI m) (by simp only [f_X5_many, e5, if_false, if_true, t1, show ¬ (5 : Int32) = 0 by decide, show ¬ (5 : Int32) = 1 by decide, show ¬ (5 : Int32) = 2 by decide, show ¬ (5 : Int32) = 3 by decide, show ¬ (5 : Int32) = 4 by decide]) (by simp only [f_X6_many, e5, if_false, if_true, t2, show ¬ (5 : Int32) = 0 by decide, show ¬ (5 : Int32) = 1 by decide, show ¬ (5 : Int32) = 2 by decide, show ¬ (5 : Int32) = 3 by decide, show ¬ (5 : Int32) = 4 by decide])
            · by_cases e6 : x = 6
              · exact Sim.of h (nI b) (by simp only [f_X5_many, e6, if_false, if_true, b1, show ¬ (6 : Int32) = 0 by decide, show ¬ (6 : Int32) = 1 by decide, show ¬ (6 : Int32) = 2 by decide, show ¬ (6 : Int32) = 3 by decide, show ¬ (6 : Int32) = 4 by decide, show ¬ (6 : Int32) = 5 by decide]) (by simp only [f_X6_many, e6, if_false, if_true, b2', show ¬ (6 : Int32) = 0 by decide, show ¬ (6 : Int32) = 1 by decide, show ¬ (6 : Int32) = 2 by decide, show ¬ (6 : Int32) = 3 by decide, show ¬ (6 : Int32) = 4 by decide, show ¬ (6 : Int32) = 5 by decide])
              · exact Sim.of h (-1) (by simp only [f_X5_many, e0, e1, e2, e3, e4, e5, e6, if_false]) (by simp only [f_X6_many, e0, e1, e2, e3, e4, e5, e6, if_false])
