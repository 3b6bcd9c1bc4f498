/-! the class's offices: what they hold against a row of the reference's kind -/
def RW (s : SS) (o : Nat) (w : RR) (n : Nat) : Prop := s o 8 = nI n ∧ w 6 = nI n ∧ (∀ k : Nat, k < 4 → s (o + 1) k = w k) ∧ s o 9 = w 4 ∧ s o 10 = w 5 ∧ s o 11 = w 7 ∧ ∀ p : Nat, p < n → s (o + 2) p = w (8 + 6 * p + 0) ∧ s (o + 3) p = w (8 + 6 * p + 1) ∧ s (o + 4) p = w (8 + 6 * p + 2) ∧ s (o + 5) p = w (8 + 6 * p + 3) ∧ s (o + 6) p = w (8 + 6 * p + 4) ∧ s (o + 7) p = w (8 + 6 * p + 5)
/-- nothing outside an office is changed -/
def Fr (o : Nat) (s s' : SS) : Prop := ∀ c : Nat, c < o ∨ o + 8 < c → s' c = s c
theorem Fr.rf {o : Nat} {s : SS} : Fr o s s := fun _ _ => rfl
theorem Fr.tr {o : Nat} {s s' s'' : SS} (h : Fr o s s') (h' : Fr o s' s'') : Fr o s s'' := fun c hc => (h' c hc).trans (h c hc)
theorem up2_o {s : SS} {c c' i : Nat} {v : Int32} (h : c' ≠ c) : up2 s c i v c' = s c' := by
  funext b
  rw [up2_r, if_neg (fun e => h e.1)]
theorem Fr.up {o c i : Nat} {v : Int32} {s s' : SS} (h : Fr o s s') (hc : o ≤ c ∧ c ≤ o + 8) : Fr o s (up2 s' c i v) := fun c' hc' => by rw [up2_o (by omega)]; exact h c' hc'
theorem nI_sub {a b : Nat} (h : b ≤ a) : nI a - nI b = nI (a - b) := by
  have e : nI (a - b) + nI b = nI a := by rw [nI_add, Nat.sub_add_cancel h]
  rw [← e, Int32.add_sub_cancel]
theorem nI_mul (a b : Nat) : nI a * nI b = nI (a * b) := (Int32.ofNat_mul a b).symm
theorem rem_n {k d : Nat} (hk : k < 2 ^ 31) (h0 : 0 < d) (hd : d < 2 ^ 31) : nI k - nI k / nI d * nI d = nI (k % d) := by
  rw [pk_div hk h0 hd, nI_mul, nI_sub (Nat.div_mul_le_self k d)]
  congr 1
  have := Nat.div_add_mod k d
  rw [Nat.mul_comm] at this
  omega
theorem rem2 {W : Nat} {x : Int32} (hW : W < 2 ^ 31) (h : bd W x) : (x - x / 2 * 2 = 0 ∧ ¬ x - x / 2 * 2 = 1) ∨ (x - x / 2 * 2 = 1 ∧ ¬ x - x / 2 * 2 = 0) := by
  obtain ⟨k, hk, rfl⟩ := h
  have e : nI k - nI k / 2 * 2 = nI (k % 2) := rem_n (d := 2) (by omega) (by omega) (by omega)
  rw [e]
  have h2 : k % 2 = 0 ∨ k % 2 = 1 := by omega
  rcases h2 with h2 | h2 <;> rw [h2]
  · exact Or.inl ⟨by decide, by decide⟩
  · exact Or.inr ⟨by decide, by decide⟩
theorem RW.set0 {s : SS} {o n p : Nat} {w : RR} {x : Int32} (h : RW s o w n) : RW (up2 s (o + 2) p x) o (uw w (8 + 6 * p + 0) x) n := by
  obtain ⟨h1, h2, h3, h4, h5, h6, h7⟩ := h
  refine ⟨by rw [up2_o (by omega)]; exact h1, by rw [uw_n (by omega)]; exact h2, fun k hk => by rw [up2_o (by omega), uw_n (by omega)]; exact h3 k hk, by rw [up2_o (by omega), uw_n (by omega)]; exact h4, by rw [up2_o (by omega), uw_n (by omega)]; exact h5, by rw [up2_o (by omega), uw_n (by omega)]; exact h6, fun p' hp' => ?_⟩
  obtain ⟨a0, a1, a2, a3, a4, a5⟩ := h7 p' hp'
  refine ⟨?_, by rw [up2_o (by omega), uw_n (by omega)]; exact a1, by rw [up2_o (by omega), uw_n (by omega)]; exact a2, by rw [up2_o (by omega), uw_n (by omega)]; exact a3, by rw [up2_o (by omega), uw_n (by omega)]; exact a4, by rw [up2_o (by omega), uw_n (by omega)]; exact a5⟩
  by_cases e : p' = p
  · subst e; rw [up2_r, if_pos ⟨rfl, rfl⟩, uw_s]
  · rw [up2_r, if_neg (fun z => e z.2), uw_n (by omega)]; exact a0
theorem RW.set1 {s : SS} {o n p : Nat} {w : RR} {x : Int32} (h : RW s o w n) : RW (up2 s (o + 3) p x) o (uw w (8 + 6 * p + 1) x) n := by
  obtain ⟨h1, h2, h3, h4, h5, h6, h7⟩ := h
  refine ⟨by rw [up2_o (by omega)]; exact h1, by rw [uw_n (by omega)]; exact h2, fun k hk => by rw [up2_o (by omega), uw_n (by omega)]; exact h3 k hk, by rw [up2_o (by omega), uw_n (by omega)]; exact h4, by rw [up2_o (by omega), uw_n (by omega)]; exact h5, by rw [up2_o (by omega), uw_n (by omega)]; exact h6, fun p' hp' => ?_⟩
  obtain ⟨a0, a1, a2, a3, a4, a5⟩ := h7 p' hp'
  refine ⟨by rw [up2_o (by omega), uw_n (by omega)]; exact a0, ?_, by rw [up2_o (by omega), uw_n (by omega)]; exact a2, by rw [up2_o (by omega), uw_n (by omega)]; exact a3, by rw [up2_o (by omega), uw_n (by omega)]; exact a4, by rw [up2_o (by omega), uw_n (by omega)]; exact a5⟩
  by_cases e : p' = p
  · subst e; rw [up2_r, if_pos ⟨rfl, rfl⟩, uw_s]
  · rw [up2_r, if_neg (fun z => e z.2), uw_n (by omega)]; exact a1
theorem RW.set2 {s : SS} {o n p : Nat} {w : RR} {x : Int32} (h : RW s o w n) : RW (up2 s (o + 4) p x) o (uw w (8 + 6 * p + 2) x) n := by
  obtain ⟨h1, h2, h3, h4, h5, h6, h7⟩ := h
  refine ⟨by rw [up2_o (by omega)]; exact h1, by rw [uw_n (by omega)]; exact h2, fun k hk => by rw [up2_o (by omega), uw_n (by omega)]; exact h3 k hk, by rw [up2_o (by omega), uw_n (by omega)]; exact h4, by rw [up2_o (by omega), uw_n (by omega)]; exact h5, by rw [up2_o (by omega), uw_n (by omega)]; exact h6, fun p' hp' => ?_⟩
  obtain ⟨a0, a1, a2, a3, a4, a5⟩ := h7 p' hp'
  refine ⟨by rw [up2_o (by omega), uw_n (by omega)]; exact a0, by rw [up2_o (by omega), uw_n (by omega)]; exact a1, ?_, by rw [up2_o (by omega), uw_n (by omega)]; exact a3, by rw [up2_o (by omega), uw_n (by omega)]; exact a4, by rw [up2_o (by omega), uw_n (by omega)]; exact a5⟩
  by_cases e : p' = p
  · subst e; rw [up2_r, if_pos ⟨rfl, rfl⟩, uw_s]
  · rw [up2_r, if_neg (fun z => e z.2), uw_n (by omega)]; exact a2
theorem RW.set3 {s : SS} {o n p : Nat} {w : RR} {x : Int32} (h : RW s o w n) : RW (up2 s (o + 5) p x) o (uw w (8 + 6 * p + 3) x) n := by
  obtain ⟨h1, h2, h3, h4, h5, h6, h7⟩ := h
  refine ⟨by rw [up2_o (by omega)]; exact h1, by rw [uw_n (by omega)]; exact h2, fun k hk => by rw [up2_o (by omega), uw_n (by omega)]; exact h3 k hk, by rw [up2_o (by omega), uw_n (by omega)]; exact h4, by rw [up2_o (by omega), uw_n (by omega)]; exact h5, by rw [up2_o (by omega), uw_n (by omega)]; exact h6, fun p' hp' => ?_⟩
  obtain ⟨a0, a1, a2, a3, a4, a5⟩ := h7 p' hp'
  refine ⟨by rw [up2_o (by omega), uw_n (by omega)]; exact a0, by rw [up2_o (by omega), uw_n (by omega)]; exact a1, by rw [up2_o (by omega), uw_n (by omega)]; exact a2, ?_, by rw [up2_o (by omega), uw_n (by omega)]; exact a4, by rw [up2_o (by omega), uw_n (by omega)]; exact a5⟩
  by_cases e : p' = p
  · subst e; rw [up2_r, if_pos ⟨rfl, rfl⟩, uw_s]
  · rw [up2_r, if_neg (fun z => e z.2), uw_n (by omega)]; exact a3
theorem RW.set4 {s : SS} {o n p : Nat} {w : RR} {x : Int32} (h : RW s o w n) : RW (up2 s (o + 6) p x) o (uw w (8 + 6 * p + 4) x) n := by
  obtain ⟨h1, h2, h3, h4, h5, h6, h7⟩ := h
  refine ⟨by rw [up2_o (by omega)]; exact h1, by rw [uw_n (by omega)]; exact h2, fun k hk => by rw [up2_o (by omega), uw_n (by omega)]; exact h3 k hk, by rw [up2_o (by omega), uw_n (by omega)]; exact h4, by rw [up2_o (by omega), uw_n (by omega)]; exact h5, by rw [up2_o (by omega), uw_n (by omega)]; exact h6, fun p' hp' => ?_⟩
  obtain ⟨a0, a1, a2, a3, a4, a5⟩ := h7 p' hp'
  refine ⟨by rw [up2_o (by omega), uw_n (by omega)]; exact a0, by rw [up2_o (by omega), uw_n (by omega)]; exact a1, by rw [up2_o (by omega), uw_n (by omega)]; exact a2, by rw [up2_o (by omega), uw_n (by omega)]; exact a3, ?_, by rw [up2_o (by omega), uw_n (by omega)]; exact a5⟩
  by_cases e : p' = p
  · subst e; rw [up2_r, if_pos ⟨rfl, rfl⟩, uw_s]
  · rw [up2_r, if_neg (fun z => e z.2), uw_n (by omega)]; exact a4
theorem RW.set5 {s : SS} {o n p : Nat} {w : RR} {x : Int32} (h : RW s o w n) : RW (up2 s (o + 7) p x) o (uw w (8 + 6 * p + 5) x) n := by
  obtain ⟨h1, h2, h3, h4, h5, h6, h7⟩ := h
  refine ⟨by rw [up2_o (by omega)]; exact h1, by rw [uw_n (by omega)]; exact h2, fun k hk => by rw [up2_o (by omega), uw_n (by omega)]; exact h3 k hk, by rw [up2_o (by omega), uw_n (by omega)]; exact h4, by rw [up2_o (by omega), uw_n (by omega)]; exact h5, by rw [up2_o (by omega), uw_n (by omega)]; exact h6, fun p' hp' => ?_⟩
  obtain ⟨a0, a1, a2, a3, a4, a5⟩ := h7 p' hp'
  refine ⟨by rw [up2_o (by omega), uw_n (by omega)]; exact a0, by rw [up2_o (by omega), uw_n (by omega)]; exact a1, by rw [up2_o (by omega), uw_n (by omega)]; exact a2, by rw [up2_o (by omega), uw_n (by omega)]; exact a3, by rw [up2_o (by omega), uw_n (by omega)]; exact a4, ?_⟩
  by_cases e : p' = p
  · subst e; rw [up2_r, if_pos ⟨rfl, rfl⟩, uw_s]
  · rw [up2_r, if_neg (fun z => e z.2), uw_n (by omega)]; exact a5
theorem RW.week {s : SS} {o n : Nat} {w : RR} {x : Int32} (h : RW s o w n) : RW (up2 s o 9 x) o (uw w 4 x) n := by
  obtain ⟨h1, h2, h3, h4, h5, h6, h7⟩ := h
  refine ⟨by rw [up2_r, if_neg (by omega)]; exact h1, by rw [uw_n (by omega)]; exact h2, fun k hk => by rw [up2_o (by omega), uw_n (by omega)]; exact h3 k hk, by rw [up2_r, if_pos ⟨rfl, rfl⟩, uw_s], by rw [up2_r, if_neg (by omega), uw_n (by omega)]; exact h5, by rw [up2_r, if_neg (by omega), uw_n (by omega)]; exact h6, fun p' hp' => ?_⟩
  · obtain ⟨a0, a1, a2, a3, a4, a5⟩ := h7 p' hp'
    exact ⟨by rw [up2_o (by omega), uw_n (by omega)]; exact a0, by rw [up2_o (by omega), uw_n (by omega)]; exact a1, by rw [up2_o (by omega), uw_n (by omega)]; exact a2, by rw [up2_o (by omega), uw_n (by omega)]; exact a3, by rw [up2_o (by omega), uw_n (by omega)]; exact a4, by rw [up2_o (by omega), uw_n (by omega)]; exact a5⟩
theorem RW.back {s : SS} {o n : Nat} {w : RR} {x : Int32} (h : RW s o w n) : RW (up2 s o 10 x) o (uw w 5 x) n := by
  obtain ⟨h1, h2, h3, h4, h5, h6, h7⟩ := h
  refine ⟨by rw [up2_r, if_neg (by omega)]; exact h1, by rw [uw_n (by omega)]; exact h2, fun k hk => by rw [up2_o (by omega), uw_n (by omega)]; exact h3 k hk, by rw [up2_r, if_neg (by omega), uw_n (by omega)]; exact h4, by rw [up2_r, if_pos ⟨rfl, rfl⟩, uw_s], by rw [up2_r, if_neg (by omega), uw_n (by omega)]; exact h6, fun p' hp' => ?_⟩
  · obtain ⟨a0, a1, a2, a3, a4, a5⟩ := h7 p' hp'
    exact ⟨by rw [up2_o (by omega), uw_n (by omega)]; exact a0, by rw [up2_o (by omega), uw_n (by omega)]; exact a1, by rw [up2_o (by omega), uw_n (by omega)]; exact a2, by rw [up2_o (by omega), uw_n (by omega)]; exact a3, by rw [up2_o (by omega), uw_n (by omega)]; exact a4, by rw [up2_o (by omega), uw_n (by omega)]; exact a5⟩
theorem RW.z {s : SS} {o n : Nat} {w : RR} {x : Int32} (h : RW s o w n) : RW (up2 s o 11 x) o (uw w 7 x) n := by
  obtain ⟨h1, h2, h3, h4, h5, h6, h7⟩ := h
  refine ⟨by rw [up2_r, if_neg (by omega)]; exact h1, by rw [uw_n (by omega)]; exact h2, fun k hk => by rw [up2_o (by omega), uw_n (by omega)]; exact h3 k hk, by rw [up2_r, if_neg (by omega), uw_n (by omega)]; exact h4, by rw [up2_r, if_neg (by omega), uw_n (by omega)]; exact h5, by rw [up2_r, if_pos ⟨rfl, rfl⟩, uw_s], fun p' hp' => ?_⟩
  · obtain ⟨a0, a1, a2, a3, a4, a5⟩ := h7 p' hp'
    exact ⟨by rw [up2_o (by omega), uw_n (by omega)]; exact a0, by rw [up2_o (by omega), uw_n (by omega)]; exact a1, by rw [up2_o (by omega), uw_n (by omega)]; exact a2, by rw [up2_o (by omega), uw_n (by omega)]; exact a3, by rw [up2_o (by omega), uw_n (by omega)]; exact a4, by rw [up2_o (by omega), uw_n (by omega)]; exact a5⟩
theorem RW.law {s : SS} {o n k : Nat} {w : RR} {x : Int32} (hk : k < 4) (h : RW s o w n) : RW (up2 s (o + 1) k x) o (uw w k x) n := by
  obtain ⟨h1, h2, h3, h4, h5, h6, h7⟩ := h
  refine ⟨by rw [up2_o (by omega)]; exact h1, by rw [uw_n (by omega)]; exact h2, fun k' hk' => ?_, by rw [up2_o (by omega), uw_n (by omega)]; exact h4, by rw [up2_o (by omega), uw_n (by omega)]; exact h5, by rw [up2_o (by omega), uw_n (by omega)]; exact h6, fun p' hp' => ?_⟩
  · by_cases e : k' = k
    · subst e; rw [up2_r, if_pos ⟨rfl, rfl⟩, uw_s]
    · rw [up2_r, if_neg (fun z => e z.2), uw_n (by omega)]; exact h3 k' hk'
  · obtain ⟨a0, a1, a2, a3, a4, a5⟩ := h7 p' hp'
    exact ⟨by rw [up2_o (by omega), uw_n (by omega)]; exact a0, by rw [up2_o (by omega), uw_n (by omega)]; exact a1, by rw [up2_o (by omega), uw_n (by omega)]; exact a2, by rw [up2_o (by omega), uw_n (by omega)]; exact a3, by rw [up2_o (by omega), uw_n (by omega)]; exact a4, by rw [up2_o (by omega), uw_n (by omega)]; exact a5⟩
theorem RW.need {s : SS} {o n p : Nat} {w : RR} {x : Int32} (h : RW s o w n) : RW (up2 s (o + 8) p x) o w n := by
  obtain ⟨h1, h2, h3, h4, h5, h6, h7⟩ := h
  refine ⟨by rw [up2_o (by omega)]; exact h1, h2, fun k hk => by rw [up2_o (by omega)]; exact h3 k hk, by rw [up2_o (by omega)]; exact h4, by rw [up2_o (by omega)]; exact h5, by rw [up2_o (by omega)]; exact h6, fun p' hp' => ?_⟩
  obtain ⟨a0, a1, a2, a3, a4, a5⟩ := h7 p' hp'
  exact ⟨by rw [up2_o (by omega)]; exact a0, by rw [up2_o (by omega)]; exact a1, by rw [up2_o (by omega)]; exact a2, by rw [up2_o (by omega)]; exact a3, by rw [up2_o (by omega)]; exact a4, by rw [up2_o (by omega)]; exact a5⟩
theorem c_thinking {s : SS} {t : TT} {o n W p : Nat} {w : RR} (h : RW s o w n) (hw : OKw w n W) (hp : p < n) : f_X1_thinking o (nI p) s t = some (R_thinks w p, s, t) := by
  obtain ⟨h1, h2, h3, h4, h5, h6, h7⟩ := h
  obtain ⟨k0, k1, k2, k3, k4, k5⟩ := h7 p hp
  have hn := hw.1
  have hp8 : p < 8 := by omega
  have l2 := h3 2 (by omega)
  have hk : bd 5 (gw w p 0) := hw.at hp 0 (by omega)
  simp only [f_X1_thinking, j_X1_thinking_54, j_X1_thinking_40, j_X1_thinking_29, j_X1_thinking_20, rx8 hp8, rx4_2, bs, c_isUnder, b2_z, k0, k2, l2, R_thinks, gw]
  rcases kd hk with e | e | e | e | e | e <;> simp only [gw, Nat.add_zero] at e <;> simp [e, und]
theorem c_needing {s : SS} {t : TT} {o n W p : Nat} {w : RR} (h : RW s o w n) (hw : OKw w n W) (hp : p < n) : f_X1_needing o (nI p) s t = some (R_needs w p, s, t) := by
  obtain ⟨h1, h2, h3, h4, h5, h6, h7⟩ := h
  obtain ⟨k0, k1, k2, k3, k4, k5⟩ := h7 p hp
  have hn := hw.1
  have hp8 : p < 8 := by omega
  have l1 := h3 1 (by omega)
  have hk : bd 5 (gw w p 0) := hw.at hp 0 (by omega)
  simp only [f_X1_needing, j_X1_needing_61, j_X1_needing_53, j_X1_needing_41, j_X1_needing_27, rx8 hp8, rx4_1, bs, c_isUnder, b2_z, k0, k2, l1, R_needs, gw]
  rcases kd hk with e | e | e | e | e | e <;> simp only [gw, Nat.add_zero] at e <;> simp [e, und]
theorem max_hl {x : Int32} (h : bd 99 x) : pmf_max 0 (x - 1) = hl (x - 1) 0 99 := by
  rw [bd_i (by decide)] at h
  have e : (x - 1).toInt = x.toInt - 1 := tI_sub (by rw [show (1 : Int32).toInt = 1 from rfl]; omega) (by rw [show (1 : Int32).toInt = 1 from rfl]; omega)
  unfold pmf_max hl
  by_cases c1 : (0 : Int32) < x - 1
  · rw [if_pos c1, if_pos (by rw [tI_lt] at c1; rw [tI_le]; omega), if_pos (by rw [tI_le, e, show (99 : Int32).toInt = 99 from rfl]; omega)]
  · rw [if_neg c1]
    by_cases c2 : (0 : Int32) ≤ x - 1
    · rw [if_pos c2, if_pos (by rw [tI_le, e, show (99 : Int32).toInt = 99 from rfl]; omega)]
      rw [tI_lt] at c1
      rw [tI_le] at c2
      rw [tI_eq]
      omega
    · rw [if_neg c2]
theorem c_saying {s : SS} {t : TT} {o n W p : Nat} {w : RR} (h : RW s o w n) (hw : OKw w n W) (hp : p < n) : f_X1_saying o (nI p) s t = some (R_says w p, s, t) := by
  obtain ⟨h1, h2, h3, h4, h5, h6, h7⟩ := h
  obtain ⟨k0, k1, k2, k3, k4, k5⟩ := h7 p hp
  have hn := hw.1
  have hp8 : p < 8 := by omega
  have l2 := h3 2 (by omega)
  have hk : bd 5 (gw w p 0) := hw.at hp 0 (by omega)
  have hpg : bd 99 (w (8 + 6 * p + 3)) := hw.at hp 3 (by omega)
  simp only [f_X1_saying, j_X1_saying_60, j_X1_saying_43, j_X1_saying_35, rx8 hp8, rx4_2, bs, c_isUnder, b2_z, k0, k2, k3, l2, R_says, gw, max_hl hpg]
  rcases kd hk with e | e | e | e | e | e <;> simp only [gw, Nat.add_zero] at e <;> simp [e, und, Int32.mul_comm, Int32.sub_eq_add_neg]
theorem c_isUsing {s : SS} {t : TT} {o n W p : Nat} {w : RR} (hW : W < 2 ^ 31) (h : RW s o w n) (hw : OKw w n W) (hp : p < n) : f_X1_isUsing o (nI p) s t = some (b2 (R_used w p), s, t) := by
  obtain ⟨h1, h2, h3, h4, h5, h6, h7⟩ := h
  obtain ⟨k0, k1, k2, k3, k4, k5⟩ := h7 p hp
  have hn := hw.1
  have hp8 : p < 8 := by omega
  have hk : bd 5 (gw w p 0) := hw.at hp 0 (by omega)
  simp only [f_X1_isUsing, j_X1_isUsing_30, rx8 hp8, bs, c_isUnder, b2_z, k0, h4, R_used, R_odd, gw]
  rcases rem2 hW hw.2.2.2.1 with ⟨r1, r2⟩ | ⟨r1, r2⟩ <;> by_cases r3 : w 4 - w 4 / 3 * 3 = 0 <;> rcases kd hk with e | e | e | e | e | e <;> simp only [gw, Nat.add_zero] at e <;> simp [e, r1, r2, r3, und, b2]
