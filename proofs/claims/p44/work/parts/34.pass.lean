/-! a WEEK in an office of the class, against the row -/
theorem min_hl {x M : Int32} {m : Nat} (hm : m < 2 ^ 31) (h : bd m x) : pmf_min M x = hl x 0 M ∨ M < 0 := by
  rw [bd_i hm] at h
  unfold pmf_min hl
  by_cases hM : M < 0
  · exact Or.inr hM
  · refine Or.inl ?_
    rw [if_pos (show (0 : Int32) ≤ x by rw [tI_le, show (0 : Int32).toInt = 0 from rfl]; omega)]
    by_cases c : x < M
    · rw [if_pos c, if_pos (by rw [tI_lt] at c; rw [tI_le]; omega)]
    · rw [if_neg c]
      by_cases d : x ≤ M
      · rw [if_pos d]; rw [tI_lt] at c; rw [tI_le] at d; rw [tI_eq]; omega
      · rw [if_neg d]
theorem min_99 {x : Int32} {m : Nat} (hm : m < 2 ^ 31) (h : bd m x) : pmf_min 99 x = hl x 0 99 := (min_hl hm h).resolve_right (by decide)
theorem min_9999 {x : Int32} {m : Nat} (hm : m < 2 ^ 31) (h : bd m x) : pmf_min 9999 x = hl x 0 9999 := (min_hl hm h).resolve_right (by decide)
theorem min_99999 {x : Int32} {m : Nat} (hm : m < 2 ^ 31) (h : bd m x) : pmf_min 99999 x = hl x 0 99999 := (min_hl hm h).resolve_right (by decide)
theorem R_says_bd {w : RR} {n W p : Nat} (h : OKw w n W) (hp : p < n) : bd 150 (R_says w p) := by
  have hh : bd 9 (gw w p 2) := h.at hp 2 (by omega)
  have hr : bd 9 (w 2) := h.2.2.1 2 (by omega)
  have h1 : bd 10 (1 + gw w p 2) := bd_add (bd_c 1 (m := 1) rfl (by omega)) hh
  have h2 : bd 20 (2 * (1 + gw w p 2)) := by
    obtain ⟨k, hk, e⟩ := h1
    exact ⟨2 * k, by omega, by rw [e]; exact nI_mul 2 k⟩
  unfold R_says
  split
  · exact bd_le h2 (by omega)
  · split
    · exact bd_le (bd_add h1 hr) (by omega)
    · split
      · refine bd_le (m := 20) ?_ (by omega)
        obtain ⟨k, hk, e⟩ := h1
        obtain ⟨l, hl, e2⟩ := hh
        have e3 : 2 * (1 + gw w p 2) = nI (2 * (1 + l)) := by rw [e2]; exact (congrArg (fun x => (2 : Int32) * x) (nI_add 1 l)).trans (nI_mul 2 (1 + l))
        rw [e3]
        exact ⟨2 * (1 + l) - 1, by omega, nI_sub (b := 1) (by omega)⟩
      · split
        · exact bd_le (bd_add (bd_add h1 hr) (hl_bd (m := 99) (by decide) rfl)) (by omega)
        · split
          · exact bd_c 0 rfl (by omega)
          · exact bd_le h1 (by omega)
theorem R_needs_thinkL {w : RR} {p : Nat} : ∀ m : Nat, R_needs (R_thinkL w m) p = R_needs w p
  | 0 => rfl
  | m + 1 => (R_needs_uw (Or.inl rfl)).trans (R_needs_thinkL m)
theorem c_think_l {t : TT} {o n W : Nat} {w : RR} (hw : OKw w n W) : ∀ (m j f : Nat) (s : SS), j + m = n → m < f → RW s o (R_thinkL w j) n → (∀ p : Nat, p < j → s (o + 8) p = R_needs w p) → ∃ s' : SS, l_X1_think_2 o f (nI j, s, t) = some (s', t) ∧ Fr o s s' ∧ RW s' o (R_thinkL w n) n ∧ ∀ p : Nat, p < n → s' (o + 8) p = R_needs w p
  | 0, j, f + 1, s, hj, _, h, hN => by
    have e : j = n := by omega
    subst e
    refine ⟨s, ?_, Fr.rf, h, hN⟩
    show b_X1_think_2 o (l_X1_think_2 o f) _ _ _ = _
    simp only [b_X1_think_2, h.1, nI_le (Nat.le_refl j) (show j < 2 ^ 31 by have := hw.1; omega), if_true]
  | m + 1, j, f + 1, s, hj, hf, h, hN => by
    have hn := hw.1
    have hj8 : j < 8 := by omega
    have hjn : j < n := by omega
    have hok := R_thinkL_ok hw j
    have k1 := (h.2.2.2.2.2.2 j hjn).2.1
    have hm : pmf_min 99 (s (o + 3) j + R_thinks (R_thinkL w j) j) = hl (gw (R_thinkL w j) j 1 + R_thinks (R_thinkL w j) j) 0 99 := by
      rw [k1]
      exact min_99 (m := 99 + 11) (by decide) (bd_add (hok.at hjn 1 (by omega)) (R_thinks_bd hok hjn))
    have h1 : RW (up2 s (o + 3) j (pmf_min 99 (s (o + 3) j + R_thinks (R_thinkL w j) j))) o (R_thinkL w (j + 1)) n := by
      rw [hm]; exact h.set1
    have hok1 := R_thinkL_ok hw (j + 1)
    have h2 : RW (up2 (up2 s (o + 3) j (pmf_min 99 (s (o + 3) j + R_thinks (R_thinkL w j) j))) (o + 8) j (R_needs (R_thinkL w (j + 1)) j)) o (R_thinkL w (j + 1)) n := h1.need
    obtain ⟨s', e, hf', hr, hN'⟩ := c_think_l (t := t) hw m (j + 1) f _ (by omega) (by omega) h2 (fun p hp => by
      rw [up2_r]
      by_cases e : p = j
      · rw [if_pos ⟨rfl, e⟩, R_needs_thinkL, e]
      · rw [if_neg (fun z => e z.2), up2_o (by omega)]; exact hN p (by omega))
    refine ⟨s', ?_, ((Fr.rf.up ⟨by omega, by omega⟩).up ⟨by omega, by omega⟩).tr hf', hr, hN'⟩
    show b_X1_think_2 o (l_X1_think_2 o f) _ _ _ = _
    simp only [b_X1_think_2, h.1, nI_ge hjn (show n < 2 ^ 31 by omega), if_false, rx8 hj8, bs, wr_e, c_thinking h hok hjn, c_needing h1 hok1 hjn, nI_1]
    exact e
theorem c_think {s : SS} {t : TT} {o n W : Nat} {w : RR} (h : RW s o w n) (hw : OKw w n W) : ∃ s' : SS, f_X1_think o s t = some (s', t) ∧ Fr o s s' ∧ RW s' o (R_thinkL w n) n ∧ ∀ p : Nat, p < n → s' (o + 8) p = R_needs w p :=
  c_think_l hw n 0 300 s (by omega) (by have := hw.1; omega) h (fun p hp => absurd hp (Nat.not_lt_zero p))
/-- whom the van may serve, on both sides -/
def May (n : Nat) (may left : Int32) : Prop := ∀ p : Nat, p < n → (((may >>> (nI p &&& 31)) &&& 1 = 0) ↔ ¬ ((left >>> (nI p &&& 31)) &&& 1 = 0))
def oK : Option Nat → Int32
  | none => -3
  | some p => nI p
def oM (w : RR) : Option Nat → Int32
  | none => -1
  | some p => gw w p 1 - R_needs w p
theorem above {w : RR} {n W p : Nat} (hw : OKw w n W) (hp : p < n) : (gw w p 1 - R_needs w p).toInt = (gw w p 1).toInt - (R_needs w p).toInt ∧ 0 ≤ (gw w p 1).toInt ∧ (gw w p 1).toInt ≤ 99 ∧ 0 ≤ (R_needs w p).toInt ∧ (R_needs w p).toInt ≤ 20 := by
  have g1 : bd 99 (gw w p 1) := hw.at hp 1 (by omega)
  have h1 := (bd_i (by decide)).mp g1
  have h2 := (bd_i (by decide)).mp (R_needs_bd hw hp)
  refine ⟨tI_sub (by omega) (by omega), h1.1, ?_, h2.1, ?_⟩
  · exact h1.2
  · exact h2.2
theorem c_keen_l {s : SS} {t : TT} {o n W : Nat} {w : RR} {may left : Int32} (h : RW s o w n) (hw : OKw w n W) (hN : ∀ p : Nat, p < n → s (o + 8) p = R_needs w p) (hM : May n may left) : ∀ (m j f : Nat), j + m = n → m < f → l_X1_keenest_8 o f (may, oK (R_next w left j), oM w (R_next w left j), nI j, s, t) = some (oK (R_next w left n), s, t)
  | 0, j, f + 1, hj, _ => by
    have e : j = n := by omega
    subst e
    show b_X1_keenest_8 o (l_X1_keenest_8 o f) _ _ _ _ _ _ = _
    simp only [b_X1_keenest_8, h.1, nI_le (Nat.le_refl j) (show j < 2 ^ 31 by have := hw.1; omega), if_true]
  | m + 1, j, f + 1, hj, hf => by
    have hn := hw.1
    have hj8 : j < 8 := by omega
    have hjn : j < n := by omega
    have ih := c_keen_l (t := t) h hw hN hM m (j + 1) f (by omega) (by omega)
    obtain ⟨k0, k1, k2, k3, k4, k5⟩ := h.2.2.2.2.2.2 j hjn
    obtain ⟨a1, a2, a3, a4, a5⟩ := above hw hjn
    have hb := hM j hjn
    show b_X1_keenest_8 o (l_X1_keenest_8 o f) _ _ _ _ _ _ = _
    simp only [b_X1_keenest_8, h.1, nI_ge hjn (show n < 2 ^ 31 by omega), if_false, rx8 hj8, bs, k1, k3, hN j hjn, nI_1]
    rw [← ih]
    have e1 : w (8 + 6 * j + 1) = gw w j 1 := rfl
    have e3 : w (8 + 6 * j + 3) = gw w j 3 := rfl
    rw [e1, e3]
    cases hR : R_next w left j with
    | none =>
      simp only [R_next, hR, R_may, oM]
      by_cases c1 : gw w j 1 < R_needs w j
      · have c2 : gw w j 1 - R_needs w j ≤ -1 := by rw [tI_lt] at c1; rw [tI_le, a1, show (-1 : Int32).toInt = -1 from rfl]; omega
        simp [c1, c2, oM]
      · have c2 : ¬ gw w j 1 - R_needs w j ≤ -1 := by rw [tI_lt] at c1; rw [tI_le, a1, show (-1 : Int32).toInt = -1 from rfl]; omega
        by_cases c3 : 99 ≤ gw w j 3
        · simp [c1, c2, c3, oM]
        · by_cases c4 : left >>> (nI j &&& 31) &&& 1 = 0
          · have c5 : ¬ may >>> (nI j &&& 31) &&& 1 = 0 := fun z => hb.mp z c4
            simp [c1, c2, c3, c4, c5, oM, oK]
          · have c5 : may >>> (nI j &&& 31) &&& 1 = 0 := hb.mpr c4
            simp [c1, c2, c3, c4, c5, oM]
    | some b =>
      have hbn : b < n := by have := R_next_lt hR; omega
      obtain ⟨b1, b2', b3, b4, b5⟩ := above hw hbn
      have hmay := R_next_may hR
      simp only [R_may, Bool.and_eq_true, Bool.not_eq_true', decide_eq_false_iff_not, decide_eq_true_eq] at hmay
      have hb0 := hmay.1
      rw [tI_lt] at hb0
      simp only [R_next, hR, R_may, oM]
      by_cases c1 : gw w j 1 < R_needs w j
      · have c2 : gw w j 1 - R_needs w j ≤ gw w b 1 - R_needs w b := by rw [tI_lt] at c1; rw [tI_le, a1, b1]; omega
        simp [c1, c2, oM]
      · by_cases c2 : gw w j 1 - R_needs w j ≤ gw w b 1 - R_needs w b
        · by_cases c3 : 99 ≤ gw w j 3
          · simp [c1, c2, c3, oM]
          · by_cases c4 : left >>> (nI j &&& 31) &&& 1 = 0
            · simp [c1, c2, c3, c4, oM]
            · simp [c1, c2, c3, c4, oM]
        · by_cases c3 : 99 ≤ gw w j 3
          · simp [c1, c2, c3, oM]
          · by_cases c4 : left >>> (nI j &&& 31) &&& 1 = 0
            · have c5 : ¬ may >>> (nI j &&& 31) &&& 1 = 0 := fun z => hb.mp z c4
              simp [c1, c2, c3, c4, c5, oM, oK]
            · have c5 : may >>> (nI j &&& 31) &&& 1 = 0 := hb.mpr c4
              simp [c1, c2, c3, c4, c5, oM]
theorem c_keenest {s : SS} {t : TT} {o n W : Nat} {w : RR} {may left : Int32} (h : RW s o w n) (hw : OKw w n W) (hN : ∀ p : Nat, p < n → s (o + 8) p = R_needs w p) (hM : May n may left) : f_X1_keenest o may s t = some (oK (R_next w left n), s, t) :=
  c_keen_l h hw hN hM n 0 300 (by omega) (by have := hw.1; omega)
