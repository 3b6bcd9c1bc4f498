/-! the reference's row: what its methods reckon of it -/
def ml (k : Nat) : Nat := if k = 3 then 99 else 9
def mj (j : Nat) : Nat := if j = 0 then 5 else if j = 1 then 99 else if j = 2 then 9 else if j = 3 then 99 else if j = 4 then 9999 else 99999
/-- a row that may be: n people, WEEK at most W -/
def OKw (w : RR) (n W : Nat) : Prop := n ≤ 8 ∧ w 6 = nI n ∧ (∀ k : Nat, k < 4 → bd (ml k) (w k)) ∧ bd W (w 4) ∧ bd 9999 (w 5) ∧ ∀ p : Nat, p < n → ∀ j : Nat, j < 6 → bd (mj j) (w (8 + 6 * p + j))
theorem OKw.set {w : RR} {n W p j : Nat} {x : Int32} (h : OKw w n W) (hj : j < 6) (hx : bd (mj j) x) : OKw (uw w (8 + 6 * p + j) x) n W := by
  obtain ⟨h1, h2, h3, h4, h5, h6⟩ := h
  refine ⟨h1, by rw [uw_n (by omega)]; exact h2, fun k hk => by rw [uw_n (by omega)]; exact h3 k hk, by rw [uw_n (by omega)]; exact h4, by rw [uw_n (by omega)]; exact h5, fun p' hp' j' hj' => ?_⟩
  by_cases e : 8 + 6 * p' + j' = 8 + 6 * p + j
  · have ej : j' = j := by omega
    rw [e, uw_s, ej]; exact hx
  · rw [uw_n e]; exact h6 p' hp' j' hj'
theorem OKw.law {w : RR} {n W k : Nat} {x : Int32} (h : OKw w n W) (hk : k < 4) (hx : bd (ml k) x) : OKw (uw w k x) n W := by
  obtain ⟨h1, h2, h3, h4, h5, h6⟩ := h
  refine ⟨h1, by rw [uw_n (by omega)]; exact h2, fun k' hk' => ?_, by rw [uw_n (by omega)]; exact h4, by rw [uw_n (by omega)]; exact h5, fun p' hp' j' hj' => by rw [uw_n (by omega)]; exact h6 p' hp' j' hj'⟩
  by_cases e : k' = k
  · subst e; rw [uw_s]; exact hx
  · rw [uw_n e]; exact h3 k' hk'
theorem OKw.back {w : RR} {n W : Nat} {x : Int32} (h : OKw w n W) (hx : bd 9999 x) : OKw (uw w 5 x) n W := by
  obtain ⟨h1, h2, h3, h4, h5, h6⟩ := h
  exact ⟨h1, by rw [uw_n (by omega)]; exact h2, fun k' hk' => by rw [uw_n (by omega)]; exact h3 k' hk', by rw [uw_n (by omega)]; exact h4, by rw [uw_s]; exact hx, fun p' hp' j' hj' => by rw [uw_n (by omega)]; exact h6 p' hp' j' hj'⟩
theorem OKw.z {w : RR} {n W : Nat} {x : Int32} (h : OKw w n W) : OKw (uw w 7 x) n W := by
  obtain ⟨h1, h2, h3, h4, h5, h6⟩ := h
  exact ⟨h1, by rw [uw_n (by omega)]; exact h2, fun k' hk' => by rw [uw_n (by omega)]; exact h3 k' hk', by rw [uw_n (by omega)]; exact h4, by rw [uw_n (by omega)]; exact h5, fun p' hp' j' hj' => by rw [uw_n (by omega)]; exact h6 p' hp' j' hj'⟩
theorem OKw.week {w : RR} {n W : Nat} (h : OKw w n W) : OKw (uw w 4 (w 4 + 1)) n (W + 1) := by
  obtain ⟨h1, h2, h3, h4, h5, h6⟩ := h
  refine ⟨h1, by rw [uw_n (by omega)]; exact h2, fun k' hk' => by rw [uw_n (by omega)]; exact h3 k' hk', ?_, by rw [uw_n (by omega)]; exact h5, fun p' hp' j' hj' => by rw [uw_n (by omega)]; exact h6 p' hp' j' hj'⟩
  obtain ⟨k, hk, e⟩ := h4
  rw [uw_s, e, nI_1]
  exact ⟨k + 1, by omega, rfl⟩
theorem OKw.more {w : RR} {n W W' : Nat} (h : OKw w n W) (hW : W ≤ W') : OKw w n W' := ⟨h.1, h.2.1, h.2.2.1, bd_le h.2.2.2.1 hW, h.2.2.2.2⟩
theorem OKw.law' {w : RR} {n W k : Nat} (h : OKw w n W) (hk : k < 4) : bd 99 (w k) := bd_le (h.2.2.1 k hk) (by unfold ml; split <;> omega)
/-- what one thinks, needs, says; whether it uses up a page -/
def R_thinks (w : RR) (p : Nat) : Int32 := if gw w p 0 = 1 then 3 else if gw w p 0 = 2 then 1 else if gw w p 0 = 3 then 6 else if gw w p 0 = 4 then 1 + w 2 else if gw w p 0 = 5 then 2 + gw w p 2 else 2
def R_needs (w : RR) (p : Nat) : Int32 := if gw w p 0 = 1 then 10 + w 1 else if gw w p 0 = 2 then 20 else if gw w p 0 = 3 then 10 + w 1 - gw w p 2 else if gw w p 0 = 4 then 15 else if gw w p 0 = 5 then 3 else 10
def R_says (w : RR) (p : Nat) : Int32 := if gw w p 0 = 1 then 2 * (1 + gw w p 2) else if gw w p 0 = 2 then 1 + gw w p 2 + w 2 else if gw w p 0 = 3 then 2 * (1 + gw w p 2) - 1 else if gw w p 0 = 4 then 1 + gw w p 2 + w 2 + hl (gw w p 3 - 1) 0 99 else if gw w p 0 = 5 then 0 else 1 + gw w p 2
def R_odd (w : RR) : Bool := decide (w 4 - w 4 / 2 * 2 = 1)
def R_used (w : RR) (p : Nat) : Bool := if gw w p 0 = 2 then R_odd w else if gw w p 0 = 4 then (R_odd w && decide (w 4 - w 4 / 3 * 3 = 0)) else if gw w p 0 = 5 then false else true
theorem its_n {p j : Nat} {s : SS} {t : TT} (hp : p < 8) (hj : j < 6) : f_X6_its (nI p) (nI j) s t = some (s 52 (8 + 6 * p + j), s, t) := by
  simp only [f_X6_its, its_a p hp j hj, bs]
theorem sets_n {p j : Nat} {v : Int32} {s : SS} {t : TT} (hp : p < 8) (hj : j < 6) : f_X6_sets (nI p) (nI j) v s t = some (cp2 s 52 (uw (s 52) (8 + 6 * p + j) v), t) := by
  simp only [f_X6_sets, its_a p hp j hj, bs, wr_e, up2_cp]
theorem its_0 {p : Nat} {s : SS} {t : TT} (hp : p < 8) : f_X6_its (nI p) 0 s t = some (s 52 (8 + 6 * p + 0), s, t) := its_n (j := 0) hp (by decide)
theorem sets_0 {p : Nat} {v : Int32} {s : SS} {t : TT} (hp : p < 8) : f_X6_sets (nI p) 0 v s t = some (cp2 s 52 (uw (s 52) (8 + 6 * p + 0) v), t) := sets_n (j := 0) hp (by decide)
theorem its_1 {p : Nat} {s : SS} {t : TT} (hp : p < 8) : f_X6_its (nI p) 1 s t = some (s 52 (8 + 6 * p + 1), s, t) := its_n (j := 1) hp (by decide)
theorem sets_1 {p : Nat} {v : Int32} {s : SS} {t : TT} (hp : p < 8) : f_X6_sets (nI p) 1 v s t = some (cp2 s 52 (uw (s 52) (8 + 6 * p + 1) v), t) := sets_n (j := 1) hp (by decide)
theorem its_2 {p : Nat} {s : SS} {t : TT} (hp : p < 8) : f_X6_its (nI p) 2 s t = some (s 52 (8 + 6 * p + 2), s, t) := its_n (j := 2) hp (by decide)
theorem sets_2 {p : Nat} {v : Int32} {s : SS} {t : TT} (hp : p < 8) : f_X6_sets (nI p) 2 v s t = some (cp2 s 52 (uw (s 52) (8 + 6 * p + 2) v), t) := sets_n (j := 2) hp (by decide)
theorem its_3 {p : Nat} {s : SS} {t : TT} (hp : p < 8) : f_X6_its (nI p) 3 s t = some (s 52 (8 + 6 * p + 3), s, t) := its_n (j := 3) hp (by decide)
theorem sets_3 {p : Nat} {v : Int32} {s : SS} {t : TT} (hp : p < 8) : f_X6_sets (nI p) 3 v s t = some (cp2 s 52 (uw (s 52) (8 + 6 * p + 3) v), t) := sets_n (j := 3) hp (by decide)
theorem its_4 {p : Nat} {s : SS} {t : TT} (hp : p < 8) : f_X6_its (nI p) 4 s t = some (s 52 (8 + 6 * p + 4), s, t) := its_n (j := 4) hp (by decide)
theorem sets_4 {p : Nat} {v : Int32} {s : SS} {t : TT} (hp : p < 8) : f_X6_sets (nI p) 4 v s t = some (cp2 s 52 (uw (s 52) (8 + 6 * p + 4) v), t) := sets_n (j := 4) hp (by decide)
theorem its_5 {p : Nat} {s : SS} {t : TT} (hp : p < 8) : f_X6_its (nI p) 5 s t = some (s 52 (8 + 6 * p + 5), s, t) := its_n (j := 5) hp (by decide)
theorem sets_5 {p : Nat} {v : Int32} {s : SS} {t : TT} (hp : p < 8) : f_X6_sets (nI p) 5 v s t = some (cp2 s 52 (uw (s 52) (8 + 6 * p + 5) v), t) := sets_n (j := 5) hp (by decide)
theorem m_thinksOf {p : Nat} {s : SS} {t : TT} (hp : p < 8) : f_X6_thinksOf (nI p) s t = some (R_thinks (s 52) p, s, t) := by
  simp only [f_X6_thinksOf, its_0 hp, its_2 hp, rx56_2, bs, ite_q, R_thinks, gw]
  rfl
theorem m_needs {p : Nat} {s : SS} {t : TT} (hp : p < 8) : f_X6_needs (nI p) s t = some (R_needs (s 52) p, s, t) := by
  simp only [f_X6_needs, its_0 hp, its_2 hp, rx56_1, bs, ite_q, R_needs, gw]
  rfl
theorem m_says {p : Nat} {s : SS} {t : TT} (hp : p < 8) : f_X6_says (nI p) s t = some (R_says (s 52) p, s, t) := by
  simp only [f_X6_says, its_0 hp, its_2 hp, its_3 hp, rx56_2, m_held, bs, ite_q, R_says, gw]
  rfl
theorem m_isUsed {p : Nat} {s : SS} {t : TT} (hp : p < 8) : f_X6_isUsed (nI p) s t = some (b2 (R_used (s 52) p), s, t) := by
  simp only [f_X6_isUsed, j_X6_isUsed_17, its_0 hp, rx56_4, bs, R_used, R_odd, gw]
  by_cases h : s 52 4 - s 52 4 / 2 * 2 = 1 <;> by_cases h0 : s 52 (8 + 6 * p + 0) = 2 <;> by_cases h1 : s 52 (8 + 6 * p + 0) = 4 <;> by_cases h2 : s 52 (8 + 6 * p + 0) = 5 <;> by_cases h3 : s 52 4 - s 52 4 / 3 * 3 = 0 <;> simp_all [b2]
/-- who is given the next page -/
def R_may (w : RR) (left : Int32) (p : Nat) : Bool := !decide (gw w p 1 < R_needs w p) && (!decide (99 ≤ gw w p 3) && decide ((left >>> (nI p &&& 31)) &&& 1 = 0))
def R_next (w : RR) (left : Int32) : Nat → Option Nat
  | 0 => none
  | m + 1 => if R_may w left m = true then (match R_next w left m with
    | none => some m
    | some b => if gw w m 1 - R_needs w m ≤ gw w b 1 - R_needs w b then some b else some m) else R_next w left m
def oI : Option Nat → Int32
  | none => -1
  | some p => nI p
theorem R_next_lt {w : RR} {left : Int32} : ∀ {m b : Nat}, R_next w left m = some b → b < m
  | 0, b, h => by cases h
  | m + 1, b, h => by
    unfold R_next at h
    split at h
    · split at h
      · cases h; exact Nat.lt_succ_self m
      · next c hc =>
        split at h
        · cases h; exact Nat.lt_succ_of_lt (R_next_lt hc)
        · cases h; exact Nat.lt_succ_self m
    · exact Nat.lt_succ_of_lt (R_next_lt h)
theorem m_isReady {p : Nat} {s : SS} {t : TT} (hp : p < 8) : f_X6_isReady (nI p) s t = some (b2 (!decide (gw (s 52) p 1 < R_needs (s 52) p)), s, t) := by
  simp only [f_X6_isReady, its_1 hp, m_needs hp, bs, gw]
  by_cases h : s 52 (8 + 6 * p + 1) < R_needs (s 52) p <;> simp [h, b2]
theorem m_next_l {n : Nat} {s : SS} {t : TT} (hn : n ≤ 8) (h6 : s 52 6 = nI n) : ∀ (m j f : Nat), j + m = n → m < f → l_X6_next_4 f (oI (R_next (s 52) (s 51 5) j), nI j, s, t) = some (oI (R_next (s 52) (s 51 5) n), s, t)
  | 0, j, f + 1, hj, _ => by
    have e : j = n := by omega
    subst e
    show b_X6_next_4 (l_X6_next_4 f) _ _ _ _ = _
    simp only [b_X6_next_4, rx56_6, bs, h6]
    rw [if_pos (nI_le (Nat.le_refl _) (by omega))]
  | m + 1, j, f + 1, hj, hf => by
    have ih := m_next_l (t := t) hn h6 m (j + 1) f (by omega) (by omega)
    have hj8 : j < 8 := by omega
    show b_X6_next_4 (l_X6_next_4 f) _ _ _ _ = _
    simp only [b_X6_next_4, j_X6_next_49, j_X6_next_50, j_X6_next_86, rx56_6, bs, h6]
    rw [if_neg (nI_ge (show j < n by omega) (by omega))]
    rw [← ih]
    simp only [m_isReady hj8, its_3 hj8, its_1 hj8, m_needs hj8, bs, b2_z, nI_1]
    cases hR : R_next (s 52) (s 51 5) j with
    | none =>
      simp only [R_next, hR, R_may, oI, gw]
      by_cases c1 : s 52 (8 + 6 * j + 1) < R_needs (s 52) j
      · simp [c1, oI]
      · by_cases c2 : 99 ≤ s 52 (8 + 6 * j + 3)
        · simp [c1, c2, oI]
        · by_cases c3 : s 51 5 >>> (nI j &&& 31) &&& 1 = 0
          · simp [c1, c2, c3, oI]
          · simp [c1, c2, c3, oI]
    | some b =>
      have hb := R_next_lt hR
      have hb8 : b < 8 := by omega
      simp only [R_next, hR, R_may, oI, gw, its_1 hb8, m_needs hb8, bs]
      by_cases c1 : s 52 (8 + 6 * j + 1) < R_needs (s 52) j
      · simp [c1, oI]
      · by_cases c2 : 99 ≤ s 52 (8 + 6 * j + 3)
        · simp [c1, c2, oI]
        · by_cases c3 : s 51 5 >>> (nI j &&& 31) &&& 1 = 0
          · by_cases c4 : s 52 (8 + 6 * j + 1) - R_needs (s 52) j ≤ s 52 (8 + 6 * b + 1) - R_needs (s 52) b
            · simp [c1, c2, c3, c4, oI, nI_pos (show b < 2 ^ 31 by omega)]
            · simp [c1, c2, c3, c4, oI, nI_pos (show b < 2 ^ 31 by omega)]
          · simp [c1, c2, c3, oI]
theorem m_next {n : Nat} {s : SS} {t : TT} (hn : n ≤ 8) (h6 : s 52 6 = nI n) : f_X6_next s t = some (oI (R_next (s 52) (s 51 5) n), s, t) := m_next_l hn h6 n 0 300 (by omega) (by omega)
