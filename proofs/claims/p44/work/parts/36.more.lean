/-! sums, sets, draws, copies: on the row, and in an office against it -/
def R_sum (w : RR) (j : Nat) : Nat → Int32
  | 0 => 0
  | m + 1 => R_sum w j m + w (8 + 6 * m + j)
def R_cnt (w : RR) (j : Nat) : Nat → Int32
  | 0 => 0
  | m + 1 => if w (8 + 6 * m + j) ≤ 0 then R_cnt w j m else R_cnt w j m + 1
def R_rs (w : RR) : Nat → Int32
  | 0 => 0
  | m + 1 => if gw w m 1 < R_needs w m then R_rs w m else R_rs w m ||| (1 <<< (nI m &&& 31))
theorem c_sumOf_l {s : SS} {t : TT} {o r n j : Nat} {w : RR} (hn : n ≤ 8) (h8 : s o 8 = nI n) (hr : ∀ p : Nat, p < n → s r p = w (8 + 6 * p + j)) : ∀ (m i f : Nat), i + m = n → m < f → l_X1_sumOf_4 o r f (R_sum w j i, nI i, s, t) = some (R_sum w j n, s, t)
  | 0, i, f + 1, hi, _ => by
    have e : i = n := by omega
    subst e
    show b_X1_sumOf_4 o r (l_X1_sumOf_4 o r f) (R_sum w j i) (nI i) s t = _
    simp only [b_X1_sumOf_4, h8, nI_le (Nat.le_refl i) (show i < 2 ^ 31 by omega), if_true]
  | m + 1, i, f + 1, hi, hf => by
    have ih := c_sumOf_l (t := t) hn h8 hr m (i + 1) f (by omega) (by omega)
    show b_X1_sumOf_4 o r (l_X1_sumOf_4 o r f) (R_sum w j i) (nI i) s t = _
    simp only [b_X1_sumOf_4, h8, nI_ge (show i < n by omega) (show n < 2 ^ 31 by omega), if_false, rx8 (show i < 8 by omega), bs, hr i (by omega), nI_1]
    exact ih
theorem c_sumOf {s : SS} {t : TT} {o r n j : Nat} {w : RR} (hn : n ≤ 8) (h8 : s o 8 = nI n) (hr : ∀ p : Nat, p < n → s r p = w (8 + 6 * p + j)) : f_X1_sumOf o r s t = some (R_sum w j n, s, t) := c_sumOf_l hn h8 hr n 0 300 (by omega) (by omega)
theorem c_countOf_l {s : SS} {t : TT} {o r n j : Nat} {w : RR} (hn : n ≤ 8) (h8 : s o 8 = nI n) (hr : ∀ p : Nat, p < n → s r p = w (8 + 6 * p + j)) : ∀ (m i f : Nat), i + m = n → m < f → l_X1_countOf_4 o r f (R_cnt w j i, nI i, s, t) = some (R_cnt w j n, s, t)
  | 0, i, f + 1, hi, _ => by
    have e : i = n := by omega
    subst e
    show b_X1_countOf_4 o r (l_X1_countOf_4 o r f) (R_cnt w j i) (nI i) s t = _
    simp only [b_X1_countOf_4, h8, nI_le (Nat.le_refl i) (show i < 2 ^ 31 by omega), if_true]
  | m + 1, i, f + 1, hi, hf => by
    have ih := c_countOf_l (t := t) hn h8 hr m (i + 1) f (by omega) (by omega)
    show b_X1_countOf_4 o r (l_X1_countOf_4 o r f) (R_cnt w j i) (nI i) s t = _
    simp only [b_X1_countOf_4, h8, nI_ge (show i < n by omega) (show n < 2 ^ 31 by omega), if_false, rx8 (show i < 8 by omega), bs, hr i (by omega), nI_1]
    rw [R_cnt] at ih
    by_cases c : w (8 + 6 * i + j) ≤ 0
    · rw [if_pos c] at ih ⊢; exact ih
    · rw [if_neg c] at ih ⊢; exact ih
theorem c_countOf {s : SS} {t : TT} {o r n j : Nat} {w : RR} (hn : n ≤ 8) (h8 : s o 8 = nI n) (hr : ∀ p : Nat, p < n → s r p = w (8 + 6 * p + j)) : f_X1_countOf o r s t = some (R_cnt w j n, s, t) := c_countOf_l hn h8 hr n 0 300 (by omega) (by omega)
theorem m_sumOf_l {s : SS} {t : TT} {n j : Nat} (hj : j < 6) (hn : n ≤ 8) (h6 : s 52 6 = nI n) : ∀ (m i f : Nat), i + m = n → m < f → l_X6_sumOf_4 f (nI j, R_sum (s 52) j i, nI i, s, t) = some (R_sum (s 52) j n, s, t)
  | 0, i, f + 1, hi, _ => by
    have e : i = n := by omega
    subst e
    show b_X6_sumOf_4 (l_X6_sumOf_4 f) (nI j) (R_sum (s 52) j i) (nI i) s t = _
    simp only [b_X6_sumOf_4, rx56_6, bs, h6, nI_le (Nat.le_refl i) (show i < 2 ^ 31 by omega), if_true]
  | m + 1, i, f + 1, hi, hf => by
    have ih := m_sumOf_l (t := t) hj hn h6 m (i + 1) f (by omega) (by omega)
    show b_X6_sumOf_4 (l_X6_sumOf_4 f) (nI j) (R_sum (s 52) j i) (nI i) s t = _
    simp only [b_X6_sumOf_4, rx56_6, bs, h6, nI_ge (show i < n by omega) (show n < 2 ^ 31 by omega), if_false, its_n (show i < 8 by omega) hj, nI_1]
    exact ih
theorem m_sumOf {s : SS} {t : TT} {n : Nat} (j : Nat) (hj : j < 6) (hn : n ≤ 8) (h6 : s 52 6 = nI n) : f_X6_sumOf (nI j) s t = some (R_sum (s 52) j n, s, t) := m_sumOf_l hj hn h6 n 0 300 (by omega) (by omega)
theorem m_manyWith_l {s : SS} {t : TT} {n j : Nat} (hj : j < 6) (hn : n ≤ 8) (h6 : s 52 6 = nI n) : ∀ (m i f : Nat), i + m = n → m < f → l_X6_manyWith_4 f (nI j, R_cnt (s 52) j i, nI i, s, t) = some (R_cnt (s 52) j n, s, t)
  | 0, i, f + 1, hi, _ => by
    have e : i = n := by omega
    subst e
    show b_X6_manyWith_4 (l_X6_manyWith_4 f) (nI j) (R_cnt (s 52) j i) (nI i) s t = _
    simp only [b_X6_manyWith_4, rx56_6, bs, h6, nI_le (Nat.le_refl i) (show i < 2 ^ 31 by omega), if_true]
  | m + 1, i, f + 1, hi, hf => by
    have ih := m_manyWith_l (t := t) hj hn h6 m (i + 1) f (by omega) (by omega)
    show b_X6_manyWith_4 (l_X6_manyWith_4 f) (nI j) (R_cnt (s 52) j i) (nI i) s t = _
    simp only [b_X6_manyWith_4, j_X6_manyWith_30, rx56_6, bs, h6, nI_ge (show i < n by omega) (show n < 2 ^ 31 by omega), if_false, its_n (show i < 8 by omega) hj, nI_1, Int32.add_zero]
    rw [R_cnt] at ih
    by_cases c : s 52 (8 + 6 * i + j) ≤ 0
    · rw [if_pos c] at ih ⊢; exact ih
    · rw [if_neg c] at ih ⊢; exact ih
theorem m_manyWith {s : SS} {t : TT} {n : Nat} (j : Nat) (hj : j < 6) (hn : n ≤ 8) (h6 : s 52 6 = nI n) : f_X6_manyWith (nI j) s t = some (R_cnt (s 52) j n, s, t) := m_manyWith_l hj hn h6 n 0 300 (by omega) (by omega)
theorem m_readySet_l {s : SS} {t : TT} {n : Nat} (hn : n ≤ 8) (h6 : s 52 6 = nI n) : ∀ (m i f : Nat), i + m = n → m < f → l_X6_readySet_4 f (R_rs (s 52) i, nI i, s, t) = some (R_rs (s 52) n, s, t)
  | 0, i, f + 1, hi, _ => by
    have e : i = n := by omega
    subst e
    show b_X6_readySet_4 (l_X6_readySet_4 f) (R_rs (s 52) i) (nI i) s t = _
    simp only [b_X6_readySet_4, rx56_6, bs, h6, nI_le (Nat.le_refl i) (show i < 2 ^ 31 by omega), if_true]
  | m + 1, i, f + 1, hi, hf => by
    have ih := m_readySet_l (t := t) hn h6 m (i + 1) f (by omega) (by omega)
    show b_X6_readySet_4 (l_X6_readySet_4 f) (R_rs (s 52) i) (nI i) s t = _
    simp only [b_X6_readySet_4, j_X6_readySet_31, rx56_6, bs, h6, nI_ge (show i < n by omega) (show n < 2 ^ 31 by omega), if_false, m_isReady (show i < 8 by omega), b2_z, nI_1, Int32.or_zero]
    rw [R_rs] at ih
    by_cases c : gw (s 52) i 1 < R_needs (s 52) i
    · rw [if_pos c] at ih; simp [c]; exact ih
    · rw [if_neg c] at ih; simp [c]; exact ih
theorem m_readySet {s : SS} {t : TT} {n : Nat} (hn : n ≤ 8) (h6 : s 52 6 = nI n) : f_X6_readySet s t = some (R_rs (s 52) n, s, t) := m_readySet_l hn h6 n 0 300 (by omega) (by omega)
theorem c_readySet_l {s : SS} {t : TT} {o n W : Nat} {w : RR} (h : RW s o w n) (hw : OKw w n W) : ∀ (m i f : Nat), i + m = n → m < f → l_X1_readySet_4 o f (R_rs w i, nI i, s, t) = some (R_rs w n, s, t)
  | 0, i, f + 1, hi, _ => by
    have e : i = n := by omega
    subst e
    show b_X1_readySet_4 o (l_X1_readySet_4 o f) (R_rs w i) (nI i) s t = _
    simp only [b_X1_readySet_4, h.1, nI_le (Nat.le_refl i) (show i < 2 ^ 31 by have := hw.1; omega), if_true]
  | m + 1, i, f + 1, hi, hf => by
    have hn := hw.1
    have ih := c_readySet_l (t := t) h hw m (i + 1) f (by omega) (by omega)
    have k1 := (h.2.2.2.2.2.2 i (by omega)).2.1
    show b_X1_readySet_4 o (l_X1_readySet_4 o f) (R_rs w i) (nI i) s t = _
    simp only [b_X1_readySet_4, h.1, nI_ge (show i < n by omega) (show n < 2 ^ 31 by omega), if_false, rx8 (show i < 8 by omega), bs, c_needing h hw (show i < n by omega), k1, nI_1]
    rw [R_rs] at ih
    by_cases c : gw w i 1 < R_needs w i
    · rw [if_pos c] at ih; rw [if_pos (show w (8 + 6 * i + 1) < R_needs w i from c)]; exact ih
    · rw [if_neg c] at ih; rw [if_neg (show ¬ w (8 + 6 * i + 1) < R_needs w i from c)]; exact ih
theorem c_readySet {s : SS} {t : TT} {o n W : Nat} {w : RR} (h : RW s o w n) (hw : OKw w n W) : f_X1_readySet o s t = some (R_rs w n, s, t) := c_readySet_l h hw n 0 300 (by omega) (by have := hw.1; omega)
/-- draws -/
def lcg (x : Int32) : Int32 := x * 1103515245 + 12345
def hi16 (x : Int32) : Nat := x.toUInt32.toNat / 65536
theorem hi16_lt (x : Int32) : hi16 x < 65536 := by
  have := UInt32.toNat_lt x.toUInt32
  unfold hi16
  omega
theorem iushr16 (x : Int32) : pmf_iushr x 16 = nI (hi16 x) := by
  have h := UInt32.toNat_lt x.toUInt32
  have e : x.toUInt32 >>> ((16 : Int32).toUInt32 &&& Int32.toUInt32 31) = UInt32.ofNat (hi16 x) := by
    apply UInt32.toNat_inj.mp
    rw [UInt32.toNat_shiftRight, UInt32.toNat_ofNat_of_lt' (show hi16 x < 4294967296 by have := hi16_lt x; omega), show (((16 : Int32).toUInt32 &&& Int32.toUInt32 31).toNat % 32) = 16 from by decide, Nat.shiftRight_eq_div_pow]
    rfl
  unfold pmf_iushr
  rw [e]
  rfl
theorem m_drawn {s : SS} {t : TT} : f_X6_drawn s t = some (nI (hi16 (lcg (s 52 7))), cp2 s 52 (uw (s 52) 7 (lcg (s 52 7))), t) := by
  simp only [f_X6_drawn, rx56_7, bs, wr_e, up2_cp, cp2_s, uw_s, iushr16]
  rfl
theorem c_draw {s : SS} {t : TT} {o : Nat} : f_X1_draw o s t = some (nI (hi16 (lcg (s o 11))), up2 s o 11 (lcg (s o 11)), t) := by
  simp only [f_X1_draw, bs, wr_e, up2_r, iushr16]
  rfl
def R_half (w : RR) (p : Nat) : RR := uw w (8 + 6 * p + 1) (gw w p 1 / 2)
/-- a WEEK BY DRAWS -/
def R_cutz (n : Nat) (w : RR) (k : Nat) (z : Int32) : RR := if w 3 ≤ nI (hi16 z % 100) then uw w 7 z else R_half (uw w 7 z) (k % n)
def R_cut (n : Nat) (w : RR) : RR := if n = 0 then w else R_cutz n w (hi16 (lcg (w 7))) (lcg (lcg (w 7)))
def R_draws (n : Nat) (w : RR) : Int32 × RR := R_week 0 n (R_cut n w)
theorem half_bd {m : Nat} {x : Int32} (hm : m < 2 ^ 31) (h : bd m x) : bd m (x / 2) := by
  obtain ⟨k, hk, rfl⟩ := h
  exact ⟨k / 2, by omega, pk_div (d := 2) (by omega) (by omega) (by omega)⟩
theorem R_cutz_ok {w : RR} {n W k : Nat} {z : Int32} (h : OKw w n W) (h0 : ¬ n = 0) : OKw (R_cutz n w k z) n W := by
  unfold R_cutz
  split
  · exact h.z
  · exact h.z.set (by omega) (half_bd (by decide) (h.z.at (Nat.mod_lt _ (by omega)) 1 (by omega)))
theorem R_cut_ok {w : RR} {n W : Nat} (h : OKw w n W) : OKw (R_cut n w) n W := by
  unfold R_cut
  split
  · exact h
  · next h0 => exact R_cutz_ok h h0
theorem m_wbd0 {n W k : Nat} {s : SS} {t : TT} {w : RR} {z1 z : Int32} (hw : OKw w n W) (h0 : ¬ n = 0) (hl : s 51 5 = 0) (h1 : lcg (w 7) = z1) (h2 : lcg z1 = z) (hk : hi16 z1 = k) : f_X6_weekByDraws (cp2 s 52 w) t = some ((R_week 0 n (R_cutz n w k z)).1, cp2 s 52 (R_week 0 n (R_cutz n w k z)).2, t) := by
  have hn := hw.1
  have h6 := hw.2.1
  have e0 : ¬ nI n ≤ 0 := nI_nle (by omega) (by omega)
  have e1 : ¬ nI n = 0 := nI_ne0 (by omega) (by omega)
  have d1 : f_X6_drawn (cp2 s 52 w) t = some (nI k, cp2 s 52 (uw w 7 z1), t) := by rw [m_drawn, cp2_s, h1, cp2_2, hk]
  have d2 : f_X6_drawn (cp2 s 52 (uw w 7 z1)) t = some (nI (hi16 z), cp2 s 52 (uw w 7 z), t) := by rw [m_drawn, cp2_s, uw_s, h2, cp2_2, uw_uw]
  have hk6 : k < 65536 := by rw [← hk]; exact hi16_lt z1
  have q1 : nI k - nI k / nI n * nI n = nI (k % n) := rem_n (by omega) (by omega) (by omega)
  have q2 : nI (hi16 z) - nI (hi16 z) / 100 * 100 = nI (hi16 z % 100) := rem_n (d := 100) (by have := hi16_lt z; omega) (by omega) (by omega)
  have hlt : k % n < n := Nat.mod_lt _ (by omega)
  have h8 : k % n < 8 := by omega
  have w6 : uw w 7 z1 6 = nI n := by rw [uw_n (by omega)]; exact h6
  have hok := R_cutz_ok (k := k) (z := z) hw h0
  simp only [f_X6_weekByDraws, j_X6_weekByDraws_53, rx56_6, rx56_3, bs, cp2_s, h6, w6, e0, e1, if_false, d1, d2, q1, q2, its_1 h8, sets_1 h8, cp2_2, uw_n (show 3 ≠ 7 by omega)]
  by_cases c : w 3 ≤ nI (hi16 z % 100)
  · have e2 : R_cutz n w k z = uw w 7 z := by rw [R_cutz, if_pos c]
    rw [e2] at hok ⊢
    rw [if_pos c, m_weekGoes hok]
    simp only [bs, hl]
  · have e2 : R_cutz n w k z = uw (uw w 7 z) (8 + 6 * (k % n) + 1) (uw w 7 z (8 + 6 * (k % n) + 1) / 2) := by rw [R_cutz, if_neg c]; rfl
    rw [e2] at hok ⊢
    rw [if_neg c, m_weekGoes hok]
    simp only [bs, hl]
theorem m_weekByDraws {n W : Nat} {s : SS} {t : TT} {w : RR} (hw : OKw w n W) (hl : s 51 5 = 0) : f_X6_weekByDraws (cp2 s 52 w) t = some ((R_draws n w).1, cp2 s 52 (R_draws n w).2, t) := by
  have h6 := hw.2.1
  by_cases h0 : n = 0
  · subst h0
    simp only [f_X6_weekByDraws, j_X6_weekByDraws_53, rx56_6, bs, cp2_s, h6, show nI 0 ≤ 0 from by decide, if_true, m_weekGoes hw, hl, R_draws, R_cut]
  · have h := m_wbd0 (t := t) hw h0 hl rfl rfl rfl
    simp only [R_draws, R_cut, h0, if_false]
    exact h
theorem May.all {n : Nat} (hn : n ≤ 8) : May n 255 0 := by
  have h : ∀ p : Nat, p < 8 → (((255 : Int32) >>> (nI p &&& 31)) &&& 1 = 0 ↔ ¬ (((0 : Int32) >>> (nI p &&& 31)) &&& 1 = 0)) := by decide +kernel
  exact fun p hp => h p (by omega)
theorem c_wbd0 {s : SS} {t : TT} {o n W k : Nat} {w : RR} {z1 z : Int32} (hW : W < 2 ^ 31) (h : RW s o w n) (hw : OKw w n W) (h0 : ¬ n = 0) (h1 : lcg (w 7) = z1) (h2 : lcg z1 = z) (hk : hi16 z1 = k) : ∃ s' : SS, f_X1_passWeekByDraws o s t = some ((R_week 0 n (R_cutz n w k z)).1, s', t) ∧ Fr o s s' ∧ RW s' o (R_week 0 n (R_cutz n w k z)).2 n := by
  have hn := hw.1
  have e0 : ¬ nI n ≤ 0 := nI_nle (by omega) (by omega)
  have e1 : ¬ nI n = 0 := nI_ne0 (by omega) (by omega)
  have d1 : f_X1_draw o s t = some (nI k, up2 s o 11 z1, t) := by rw [c_draw, h.2.2.2.2.2.1, h1, hk]
  have r1 : RW (up2 s o 11 z1) o (uw w 7 z1) n := h.z
  have d2 : f_X1_draw o (up2 s o 11 z1) t = some (nI (hi16 z), up2 (up2 s o 11 z1) o 11 z, t) := by rw [c_draw, r1.2.2.2.2.2.1, uw_s, h2]
  have r2 : RW (up2 (up2 s o 11 z1) o 11 z) o (uw w 7 z) n := by
    have := r1.z (x := z)
    rw [uw_uw] at this
    exact this
  have hk6 : k < 65536 := by rw [← hk]; exact hi16_lt z1
  have q1 : nI k - nI k / nI n * nI n = nI (k % n) := rem_n (by omega) (by omega) (by omega)
  have q2 : nI (hi16 z) - nI (hi16 z) / 100 * 100 = nI (hi16 z % 100) := rem_n (d := 100) (by have := hi16_lt z; omega) (by omega) (by omega)
  have hlt : k % n < n := Nat.mod_lt _ (by omega)
  have h8 : k % n < 8 := by omega
  have l3 : up2 (up2 s o 11 z1) o 11 z (o + 1) 3 = w 3 := by rw [r2.2.2.1 3 (by omega), uw_n (by omega)]
  have k1 := (r2.2.2.2.2.2.2 (k % n) hlt).2.1
  have hok := R_cutz_ok (k := k) (z := z) hw h0
  by_cases c : w 3 ≤ nI (hi16 z % 100)
  · have e2 : R_cutz n w k z = uw w 7 z := by rw [R_cutz, if_pos c]
    rw [e2] at hok ⊢
    obtain ⟨s', e, f1, r3⟩ := c_passWeek (t := t) hW r2 hok (May.all hn)
    refine ⟨s', ?_, ((Fr.rf.up ⟨by omega, by omega⟩).up ⟨by omega, by omega⟩).tr f1, r3⟩
    simp only [f_X1_passWeekByDraws, j_X1_passWeekByDraws_43, h.1, r1.1, e0, e1, if_false, d1, d2, bs, rx4_3, l3, q2, c, if_true, e]
  · have e2 : R_cutz n w k z = uw (uw w 7 z) (8 + 6 * (k % n) + 1) (uw w 7 z (8 + 6 * (k % n) + 1) / 2) := by rw [R_cutz, if_neg c]; rfl
    rw [e2] at hok ⊢
    have r3 := r2.set1 (p := k % n) (x := uw w 7 z (8 + 6 * (k % n) + 1) / 2)
    obtain ⟨s', e, f1, r4⟩ := c_passWeek (t := t) hW r3 hok (May.all hn)
    refine ⟨s', ?_, (((Fr.rf.up ⟨by omega, by omega⟩).up ⟨by omega, by omega⟩).up ⟨by omega, by omega⟩).tr f1, r4⟩
    simp only [f_X1_passWeekByDraws, j_X1_passWeekByDraws_43, h.1, r1.1, e0, e1, if_false, d1, d2, bs, wr_e, rx4_3, l3, q1, q2, c, rx8 h8, k1, e]
theorem c_passWeekByDraws {s : SS} {t : TT} {o n W : Nat} {w : RR} (hW : W < 2 ^ 31) (h : RW s o w n) (hw : OKw w n W) : ∃ s' : SS, f_X1_passWeekByDraws o s t = some ((R_draws n w).1, s', t) ∧ Fr o s s' ∧ RW s' o (R_draws n w).2 n := by
  by_cases h0 : n = 0
  · subst h0
    obtain ⟨s', e, f1, r1⟩ := c_passWeek (t := t) hW h hw (May.all (by omega))
    refine ⟨s', ?_, f1, ?_⟩
    · simp only [f_X1_passWeekByDraws, j_X1_passWeekByDraws_43, h.1, show nI 0 ≤ 0 from by decide, if_true, e, bs, R_draws, R_cut]
    · simp only [R_draws, R_cut, if_true]; exact r1
  · have h := c_wbd0 (t := t) hW h hw h0 rfl rfl rfl
    simp only [R_draws, R_cut, h0, if_false]
    exact h
