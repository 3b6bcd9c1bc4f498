/-! a WEEK on the reference's row -/
theorem bd_add {a b : Nat} {x y : Int32} (hx : bd a x) (hy : bd b y) : bd (a + b) (x + y) := by
  obtain ⟨k, hk, rfl⟩ := hx
  obtain ⟨l, hl, rfl⟩ := hy
  exact ⟨k + l, by omega, nI_add k l⟩
theorem bd_sub {a b : Nat} {x y : Int32} (ha : a < 2 ^ 31) (hb : b < 2 ^ 31) (hx : bd a x) (hy : bd b y) (h : y ≤ x) : bd a (x - y) := by
  rw [bd_i ha] at hx ⊢
  rw [bd_i hb] at hy
  rw [tI_le] at h
  rw [tI_sub (by omega) (by omega)]
  omega
theorem bd_dec {a : Nat} {x : Int32} (ha : a < 2 ^ 31) (hx : bd a x) (h : ¬ x ≤ 0) : bd a (x - 1) := by
  rw [bd_i ha] at hx ⊢
  rw [tI_le, show (0 : Int32).toInt = 0 from rfl] at h
  rw [tI_sub (by rw [show (1 : Int32).toInt = 1 from rfl]; omega) (by rw [show (1 : Int32).toInt = 1 from rfl]; omega), show (1 : Int32).toInt = 1 from rfl]
  omega
theorem bd_inc {a : Nat} {x m : Int32} (ha : a < 2 ^ 31) (hm : m.toInt = a) (hx : bd a x) (h : ¬ m ≤ x) : bd a (x + 1) := by
  rw [bd_i ha] at hx ⊢
  rw [tI_le, hm] at h
  rw [tI_add (by rw [show (1 : Int32).toInt = 1 from rfl]; omega) (by rw [show (1 : Int32).toInt = 1 from rfl]; omega), show (1 : Int32).toInt = 1 from rfl]
  omega
theorem hl_bd {m : Nat} {x M : Int32} (hm : m < 2 ^ 31) (hM : M.toInt = m) : bd m (hl x 0 M) := by
  rw [bd_i hm]
  unfold hl
  by_cases h1 : (0 : Int32) ≤ x
  · by_cases h2 : x ≤ M
    · rw [if_pos h1, if_pos h2]
      rw [tI_le] at h1 h2
      rw [show (0 : Int32).toInt = 0 from rfl] at h1
      omega
    · rw [if_pos h1, if_neg h2]; omega
  · rw [if_neg h1, show (0 : Int32).toInt = 0 from rfl]; omega
theorem OKw.at {w : RR} {n W p : Nat} (h : OKw w n W) (hp : p < n) (j : Nat) (hj : j < 6) : bd (mj j) (gw w p j) := h.2.2.2.2.2 p hp j hj
theorem bd_c (k : Nat) {m : Nat} {x : Int32} (e : x = nI k) (h : k ≤ m) : bd m x := ⟨k, h, e⟩
theorem R_thinks_bd {w : RR} {n W p : Nat} (h : OKw w n W) (hp : p < n) : bd 11 (R_thinks w p) := by
  unfold R_thinks
  split
  · exact bd_c 3 rfl (by omega)
  · split
    · exact bd_c 1 rfl (by omega)
    · split
      · exact bd_c 6 rfl (by omega)
      · split
        · exact bd_le (bd_add (bd_c 1 (m := 1) rfl (by omega)) (h.2.2.1 2 (by omega))) (by decide)
        · split
          · exact bd_le (bd_add (bd_c 2 (m := 2) rfl (by omega)) (h.at hp 2 (by omega))) (by decide)
          · exact bd_c 2 rfl (by omega)
theorem R_needs_bd {w : RR} {n W p : Nat} (h : OKw w n W) (hp : p < n) : bd 20 (R_needs w p) := by
  have h1 : bd 19 (10 + w 1) := bd_add (bd_c 10 (m := 10) rfl (by omega)) (h.2.2.1 1 (by omega))
  unfold R_needs
  split
  · exact bd_le h1 (by omega)
  · split
    · exact bd_c 20 rfl (by omega)
    · split
      · refine bd_le (bd_sub (b := 9) (by decide) (by decide) h1 (h.at hp 2 (by omega)) ?_) (by omega)
        have g2 : bd 9 (gw w p 2) := h.at hp 2 (by omega)
        have g3 : bd 9 (w 1) := h.2.2.1 1 (by omega)
        have h2 := (bd_i (by decide)).mp g2
        have h3 := (bd_i (by decide)).mp g3
        rw [tI_le, tI_add (by rw [show (10 : Int32).toInt = 10 from rfl]; omega) (by rw [show (10 : Int32).toInt = 10 from rfl]; omega), show (10 : Int32).toInt = 10 from rfl]
        omega
      · split
        · exact bd_c 15 rfl (by omega)
        · split
          · exact bd_c 3 rfl (by omega)
          · exact bd_c 10 rfl (by omega)
def R_page (left : Int32) (n : Nat) (w : RR) : RR := match R_next w left n with
  | none => uw w 5 (hl (w 5 + 1) 0 9999)
  | some p => uw (uw (uw w (8 + 6 * p + 3) (gw w p 3 + 1)) (8 + 6 * p + 4) (hl (gw w p 4 + 1) 0 9999)) (8 + 6 * p + 1) (gw w p 1 - R_needs w p)
theorem R_needs_uw {w : RR} {p q j : Nat} {v : Int32} (hj : j = 1 ∨ j = 3 ∨ j = 4 ∨ j = 5) : R_needs (uw w (8 + 6 * q + j) v) p = R_needs w p := by
  simp only [R_needs, gw, uw_n (show 1 ≠ 8 + 6 * q + j by omega), uw_n (show 8 + 6 * p + 0 ≠ 8 + 6 * q + j by omega), uw_n (show 8 + 6 * p + 2 ≠ 8 + 6 * q + j by omega)]
  rfl
theorem m_pageGoes {n : Nat} {s : SS} {t : TT} (hn : n ≤ 8) (h6 : s 52 6 = nI n) : f_X6_pageGoes s t = some (cp2 s 52 (R_page (s 51 5) n (s 52)), t) := by
  simp only [f_X6_pageGoes, m_next hn h6, bs]
  cases hR : R_next (s 52) (s 51 5) n with
  | none =>
    have c : ¬ (0 : Int32) ≤ -1 := by decide
    simp only [oI, c, if_false, rx56_5, m_held, bs, wr_e, up2_cp, R_page, hR]
  | some p =>
    have hp := R_next_lt hR
    have hp8 : p < 8 := by omega
    simp only [oI, nI_pos' (show p < 2 ^ 31 by omega), if_true, its_3 hp8, its_4 hp8, its_1 hp8, sets_3 hp8, sets_4 hp8, sets_1 hp8, m_needs hp8, m_held, bs, cp2_s, cp2_2, R_page, hR]
    simp only [R_needs_uw (w := s 52) (q := p) (j := 3) (by omega), R_needs_uw (q := p) (j := 4) (by omega), gw, uw_n (show 8 + 6 * p + 4 ≠ 8 + 6 * p + 3 by omega), uw_n (show 8 + 6 * p + 1 ≠ 8 + 6 * p + 4 by omega), uw_n (show 8 + 6 * p + 1 ≠ 8 + 6 * p + 3 by omega)]
theorem R_next_may {w : RR} {left : Int32} : ∀ {m b : Nat}, R_next w left m = some b → R_may w left b = true
  | 0, b, h => by cases h
  | m + 1, b, h => by
    unfold R_next at h
    split at h
    · next hm =>
      split at h
      · cases h; exact hm
      · next c hc =>
        split at h
        · cases h; exact R_next_may hc
        · cases h; exact hm
    · exact R_next_may h
theorem R_page_ok {w : RR} {left : Int32} {n W : Nat} (h : OKw w n W) : OKw (R_page left n w) n W := by
  unfold R_page
  split
  · exact h.back (hl_bd (by decide) rfl)
  · next p hp =>
    have hlt := R_next_lt hp
    have hm := R_next_may hp
    simp only [R_may, Bool.and_eq_true, Bool.not_eq_true', decide_eq_false_iff_not, decide_eq_true_eq] at hm
    refine ((h.set (by omega) ?_).set (by omega) ?_).set (by omega) ?_
    · exact bd_inc (by decide) rfl (h.at hlt 3 (by omega)) hm.2.1
    · exact hl_bd (by decide) rfl
    · exact bd_sub (by decide) (by decide) (h.at hlt 1 (by omega)) (R_needs_bd h hlt) (Int32.not_lt.mp hm.1)
def R_thinkL (w : RR) : Nat → RR
  | 0 => w
  | m + 1 => uw (R_thinkL w m) (8 + 6 * m + 1) (hl (gw (R_thinkL w m) m 1 + R_thinks (R_thinkL w m) m) 0 99)
theorem R_thinkL_ok {w : RR} {n W : Nat} (h : OKw w n W) : ∀ m : Nat, OKw (R_thinkL w m) n W
  | 0 => h
  | m + 1 => (R_thinkL_ok h m).set (by omega) (hl_bd (by decide) rfl)
def R_pagesL (left : Int32) (n : Nat) (w : RR) : Nat → RR
  | 0 => w
  | m + 1 => R_page left n (R_pagesL left n w m)
theorem R_pagesL_ok {w : RR} {left : Int32} {n W : Nat} (h : OKw w n W) : ∀ m : Nat, OKw (R_pagesL left n w m) n W
  | 0 => h
  | m + 1 => R_page_ok (R_pagesL_ok h m)
theorem R_page_0 {w : RR} {left : Int32} {n : Nat} : R_page left n w 0 = w 0 := by
  unfold R_page
  cases R_next w left n with
  | none => exact uw_n (by omega)
  | some p => exact (uw_n (by omega)).trans ((uw_n (by omega)).trans (uw_n (by omega)))
theorem R_pagesL_0 {w : RR} {left : Int32} {n : Nat} : ∀ m : Nat, R_pagesL left n w m 0 = w 0
  | 0 => rfl
  | m + 1 => R_page_0.trans (R_pagesL_0 m)
def R_write (w : RR) (p : Nat) : Int32 × RR := (R_says w p, uw (uw w (8 + 6 * p + 5) (hl (gw w p 5 + R_says w p) 0 99999)) (8 + 6 * p + 3) (if R_used w p = true then gw w p 3 - 1 else gw w p 3))
theorem R_used_uw {w : RR} {p q j : Nat} {v : Int32} (hj : 0 < j) (hj6 : j < 6) : R_used (uw w (8 + 6 * q + j) v) p = R_used w p := by
  simp only [R_used, R_odd, gw, uw_n (show 4 ≠ 8 + 6 * q + j by omega), uw_n (show 8 + 6 * p + 0 ≠ 8 + 6 * q + j by omega)]
  rfl
theorem m_writes {p : Nat} {s : SS} {t : TT} (hp : p < 8) : f_X6_writes (nI p) s t = some ((R_write (s 52) p).1, cp2 s 52 (R_write (s 52) p).2, t) := by
  simp only [f_X6_writes, j_X6_writes_54, m_says hp, its_5 hp, m_held, sets_5 hp, m_isUsed hp, its_3 hp, sets_3 hp, bs, cp2_s, cp2_2, b2_z, R_used_uw (w := s 52) (q := p) (j := 5) (by omega) (by omega), R_write]
  cases R_used (s 52) p <;> simp [gw, uw_n (show 8 + 6 * p + 3 ≠ 8 + 6 * p + 5 by omega)]
theorem R_write_ok {w : RR} {n W p : Nat} (h : OKw w n W) (hp : p < n) (h3 : ¬ gw w p 3 ≤ 0) : OKw (R_write w p).2 n W := by
  refine (h.set (by omega) (hl_bd (by decide) rfl)).set (by omega) ?_
  split
  · exact bd_dec (by decide) (h.at hp 3 (by omega)) h3
  · exact h.at hp 3 (by omega)
def R_speakL (w : RR) : Nat → Int32 × RR
  | 0 => (0, w)
  | m + 1 => if gw (R_speakL w m).2 m 3 ≤ 0 then ((R_speakL w m).1 + 0, (R_speakL w m).2) else ((R_speakL w m).1 + (R_write (R_speakL w m).2 m).1, (R_write (R_speakL w m).2 m).2)
theorem R_speakL_ok {w : RR} {n W : Nat} (h : OKw w n W) : ∀ m : Nat, m ≤ n → OKw (R_speakL w m).2 n W
  | 0, _ => h
  | m + 1, hm => by
    have ih := R_speakL_ok h m (by omega)
    unfold R_speakL
    split
    · exact ih
    · next c => exact R_write_ok ih (by omega) c
/-- a WEEK: what all say, and the row behind it -/
def R_week (left : Int32) (n : Nat) (w : RR) : Int32 × RR :=
  ((R_speakL (R_pagesL left n (R_thinkL w n) (w 0).toNatClampNeg) n).1, uw (R_speakL (R_pagesL left n (R_thinkL w n) (w 0).toNatClampNeg) n).2 4 ((R_speakL (R_pagesL left n (R_thinkL w n) (w 0).toNatClampNeg) n).2 4 + 1))
theorem R_week_ok {w : RR} {left : Int32} {n W : Nat} (h : OKw w n W) : OKw (R_week left n w).2 n (W + 1) := (R_speakL_ok (R_pagesL_ok (R_thinkL_ok h n) _) n (Nat.le_refl n)).week
theorem m_speak {n W : Nat} {s : SS} {t : TT} {w : RR} (hw : OKw w n W) : ∀ (m j f : Nat), j + m = n → m < f → l_X6_weekGoes_69 f ((R_speakL w j).1, nI j, cp2 s 52 (R_speakL w j).2, t) = some ((R_speakL w n).1, cp2 s 52 (uw (R_speakL w n).2 4 ((R_speakL w n).2 4 + 1)), t)
  | 0, j, f + 1, hj, _ => by
    have e : j = n := by omega
    subst e
    have h6 := (R_speakL_ok hw j (Nat.le_refl j)).2.1
    show b_X6_weekGoes_69 (l_X6_weekGoes_69 f) _ _ _ _ = _
    simp only [b_X6_weekGoes_69, rx56_6, rx56_4, bs, cp2_s, h6, nI_le (Nat.le_refl j) (show j < 2 ^ 31 by have := hw.1; omega), if_true, wr_e, up2_cp, cp2_2]
  | m + 1, j, f + 1, hj, hf => by
    have ih := m_speak (s := s) (t := t) hw m (j + 1) f (by omega) (by omega)
    have hn := hw.1
    have hj8 : j < 8 := by omega
    have h6 := (R_speakL_ok hw j (by omega)).2.1
    show b_X6_weekGoes_69 (l_X6_weekGoes_69 f) _ _ _ _ = _
    simp only [b_X6_weekGoes_69, j_X6_weekGoes_99, rx56_6, bs, cp2_s, h6, nI_ge (show j < n by omega) (show n < 2 ^ 31 by omega), if_false, its_3 hj8, m_writes hj8, cp2_2, nI_1]
    rw [← ih]
    by_cases c : (R_speakL w j).2 (8 + 6 * j + 3) ≤ 0
    · rw [if_pos c]; simp only [R_speakL, gw, c, if_true]
    · rw [if_neg c]; simp only [R_speakL, gw, c, if_false]
theorem m_pages {n W k : Nat} {s : SS} {t : TT} {w : RR} (hw : OKw w n W) (hk : w 0 = nI k) (hk9 : k ≤ 9) : ∀ (m j f : Nat), j + m = k → m < f → l_X6_weekGoes_45 f (nI j, cp2 s 52 (R_pagesL (s 51 5) n w j), t) = l_X6_weekGoes_69 300 (0, 0, cp2 s 52 (R_pagesL (s 51 5) n w k), t)
  | 0, j, f + 1, hj, _ => by
    have e : j = k := by omega
    subst e
    show b_X6_weekGoes_45 (l_X6_weekGoes_45 f) _ _ _ = _
    simp only [b_X6_weekGoes_45, rx56_0, bs, cp2_s, R_pagesL_0, hk, nI_le (Nat.le_refl j) (show j < 2 ^ 31 by omega), if_true]
  | m + 1, j, f + 1, hj, hf => by
    have ih := m_pages (s := s) (t := t) hw hk hk9 m (j + 1) f (by omega) (by omega)
    have hok := R_pagesL_ok (left := s 51 5) hw j
    show b_X6_weekGoes_45 (l_X6_weekGoes_45 f) _ _ _ = _
    rw [← ih]
    simp only [b_X6_weekGoes_45, rx56_0, bs, cp2_s, R_pagesL_0, hk, nI_ge (show j < k by omega) (show k < 2 ^ 31 by omega), if_false, m_pageGoes (s := cp2 s 52 (R_pagesL (s 51 5) n w j)) hw.1 (by rw [cp2_s]; exact hok.2.1), cp2_2, cp2_n (show 51 ≠ 52 by decide), nI_1, R_pagesL]
theorem m_think {n W : Nat} {s : SS} {t : TT} {w : RR} (hw : OKw w n W) : ∀ (m j f : Nat), j + m = n → m < f → l_X6_weekGoes_2 f (nI j, cp2 s 52 (R_thinkL w j), t) = l_X6_weekGoes_45 300 (0, cp2 s 52 (R_thinkL w n), t)
  | 0, j, f + 1, hj, _ => by
    have e : j = n := by omega
    subst e
    have h6 := (R_thinkL_ok hw j).2.1
    show b_X6_weekGoes_2 (l_X6_weekGoes_2 f) _ _ _ = _
    simp only [b_X6_weekGoes_2, rx56_6, bs, cp2_s, h6, nI_le (Nat.le_refl j) (show j < 2 ^ 31 by have := hw.1; omega), if_true]
  | m + 1, j, f + 1, hj, hf => by
    have ih := m_think (s := s) (t := t) hw m (j + 1) f (by omega) (by omega)
    have hn := hw.1
    have hj8 : j < 8 := by omega
    have h6 := (R_thinkL_ok hw j).2.1
    show b_X6_weekGoes_2 (l_X6_weekGoes_2 f) _ _ _ = _
    rw [← ih]
    simp only [b_X6_weekGoes_2, rx56_6, bs, cp2_s, h6, nI_ge (show j < n by omega) (show n < 2 ^ 31 by omega), if_false, its_1 hj8, m_thinksOf hj8, m_held, sets_1 hj8, cp2_2, nI_1, R_thinkL, gw]
theorem R_thinkL_0 {w : RR} : ∀ m : Nat, R_thinkL w m 0 = w 0
  | 0 => rfl
  | m + 1 => (uw_n (by omega)).trans (R_thinkL_0 m)
theorem m_weekGoes {n W : Nat} {s : SS} {t : TT} {w : RR} (hw : OKw w n W) : f_X6_weekGoes (cp2 s 52 w) t = some ((R_week (s 51 5) n w).1, cp2 s 52 (R_week (s 51 5) n w).2, t) := by
  obtain ⟨k, hk, e0⟩ := hw.2.2.1 0 (by omega)
  have hk9 : k ≤ 9 := hk
  have hn := hw.1
  have h1 := m_think (s := s) (t := t) hw n 0 300 (by omega) (by omega)
  have h2 := m_pages (s := s) (t := t) (R_thinkL_ok hw n) ((R_thinkL_0 n).trans e0) hk9 k 0 300 (by omega) (by omega)
  have h3 := m_speak (s := s) (t := t) (R_pagesL_ok (left := s 51 5) (R_thinkL_ok hw n) k) n 0 300 (by omega) (by omega)
  have e1 : (w 0).toNatClampNeg = k := by rw [e0, nI_clamp (by omega)]
  show l_X6_weekGoes_2 300 (nI 0, cp2 s 52 (R_thinkL w 0), t) = _
  rw [h1]
  refine h2.trans (h3.trans ?_)
  simp only [R_week, e1]
