/-! copies; WORDS by n -/
def mvn (f g : RR) (n : Nat) : RR := fun k => if k < n then f k else g k
def mv (f g : RR) : RR := mvn f g 56
theorem mv_at {f g : RR} {k : Nat} (h : k < 56) : mv f g k = f k := if_pos h
theorem m_moveAll_l {s : SS} {t : TT} {a b : Nat} (hab : a ≠ b) : ∀ (m j f : Nat), j + m = 56 → m < f → l_X6_moveAll_2 a b f (nI j, cp2 s b (mvn (s a) (s b) j), t) = some (cp2 s b (mv (s a) (s b)), t)
  | 0, j, f + 1, hj, _ => by
    have e : j = 56 := by omega
    subst e
    show b_X6_moveAll_2 a b (l_X6_moveAll_2 a b f) (nI 56) (cp2 s b (mvn (s a) (s b) 56)) t = _
    unfold b_X6_moveAll_2
    rw [if_pos (show (56 : Int32) ≤ nI 56 by decide)]
    rfl
  | m + 1, j, f + 1, hj, hf => by
    have ih := m_moveAll_l (s := s) (t := t) hab m (j + 1) f (by omega) (by omega)
    show b_X6_moveAll_2 a b (l_X6_moveAll_2 a b f) (nI j) (cp2 s b (mvn (s a) (s b) j)) t = _
    have c : ¬ (56 : Int32) ≤ nI j := nI_ge (a := j) (b := 56) (by omega) (by omega)
    have e : uw (mvn (s a) (s b) j) j (s a j) = mvn (s a) (s b) (j + 1) := by
      funext k
      by_cases h1 : k = j
      · subst h1; simp [uw, mvn]
      · by_cases h2 : k < j
        · simp [uw, mvn, h1, h2, show k < j + 1 by omega]
        · simp [uw, mvn, h1, h2, show ¬ k < j + 1 by omega]
    simp only [b_X6_moveAll_2, c, if_false, rx56 (show j < 56 by omega), bs, wr_e, up2_cp, cp2_s, cp2_2, cp2_n hab, nI_1, e]
    exact ih
theorem m_moveAll {s : SS} {t : TT} {a b : Nat} (hab : a ≠ b) : f_X6_moveAll a b s t = some (cp2 s b (mv (s a) (s b)), t) := by
  have h := m_moveAll_l (s := s) (t := t) hab 56 0 300 (by omega) (by omega)
  have e : cp2 s b (mvn (s a) (s b) 0) = s := by
    have e2 : mvn (s a) (s b) 0 = s b := by funext k; simp [mvn]
    rw [e2, cp2_i]
  rw [e] at h
  exact h
theorem OKw.cg {w w' : RR} {n W : Nat} (h : OKw w n W) (e : ∀ k : Nat, k < 56 → w' k = w k) : OKw w' n W := by
  obtain ⟨h1, h2, h3, h4, h5, h6⟩ := h
  exact ⟨h1, by rw [e 6 (by omega)]; exact h2, fun k hk => by rw [e k (by omega)]; exact h3 k hk, by rw [e 4 (by omega)]; exact h4, by rw [e 5 (by omega)]; exact h5, fun p hp j hj => by rw [e _ (by omega)]; exact h6 p hp j hj⟩
theorem RW.cg {s : SS} {o n : Nat} {w w' : RR} (hn : n ≤ 8) (h : RW s o w n) (e : ∀ k : Nat, k < 56 → w' k = w k) : RW s o w' n := by
  obtain ⟨h1, h2, h3, h4, h5, h6, h7⟩ := h
  refine ⟨h1, by rw [e 6 (by omega)]; exact h2, fun k hk => by rw [e k (by omega)]; exact h3 k hk, by rw [e 4 (by omega)]; exact h4, by rw [e 5 (by omega)]; exact h5, by rw [e 7 (by omega)]; exact h6, fun p hp => ?_⟩
  obtain ⟨a0, a1, a2, a3, a4, a5⟩ := h7 p hp
  exact ⟨by rw [e _ (by omega)]; exact a0, by rw [e _ (by omega)]; exact a1, by rw [e _ (by omega)]; exact a2, by rw [e _ (by omega)]; exact a3, by rw [e _ (by omega)]; exact a4, by rw [e _ (by omega)]; exact a5⟩
theorem RW.fr {s s' : SS} {o n : Nat} {w : RR} (h : RW s o w n) (e : ∀ c : Nat, o ≤ c → c ≤ o + 8 → s' c = s c) : RW s' o w n := by
  obtain ⟨h1, h2, h3, h4, h5, h6, h7⟩ := h
  have e0 := e o (by omega) (by omega)
  refine ⟨by rw [e0]; exact h1, h2, fun k hk => by rw [e _ (by omega) (by omega)]; exact h3 k hk, by rw [e0]; exact h4, by rw [e0]; exact h5, by rw [e0]; exact h6, fun p hp => ?_⟩
  obtain ⟨a0, a1, a2, a3, a4, a5⟩ := h7 p hp
  exact ⟨by rw [e _ (by omega) (by omega)]; exact a0, by rw [e _ (by omega) (by omega)]; exact a1, by rw [e _ (by omega) (by omega)]; exact a2, by rw [e _ (by omega) (by omega)]; exact a3, by rw [e _ (by omega) (by omega)]; exact a4, by rw [e _ (by omega) (by omega)]; exact a5⟩
theorem cp2_r {α : Type} {s : Nat → Nat → α} {c a b : Nat} {f : Nat → α} : cp2 s c f a b = if a = c then f b else s a b := rfl
theorem c_become_19_1 (s : SS) (t : TT) : ∃ s' : SS, f_X1_become 19 1 s t = some (s', t) ∧ Fr 19 s s' ∧ ∀ (w : RR) (n : Nat), RW s 1 w n → RW s' 19 w n := by
  refine ⟨_, rfl, fun c hc => ?_, fun w n h => ?_⟩
  · funext i
    simp only [up2_r, cp2_r]
    repeat rw [if_neg (by omega)]
  · obtain ⟨h1, h2, h3, h4, h5, h6, h7⟩ := h
    refine ⟨?_, h2, fun k hk => ?_, ?_, ?_, ?_, fun p hp => ?_⟩
    · simpa [up2_r, cp2_r] using h1
    · simpa [up2_r, cp2_r] using h3 k hk
    · simpa [up2_r, cp2_r] using h4
    · simpa [up2_r, cp2_r] using h5
    · simpa [up2_r, cp2_r] using h6
    · simpa [up2_r, cp2_r] using h7 p hp
theorem c_become_1_19 (s : SS) (t : TT) : ∃ s' : SS, f_X1_become 1 19 s t = some (s', t) ∧ Fr 1 s s' ∧ ∀ (w : RR) (n : Nat), RW s 19 w n → RW s' 1 w n := by
  refine ⟨_, rfl, fun c hc => ?_, fun w n h => ?_⟩
  · funext i
    simp only [up2_r, cp2_r]
    repeat rw [if_neg (by omega)]
  · obtain ⟨h1, h2, h3, h4, h5, h6, h7⟩ := h
    refine ⟨?_, h2, fun k hk => ?_, ?_, ?_, ?_, fun p hp => ?_⟩
    · simpa [up2_r, cp2_r] using h1
    · simpa [up2_r, cp2_r] using h3 k hk
    · simpa [up2_r, cp2_r] using h4
    · simpa [up2_r, cp2_r] using h5
    · simpa [up2_r, cp2_r] using h6
    · simpa [up2_r, cp2_r] using h7 p hp
theorem c_become_10_1 (s : SS) (t : TT) : ∃ s' : SS, f_X1_become 10 1 s t = some (s', t) ∧ Fr 10 s s' ∧ ∀ (w : RR) (n : Nat), RW s 1 w n → RW s' 10 w n := by
  refine ⟨_, rfl, fun c hc => ?_, fun w n h => ?_⟩
  · funext i
    simp only [up2_r, cp2_r]
    repeat rw [if_neg (by omega)]
  · obtain ⟨h1, h2, h3, h4, h5, h6, h7⟩ := h
    refine ⟨?_, h2, fun k hk => ?_, ?_, ?_, ?_, fun p hp => ?_⟩
    · simpa [up2_r, cp2_r] using h1
    · simpa [up2_r, cp2_r] using h3 k hk
    · simpa [up2_r, cp2_r] using h4
    · simpa [up2_r, cp2_r] using h5
    · simpa [up2_r, cp2_r] using h6
    · simpa [up2_r, cp2_r] using h7 p hp
theorem c_become_1_10 (s : SS) (t : TT) : ∃ s' : SS, f_X1_become 1 10 s t = some (s', t) ∧ Fr 1 s s' ∧ ∀ (w : RR) (n : Nat), RW s 10 w n → RW s' 1 w n := by
  refine ⟨_, rfl, fun c hc => ?_, fun w n h => ?_⟩
  · funext i
    simp only [up2_r, cp2_r]
    repeat rw [if_neg (by omega)]
  · obtain ⟨h1, h2, h3, h4, h5, h6, h7⟩ := h
    refine ⟨?_, h2, fun k hk => ?_, ?_, ?_, ?_, fun p hp => ?_⟩
    · simpa [up2_r, cp2_r] using h1
    · simpa [up2_r, cp2_r] using h3 k hk
    · simpa [up2_r, cp2_r] using h4
    · simpa [up2_r, cp2_r] using h5
    · simpa [up2_r, cp2_r] using h6
    · simpa [up2_r, cp2_r] using h7 p hp
theorem c_trial {s : SS} {t : TT} {w : RR} {n : Nat} (h : RW s 1 w n) : ∃ s' : SS, f_X5_trial s t = some (s', t) ∧ Fr 19 s s' ∧ RW s' 19 w n := by
  obtain ⟨s', e, f1, r⟩ := c_become_19_1 s t
  exact ⟨s', by simp only [f_X5_trial, e, bs], f1, r w n h⟩
/-- n WEEKS: what is said in all, and the row behind them -/
def R_wl (left : Int32) (n : Nat) (w : RR) : Nat → Int32 × RR
  | 0 => (0, w)
  | m + 1 => ((R_wl left n w m).1 + (R_week left n (R_wl left n w m).2).1, (R_week left n (R_wl left n w m).2).2)
theorem R_wl_ok {left : Int32} {n W : Nat} {w : RR} (h : OKw w n W) : ∀ m : Nat, OKw (R_wl left n w m).2 n (W + m)
  | 0 => h
  | m + 1 => R_week_ok (R_wl_ok h m)
theorem c_wordsBy_l {t : TT} {o n W k : Nat} {w : RR} {may left : Int32} (hk : k < 1000) (hW : W < 2 ^ 30) (hw : OKw w n W) (hM : May n may left) : ∀ (m j f : Nat) (s : SS), j + m = k → m < f → RW s o (R_wl left n w j).2 n → ∃ s' : SS, l_X5_wordsBy_5 o f (nI k, may, (R_wl left n w j).1, nI j, s, t) = some ((R_wl left n w k).1, s', t) ∧ Fr o s s' ∧ RW s' o (R_wl left n w k).2 n
  | 0, j, f + 1, s, hj, _, h => by
    have e : j = k := by omega
    subst e
    refine ⟨s, ?_, Fr.rf, h⟩
    show b_X5_wordsBy_5 o (l_X5_wordsBy_5 o f) (nI j) may (R_wl left n w j).1 (nI j) s t = _
    simp only [b_X5_wordsBy_5, nI_le (Nat.le_refl j) (show j < 2 ^ 31 by omega), if_true]
  | m + 1, j, f + 1, s, hj, hf, h => by
    obtain ⟨s1, e1, f1, r1⟩ := c_passWeek (t := t) (by omega) h (R_wl_ok (left := left) hw j) hM
    obtain ⟨s', e, f2, r2⟩ := c_wordsBy_l (t := t) hk hW hw hM m (j + 1) f s1 (by omega) (by omega) r1
    refine ⟨s', ?_, f1.tr f2, r2⟩
    show b_X5_wordsBy_5 o (l_X5_wordsBy_5 o f) (nI k) may (R_wl left n w j).1 (nI j) s t = _
    simp only [b_X5_wordsBy_5, nI_ge (show j < k by omega) (show k < 2 ^ 31 by omega), if_false, e1, bs, nI_1]
    exact e
theorem c_wordsBy {s : SS} {t : TT} {o n W k : Nat} {w : RR} {may left : Int32} (hk : k < 299) (hW : W < 2 ^ 30) (hw : OKw w n W) (hM : May n may left) (h : RW s o w n) : ∃ s' : SS, f_X5_wordsBy o (nI k) may s t = some ((R_wl left n w k).1, s', t) ∧ Fr o s s' ∧ RW s' o (R_wl left n w k).2 n :=
  c_wordsBy_l (by omega) hW hw hM k 0 300 s (by omega) (by omega) h
theorem m_wordsBehind_l {s : SS} {t : TT} {n W k : Nat} {w : RR} (hk : k < 1000) (hw : OKw w n W) : ∀ (m j f : Nat), j + m = k → m < f → l_X6_wordsBehind_4 f (nI k, (R_wl (s 51 5) n w j).1, nI j, cp2 s 52 (R_wl (s 51 5) n w j).2, t) = some ((R_wl (s 51 5) n w k).1, cp2 s 52 (mv (s 55) (R_wl (s 51 5) n w k).2), t)
  | 0, j, f + 1, hj, _ => by
    have e : j = k := by omega
    subst e
    show b_X6_wordsBehind_4 (l_X6_wordsBehind_4 f) (nI j) (R_wl (s 51 5) n w j).1 (nI j) (cp2 s 52 (R_wl (s 51 5) n w j).2) t = _
    simp only [b_X6_wordsBehind_4, nI_le (Nat.le_refl j) (show j < 2 ^ 31 by omega), if_true, m_moveAll (show 55 ≠ 52 by decide), bs, cp2_s, cp2_2, cp2_n (show 55 ≠ 52 by decide)]
  | m + 1, j, f + 1, hj, hf => by
    have ih := m_wordsBehind_l (s := s) (t := t) hk hw m (j + 1) f (by omega) (by omega)
    show b_X6_wordsBehind_4 (l_X6_wordsBehind_4 f) (nI k) (R_wl (s 51 5) n w j).1 (nI j) (cp2 s 52 (R_wl (s 51 5) n w j).2) t = _
    simp only [b_X6_wordsBehind_4, nI_ge (show j < k by omega) (show k < 2 ^ 31 by omega), if_false, m_weekGoes (R_wl_ok (left := s 51 5) hw j), bs, nI_1]
    exact ih
theorem m_wordsBehind {s : SS} {t : TT} {n W k : Nat} {w : RR} (hk : k < 299) (hw : OKw w n W) : f_X6_wordsBehind (nI k) (cp2 s 52 w) t = some ((R_wl (s 51 5) n w k).1, cp2 s 52 (mv (s 55) (R_wl (s 51 5) n w k).2), t) := m_wordsBehind_l (by omega) hw k 0 300 (by omega) (by omega)
