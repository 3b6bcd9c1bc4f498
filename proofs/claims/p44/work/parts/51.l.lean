/-! trials: both sides at once -/
def Fc (s s' : SS) : Prop := ∀ c : Nat, (c < 19 ∨ 27 < c) → c ≠ 50 → s' c = s c
theorem Fr.fc {s s' : SS} (h : Fr 19 s s') : Fc s s' := fun c hc _ => h c (by omega)
theorem Fc.tr {s s' s'' : SS} (h : Fc s s') (h' : Fc s' s'') : Fc s s'' := fun c hc h5 => (h' c hc h5).trans (h c hc h5)
/-- a trial on the reference's side -/
def MF (s s' : SS) : Prop := (∀ c : Nat, c ≠ 51 → c ≠ 52 → c ≠ 55 → c ≠ 57 → c ≠ 59 → s' c = s c) ∧ (∀ i : Nat, i ≠ 5 → s' 51 i = s 51 i) ∧ ∀ k : Nat, k < 56 → s' 52 k = s 52 k
theorem MF.rf {s : SS} : MF s s := ⟨fun _ _ _ _ _ _ => rfl, fun _ _ => rfl, fun _ _ => rfl⟩
theorem MF.tr {s s' s'' : SS} (h : MF s s') (h' : MF s' s'') : MF s s'' := ⟨fun c c1 c2 c3 c4 c5 => (h'.1 c c1 c2 c3 c4 c5).trans (h.1 c c1 c2 c3 c4 c5), fun i hi => (h'.2.1 i hi).trans (h.2.1 i hi), fun k hk => (h'.2.2 k hk).trans (h.2.2 k hk)⟩
theorem MF.left {s : SS} {v : Int32} : MF s (up2 s 51 5 v) := ⟨fun c c1 _ _ _ _ => up2_o c1, fun i hi => by rw [up2_r, if_neg (fun z => hi z.2)], fun k hk => by rw [up2_o (by omega)]⟩
theorem Tr.of {s s1 s2 : SS} (h : Fc s s1) (h' : MF s1 s2) (h0 : s 51 5 = 0) (h5 : s2 51 5 = 0) : Tr s s2 := by
  have e51 : s1 51 = s 51 := h 51 (by omega) (by omega)
  refine ⟨fun c c1 c2 c3 c4 c5 c6 => ?_, fun k hk => by rw [h'.2.2 k hk, h 52 (by omega) (by omega)]⟩
  by_cases e : c = 51
  · subst e
    funext i
    by_cases e5 : i = 5
    · subst e5; rw [h5, h0]
    · rw [h'.2.1 i e5, e51]
  · rw [h'.1 c e c1 c2 c3 c4, h c c6 c5]
theorem Sim.pair {f g : SS → TT → Option (Int32 × SS × TT)} {s : SS} {t : TT} {W : Nat} (h : Rel s t W) (hp : ∀ sM : SS, Fc s sM → ∃ (r : Int32) (s1 sM' : SS), f s t = some (r, s1, t) ∧ Fc s s1 ∧ g sM t = some (r, sM', t) ∧ MF sM sM' ∧ sM' 51 5 = 0) : Sim f g s t W := by
  obtain ⟨r, s1, sM, e1, f1, -⟩ := hp s (fun _ _ _ => rfl)
  obtain ⟨r2, s2, s3, e2, f2, e3, m3, z3⟩ := hp s1 f1
  rw [e1] at e2
  simp only [Option.some.injEq, Prod.mk.injEq, and_true] at e2
  obtain ⟨rfl, rfl⟩ := e2
  exact ⟨r, s1, s3, t, t, e1, e3, (h.tr (Tr.of f1 m3 h.2.2.2.2.2.2.2 z3)).more (by omega)⟩
/-- what links the class's office and the reference's row between trials -/
def LK (sC sM : SS) (n W : Nat) : Prop := RW sC 1 (sM 52) n ∧ OKw (sM 52) n W ∧ ∀ k : Nat, k < 56 → sM 55 k = sM 52 k
theorem m_start {sM : SS} {t : TT} : ∃ sM1 : SS, f_X6_moveAll 52 55 sM t = some (sM1, t) ∧ MF sM sM1 ∧ sM1 51 = sM 51 ∧ sM1 52 = sM 52 ∧ ∀ k : Nat, k < 56 → sM1 55 k = sM1 52 k := by
  refine ⟨_, m_moveAll (by decide), ⟨fun c c1 c2 c3 c4 c5 => cp2_n c3, fun i _ => by rw [cp2_n (by decide)], fun k _ => by rw [cp2_n (by decide)]⟩, cp2_n (by decide), cp2_n (by decide), fun k hk => ?_⟩
  rw [cp2_s, cp2_n (by decide), mv_at hk]
theorem LK.start {s sM sM1 : SS} {n W : Nat} (hw : OKw (s 52) n W) (hr : RW s 1 (s 52) n) (hf : Fc s sM) (h52 : sM1 52 = sM 52) (h55 : ∀ k : Nat, k < 56 → sM1 55 k = sM1 52 k) : LK s sM1 n W := by
  have e : sM1 52 = s 52 := h52.trans (hf 52 (by omega) (by omega))
  exact ⟨by rw [e]; exact hr, by rw [e]; exact hw, h55⟩
theorem LK.c {sC sC' sM : SS} {n W : Nat} (h : LK sC sM n W) (f : Fr 19 sC sC') : LK sC' sM n W := ⟨h.1.fr (fun c h1 h2 => f c (by omega)), h.2⟩
theorem LK.left {sC sM : SS} {n W : Nat} {v : Int32} (h : LK sC sM n W) : LK sC (up2 sM 51 5 v) n W := by
  obtain ⟨h1, h2, h3⟩ := h
  refine ⟨by rw [up2_o (by decide)]; exact h1, by rw [up2_o (by decide)]; exact h2, fun k hk => by rw [up2_o (by decide), up2_o (by decide)]; exact h3 k hk⟩
theorem LK.back {sC sM : SS} {n W : Nat} {g : RR} (h : LK sC sM n W) : LK sC (cp2 sM 52 (mv (sM 55) g)) n W ∧ MF sM (cp2 sM 52 (mv (sM 55) g)) := by
  obtain ⟨h1, h2, h3⟩ := h
  have e : ∀ k : Nat, k < 56 → mv (sM 55) g k = sM 52 k := fun k hk => by rw [mv_at hk, h3 k hk]
  refine ⟨⟨by rw [cp2_s]; exact h1.cg h2.1 e, by rw [cp2_s]; exact h2.cg e, fun k hk => by rw [cp2_s, cp2_n (by decide), mv_at hk]⟩, fun c _ c2 _ _ _ => cp2_n c2, fun i _ => by rw [cp2_n (by decide)], fun k hk => by rw [cp2_s]; exact e k hk⟩
theorem try_words {sC s2 sM : SS} {t : TT} {n W k : Nat} {w1 : RR} {may : Int32} (hk : k ≤ 60) (hW : W < 2 ^ 30) (hl : LK sC sM n W) (hf : Fr 19 sC s2) (h2 : RW s2 19 w1 n) (hw1 : OKw w1 n W) (hM : May n may (sM 51 5)) : ∃ (s3 sM' : SS), f_X5_wordsBy 19 (nI k) may s2 t = some ((R_wl (sM 51 5) n w1 k).1, s3, t) ∧ Fr 19 sC s3 ∧ f_X6_wordsBehind (nI k) (cp2 sM 52 w1) t = some ((R_wl (sM 51 5) n w1 k).1, sM', t) ∧ LK s3 sM' n W ∧ MF sM sM' ∧ sM' 51 = sM 51 := by
  obtain ⟨s3, e1, f1, -⟩ := c_wordsBy (t := t) (k := k) (by omega) hW hw1 hM h2
  obtain ⟨l2, m2⟩ := (hl.c (hf.tr f1)).back (g := (R_wl (sM 51 5) n w1 k).2)
  exact ⟨s3, _, e1, hf.tr f1, m_wordsBehind (s := sM) (by omega) hw1, l2, m2, cp2_n (by decide)⟩
theorem s_words {s : SS} {t : TT} {W : Nat} (hW : W < 2 ^ 30) (x : Int32) (h : Rel s t W) : Sim (f_X5_words x) (f_X6_words x) s t W := by
  obtain ⟨⟨n, hw, hr⟩, -, -, -, -, -, -, h0⟩ := id h
  cases hb : wi x 0 60 with
  | false => exact Sim.of h (-1) (by simp only [f_X5_words, c_isWithin, bs, b2_z, hb, if_true]) (by simp only [f_X6_words, m_in, bs, b2_z, hb, if_true])
  | true =>
  obtain ⟨k, hk, rfl⟩ := wi_two (n := 60) (by decide) hb
  refine Sim.pair h (fun sM hf => ?_)
  obtain ⟨sM1, e1, m1, q51, q52, q55⟩ := m_start (sM := sM) (t := t)
  have hl := LK.start hw hr hf q52 q55
  have hz : sM1 51 5 = 0 := by rw [q51, hf 51 (by omega) (by omega)]; exact h0
  obtain ⟨s1, e2, f2, r2⟩ := c_trial (t := t) hl.1
  obtain ⟨s3, sM3, e3, f3, e4, l4, m4, q4⟩ := try_words (t := t) (k := k) (may := 255) hk hW hl f2 r2 hl.2.1 (by rw [hz]; exact May.all hw.1)
  rw [cp2_i] at e4
  refine ⟨(R_wl (sM1 51 5) n (sM1 52) k).1, s3, sM3, ?_, f3.fc, ?_, m1.tr m4, by rw [q4]; exact hz⟩
  · simp only [f_X5_words, c_isWithin, bs, b2_z, hb, Bool.true_eq_false, if_false, e2, e3]
  · simp only [f_X6_words, m_in, bs, b2_z, hb, Bool.true_eq_false, if_false, e1, e4]
theorem van9 : ∀ j : Nat, j < 10 → ¬ (9 : Int32) ≤ nI j - 1 ∧ ¬ (9 : Int32) < nI j := by decide +kernel
theorem van_l {t : TT} {n W k : Nat} {y : Int32} (hk : k ≤ 60) (hW : W < 2 ^ 30) : ∀ (m j f f' : Nat) (sC sM : SS), j + m = 10 → m < f → m + 1 < f' → LK sC sM n W → sM 51 5 = 0 → ∃ (r : Int32) (sC' sM' : SS), l_X5_vanFor_25 f (nI k, y, nI j, sC, t) = some (r, sC', t) ∧ Fr 19 sC sC' ∧ l_X6_vanFor_39 f' (nI k, y, nI j - 1, 0, sM, t) = some (r, sM', t) ∧ MF sM sM' ∧ sM' 51 = sM 51
  | 0, j, f + 1, f' + 1, sC, sM, hj, _, _, hl, hz => by
    have e : j = 10 := by omega
    subst e
    refine ⟨-3, sC, sM, ?_, Fr.rf, ?_, MF.rf, rfl⟩
    · show b_X5_vanFor_25 (l_X5_vanFor_25 f) (nI k) y (nI 10) sC t = _
      simp only [b_X5_vanFor_25, rx4_0, bs, List.getD_cons_zero, show (9 : Int32) < nI 10 by decide, if_true]
    · show b_X6_vanFor_39 (l_X6_vanFor_39 f') (nI k) y (nI 10 - 1) 0 sM t = _
      simp only [b_X6_vanFor_39, j_X6_vanFor_79, show (9 : Int32) ≤ nI 10 - 1 by decide, if_true]
  | m + 1, j, f + 1, f' + 1 + 1, sC, sM, hj, hf, hf', hl, hz => by
    obtain ⟨v1, v2⟩ := van9 j (by omega)
    obtain ⟨s1, e2, f2, r2⟩ := c_trial (t := t) hl.1
    have r3 : RW (up2 s1 20 0 (nI j)) 19 (uw (sM 52) 0 (nI j)) n := r2.law (k := 0) (by omega)
    have ok3 : OKw (uw (sM 52) 0 (nI j)) n W := hl.2.1.law (k := 0) (by omega) (show bd 9 (nI j) from bd_n (by omega))
    obtain ⟨s3, sM3, e3, f3, e4, l4, m4, q4⟩ := try_words (t := t) (k := k) (may := 255) hk hW hl (f2.up (c := 20) (i := 0) (v := nI j) ⟨by omega, by omega⟩) r3 ok3 (by rw [hz]; exact May.all hl.2.1.1)
    by_cases c : (R_wl (sM 51 5) n (uw (sM 52) 0 (nI j)) k).1 < y
    · obtain ⟨r, sC', sM', d1, d2, d3, d4, d5⟩ := van_l (t := t) (y := y) hk hW m (j + 1) f (f' + 1) s3 sM3 (by omega) (by omega) (by omega) l4 (by rw [q4]; exact hz)
      refine ⟨r, sC', sM', ?_, f3.tr d2, ?_, m4.tr d4, by rw [d5, q4]⟩
      · show b_X5_vanFor_25 (l_X5_vanFor_25 f) (nI k) y (nI j) sC t = _
        simp only [b_X5_vanFor_25, rx4_0, bs, List.getD_cons_zero, v2, if_false, e2, wr_e, e3, c, if_true, nI_1]
        exact d1
      · show b_X6_vanFor_39 (l_X6_vanFor_39 (f' + 1)) (nI k) y (nI j - 1) 0 sM t = _
        simp only [b_X6_vanFor_39, v1, if_false, if_true, rx56_0, bs, wr_e, up2_cp, Int32.sub_add_cancel, e4, c]
        rw [nI_pred] at d3
        exact d3
    · refine ⟨nI j, s3, sM3, ?_, f3, ?_, m4, q4⟩
      · show b_X5_vanFor_25 (l_X5_vanFor_25 f) (nI k) y (nI j) sC t = _
        simp only [b_X5_vanFor_25, rx4_0, bs, List.getD_cons_zero, v2, if_false, e2, wr_e, e3, c]
      · show b_X6_vanFor_39 (l_X6_vanFor_39 (f' + 1)) (nI k) y (nI j - 1) 0 sM t = _
        simp only [b_X6_vanFor_39, v1, if_false, if_true, rx56_0, bs, wr_e, up2_cp, Int32.sub_add_cancel, e4, c]
        show b_X6_vanFor_39 (l_X6_vanFor_39 f') (nI k) y (nI j) 1 sM3 t = _
        have c1 : ¬ (1 : Int32) = 0 := by decide
        by_cases c9 : (9 : Int32) ≤ nI j
        · simp only [b_X6_vanFor_39, j_X6_vanFor_79, c9, if_true, c1, if_false]
        · simp only [b_X6_vanFor_39, j_X6_vanFor_79, c9, c1, if_false]
theorem s_vanFor {s : SS} {t : TT} {W : Nat} (hW : W < 2 ^ 30) (x y : Int32) (h : Rel s t W) : Sim (f_X5_vanFor x y) (f_X6_vanFor x y) s t W := by
  obtain ⟨⟨n, hw, hr⟩, -, -, -, -, -, -, h0⟩ := id h
  cases hb : wi x 1 20 with
  | false => exact Sim.of h (-1) (by simp only [f_X5_vanFor, c_isWithin, bs, b2_z, hb, if_true]) (by simp only [f_X6_vanFor, m_in, bs, b2_z, hb, if_true])
  | true =>
  cases hc : wi y 0 9999 with
  | false => exact Sim.of h (-1) (by simp only [f_X5_vanFor, c_isWithin, bs, b2_z, hb, hc, Bool.true_eq_false, if_false, if_true]) (by simp only [f_X6_vanFor, m_in, bs, b2_z, hb, hc, Bool.true_eq_false, if_false, if_true])
  | true =>
  obtain ⟨k, hk1, hk, rfl⟩ := wi_fr1 (n := 20) (by decide) hb
  refine Sim.pair h (fun sM hf => ?_)
  obtain ⟨sM1, e1, m1, q51, q52, q55⟩ := m_start (sM := sM) (t := t)
  have hl := LK.start hw hr hf q52 q55
  have hz : sM1 51 5 = 0 := by rw [q51, hf 51 (by omega) (by omega)]; exact h0
  obtain ⟨r, s3, sM3, e3, f3, e4, m4, q4⟩ := van_l (t := t) (k := k) (y := y) (by omega) hW 10 0 300 300 s sM1 (by omega) (by omega) (by omega) hl hz
  refine ⟨r, s3, sM3, ?_, f3.fc, ?_, m1.tr m4, by rw [q4]; exact hz⟩
  · simp only [f_X5_vanFor, c_isWithin, bs, b2_z, hb, hc, Bool.true_eq_false, if_false]
    exact e3
  · simp only [f_X6_vanFor, m_in, bs, b2_z, hb, hc, Bool.true_eq_false, if_false, e1]
    exact e4
theorem kin_l {t : TT} {n W k p : Nat} (hk : k ≤ 60) (hW : W < 2 ^ 30) (hp : p < n) : ∀ (m j f f' : Nat) (a b : Int32) (sC sM : SS), j + m = 6 → m < f → m < f' → LK sC sM n W → sM 51 5 = 0 → ∃ (r : Int32) (sC' sM' : SS), l_X5_kindFor_31 f (nI p, nI k, a, b, nI j, sC, t) = some (r, sC', t) ∧ Fr 19 sC sC' ∧ l_X6_kindFor_39 f' (nI p, nI k, a, b, nI j, sM, t) = some (r, sM', t) ∧ MF sM sM' ∧ sM' 51 = sM 51
  | 0, j, f + 1, f' + 1, a, b, sC, sM, hj, _, _, hl, hz => by
    have e : j = 6 := by omega
    subst e
    refine ⟨a, sC, sM, ?_, Fr.rf, ?_, MF.rf, rfl⟩
    · show b_X5_kindFor_31 (l_X5_kindFor_31 f) (nI p) (nI k) a b (nI 6) sC t = _
      simp only [b_X5_kindFor_31, show (5 : Int32) < nI 6 by decide, if_true]
    · show b_X6_kindFor_39 (l_X6_kindFor_39 f') (nI p) (nI k) a b (nI 6) sM t = _
      simp only [b_X6_kindFor_39, show (5 : Int32) < nI 6 by decide, if_true]
  | m + 1, j, f + 1, f' + 1, a, b, sC, sM, hj, hf, hf', hl, hz => by
    have hn := hl.2.1.1
    have hp8 : p < 8 := by omega
    have v2 : ¬ (5 : Int32) < nI j := nI_nlt (b := j) (a := 5) (by omega) (by decide)
    obtain ⟨s1, e2, f2, r2⟩ := c_trial (t := t) hl.1
    have r3 : RW (up2 s1 21 p (nI j)) 19 (uw (sM 52) (8 + 6 * p + 0) (nI j)) n := r2.set0
    have ok3 : OKw (uw (sM 52) (8 + 6 * p + 0) (nI j)) n W := hl.2.1.set (by omega) (show bd 5 (nI j) from bd_n (by omega))
    obtain ⟨s3, sM3, e3, f3, e4, l4, m4, q4⟩ := try_words (t := t) (k := k) (may := 255) hk hW hl (f2.up (c := 21) (i := p) (v := nI j) ⟨by omega, by omega⟩) r3 ok3 (by rw [hz]; exact May.all hn)
    by_cases c : (R_wl (sM 51 5) n (uw (sM 52) (8 + 6 * p + 0) (nI j)) k).1 ≤ b
    · obtain ⟨r, sC', sM', d1, d2, d3, d4, d5⟩ := kin_l (t := t) hk hW hp m (j + 1) f f' a b s3 sM3 (by omega) (by omega) (by omega) l4 (by rw [q4]; exact hz)
      refine ⟨r, sC', sM', ?_, f3.tr d2, ?_, m4.tr d4, by rw [d5, q4]⟩
      · show b_X5_kindFor_31 (l_X5_kindFor_31 f) (nI p) (nI k) a b (nI j) sC t = _
        simp only [b_X5_kindFor_31, v2, if_false, e2, bs, rx8 hp8, wr_e, e3, c, if_true, nI_1]
        exact d1
      · show b_X6_kindFor_39 (l_X6_kindFor_39 f') (nI p) (nI k) a b (nI j) sM t = _
        simp only [b_X6_kindFor_39, j_X6_kindFor_73, v2, if_false, sets_0 hp8, bs, e4, c, if_true, nI_1]
        exact d3
    · obtain ⟨r, sC', sM', d1, d2, d3, d4, d5⟩ := kin_l (t := t) hk hW hp m (j + 1) f f' (nI j) (R_wl (sM 51 5) n (uw (sM 52) (8 + 6 * p + 0) (nI j)) k).1 s3 sM3 (by omega) (by omega) (by omega) l4 (by rw [q4]; exact hz)
      refine ⟨r, sC', sM', ?_, f3.tr d2, ?_, m4.tr d4, by rw [d5, q4]⟩
      · show b_X5_kindFor_31 (l_X5_kindFor_31 f) (nI p) (nI k) a b (nI j) sC t = _
        simp only [b_X5_kindFor_31, v2, if_false, e2, bs, rx8 hp8, wr_e, e3, c, nI_1]
        exact d1
      · show b_X6_kindFor_39 (l_X6_kindFor_39 f') (nI p) (nI k) a b (nI j) sM t = _
        simp only [b_X6_kindFor_39, j_X6_kindFor_73, v2, if_false, sets_0 hp8, bs, e4, c, nI_1]
        exact d3
theorem s_kindFor {s : SS} {t : TT} {W : Nat} (hW : W < 2 ^ 30) (x y : Int32) (h : Rel s t W) : Sim (f_X5_kindFor x y) (f_X6_kindFor x y) s t W := by
  obtain ⟨⟨n, hw, hr⟩, -, -, -, -, -, -, h0⟩ := id h
  have h8 : s 1 8 = nI n := hr.1
  have h6 := hw.2.1
  cases hb : wi x 0 (nI n - 1) with
  | false => exact Sim.of h (-1) (by simp only [f_X5_kindFor, c_has, h8, bs, b2_z, hb, if_true]) (by simp only [f_X6_kindFor, m_isOne, h6, bs, b2_z, hb, if_true])
  | true =>
  obtain ⟨p, hp, rfl⟩ := wi_one hw.1 hb
  cases hc : wi y 1 20 with
  | false => exact Sim.of h (-1) (by simp only [f_X5_kindFor, c_has, c_isWithin, h8, bs, b2_z, hb, hc, Bool.true_eq_false, if_false, if_true]) (by simp only [f_X6_kindFor, m_isOne, m_in, h6, bs, b2_z, hb, hc, Bool.true_eq_false, if_false, if_true])
  | true =>
  obtain ⟨k, hk1, hk, rfl⟩ := wi_fr1 (n := 20) (by decide) hc
  refine Sim.pair h (fun sM hf => ?_)
  obtain ⟨sM1, e1, m1, q51, q52, q55⟩ := m_start (sM := sM) (t := t)
  have hl := LK.start hw hr hf q52 q55
  have hz : sM1 51 5 = 0 := by rw [q51, hf 51 (by omega) (by omega)]; exact h0
  obtain ⟨r, s3, sM3, e3, f3, e4, m4, q4⟩ := kin_l (t := t) (k := k) (p := p) (by omega) hW hp 6 0 300 300 0 (-1) s sM1 (by omega) (by omega) (by omega) hl hz
  refine ⟨r, s3, sM3, ?_, f3.fc, ?_, m1.tr m4, by rw [q4]; exact hz⟩
  · simp only [f_X5_kindFor, c_has, c_isWithin, h8, bs, b2_z, hb, hc, Bool.true_eq_false, if_false]
    exact e3
  · have h6' : sM 52 6 = nI n := by rw [hf 52 (by omega) (by omega)]; exact h6
    simp only [f_X6_kindFor, m_isOne, m_in, h6', bs, b2_z, hb, hc, Bool.true_eq_false, if_false, e1]
    exact e4
