/-! needed, poor, gets, idle -/
theorem May.but {n i : Nat} (hn : n ≤ 8) (hi : i < 8) : May n ((255 : Int32) &&& (((1 : Int32) <<< (nI i &&& 31)) ^^^ ((-1) : Int32))) ((1 : Int32) <<< (nI i &&& 31)) := by
  have h : ∀ i : Nat, i < 8 → ∀ p : Nat, p < 8 → (((((255 : Int32) &&& (((1 : Int32) <<< (nI i &&& 31)) ^^^ ((-1) : Int32))) >>> (nI p &&& 31)) &&& 1 = 0) ↔ ¬ ((((1 : Int32) <<< (nI i &&& 31)) >>> (nI p &&& 31)) &&& 1 = 0)) := by decide +kernel
  exact fun p hp => h i hi p (by omega)
theorem need_l {t : TT} {n W k : Nat} (hk : k ≤ 60) (hW : W < 2 ^ 30) : ∀ (m j f f' : Nat) (a b : Int32) (sC sM : SS), j + m = n → m < f → m < f' → LK sC sM n W → ∃ (r : Int32) (sC' sM' : SS), l_X5_needed_30 f (nI k, a, b, nI j, sC, t) = some (r, sC', t) ∧ Fr 19 sC sC' ∧ l_X6_needed_35 f' (nI k, a, b, nI j, sM, t) = some (r, sM', t) ∧ MF sM sM' ∧ sM' 51 5 = 0
  | 0, j, f + 1, f' + 1, a, b, sC, sM, hj, _, _, hl => by
    have e : j = n := by omega
    subst e
    have hn := hl.2.1.1
    refine ⟨a, sC, up2 sM 51 5 0, ?_, Fr.rf, ?_, MF.left, by rw [up2_r, if_pos ⟨rfl, rfl⟩]⟩
    · show b_X5_needed_30 (l_X5_needed_30 f) (nI k) a b (nI j) sC t = _
      have h8 : sC 1 8 = nI j := hl.1.1
      simp only [b_X5_needed_30, h8, nI_le (Nat.le_refl j) (show j < 2 ^ 31 by omega), if_true]
    · show b_X6_needed_35 (l_X6_needed_35 f') (nI k) a b (nI j) sM t = _
      simp only [b_X6_needed_35, rx56_6, bs, hl.2.1.2.1, nI_le (Nat.le_refl j) (show j < 2 ^ 31 by omega), if_true, wr_e]
  | m + 1, j, f + 1, f' + 1, a, b, sC, sM, hj, hf, hf', hl => by
    have hn := hl.2.1.1
    have hj8 : j < 8 := by omega
    have h8 : sC 1 8 = nI n := hl.1.1
    obtain ⟨s1, e2, f2, r2⟩ := c_trial (t := t) hl.1
    have hl2 : LK sC (up2 sM 51 5 ((1 : Int32) <<< (nI j &&& 31))) n W := hl.left
    have e52 : up2 sM 51 5 ((1 : Int32) <<< (nI j &&& 31)) 52 = sM 52 := up2_o (by decide)
    have e5 : up2 sM 51 5 ((1 : Int32) <<< (nI j &&& 31)) 51 5 = (1 : Int32) <<< (nI j &&& 31) := by rw [up2_r, if_pos ⟨rfl, rfl⟩]
    obtain ⟨s3, sM3, e3, f3, e4, l4, m4, q4⟩ := try_words (t := t) (k := k) (may := (255 : Int32) &&& (((1 : Int32) <<< (nI j &&& 31)) ^^^ ((-1) : Int32))) hk hW hl2 f2 r2 hl.2.1 (by rw [e5]; exact May.but hn hj8)
    rw [← e52, cp2_i, e52] at e4
    by_cases c : b ≤ (R_wl (up2 sM 51 5 ((1 : Int32) <<< (nI j &&& 31)) 51 5) n (sM 52) k).1
    · obtain ⟨r, sC', sM', d1, d2, d3, d4, d5⟩ := need_l (t := t) hk hW m (j + 1) f f' a b s3 sM3 (by omega) (by omega) (by omega) l4
      refine ⟨r, sC', sM', ?_, f3.tr d2, ?_, (MF.left.tr m4).tr d4, d5⟩
      · show b_X5_needed_30 (l_X5_needed_30 f) (nI k) a b (nI j) sC t = _
        simp only [b_X5_needed_30, h8, nI_ge (show j < n by omega) (show n < 2 ^ 31 by omega), if_false, e2, bs, e3, c, if_true, nI_1]
        exact d1
      · show b_X6_needed_35 (l_X6_needed_35 f') (nI k) a b (nI j) sM t = _
        simp only [b_X6_needed_35, j_X6_needed_74, rx56_6, bs, hl.2.1.2.1, nI_ge (show j < n by omega) (show n < 2 ^ 31 by omega), if_false, wr_e, e4, c, if_true, nI_1]
        exact d3
    · obtain ⟨r, sC', sM', d1, d2, d3, d4, d5⟩ := need_l (t := t) hk hW m (j + 1) f f' (nI j) (R_wl (up2 sM 51 5 ((1 : Int32) <<< (nI j &&& 31)) 51 5) n (sM 52) k).1 s3 sM3 (by omega) (by omega) (by omega) l4
      refine ⟨r, sC', sM', ?_, f3.tr d2, ?_, (MF.left.tr m4).tr d4, d5⟩
      · show b_X5_needed_30 (l_X5_needed_30 f) (nI k) a b (nI j) sC t = _
        simp only [b_X5_needed_30, h8, nI_ge (show j < n by omega) (show n < 2 ^ 31 by omega), if_false, e2, bs, e3, c, nI_1]
        exact d1
      · show b_X6_needed_35 (l_X6_needed_35 f') (nI k) a b (nI j) sM t = _
        simp only [b_X6_needed_35, j_X6_needed_74, rx56_6, bs, hl.2.1.2.1, nI_ge (show j < n by omega) (show n < 2 ^ 31 by omega), if_false, wr_e, e4, c, nI_1]
        exact d3
theorem s_needed {s : SS} {t : TT} {W : Nat} (hW : W < 2 ^ 30) (x : Int32) (h : Rel s t W) : Sim (f_X5_needed x) (f_X6_needed x) s t W := by
  obtain ⟨⟨n, hw, hr⟩, -, -, -, -, -, -, h0⟩ := id h
  have hn := hw.1
  cases hb : wi x 1 20 with
  | false => exact Sim.of h (-1) (by simp only [f_X5_needed, c_isWithin, bs, b2_z, hb, if_true]) (by simp only [f_X6_needed, m_in, bs, b2_z, hb, if_true])
  | true =>
  obtain ⟨k, hk1, hk, rfl⟩ := wi_fr1 (n := 20) (by decide) hb
  refine Sim.pair h (fun sM hf => ?_)
  obtain ⟨sM1, e1, m1, q51, q52, q55⟩ := m_start (sM := sM) (t := t)
  have hl := LK.start hw hr hf q52 q55
  have hz : sM1 51 5 = 0 := by rw [q51, hf 51 (by omega) (by omega)]; exact h0
  obtain ⟨s1, e2, f2, r2⟩ := c_trial (t := t) hl.1
  obtain ⟨s3, sM3, e3, f3, e4, l4, m4, q4⟩ := try_words (t := t) (k := k) (may := 255) (by omega) hW hl f2 r2 hl.2.1 (by rw [hz]; exact May.all hw.1)
  rw [cp2_i] at e4
  obtain ⟨r, s5, sM5, e5, f5, e6, m6, q6⟩ := need_l (t := t) (k := k) (by omega) hW n 0 300 300 (-3) (R_wl (sM1 51 5) n (sM1 52) k).1 s3 sM3 (by omega) (by omega) (by omega) l4
  refine ⟨r, s5, sM5, ?_, (f3.tr f5).fc, ?_, (m1.tr m4).tr m6, q6⟩
  · simp only [f_X5_needed, c_isWithin, bs, b2_z, hb, Bool.true_eq_false, if_false, e2, e3]
    exact e5
  · simp only [f_X6_needed, m_in, bs, b2_z, hb, Bool.true_eq_false, if_false, e1, e4]
    exact e6
theorem poor_l {t : TT} {n W k : Nat} {due : Int32} (hk : k < 200) (hW : W < 2 ^ 30) : ∀ (m j f f' : Nat) (z a : Int32) (sC sM : SS), j + m = k → m < f → m < f' → LK sC sM n W → sM 51 5 = 0 → ∃ (r : Int32) (sC' sM' : SS), l_X5_poor_38 f (nI k, due, z, a, nI j, sC, t) = some (r, sC', t) ∧ Fr 19 sC sC' ∧ l_X6_poor_43 f' (nI k, due, z, a, nI j, sM, t) = some (r, sM', t) ∧ MF sM sM' ∧ sM' 51 = sM 51
  | 0, j, f + 1, f' + 1, z, a, sC, sM, hj, _, _, hl, hz => by
    have e : j = k := by omega
    subst e
    refine ⟨a, sC, sM, ?_, Fr.rf, ?_, MF.rf, rfl⟩
    · show b_X5_poor_38 (l_X5_poor_38 f) (nI j) due z a (nI j) sC t = _
      simp only [b_X5_poor_38, nI_le (Nat.le_refl j) (show j < 2 ^ 31 by omega), if_true]
    · show b_X6_poor_43 (l_X6_poor_43 f') (nI j) due z a (nI j) sM t = _
      simp only [b_X6_poor_43, nI_le (Nat.le_refl j) (show j < 2 ^ 31 by omega), if_true]
  | m + 1, j, f + 1, f' + 1, z, a, sC, sM, hj, hf, hf', hl, hz => by
    obtain ⟨s1, e2, f2, r2⟩ := c_trial (t := t) hl.1
    have r3 : RW (up2 s1 19 11 z) 19 (uw (sM 52) 7 z) n := r2.z
    have ok3 : OKw (uw (sM 52) 7 z) n W := hl.2.1.z
    obtain ⟨s3, e3, f3, r4⟩ := c_passWeekByDraws (t := t) (show W < 2 ^ 31 by omega) r3 ok3
    have e4 := m_weekByDraws (s := sM) (t := t) ok3 hz
    have ez : s3 19 11 = (R_draws n (uw (sM 52) 7 z)).2 7 := r4.2.2.2.2.2.1
    have fT : Fr 19 sC s3 := (f2.up (c := 19) (i := 11) (v := z) ⟨by omega, by omega⟩).tr f3
    obtain ⟨l4, m4⟩ := (hl.c fT).back (g := (R_draws n (uw (sM 52) 7 z)).2)
    by_cases c : due ≤ (R_draws n (uw (sM 52) 7 z)).1
    · obtain ⟨r, sC', sM', d1, d2, d3, d4, d5⟩ := poor_l (t := t) (due := due) hk hW m (j + 1) f f' ((R_draws n (uw (sM 52) 7 z)).2 7) a s3 _ (by omega) (by omega) (by omega) l4 (by rw [cp2_n (by decide)]; exact hz)
      refine ⟨r, sC', sM', ?_, fT.tr d2, ?_, m4.tr d4, by rw [d5, cp2_n (by decide)]⟩
      · show b_X5_poor_38 (l_X5_poor_38 f) (nI k) due z a (nI j) sC t = _
        simp only [b_X5_poor_38, j_X5_poor_68, nI_ge (show j < k by omega) (show k < 2 ^ 31 by omega), if_false, e2, bs, wr_e, e3, c, if_true, nI_1, ez]
        exact d1
      · show b_X6_poor_43 (l_X6_poor_43 f') (nI k) due z a (nI j) sM t = _
        simp only [b_X6_poor_43, j_X6_poor_72, nI_ge (show j < k by omega) (show k < 2 ^ 31 by omega), if_false, rx56_7, bs, wr_e, up2_cp, e4, c, if_true, m_moveAll (show 55 ≠ 52 by decide), cp2_s, cp2_2, cp2_n (show 55 ≠ 52 by decide), nI_1, Int32.add_zero]
        exact d3
    · obtain ⟨r, sC', sM', d1, d2, d3, d4, d5⟩ := poor_l (t := t) (due := due) hk hW m (j + 1) f f' ((R_draws n (uw (sM 52) 7 z)).2 7) (a + 1) s3 _ (by omega) (by omega) (by omega) l4 (by rw [cp2_n (by decide)]; exact hz)
      refine ⟨r, sC', sM', ?_, fT.tr d2, ?_, m4.tr d4, by rw [d5, cp2_n (by decide)]⟩
      · show b_X5_poor_38 (l_X5_poor_38 f) (nI k) due z a (nI j) sC t = _
        simp only [b_X5_poor_38, j_X5_poor_68, nI_ge (show j < k by omega) (show k < 2 ^ 31 by omega), if_false, e2, bs, wr_e, e3, c, nI_1, ez]
        exact d1
      · show b_X6_poor_43 (l_X6_poor_43 f') (nI k) due z a (nI j) sM t = _
        simp only [b_X6_poor_43, j_X6_poor_72, nI_ge (show j < k by omega) (show k < 2 ^ 31 by omega), if_false, rx56_7, bs, wr_e, up2_cp, e4, c, m_moveAll (show 55 ≠ 52 by decide), cp2_s, cp2_2, cp2_n (show 55 ≠ 52 by decide), nI_1]
        exact d3
theorem s_poor {s : SS} {t : TT} {W : Nat} (hW : W < 2 ^ 30) (x : Int32) (h : Rel s t W) : Sim (f_X5_poor x) (f_X6_poor x) s t W := by
  obtain ⟨⟨n, hw, hr⟩, -, -, -, -, -, -, h0⟩ := id h
  have hn := hw.1
  cases hb : wi x 1 30 with
  | false => exact Sim.of h (-1) (by simp only [f_X5_poor, c_isWithin, bs, b2_z, hb, if_true]) (by simp only [f_X6_poor, m_in, bs, b2_z, hb, if_true])
  | true =>
  obtain ⟨k, hk1, hk, rfl⟩ := wi_fr1 (n := 30) (by decide) hb
  refine Sim.pair h (fun sM hf => ?_)
  obtain ⟨sM1, e1, m1, q51, q52, q55⟩ := m_start (sM := sM) (t := t)
  have hl := LK.start hw hr hf q52 q55
  have hz : sM1 51 5 = 0 := by rw [q51, hf 51 (by omega) (by omega)]; exact h0
  obtain ⟨s1, e2, f2, r2⟩ := c_trial (t := t) hl.1
  obtain ⟨s3, sM3, e3, f3, e4, l4, m4, q4⟩ := try_words (t := t) (k := 1) (may := 255) (by omega) hW hl f2 r2 hl.2.1 (by rw [hz]; exact May.all hw.1)
  rw [cp2_i] at e4
  have ez : s3 1 11 = sM3 52 7 := l4.1.2.2.2.2.2.1
  obtain ⟨r, s5, sM5, e5, f5, e6, m6, q6⟩ := poor_l (t := t) (k := k) (due := (R_wl (sM1 51 5) n (sM1 52) 1).1) (by omega) hW k 0 300 300 (sM3 52 7) 0 s3 sM3 (by omega) (by omega) (by omega) l4 (by rw [q4]; exact hz)
  refine ⟨r, s5, sM5, ?_, (f3.tr f5).fc, ?_, (m1.tr m4).tr m6, by rw [q6, q4]; exact hz⟩
  · have e3' : f_X5_wordsBy 19 1 255 s1 t = _ := e3
    simp only [f_X5_poor, c_isWithin, bs, b2_z, hb, Bool.true_eq_false, if_false, e2, e3', ez]
    exact e5
  · have e4' : f_X6_wordsBehind 1 sM1 t = _ := e4
    simp only [f_X6_poor, m_in, bs, b2_z, hb, Bool.true_eq_false, if_false, e1, e4', rx56_7]
    exact e6
theorem R_thinkL_g {w : RR} {p : Nat} : ∀ m : Nat, R_thinkL w m (8 + 6 * p + 4) = w (8 + 6 * p + 4)
  | 0 => rfl
  | m + 1 => (uw_n (by omega)).trans (R_thinkL_g m)
theorem R_speakL_g {w : RR} {p : Nat} : ∀ m : Nat, (R_speakL w m).2 (8 + 6 * p + 4) = w (8 + 6 * p + 4)
  | 0 => rfl
  | m + 1 => by
    unfold R_speakL
    split
    · exact R_speakL_g m
    · exact ((uw_n (by omega)).trans (uw_n (by omega))).trans (R_speakL_g m)
theorem R_page_g {w : RR} {left : Int32} {n W p : Nat} (h : OKw w n W) (hp : p < n) : (w (8 + 6 * p + 4)).toInt ≤ (R_page left n w (8 + 6 * p + 4)).toInt := by
  unfold R_page
  cases R_next w left n with
  | none =>
    show _ ≤ (uw w 5 (hl (w 5 + 1) 0 9999) (8 + 6 * p + 4)).toInt
    rw [uw_n (by omega)]
    exact Int.le_refl _
  | some q =>
    show _ ≤ (uw (uw (uw w (8 + 6 * q + 3) (gw w q 3 + 1)) (8 + 6 * q + 4) (hl (gw w q 4 + 1) 0 9999)) (8 + 6 * q + 1) (gw w q 1 - R_needs w q) (8 + 6 * p + 4)).toInt
    rw [uw_n (by omega)]
    by_cases e : q = p
    · subst e
      rw [uw_s]
      have hb : bd 9999 (gw w q 4) := h.at hp 4 (by omega)
      have hb2 := (bd_i (by decide)).mp hb
      have h1 : (1 : Int32).toInt = 1 := rfl
      have ha : (gw w q 4 + 1).toInt = (gw w q 4).toInt + 1 := tI_add (by rw [h1]; omega) (by rw [h1]; omega)
      have hb3 : 0 ≤ (gw w q 4).toInt ∧ (gw w q 4).toInt ≤ 9999 := hb2
      show (gw w q 4).toInt ≤ _
      unfold hl
      rw [if_pos (show (0 : Int32) ≤ gw w q 4 + 1 by rw [tI_le, ha, show (0 : Int32).toInt = 0 from rfl]; omega)]
      by_cases c : gw w q 4 + 1 ≤ 9999
      · rw [if_pos c, ha]; omega
      · rw [if_neg c, show (9999 : Int32).toInt = 9999 from rfl]; omega
    · rw [uw_n (by omega), uw_n (by omega)]; exact Int.le_refl _
theorem R_pagesL_g {w : RR} {left : Int32} {n W p : Nat} (h : OKw w n W) (hp : p < n) : ∀ m : Nat, (w (8 + 6 * p + 4)).toInt ≤ (R_pagesL left n w m (8 + 6 * p + 4)).toInt
  | 0 => Int.le_refl _
  | m + 1 => Int.le_trans (R_pagesL_g h hp m) (R_page_g (R_pagesL_ok h m) hp)
theorem R_week_g {w : RR} {left : Int32} {n W p : Nat} (h : OKw w n W) (hp : p < n) : (w (8 + 6 * p + 4)).toInt ≤ ((R_week left n w).2 (8 + 6 * p + 4)).toInt := by
  unfold R_week
  show _ ≤ (uw _ 4 _ (8 + 6 * p + 4)).toInt
  rw [uw_n (by omega), R_speakL_g]
  have h1 := R_pagesL_g (left := left) (R_thinkL_ok h n) hp (w 0).toNatClampNeg
  rw [R_thinkL_g] at h1
  exact h1
theorem gets_l {t : TT} {n W p : Nat} {had : Int32} (hW : W < 2 ^ 29) (hp : p < n) : ∀ (m j f f' V : Nat) (sC sM : SS), j + m = 60 → m < f → m + 1 < f' → V = W + j → RW sC 19 (sM 52) n → OKw (sM 52) n V → sM 51 5 = 0 → sC 7 p = had → sM 52 (8 + 6 * p + 4) = had → ∃ (r : Int32) (sC' sM' : SS), l_X5_gets_20 f (nI p, nI (j + 1), sC, t) = some (r, sC', t) ∧ Fr 19 sC sC' ∧ l_X6_gets_30 f' (nI p, had, nI j, sM, t) = some (r, sM', t) ∧ (∀ c : Nat, c ≠ 52 → sM' c = sM c) ∧ ∀ k : Nat, k < 56 → sM' 52 k = sM 55 k
  | 0, j, f + 1, f' + 1 + 1, V, sC, sM, hj, _, _, hV, hr, hw, hz, h7, hg => by
    have e : j = 60 := by omega
    subst e
    have hp8 : p < 8 := by have := hw.1; omega
    have e4 := m_weekGoes (s := sM) (t := t) hw
    rw [cp2_i] at e4
    refine ⟨-3, sC, cp2 sM 52 (mv (sM 55) (R_week (sM 51 5) n (sM 52)).2), ?_, Fr.rf, ?_, fun c hc => cp2_n hc, fun k hk => by rw [cp2_s, mv_at hk]⟩
    · show b_X5_gets_20 (l_X5_gets_20 f) (nI p) (nI 61) sC t = _
      simp only [b_X5_gets_20, show (60 : Int32) < nI 61 by decide, if_true]
    · show b_X6_gets_30 (l_X6_gets_30 (f' + 1)) (nI p) had (nI 60) sM t = _
      simp only [b_X6_gets_30, show ¬ (60 : Int32) < nI 60 by decide, if_false, its_4 hp8, bs, hg, if_true, e4, nI_1]
      show b_X6_gets_30 (l_X6_gets_30 f') (nI p) had (nI 61) (cp2 sM 52 (R_week (sM 51 5) n (sM 52)).2) t = _
      simp only [b_X6_gets_30, j_X6_gets_57, show (60 : Int32) < nI 61 by decide, if_true, m_moveAll (show 55 ≠ 52 by decide), bs, cp2_s, cp2_2, cp2_n (show 55 ≠ 52 by decide), show ¬ nI 61 ≤ 60 by decide, if_false]
  | m + 1, j, f + 1, f' + 1 + 1, V, sC, sM, hj, hf, hf', hV, hr, hw, hz, h7, hg => by
    have hn := hw.1
    have hp8 : p < 8 := by omega
    have c0 : ¬ (60 : Int32) < nI (j + 1) := nI_nlt (b := j + 1) (a := 60) (by omega) (by decide)
    have c1 : ¬ (60 : Int32) < nI j := nI_nlt (b := j) (a := 60) (by omega) (by decide)
    have hV31 : V < 2 ^ 31 := by omega
    obtain ⟨s1, e2, f2, r2⟩ := c_passWeek (t := t) (may := 255) (left := 0) hV31 hr hw (May.all hn)
    have e4 := m_weekGoes (s := sM) (t := t) hw
    rw [cp2_i, hz] at e4
    have hge := R_week_g (left := 0) hw hp
    rw [hg] at hge
    have k4 : s1 25 p = (R_week 0 n (sM 52)).2 (8 + 6 * p + 4) := (r2.2.2.2.2.2.2 p hp).2.2.2.2.1
    have k7 : s1 7 p = had := by rw [f2 7 (by omega)]; exact h7
    by_cases c : (R_week 0 n (sM 52)).2 (8 + 6 * p + 4) ≤ had
    · have ce : (R_week 0 n (sM 52)).2 (8 + 6 * p + 4) = had := by rw [tI_le] at c; rw [tI_eq]; omega
      obtain ⟨r, sC', sM', d1, d2, d3, d4, d5⟩ := gets_l (t := t) (had := had) hW hp m (j + 1) f (f' + 1) (V + 1) s1 (cp2 sM 52 (R_week 0 n (sM 52)).2) (by omega) (by omega) (by omega) (by omega) (by rw [cp2_s]; exact r2) (by rw [cp2_s]; exact R_week_ok hw) (by rw [cp2_n (by decide)]; exact hz) k7 (by rw [cp2_s]; exact ce)
      refine ⟨r, sC', sM', ?_, f2.tr d2, ?_, fun c hc => by rw [d4 c hc, cp2_n hc], fun k hk => by rw [d5 k hk, cp2_n (by decide)]⟩
      · show b_X5_gets_20 (l_X5_gets_20 f) (nI p) (nI (j + 1)) sC t = _
        simp only [b_X5_gets_20, c0, if_false, e2, bs, rx8 hp8, k4, k7, c, if_true, nI_1]
        exact d1
      · show b_X6_gets_30 (l_X6_gets_30 (f' + 1)) (nI p) had (nI j) sM t = _
        simp only [b_X6_gets_30, c1, if_false, its_4 hp8, bs, hg, if_true, e4, nI_1]
        exact d3
    · have ce : ¬ (R_week 0 n (sM 52)).2 (8 + 6 * p + 4) = had := fun z => c (by rw [z]; exact Int32.le_refl _)
      refine ⟨nI (j + 1), s1, cp2 sM 52 (mv (sM 55) (R_week 0 n (sM 52)).2), ?_, f2, ?_, fun c hc => cp2_n hc, fun k hk => by rw [cp2_s, mv_at hk]⟩
      · show b_X5_gets_20 (l_X5_gets_20 f) (nI p) (nI (j + 1)) sC t = _
        simp only [b_X5_gets_20, c0, if_false, e2, bs, rx8 hp8, k4, k7, c]
      · show b_X6_gets_30 (l_X6_gets_30 (f' + 1)) (nI p) had (nI j) sM t = _
        simp only [b_X6_gets_30, c1, if_false, its_4 hp8, bs, hg, if_true, e4, nI_1]
        show b_X6_gets_30 (l_X6_gets_30 f') (nI p) had (nI (j + 1)) (cp2 sM 52 (R_week 0 n (sM 52)).2) t = _
        have c3 : nI (j + 1) ≤ 60 := nI_le (b := 60) (by omega) (by decide)
        simp only [b_X6_gets_30, j_X6_gets_57, c0, if_false, its_4 hp8, bs, cp2_s, ce, m_moveAll (show 55 ≠ 52 by decide), cp2_2, cp2_n (show 55 ≠ 52 by decide), c3, if_true]
theorem s_gets {s : SS} {t : TT} {W : Nat} (hW : W < 2 ^ 29) (x : Int32) (h : Rel s t W) : Sim (f_X5_gets x) (f_X6_gets x) s t W := by
  obtain ⟨⟨n, hw, hr⟩, -, -, -, -, -, -, h0⟩ := id h
  have h8 : s 1 8 = nI n := hr.1
  have h6 := hw.2.1
  cases hb : wi x 0 (nI n - 1) with
  | false => exact Sim.of h (-1) (by simp only [f_X5_gets, c_has, h8, bs, b2_z, hb, if_true]) (by simp only [f_X6_gets, m_isOne, h6, bs, b2_z, hb, if_true])
  | true =>
  obtain ⟨p, hp, rfl⟩ := wi_one hw.1 hb
  have hp8 : p < 8 := by have := hw.1; omega
  refine Sim.pair h (fun sM hf => ?_)
  obtain ⟨sM1, e1, m1, q51, q52, q55⟩ := m_start (sM := sM) (t := t)
  have hl := LK.start hw hr hf q52 q55
  have hz : sM1 51 5 = 0 := by rw [q51, hf 51 (by omega) (by omega)]; exact h0
  obtain ⟨s1, e2, f2, r2⟩ := c_trial (t := t) hl.1
  have k7 : s1 7 p = sM1 52 (8 + 6 * p + 4) := by rw [f2 7 (by omega)]; exact (hl.1.2.2.2.2.2.2 p hp).2.2.2.2.1
  obtain ⟨r, s3, sM3, e3, f3, e4, m4, q4⟩ := gets_l (t := t) (had := sM1 52 (8 + 6 * p + 4)) hW hp 60 0 300 300 W s1 sM1 (by omega) (by omega) (by omega) (by omega) r2 hl.2.1 hz k7 rfl
  have m5 : MF sM1 sM3 := ⟨fun c _ c2 _ _ _ => m4 c c2, fun i _ => by rw [m4 51 (by decide)], fun k hk => by rw [q4 k hk, q55 k hk]⟩
  refine ⟨r, s3, sM3, ?_, (f2.tr f3).fc, ?_, m1.tr m5, by rw [m4 51 (by decide)]; exact hz⟩
  · simp only [f_X5_gets, c_has, h8, bs, b2_z, hb, Bool.true_eq_false, if_false, e2]
    exact e3
  · have h6' : sM 52 6 = nI n := by rw [hf 52 (by omega) (by omega)]; exact h6
    simp only [f_X6_gets, m_isOne, h6', bs, b2_z, hb, Bool.true_eq_false, if_false, e1, its_4 hp8]
    exact e4
theorem sum_cnt {w : RR} {n W : Nat} (h : OKw w n W) : ∀ m : Nat, m ≤ n → ∃ a b : Nat, R_sum w 3 m = nI a ∧ R_cnt w 3 m = nI b ∧ a ≤ 99 * m ∧ b ≤ m ∧ (a = 0 ↔ b = 0)
  | 0, _ => ⟨0, 0, rfl, rfl, by omega, by omega, by omega⟩
  | m + 1, hm => by
    obtain ⟨a, b, e1, e2, h1, h2, h3⟩ := sum_cnt h m (by omega)
    have hb : bd 99 (gw w m 3) := h.at (by omega) 3 (by omega)
    obtain ⟨k, hk, ek⟩ := hb
    have ek' : w (8 + 6 * m + 3) = nI k := ek
    by_cases c : k = 0
    · subst c
      exact ⟨a, b, by rw [R_sum, ek', e1, nI_add]; rfl, by rw [R_cnt, ek', if_pos (show nI 0 ≤ 0 by decide), e2], by omega, by omega, h3⟩
    · exact ⟨a + k, b + 1, by rw [R_sum, ek', e1, nI_add], by rw [R_cnt, ek', if_neg (nI_nle (by omega) (by omega)), e2, nI_1], by omega, by omega, by omega⟩
theorem idle_l {t : TT} {n W : Nat} (hW : W < 2 ^ 29) : ∀ (m j f f' V : Nat) (sC sM : SS), j + m = 61 → m < f → m < f' → V = W + j → RW sC 19 (sM 52) n → OKw (sM 52) n V → sM 51 5 = 0 → ∃ (r : Int32) (sC' sM' : SS), l_X5_idle_7 f (nI j, sC, t) = some (r, sC', t) ∧ Fr 19 sC sC' ∧ l_X6_idle_13 f' (nI j, sM, t) = some (r, sM', t) ∧ (∀ c : Nat, c ≠ 52 → sM' c = sM c) ∧ ∀ k : Nat, k < 56 → sM' 52 k = sM 55 k
  | 0, j, f + 1, f' + 1, V, sC, sM, hj, _, _, hV, hr, hw, hz => by
    have e : j = 61 := by omega
    subst e
    refine ⟨-3, sC, cp2 sM 52 (mv (sM 55) (sM 52)), ?_, Fr.rf, ?_, fun c hc => cp2_n hc, fun k hk => by rw [cp2_s, mv_at hk]⟩
    · show b_X5_idle_7 (l_X5_idle_7 f) (nI 61) sC t = _
      simp only [b_X5_idle_7, show (60 : Int32) < nI 61 by decide, if_true]
    · show b_X6_idle_13 (l_X6_idle_13 f') (nI 61) sM t = _
      simp only [b_X6_idle_13, j_X6_idle_38, show (60 : Int32) < nI 61 by decide, if_true, m_moveAll (show 55 ≠ 52 by decide), bs, show ¬ nI 61 ≤ 60 by decide, if_false]
  | m + 1, j, f + 1, f' + 1, V, sC, sM, hj, hf, hf', hV, hr, hw, hz => by
    have hn := hw.1
    have c1 : ¬ (60 : Int32) < nI j := nI_nlt (b := j) (a := 60) (by omega) (by decide)
    obtain ⟨a, b, e1, e2, h1, h2, h3⟩ := sum_cnt hw n (Nat.le_refl n)
    have ec : f_X1_countOf 19 24 sC t = some (nI b, sC, t) := by
      rw [← e2]
      exact c_countOf (o := 19) (r := 24) (j := 3) hn hr.1 (fun p hp => (hr.2.2.2.2.2.2 p hp).2.2.2.1)
    have em : f_X6_sumOf 3 sM t = some (nI a, sM, t) := by
      rw [← e1]
      exact m_sumOf 3 (by omega) hn hw.2.1
    by_cases c : a = 0
    · have cb : b = 0 := h3.mp c
      subst c cb
      refine ⟨nI j, sC, cp2 sM 52 (mv (sM 55) (sM 52)), ?_, Fr.rf, ?_, fun c hc => cp2_n hc, fun k hk => by rw [cp2_s, mv_at hk]⟩
      · show b_X5_idle_7 (l_X5_idle_7 f) (nI j) sC t = _
        simp only [b_X5_idle_7, c1, if_false, ec, bs, show nI 0 = 0 from rfl, if_true]
      · show b_X6_idle_13 (l_X6_idle_13 f') (nI j) sM t = _
        have c3 : nI j ≤ 60 := nI_le (b := 60) (by omega) (by decide)
        simp only [b_X6_idle_13, j_X6_idle_38, c1, if_false, em, bs, show nI 0 ≤ 0 by decide, if_true, m_moveAll (show 55 ≠ 52 by decide), c3]
    · have cb : ¬ b = 0 := fun z => c (h3.mpr z)
      have n1 : ¬ nI b = 0 := nI_ne0 (by omega) (by omega)
      have n2 : ¬ nI a ≤ 0 := nI_nle (by omega) (by omega)
      obtain ⟨s1, e3, f2, r2⟩ := c_passWeek (t := t) (may := 255) (left := 0) (show V < 2 ^ 31 by omega) hr hw (May.all hn)
      have e4 := m_weekGoes (s := sM) (t := t) hw
      rw [cp2_i, hz] at e4
      obtain ⟨r, sC', sM', d1, d2, d3, d4, d5⟩ := idle_l (t := t) hW m (j + 1) f f' (V + 1) s1 (cp2 sM 52 (R_week 0 n (sM 52)).2) (by omega) (by omega) (by omega) (by omega) (by rw [cp2_s]; exact r2) (by rw [cp2_s]; exact R_week_ok hw) (by rw [cp2_n (by decide)]; exact hz)
      refine ⟨r, sC', sM', ?_, f2.tr d2, ?_, fun c hc => by rw [d4 c hc, cp2_n hc], fun k hk => by rw [d5 k hk, cp2_n (by decide)]⟩
      · show b_X5_idle_7 (l_X5_idle_7 f) (nI j) sC t = _
        simp only [b_X5_idle_7, c1, if_false, ec, bs, n1, e3, nI_1]
        exact d1
      · show b_X6_idle_13 (l_X6_idle_13 f') (nI j) sM t = _
        simp only [b_X6_idle_13, c1, if_false, em, bs, n2, e4, nI_1]
        exact d3
theorem s_idle {s : SS} {t : TT} {W : Nat} (hW : W < 2 ^ 29) (h : Rel s t W) : Sim f_X5_idle f_X6_idle s t W := by
  obtain ⟨⟨n, hw, hr⟩, -, -, -, -, -, -, h0⟩ := id h
  refine Sim.pair h (fun sM hf => ?_)
  obtain ⟨sM1, e1, m1, q51, q52, q55⟩ := m_start (sM := sM) (t := t)
  have hl := LK.start hw hr hf q52 q55
  have hz : sM1 51 5 = 0 := by rw [q51, hf 51 (by omega) (by omega)]; exact h0
  obtain ⟨s1, e2, f2, r2⟩ := c_trial (t := t) hl.1
  obtain ⟨r, s3, sM3, e3, f3, e4, m4, q4⟩ := idle_l (t := t) hW 61 0 300 300 W s1 sM1 (by omega) (by omega) (by omega) (by omega) r2 hl.2.1 hz
  have m5 : MF sM1 sM3 := ⟨fun c _ c2 _ _ _ => m4 c c2, fun i _ => by rw [m4 51 (by decide)], fun k hk => by rw [q4 k hk, q55 k hk]⟩
  refine ⟨r, s3, sM3, ?_, (f2.tr f3).fc, ?_, m1.tr m5, by rw [m4 51 (by decide)]; exact hz⟩
  · simp only [f_X5_idle, e2, bs]
    exact e3
  · simp only [f_X6_idle, e1, bs]
    exact e4
