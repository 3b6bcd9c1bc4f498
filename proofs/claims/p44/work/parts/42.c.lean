/-! weeks, week, seed, state, rows, trace, many, keep, again -/
theorem c_weeks_l {t : TT} {n W k : Nat} {w : RR} (hk : k < 1000) (hW : W < 2 ^ 30) (hw : OKw w n W) : ∀ (m j f : Nat) (s : SS), j + m = k → m < f → RW s 1 (R_wl 0 n w j).2 n → ∃ s' : SS, l_X5_weeks_14 f (nI k, nI j, s, t) = some (R_sum (R_wl 0 n w k).2 3 n, s', t) ∧ Fr 1 s s' ∧ RW s' 1 (R_wl 0 n w k).2 n
  | 0, j, f + 1, s, hj, _, h => by
    have e : j = k := by omega
    subst e
    refine ⟨s, ?_, Fr.rf, h⟩
    have hs := c_sumOf (t := t) (o := 1) (r := 6) (j := 3) hw.1 h.1 (fun p hp => (h.2.2.2.2.2.2 p hp).2.2.2.1)
    show b_X5_weeks_14 (l_X5_weeks_14 f) (nI j) (nI j) s t = _
    simp only [b_X5_weeks_14, nI_le (Nat.le_refl j) (show j < 2 ^ 31 by omega), if_true, hs, bs]
  | m + 1, j, f + 1, s, hj, hf, h => by
    obtain ⟨s1, e1, f1, r1⟩ := c_passWeek (t := t) (by omega) h (R_wl_ok (left := 0) hw j) (May.all hw.1)
    obtain ⟨s', e, f2, r2⟩ := c_weeks_l (t := t) hk hW hw m (j + 1) f s1 (by omega) (by omega) r1
    refine ⟨s', ?_, f1.tr f2, r2⟩
    show b_X5_weeks_14 (l_X5_weeks_14 f) (nI k) (nI j) s t = _
    simp only [b_X5_weeks_14, nI_ge (show j < k by omega) (show k < 2 ^ 31 by omega), if_false, e1, bs, nI_1]
    exact e
theorem m_weeks_l {s : SS} {t : TT} {n W k : Nat} {w : RR} (hk : k < 1000) (hl : s 51 5 = 0) (hw : OKw w n W) : ∀ (m j f : Nat), j + m = k → m < f → l_X6_weeks_14 f (nI k, nI j, cp2 s 52 (R_wl 0 n w j).2, t) = some (R_sum (R_wl 0 n w k).2 3 n, cp2 s 52 (R_wl 0 n w k).2, t)
  | 0, j, f + 1, hj, _ => by
    have e : j = k := by omega
    subst e
    have hs := m_sumOf (s := cp2 s 52 (R_wl 0 n w j).2) (t := t) 3 (by omega) hw.1 (by rw [cp2_s]; exact (R_wl_ok (left := 0) hw j).2.1)
    rw [cp2_s] at hs
    have hs : f_X6_sumOf 3 (cp2 s 52 (R_wl 0 n w j).2) t = some (R_sum (R_wl 0 n w j).2 3 n, cp2 s 52 (R_wl 0 n w j).2, t) := hs
    show b_X6_weeks_14 (l_X6_weeks_14 f) (nI j) (nI j) (cp2 s 52 (R_wl 0 n w j).2) t = _
    simp only [b_X6_weeks_14, nI_le (Nat.le_refl j) (show j < 2 ^ 31 by omega), if_true, hs, bs]
  | m + 1, j, f + 1, hj, hf => by
    have ih := m_weeks_l (s := s) (t := t) hk hl hw m (j + 1) f (by omega) (by omega)
    show b_X6_weeks_14 (l_X6_weeks_14 f) (nI k) (nI j) (cp2 s 52 (R_wl 0 n w j).2) t = _
    simp only [b_X6_weeks_14, nI_ge (show j < k by omega) (show k < 2 ^ 31 by omega), if_false, m_weekGoes (R_wl_ok (left := 0) hw j), bs, hl, nI_1]
    exact ih
theorem wi_fr1 {x : Int32} {n : Nat} (hn : n < 2 ^ 31) (h : wi x 1 (nI n) = true) : ∃ p : Nat, 1 ≤ p ∧ p ≤ n ∧ x = nI p := by
  simp only [wi, Bool.and_eq_true, decide_eq_true_eq] at h
  have h1 := tI_le.mp h.1
  have h2 := tI_le.mp h.2
  rw [nI_toInt hn] at h2
  rw [show (1 : Int32).toInt = 1 from rfl] at h1
  refine ⟨x.toInt.toNat, by omega, by omega, ?_⟩
  rw [tI_eq, nI_toInt (by omega)]
  omega
theorem s_weeks {s : SS} {t : TT} {W : Nat} (hW : W < 2 ^ 30) (x : Int32) (h : Rel s t W) : Sim (f_X5_weeks x) (f_X6_weeks x) s t W := by
  obtain ⟨⟨n, hw, hr⟩, -, -, -, -, -, -, hl⟩ := id h
  cases hb : wi x 1 60 with
  | false => exact Sim.of h (-1) (by simp only [f_X5_weeks, c_isWithin, bs, b2_z, hb, if_true]) (by simp only [f_X6_weeks, m_in, bs, b2_z, hb, if_true])
  | true =>
    obtain ⟨k, hk1, hk, rfl⟩ := wi_fr1 (n := 60) (by decide) hb
    obtain ⟨s1, e1, f1, r1⟩ := c_weeks_l (t := t) (k := k) (by omega) hW hw k 0 300 s (by omega) (by omega) hr
    have h52 : s1 52 = s 52 := f1 52 (by omega)
    have h51 : s1 51 = s 51 := f1 51 (by omega)
    have e2 := m_weeks_l (s := s1) (t := t) (k := k) (by omega) (by rw [h51]; exact hl) hw k 0 300 (by omega) (by omega)
    have e3 : cp2 s1 52 (R_wl 0 n (s 52) 0).2 = s1 := by show cp2 s1 52 (s 52) = s1; rw [← h52, cp2_i]
    rw [e3] at e2
    refine Sim.wr (w := (R_wl 0 n (s 52) k).2) (W' := W + k) h (R_sum (R_wl 0 n (s 52) k).2 3 n) (s1 := s1) ?_ f1 ?_ (R_wl_ok hw k) r1 (by omega) (by omega)
    · simp only [f_X5_weeks, c_isWithin, bs, b2_z, hb, Bool.true_eq_false, if_false]; exact e1
    · simp only [f_X6_weeks, m_in, bs, b2_z, hb, Bool.true_eq_false, if_false]; exact e2
theorem s_week {s : SS} {t : TT} {W : Nat} (hW : W < 2 ^ 30) (h : Rel s t W) : Sim f_X5_week f_X6_week s t W := by
  obtain ⟨⟨n, hw, hr⟩, -, -, -, -, -, -, hl⟩ := id h
  obtain ⟨s1, e1, f1, r1⟩ := c_passWeekByDraws (t := t) (show W < 2 ^ 31 by omega) hr hw
  have h52 : s1 52 = s 52 := f1 52 (by omega)
  have h51 : s1 51 = s 51 := f1 51 (by omega)
  have e2 := m_weekByDraws (s := s1) (t := t) hw (by rw [h51]; exact hl)
  rw [← h52, cp2_i, h52] at e2
  refine Sim.wr (w := (R_draws n (s 52)).2) (W' := W + 1) h (R_draws n (s 52)).1 (s1 := s1) ?_ f1 ?_ (R_week_ok (R_cut_ok hw)) r1 (by omega) (by omega)
  · simp only [f_X5_week, e1, bs]
  · simp only [f_X6_week, e2, bs]
theorem s_seed {s : SS} {t : TT} {W : Nat} (x : Int32) (h : Rel s t W) : Sim (f_X5_seed x) (f_X6_seed x) s t W := by
  obtain ⟨⟨n, hw, hr⟩, -⟩ := id h
  have e : s 1 11 = s 52 7 := hr.2.2.2.2.2.1
  have e7 := fun s' : SS => m_becomes (k := 7) (v := x) (s := s') (t := t) (by omega)
  refine Sim.wr (w := uw (s 52) 7 x) (W' := W) h (s 52 7) (s1 := up2 s 1 11 x) ?_ (Fr.rf.up ⟨by omega, by omega⟩) ?_ hw.z hr.z (Nat.le_refl _) (by omega)
  · simp only [f_X5_seed, wr_e, e]
  · have e8 := e7 (up2 s 1 11 x)
    rw [up2_o (show 52 ≠ 1 by decide)] at e8
    have e9 : f_X6_becomes 7 x (up2 s 1 11 x) t = _ := e8
    simp only [f_X6_seed, e9, bs]
theorem s_state {s : SS} {t : TT} {W : Nat} (x : Int32) (h : Rel s t W) : Sim (f_X5_state x) (f_X6_state x) s t W := by
  obtain ⟨⟨n, hw, hr⟩, -⟩ := id h
  have h6 := hw.2.1
  by_cases e0 : x = 0
  · exact Sim.of h (s 52 4) (by simp only [f_X5_state, e0, if_true]; exact congrArg (fun z => some (z, s, t)) hr.2.2.2.1) (by simp only [f_X6_state, e0, if_true, rx56_4, bs])
  · by_cases e1 : x = 1
    · exact Sim.of h (s 52 5) (by simp only [f_X5_state, e0, if_false, e1, if_true, show ¬ (1 : Int32) = 0 by decide]; exact congrArg (fun z => some (z, s, t)) hr.2.2.2.2.1) (by simp only [f_X6_state, e0, e1, if_false, if_true, rx56_5, bs, show ¬ (1 : Int32) = 0 by decide])
    · by_cases e2 : x = 2
      · have c := c_sumOf (t := t) (o := 1) (r := 8) (j := 5) hw.1 hr.1 (fun p hp => (hr.2.2.2.2.2.2 p hp).2.2.2.2.2)
        have m : f_X6_sumOf 5 s t = some (R_sum (s 52) 5 n, s, t) := m_sumOf 5 (by omega) hw.1 h6
        exact Sim.of h (R_sum (s 52) 5 n) (by simp only [f_X5_state, e2, if_false, if_true, c, bs, show ¬ (2 : Int32) = 0 by decide, show ¬ (2 : Int32) = 1 by decide]) (by simp only [f_X6_state, e2, if_false, if_true, m, bs, show ¬ (2 : Int32) = 0 by decide, show ¬ (2 : Int32) = 1 by decide])
      · by_cases e3 : x = 3
        · have c := c_sumOf (t := t) (o := 1) (r := 6) (j := 3) hw.1 hr.1 (fun p hp => (hr.2.2.2.2.2.2 p hp).2.2.2.1)
          have m : f_X6_sumOf 3 s t = some (R_sum (s 52) 3 n, s, t) := m_sumOf 3 (by omega) hw.1 h6
          exact Sim.of h (R_sum (s 52) 3 n) (by simp only [f_X5_state, e3, if_false, if_true, c, bs, show ¬ (3 : Int32) = 0 by decide, show ¬ (3 : Int32) = 1 by decide, show ¬ (3 : Int32) = 2 by decide]) (by simp only [f_X6_state, e3, if_false, if_true, m, bs, show ¬ (3 : Int32) = 0 by decide, show ¬ (3 : Int32) = 1 by decide, show ¬ (3 : Int32) = 2 by decide])
        · by_cases e4 : x = 4
          · have c := c_sumOf (t := t) (o := 1) (r := 4) (j := 1) hw.1 hr.1 (fun p hp => (hr.2.2.2.2.2.2 p hp).2.1)
            have m : f_X6_sumOf 1 s t = some (R_sum (s 52) 1 n, s, t) := m_sumOf 1 (by omega) hw.1 h6
            exact Sim.of h (R_sum (s 52) 1 n) (by simp only [f_X5_state, e4, if_false, if_true, c, bs, show ¬ (4 : Int32) = 0 by decide, show ¬ (4 : Int32) = 1 by decide, show ¬ (4 : Int32) = 2 by decide, show ¬ (4 : Int32) = 3 by decide]) (by simp only [f_X6_state, e4, if_false, if_true, m, bs, show ¬ (4 : Int32) = 0 by decide, show ¬ (4 : Int32) = 1 by decide, show ¬ (4 : Int32) = 2 by decide, show ¬ (4 : Int32) = 3 by decide])
          · by_cases e5 : x = 5
            · have c := c_readySet (t := t) hr hw
              have m := m_readySet (t := t) hw.1 h6
              exact Sim.of h (R_rs (s 52) n) (by simp only [f_X5_state, e5, if_false, if_true, c, bs, show ¬ (5 : Int32) = 0 by decide, show ¬ (5 : Int32) = 1 by decide, show ¬ (5 : Int32) = 2 by decide, show ¬ (5 : Int32) = 3 by decide, show ¬ (5 : Int32) = 4 by decide]) (by simp only [f_X6_state, e5, if_false, if_true, m, bs, show ¬ (5 : Int32) = 0 by decide, show ¬ (5 : Int32) = 1 by decide, show ¬ (5 : Int32) = 2 by decide, show ¬ (5 : Int32) = 3 by decide, show ¬ (5 : Int32) = 4 by decide])
            · exact Sim.of h (-1) (by simp only [f_X5_state, e0, e1, e2, e3, e4, e5, if_false]) (by simp only [f_X6_state, e0, e1, e2, e3, e4, e5, if_false])
theorem wi_sub {x : Int32} {n : Nat} (hn : n < 2 ^ 31) (h : wi x 0 (nI n - 1) = true) : ∃ p : Nat, p < n ∧ x = nI p := by
  simp only [wi, Bool.and_eq_true, decide_eq_true_eq] at h
  obtain ⟨h1, h2⟩ := h
  obtain ⟨p, hp, rfl⟩ := nI_of (Int32.not_lt.mpr h1)
  refine ⟨p, ?_, rfl⟩
  match n, hn with
  | 0, _ =>
    rw [tI_le, nI_toInt hp, show ((nI 0 : Int32) - 1).toInt = -1 from by decide +kernel] at h2
    omega
  | m + 1, hm =>
    rw [nI_pred, nI_leI hp (by omega)] at h2
    omega
theorem row_c : ∀ i : Nat, i < 10 → ∀ j : Nat, j < 3 → rx 30 (nI i * (3 : Int32) + nI j) = some (3 * i + j) := by decide +kernel
theorem row_m : ∀ i : Nat, i < 10 → ∀ j : Nat, j < 3 → rx 30 ((3 : Int32) * nI i + nI j) = some (3 * i + j) := by decide +kernel
theorem s_row {s : SS} {t : TT} {W : Nat} (x y : Int32) (h : Rel s t W) : Sim (f_X5_row x y) (f_X6_row x y) s t W := by
  obtain ⟨-, -, -, ⟨r, hr10, h9, h17, hrow⟩, -⟩ := id h
  cases hb : wi x 0 (nI r - 1) && wi y 0 2 with
  | false => exact Sim.of h (-9) (by simp only [f_X5_row, c_isInRow, h9, bs, b2_z, hb, if_true]) (by simp only [f_X6_row, m_isRow, h17, bs, b2_z, hb, if_true])
  | true =>
    have hb2 := hb
    rw [Bool.and_eq_true] at hb2
    obtain ⟨i, hi, rfl⟩ := wi_sub (by omega) hb2.1
    obtain ⟨j, hj, rfl⟩ := wi_two (n := 2) (by decide) hb2.2
    exact Sim.of h (s 58 (3 * i + j)) (by simp only [f_X5_row, c_isInRow, h9, bs, b2_z, hb, Bool.true_eq_false, if_false, row_c i (by omega) j (by omega), hrow (3 * i + j) (by omega)]) (by simp only [f_X6_row, m_isRow, h17, bs, b2_z, hb, Bool.true_eq_false, if_false, row_m i (by omega) j (by omega)])
theorem s_alterRow {s : SS} {t : TT} {W : Nat} (x y v : Int32) (h : Rel s t W) : Sim (f_X5_alterRow x y v) (f_X6_alterRow x y v) s t W := by
  obtain ⟨h1, h2, h3, ⟨r, hr10, h9, h17, hrow⟩, h5, h6, h7, h8⟩ := id h
  cases hb : wi x 0 (nI r - 1) && wi y 0 2 with
  | false => exact Sim.of h (-9) (by simp only [f_X5_alterRow, c_isInRow, h9, bs, b2_z, hb, if_true]) (by simp only [f_X6_alterRow, m_isRow, h17, bs, b2_z, hb, if_true])
  | true =>
    have hb2 := hb
    rw [Bool.and_eq_true] at hb2
    obtain ⟨i, hi, rfl⟩ := wi_sub (by omega) hb2.1
    obtain ⟨j, hj, rfl⟩ := wi_two (n := 2) (by decide) hb2.2
    have o := fun (c : Nat) (h49 : c ≠ 49) (h58 : c ≠ 58) => show up2 (up2 s 49 (3 * i + j) v) 58 (3 * i + j) v c = s c by rw [up2_o h58, up2_o h49]
    refine ⟨s 58 (3 * i + j), up2 s 49 (3 * i + j) v, up2 (up2 s 49 (3 * i + j) v) 58 (3 * i + j) v, t, t, ?_, ?_, ?_⟩
    · simp only [f_X5_alterRow, c_isInRow, h9, bs, b2_z, hb, Bool.true_eq_false, if_false, row_c i (by omega) j (by omega), hrow (3 * i + j) (by omega), wr_e]
    · simp only [f_X6_alterRow, m_isRow, up2_o (show 51 ≠ 49 by decide), up2_o (show 58 ≠ 49 by decide), h17, bs, b2_z, hb, Bool.true_eq_false, if_false, row_m i (by omega) j (by omega), wr_e]
    · refine Rel.more (W := W) ⟨h1.fr (fun c h1 h2 => o c (by omega) (by omega)) (fun k _ => by rw [o 52 (by decide) (by decide)]), h2.fr (by rw [o 0 (by decide) (by decide)]) (by rw [o 51 (by decide) (by decide)]) (fun c h1 h2 => o c (by omega) (by omega)) (o 54 (by decide) (by decide)), h3.fr (by rw [o 28 (by decide) (by decide)]) (by rw [o 51 (by decide) (by decide)]) (o 29 (by decide) (by decide)) (o 56 (by decide) (by decide)), ⟨r, hr10, by rw [o 0 (by decide) (by decide)]; exact h9, by rw [o 51 (by decide) (by decide)]; exact h17, fun k hk => ?_⟩, h5.fr (fun c h1 h2 => o c (by omega) (by omega)) (o 60 (by decide) (by decide)) (o 61 (by decide) (by decide)), h6.fr (fun c h1 h2 => o c (by omega) (by omega)) (o 63 (by decide) (by decide)) (o 64 (by decide) (by decide)) (o 65 (by decide) (by decide)), h7.fr (by rw [o 33 (by decide) (by decide)]) (by rw [o 51 (by decide) (by decide)]) (o 34 (by decide) (by decide)) (o 66 (by decide) (by decide)), by rw [o 51 (by decide) (by decide)]; exact h8⟩ (by omega)
      rw [up2_o (show 49 ≠ 58 by decide), up2_r, up2_r, up2_o (show 58 ≠ 49 by decide)]
      by_cases e : k = 3 * i + j
      · rw [if_pos ⟨rfl, e⟩, if_pos ⟨rfl, e⟩]
      · rw [if_neg (fun z => e z.2), if_neg (fun z => e z.2)]; exact hrow k hk
theorem rx30 {j : Nat} (h : j < 30) : rx 30 (nI j) = some j := rx_n h (by decide)
theorem s_trace {s : SS} {t : TT} {W : Nat} (x : Int32) (h : Rel s t W) : Sim (f_X5_trace x) (f_X6_trace x) s t W := by
  obtain ⟨-, -, -, -, -, -, ⟨b, hb30, h33, h28, htr⟩, -⟩ := id h
  cases hb : wi x 0 (nI b - 1) with
  | false => exact Sim.of h (-3) (by simp only [f_X5_trace, c_isWithin, h33, bs, b2_z, hb, if_true]) (by simp only [f_X6_trace, m_in, h28, bs, b2_z, hb, if_true])
  | true =>
    obtain ⟨i, hi, rfl⟩ := wi_sub (by omega) hb
    exact Sim.of h (s 66 i) (by simp only [f_X5_trace, c_isWithin, h33, bs, b2_z, hb, Bool.true_eq_false, if_false, rx30 (show i < 30 by omega), htr i hi]) (by simp only [f_X6_trace, m_in, h28, bs, b2_z, hb, Bool.true_eq_false, if_false, rx30 (show i < 30 by omega)])
